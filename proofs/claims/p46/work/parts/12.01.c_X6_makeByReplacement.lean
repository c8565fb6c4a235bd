theorem dX6_makeByReplacement_0 : decode cX6_makeByReplacement 0 = .ok (.aload_n 0, 1) := by decide +kernel
theorem dX6_makeByReplacement_1 : decode cX6_makeByReplacement 1 = .ok (.iconst 0, 1) := by decide +kernel
theorem dX6_makeByReplacement_2 : decode cX6_makeByReplacement 2 = .ok (.putfield 18, 3) := by decide +kernel
theorem dX6_makeByReplacement_5 : decode cX6_makeByReplacement 5 = .ok (.iconst 0, 1) := by decide +kernel
theorem dX6_makeByReplacement_6 : decode cX6_makeByReplacement 6 = .ok (.istore 6, 2) := by decide +kernel
theorem dX6_makeByReplacement_48 : decode cX6_makeByReplacement 48 = .ok (.aload_n 0, 1) := by decide +kernel
theorem dX6_makeByReplacement_49 : decode cX6_makeByReplacement 49 = .ok (.iload 6, 2) := by decide +kernel
theorem dX6_makeByReplacement_51 : decode cX6_makeByReplacement 51 = .ok (.putfield 18, 3) := by decide +kernel
theorem dX6_makeByReplacement_54 : decode cX6_makeByReplacement 54 = .ok (.iconst 0, 1) := by decide +kernel
theorem dX6_makeByReplacement_55 : decode cX6_makeByReplacement 55 = .ok (.istore 7, 2) := by decide +kernel
theorem dX6_makeByReplacement_57 : decode cX6_makeByReplacement 57 = .ok (.iconst 0, 1) := by decide +kernel
theorem dX6_makeByReplacement_58 : decode cX6_makeByReplacement 58 = .ok (.istore 8, 2) := by decide +kernel
theorem dX6_makeByReplacement_115 : decode cX6_makeByReplacement 115 = .ok (.return_, 1) := by decide +kernel
theorem dX6_makeByReplacement_211 : decode cX6_makeByReplacement 211 = .ok (.return_, 1) := by decide +kernel
theorem dX6_makeByReplacement_60 : decode cX6_makeByReplacement 60 = .ok (.iload 8, 2) := by decide +kernel
theorem dX6_makeByReplacement_62 : decode cX6_makeByReplacement 62 = .ok (.aload_n 2, 1) := by decide +kernel
theorem dX6_makeByReplacement_63 : decode cX6_makeByReplacement 63 = .ok (.getfield 57, 3) := by decide +kernel
theorem dX6_makeByReplacement_66 : decode cX6_makeByReplacement 66 = .ok (.if_icmp .ge 145, 3) := by decide +kernel
theorem dX6_makeByReplacement_69 : decode cX6_makeByReplacement 69 = .ok (.aload_n 0, 1) := by decide +kernel
theorem dX6_makeByReplacement_70 : decode cX6_makeByReplacement 70 = .ok (.iload 7, 2) := by decide +kernel
theorem dX6_makeByReplacement_72 : decode cX6_makeByReplacement 72 = .ok (.invokevirtual 85, 3) := by decide +kernel
theorem dX6_makeByReplacement_75 : decode cX6_makeByReplacement 75 = .ok (.istore 9, 2) := by decide +kernel
theorem dX6_makeByReplacement_77 : decode cX6_makeByReplacement 77 = .ok (.iload 9, 2) := by decide +kernel
theorem dX6_makeByReplacement_79 : decode cX6_makeByReplacement 79 = .ok (.iconst (-1), 1) := by decide +kernel
theorem dX6_makeByReplacement_94 : decode cX6_makeByReplacement 94 = .ok (.iload 9, 2) := by decide +kernel
theorem dX6_makeByReplacement_96 : decode cX6_makeByReplacement 96 = .ok (.ifCond .lt 19, 3) := by decide +kernel
theorem dX6_makeByReplacement_99 : decode cX6_makeByReplacement 99 = .ok (.iload 9, 2) := by decide +kernel
theorem dX6_makeByReplacement_101 : decode cX6_makeByReplacement 101 = .ok (.aload_n 0, 1) := by decide +kernel
theorem dX6_makeByReplacement_102 : decode cX6_makeByReplacement 102 = .ok (.getfield 18, 3) := by decide +kernel
theorem dX6_makeByReplacement_105 : decode cX6_makeByReplacement 105 = .ok (.if_icmp .ge 10, 3) := by decide +kernel
theorem dX6_makeByReplacement_108 : decode cX6_makeByReplacement 108 = .ok (.iload 9, 2) := by decide +kernel
theorem dX6_makeByReplacement_110 : decode cX6_makeByReplacement 110 = .ok (.bipush 50, 2) := by decide +kernel
theorem dX6_makeByReplacement_112 : decode cX6_makeByReplacement 112 = .ok (.if_icmp .lt 4, 3) := by decide +kernel
theorem dX6_makeByReplacement_116 : decode cX6_makeByReplacement 116 = .ok (.aload_n 0, 1) := by decide +kernel
theorem dX6_makeByReplacement_117 : decode cX6_makeByReplacement 117 = .ok (.getfield 9, 3) := by decide +kernel
theorem dX6_makeByReplacement_120 : decode cX6_makeByReplacement 120 = .ok (.iload 9, 2) := by decide +kernel
theorem dX6_makeByReplacement_122 : decode cX6_makeByReplacement 122 = .ok (.iaload, 1) := by decide +kernel
theorem dX6_makeByReplacement_123 : decode cX6_makeByReplacement 123 = .ok (.istore 10, 2) := by decide +kernel
theorem dX6_makeByReplacement_125 : decode cX6_makeByReplacement 125 = .ok (.aload 5, 2) := by decide +kernel
theorem dX6_makeByReplacement_127 : decode cX6_makeByReplacement 127 = .ok (.getfield 88, 3) := by decide +kernel
theorem dX6_makeByReplacement_130 : decode cX6_makeByReplacement 130 = .ok (.iload 7, 2) := by decide +kernel
theorem dX6_makeByReplacement_140 : decode cX6_makeByReplacement 140 = .ok (.aload 5, 2) := by decide +kernel
theorem dX6_makeByReplacement_142 : decode cX6_makeByReplacement 142 = .ok (.iload 10, 2) := by decide +kernel
theorem dX6_makeByReplacement_144 : decode cX6_makeByReplacement 144 = .ok (.invokevirtual 78, 3) := by decide +kernel
theorem dX6_makeByReplacement_147 : decode cX6_makeByReplacement 147 = .ok (.iload 6, 2) := by decide +kernel
theorem dX6_makeByReplacement_149 : decode cX6_makeByReplacement 149 = .ok (.aload_n 2, 1) := by decide +kernel
theorem dX6_makeByReplacement_150 : decode cX6_makeByReplacement 150 = .ok (.getfield 57, 3) := by decide +kernel
theorem dX6_makeByReplacement_153 : decode cX6_makeByReplacement 153 = .ok (.if_icmp .ge 46, 3) := by decide +kernel
theorem dX6_makeByReplacement_199 : decode cX6_makeByReplacement 199 = .ok (.aload_n 0, 1) := by decide +kernel
theorem dX6_makeByReplacement_200 : decode cX6_makeByReplacement 200 = .ok (.iload 9, 2) := by decide +kernel
theorem dX6_makeByReplacement_202 : decode cX6_makeByReplacement 202 = .ok (.invokevirtual 91, 3) := by decide +kernel
theorem dX6_makeByReplacement_205 : decode cX6_makeByReplacement 205 = .ok (.iinc 8 1, 3) := by decide +kernel
theorem dX6_makeByReplacement_208 : decode cX6_makeByReplacement 208 = .ok (.goto (-148), 3) := by decide +kernel
theorem dX6_makeByReplacement_156 : decode cX6_makeByReplacement 156 = .ok (.aload_n 1, 1) := by decide +kernel
theorem dX6_makeByReplacement_157 : decode cX6_makeByReplacement 157 = .ok (.aload_n 2, 1) := by decide +kernel
theorem dX6_makeByReplacement_158 : decode cX6_makeByReplacement 158 = .ok (.iload 6, 2) := by decide +kernel
theorem dX6_makeByReplacement_160 : decode cX6_makeByReplacement 160 = .ok (.invokevirtual 62, 3) := by decide +kernel
theorem dX6_makeByReplacement_163 : decode cX6_makeByReplacement 163 = .ok (.iload_n 3, 1) := by decide +kernel
theorem dX6_makeByReplacement_164 : decode cX6_makeByReplacement 164 = .ok (.invokevirtual 66, 3) := by decide +kernel
theorem dX6_makeByReplacement_167 : decode cX6_makeByReplacement 167 = .ok (.istore 11, 2) := by decide +kernel
theorem dX6_makeByReplacement_169 : decode cX6_makeByReplacement 169 = .ok (.aload_n 0, 1) := by decide +kernel
theorem dX6_makeByReplacement_170 : decode cX6_makeByReplacement 170 = .ok (.iload 9, 2) := by decide +kernel
theorem dX6_makeByReplacement_172 : decode cX6_makeByReplacement 172 = .ok (.iload 11, 2) := by decide +kernel
theorem dX6_makeByReplacement_174 : decode cX6_makeByReplacement 174 = .ok (.iload 11, 2) := by decide +kernel
theorem dX6_makeByReplacement_176 : decode cX6_makeByReplacement 176 = .ok (.iload 10, 2) := by decide +kernel
theorem dX6_makeByReplacement_190 : decode cX6_makeByReplacement 190 = .ok (.invokevirtual 81, 3) := by decide +kernel
theorem dX6_makeByReplacement_193 : decode cX6_makeByReplacement 193 = .ok (.iinc 6 1, 3) := by decide +kernel
theorem dX6_makeByReplacement_196 : decode cX6_makeByReplacement 196 = .ok (.goto 9, 3) := by decide +kernel
theorem dX6_makeByReplacement_178 : decode cX6_makeByReplacement 178 = .ok (.if_icmp .ge 10, 3) := by decide +kernel
theorem dX6_makeByReplacement_188 : decode cX6_makeByReplacement 188 = .ok (.iload 7, 2) := by decide +kernel
theorem dX6_makeByReplacement_181 : decode cX6_makeByReplacement 181 = .ok (.iload 7, 2) := by decide +kernel
theorem dX6_makeByReplacement_183 : decode cX6_makeByReplacement 183 = .ok (.iconst 1, 1) := by decide +kernel
theorem dX6_makeByReplacement_184 : decode cX6_makeByReplacement 184 = .ok (.iadd, 1) := by decide +kernel
theorem dX6_makeByReplacement_185 : decode cX6_makeByReplacement 185 = .ok (.goto 5, 3) := by decide +kernel
theorem dX6_makeByReplacement_132 : decode cX6_makeByReplacement 132 = .ok (.if_icmp .gt 8, 3) := by decide +kernel
theorem dX6_makeByReplacement_135 : decode cX6_makeByReplacement 135 = .ok (.aload 5, 2) := by decide +kernel
theorem dX6_makeByReplacement_137 : decode cX6_makeByReplacement 137 = .ok (.invokevirtual 75, 3) := by decide +kernel
theorem dX6_makeByReplacement_80 : decode cX6_makeByReplacement 80 = .ok (.if_icmp .ne 14, 3) := by decide +kernel
theorem dX6_makeByReplacement_83 : decode cX6_makeByReplacement 83 = .ok (.iinc 7 1, 3) := by decide +kernel
theorem dX6_makeByReplacement_86 : decode cX6_makeByReplacement 86 = .ok (.aload_n 0, 1) := by decide +kernel
theorem dX6_makeByReplacement_87 : decode cX6_makeByReplacement 87 = .ok (.iload 7, 2) := by decide +kernel
theorem dX6_makeByReplacement_89 : decode cX6_makeByReplacement 89 = .ok (.invokevirtual 85, 3) := by decide +kernel
theorem dX6_makeByReplacement_92 : decode cX6_makeByReplacement 92 = .ok (.istore 9, 2) := by decide +kernel
theorem dX6_makeByReplacement_8 : decode cX6_makeByReplacement 8 = .ok (.iload 6, 2) := by decide +kernel
theorem dX6_makeByReplacement_10 : decode cX6_makeByReplacement 10 = .ok (.aload_n 2, 1) := by decide +kernel
theorem dX6_makeByReplacement_11 : decode cX6_makeByReplacement 11 = .ok (.getfield 57, 3) := by decide +kernel
theorem dX6_makeByReplacement_14 : decode cX6_makeByReplacement 14 = .ok (.if_icmp .ge 34, 3) := by decide +kernel
theorem dX6_makeByReplacement_17 : decode cX6_makeByReplacement 17 = .ok (.iload 6, 2) := by decide +kernel
theorem dX6_makeByReplacement_19 : decode cX6_makeByReplacement 19 = .ok (.iload 4, 2) := by decide +kernel
theorem dX6_makeByReplacement_21 : decode cX6_makeByReplacement 21 = .ok (.if_icmp .ge 27, 3) := by decide +kernel
theorem dX6_makeByReplacement_24 : decode cX6_makeByReplacement 24 = .ok (.aload_n 0, 1) := by decide +kernel
theorem dX6_makeByReplacement_25 : decode cX6_makeByReplacement 25 = .ok (.iload 6, 2) := by decide +kernel
theorem dX6_makeByReplacement_27 : decode cX6_makeByReplacement 27 = .ok (.aload_n 1, 1) := by decide +kernel
theorem dX6_makeByReplacement_28 : decode cX6_makeByReplacement 28 = .ok (.aload_n 2, 1) := by decide +kernel
theorem dX6_makeByReplacement_29 : decode cX6_makeByReplacement 29 = .ok (.iload 6, 2) := by decide +kernel
theorem dX6_makeByReplacement_31 : decode cX6_makeByReplacement 31 = .ok (.invokevirtual 62, 3) := by decide +kernel
theorem dX6_makeByReplacement_34 : decode cX6_makeByReplacement 34 = .ok (.iload_n 3, 1) := by decide +kernel
theorem dX6_makeByReplacement_35 : decode cX6_makeByReplacement 35 = .ok (.invokevirtual 66, 3) := by decide +kernel
theorem dX6_makeByReplacement_38 : decode cX6_makeByReplacement 38 = .ok (.iconst 0, 1) := by decide +kernel
theorem dX6_makeByReplacement_39 : decode cX6_makeByReplacement 39 = .ok (.invokevirtual 81, 3) := by decide +kernel
theorem dX6_makeByReplacement_42 : decode cX6_makeByReplacement 42 = .ok (.iinc 6 1, 3) := by decide +kernel
theorem dX6_makeByReplacement_45 : decode cX6_makeByReplacement 45 = .ok (.goto (-37), 3) := by decide +kernel
abbrev Wa_X6_makeByReplacement (g : Nat → ClassId) (tp : Nat → Nat) (hd : Nat → Nat) (a_this : Nat) (a_book : Nat) (a_into : Nat) (a_memory : Nat) (a_runOf : Nat) (held : Int32) (runOf : Nat → Int32) (memory : Nat → Int32) (a_book_allKeys : Nat) (a_book_allMarks : Nat) (book_count : Int32) (book_allKeys : Nat → Int32) (a_into_ranks : Nat) (a_into_starts : Nat) (a_into_lengths : Nat) (into_count : Int32) (into_filled : Int32) (into_starts : Nat → Int32) (into_lengths : Nat → Int32) (into_ranks : Nat → Int32) (F_ : Nat → Nat → Int32) (n_ : Nat → Int32) : va_W := ([(a_this, .inr (8, [.ref a_memory, .ref a_runOf, .int held])), (a_runOf, .inl (g 0, 50, .inl runOf)), (a_memory, .inl (g 0, 50, .inl memory)), (a_book, .inr (2, [.ref a_book_allKeys, .ref a_book_allMarks, .int book_count])), (a_book_allKeys, .inl (g 0, 200, .inl book_allKeys)), (a_into, .inr (9, [.ref a_into_ranks, .ref a_into_starts, .ref a_into_lengths, .int into_count, .int into_filled])), (a_into_starts, .inl (g 0, 200, .inl into_starts)), (a_into_lengths, .inl (g 0, 200, .inl into_lengths)), (a_into_ranks, .inl (g 0, 100, .inl into_ranks))] ++ TPl tp hd (g 0) F_ n_)
abbrev Wb_X6_makeByReplacement (g : Nat → ClassId) (tp : Nat → Nat) (hd : Nat → Nat) (a_this : Nat) (a_book : Nat) (a_into : Nat) (a_memory : Nat) (a_runOf : Nat) (a_book_allKeys : Nat) (a_book_allMarks : Nat) (book_count : Int32) (book_allKeys : Nat → Int32) (a_into_ranks : Nat) (a_into_starts : Nat) (a_into_lengths : Nat) (F_ : Nat → Nat → Int32) (n_ : Nat → Int32) (u : Int32 × (Nat → Int32) × (Nat → Int32) × Int32 × Int32 × (Nat → Int32) × (Nat → Int32) × (Nat → Int32) × Unit) : va_W := ([(a_this, .inr (8, [.ref a_memory, .ref a_runOf, .int u.1])), (a_runOf, .inl (g 0, 50, .inl u.2.1)), (a_memory, .inl (g 0, 50, .inl u.2.2.1)), (a_book, .inr (2, [.ref a_book_allKeys, .ref a_book_allMarks, .int book_count])), (a_book_allKeys, .inl (g 0, 200, .inl book_allKeys)), (a_into, .inr (9, [.ref a_into_ranks, .ref a_into_starts, .ref a_into_lengths, .int u.2.2.2.1, .int u.2.2.2.2.1])), (a_into_starts, .inl (g 0, 200, .inl u.2.2.2.2.2.1)), (a_into_lengths, .inl (g 0, 200, .inl u.2.2.2.2.2.2.1)), (a_into_ranks, .inl (g 0, 100, .inl u.2.2.2.2.2.2.2.1))] ++ TPl tp hd (g 0) F_ n_)
set_option maxHeartbeats 8000000 in
set_option maxRecDepth 100000 in
theorem c_X6_makeByReplacement (l : Launch) (dC : Nat → ClassId) (dI : Nat → Nat → Nat) (g : Nat → ClassId) (tp hd : Nat → Nat) (a_this : Nat) (a_book : Nat) (a_into : Nat) (a_memory : Nat) (a_runOf : Nat) (held : Int32) (runOf : Nat → Int32) (memory : Nat → Int32) (a_book_allKeys : Nat) (a_book_allMarks : Nat) (book_count : Int32) (book_allKeys : Nat → Int32) (a_into_ranks : Nat) (a_into_starts : Nat) (a_into_lengths : Nat) (into_count : Int32) (into_filled : Int32) (into_starts : Nat → Int32) (into_lengths : Nat → Int32) (into_ranks : Nat → Int32) (F_ : Nat → Nat → Int32) (n_ : Nat → Int32) (tape : Nat) (order : Int32) (room : Int32) (hj_tape : tape < 18) (Q : Int32 → (Nat → Int32) → (Nat → Int32) → Int32 → Int32 → (Nat → Int32) → (Nat → Int32) → (Nat → Int32) → Prop) (hw : wp_X6_makeByReplacement runOf memory book_allKeys into_count into_filled into_starts into_lengths into_ranks tape order room F_ n_ Q) (sz : Nat) : Met l yX6_makeByReplacement wqX6_makeByReplacement ({ frames := 1, cells := 0, slots := 0, locals := 23 }) (va_Pc [.ref a_this, .ref a_book, .ref (tp tape), .int order, .int room, .ref a_into] (PG (dC, dI) g (Wa_X6_makeByReplacement g tp hd a_this a_book a_into a_memory a_runOf held runOf memory a_book_allKeys a_book_allMarks book_count book_allKeys a_into_ranks a_into_starts a_into_lengths into_count into_filled into_starts into_lengths into_ranks F_ n_) sz)) (va_Qv (fun (u : Int32 × (Nat → Int32) × (Nat → Int32) × Int32 × Int32 × (Nat → Int32) × (Nat → Int32) × (Nat → Int32) × Unit) => Q u.1 u.2.1 u.2.2.1 u.2.2.2.1 u.2.2.2.2.1 u.2.2.2.2.2.1 u.2.2.2.2.2.2.1 u.2.2.2.2.2.2.2.1) (fun (u : Int32 × (Nat → Int32) × (Nat → Int32) × Int32 × Int32 × (Nat → Int32) × (Nat → Int32) × (Nat → Int32) × Unit) t9 => va_P (dC, dI) vwCl (Wb_X6_makeByReplacement g tp hd a_this a_book a_into a_memory a_runOf a_book_allKeys a_book_allMarks book_count book_allKeys a_into_ranks a_into_starts a_into_lengths F_ n_ u) t9.heap ∧ va_D (va_A (Wa_X6_makeByReplacement g tp hd a_this a_book a_into a_memory a_runOf held runOf memory a_book_allKeys a_book_allMarks book_count book_allKeys a_into_ranks a_into_starts a_into_lengths into_count into_filled into_starts into_lengths into_ranks F_ n_) sz) (Wb_X6_makeByReplacement g tp hd a_this a_book a_into a_memory a_runOf a_book_allKeys a_book_allMarks book_count book_allKeys a_into_ranks a_into_starts a_into_lengths F_ n_ u)) (va_A (Wa_X6_makeByReplacement g tp hd a_this a_book a_into a_memory a_runOf held runOf memory a_book_allKeys a_book_allMarks book_count book_allKeys a_into_ranks a_into_starts a_into_lengths into_count into_filled into_starts into_lengths into_ranks F_ n_) sz)) 0 0 (va_A (Wa_X6_makeByReplacement g tp hd a_this a_book a_into a_memory a_runOf held runOf memory a_book_allKeys a_book_allMarks book_count book_allKeys a_into_ranks a_into_starts a_into_lengths into_count into_filled into_starts into_lengths into_ranks F_ n_) sz) := by
  refine Met.ofW (cc := cX6_makeByReplacement) (maxL := 12) (ret := none) (by decide) rfl ?_
  intro p e s m args below meth c s₁ B hml hv
  obtain ⟨rfl, hsz, hP, hK, hD0, hG⟩ := hv
  have hx := B.exec
  have hb := B.bytes
  have hr := B.returns
  have hts := atoms_spec (ws := wqX6_makeByReplacement) B.pre
  have hown : s.vm.findClass RX6 = some m.cls := findClass_of_methodNamed B.named
  have hlocks := B.notSynchronized
  subst hsz
  have hD := hD0.self (sz := s.heap.size)
  generalize hAe : va_A (Wa_X6_makeByReplacement g tp hd a_this a_book a_into a_memory a_runOf held runOf memory a_book_allKeys a_book_allMarks book_count book_allKeys a_into_ranks a_into_starts a_into_lengths into_count into_filled into_starts into_lengths into_ranks F_ n_) s.heap.size = A at hD hG ⊢
  have hA : ∀ q : Nat, s.heap.size ≤ q → A q := fun q h => by rw [← hAe]; exact Or.inr h
  have hS : va_S A s.heap s.heap [] := va_S.rf
  have hl := lv_entry ([.ref a_this, .ref a_book, .ref (tp tape), .int order, .int room, .ref a_into]) (n := 12) (Nat.le_of_ble_eq_true rfl)
  rw [lg_entry_eq]
  generalize (lg_sl ([.ref a_this, .ref a_book, .ref (tp tape), .int order, .int room, .ref a_into]) ++ List.replicate (12 - (lg_sl ([.ref a_this, .ref a_book, .ref (tp tape), .int order, .int room, .ref a_into])).length) Slot.unset).toArray = ls at hl ⊢
  have hl : lv_has ls 12 [(0, .ref a_this), (1, .ref a_book), (2, .ref (tp tape)), (3, .int order), (4, .int room), (5, .ref a_into)] := hl
  unfold wp_X6_makeByReplacement at hw
  have hf18 := hts (Cond.fieldLink RX6 18 "RunmergeOffice$RunMaker" "held" "I") (aw_l aw_1_126)
  have hiX6 : ∀ w ∈ u_ws RX6 TX6 3, w ∈ wqX6_makeByReplacement := fun w h => aw_l (aw_wsX60 w h)
  have hiX9 : ∀ w ∈ u_ws RX9 TX9 2, w ∈ wqX6_makeByReplacement := fun w h => aw_l (aw_wsX90 w h)
  have hf9 := hts (Cond.fieldLink RX6 9 "RunmergeOffice$RunMaker" "memory" "[I") (aw_l aw_1_124)
  have hiX7 : ∀ w ∈ u_ws RX7 TX7 5, w ∈ wqX6_makeByReplacement := fun w h => aw_l (aw_wsX70 w h)
  refine lv_aload_n hx hb dX6_makeByReplacement_0 rfl (lv_at hl 0 rfl) ?_
  refine lv_iconst (v := 0) hx hb dX6_makeByReplacement_1 (by decide) ?_
  refine va_put (D := (dC, dI)) (ci := 8) (v := .int 0) (ty := .int) (C := RX6) (T := TX6) (N := 3) hx hb hts hiX6 tyX6 tyX6_ok nmX6 hown hK hP hD hS 0 rfl rfl 2 (by decide) hf18 (fun _ h9 => h9) rfl (by decide +kernel) rfl rfl (Nat.le_of_ble_eq_true rfl) dX6_makeByReplacement_2 (fun H_1 L_2 hP hD hS => ?_)
  have hP : va_P (dC, dI) vwCl ([(a_this, .inr (8, [.ref a_memory, .ref a_runOf, .int 0])), (a_runOf, .inl (g 0, 50, .inl runOf)), (a_memory, .inl (g 0, 50, .inl memory)), (a_book, .inr (2, [.ref a_book_allKeys, .ref a_book_allMarks, .int book_count])), (a_book_allKeys, .inl (g 0, 200, .inl book_allKeys)), (a_into, .inr (9, [.ref a_into_ranks, .ref a_into_starts, .ref a_into_lengths, .int into_count, .int into_filled])), (a_into_starts, .inl (g 0, 200, .inl into_starts)), (a_into_lengths, .inl (g 0, 200, .inl into_lengths)), (a_into_ranks, .inl (g 0, 100, .inl into_ranks))] ++ TPl tp hd (g 0) F_ n_) H_1 := hP
  have hD : va_D A ([(a_this, .inr (8, [.ref a_memory, .ref a_runOf, .int 0])), (a_runOf, .inl (g 0, 50, .inl runOf)), (a_memory, .inl (g 0, 50, .inl memory)), (a_book, .inr (2, [.ref a_book_allKeys, .ref a_book_allMarks, .int book_count])), (a_book_allKeys, .inl (g 0, 200, .inl book_allKeys)), (a_into, .inr (9, [.ref a_into_ranks, .ref a_into_starts, .ref a_into_lengths, .int into_count, .int into_filled])), (a_into_starts, .inl (g 0, 200, .inl into_starts)), (a_into_lengths, .inl (g 0, 200, .inl into_lengths)), (a_into_ranks, .inl (g 0, 100, .inl into_ranks))] ++ TPl tp hd (g 0) F_ n_) := hD
  refine lv_iconst (v := 0) hx hb dX6_makeByReplacement_5 (by decide) ?_
  refine lv_istore (lv' := [(6, .int 0), (0, .ref a_this), (1, .ref a_book), (2, .ref (tp tape)), (3, .int order), (4, .int room), (5, .ref a_into)]) hx hb dX6_makeByReplacement_6 hl (by decide) rfl (fun ls hl => ?_)
  refine W_abs (fun QM hQM => ?_)
  have EX8_48 : ∀ (v6_6 : Int32) (runOf_7 : Nat → Int32) (memory_8 : Nat → Int32) (H : Heap) (locs : List Loc), (wx_X6_makeByReplacement_8_48 book_allKeys into_count into_filled into_starts into_lengths into_ranks tape order F_ n_ Q) v6_6 runOf_7 memory_8 → va_P (dC, dI) vwCl ([(a_this, .inr (8, [.ref a_memory, .ref a_runOf, .int 0])), (a_runOf, .inl (g 0, 50, .inl runOf_7)), (a_memory, .inl (g 0, 50, .inl memory_8)), (a_book, .inr (2, [.ref a_book_allKeys, .ref a_book_allMarks, .int book_count])), (a_book_allKeys, .inl (g 0, 200, .inl book_allKeys)), (a_into, .inr (9, [.ref a_into_ranks, .ref a_into_starts, .ref a_into_lengths, .int into_count, .int into_filled])), (a_into_starts, .inl (g 0, 200, .inl into_starts)), (a_into_lengths, .inl (g 0, 200, .inl into_lengths)), (a_into_ranks, .inl (g 0, 100, .inl into_ranks))] ++ TPl tp hd (g 0) F_ n_) H → va_D A ([(a_this, .inr (8, [.ref a_memory, .ref a_runOf, .int 0])), (a_runOf, .inl (g 0, 50, .inl runOf_7)), (a_memory, .inl (g 0, 50, .inl memory_8)), (a_book, .inr (2, [.ref a_book_allKeys, .ref a_book_allMarks, .int book_count])), (a_book_allKeys, .inl (g 0, 200, .inl book_allKeys)), (a_into, .inr (9, [.ref a_into_ranks, .ref a_into_starts, .ref a_into_lengths, .int into_count, .int into_filled])), (a_into_starts, .inl (g 0, 200, .inl into_starts)), (a_into_lengths, .inl (g 0, 200, .inl into_lengths)), (a_into_ranks, .inl (g 0, 100, .inl into_ranks))] ++ TPl tp hd (g 0) F_ n_) → va_S A s.heap H locs → ∀ (ls : Array Slot), lv_has ls 12 [(0, .ref a_this), (1, .ref a_book), (2, .ref (tp tape)), (3, .int order), (5, .ref a_into), (6, .int v6_6)] → W p l e (headSpec wqX6_makeByReplacement ({ frames := 1, cells := 0, slots := 0, locals := 23 })).room s m ([.ref a_this, .ref a_book, .ref (tp tape), .int order, .int room, .ref a_into] : List Value).toArray below meth c H locs 0 0 QM (F0 m 48 ls []) := by
    intro v6_6 runOf_7 memory_8 H locs hw hP hD hS ls hl
    refine lv_aload_n hx hb dX6_makeByReplacement_48 rfl (lv_at hl 0 rfl) ?_
    refine lv_iload hx hb dX6_makeByReplacement_49 (lv_at hl 5 rfl) ?_
    refine va_put (D := (dC, dI)) (ci := 8) (v := .int v6_6) (ty := .int) (C := RX6) (T := TX6) (N := 3) hx hb hts hiX6 tyX6 tyX6_ok nmX6 hown hK hP hD hS 0 rfl rfl 2 (by decide) hf18 (fun _ h9 => h9) rfl (by decide +kernel) rfl rfl (Nat.le_of_ble_eq_true rfl) dX6_makeByReplacement_51 (fun H_9 L_10 hP hD hS => ?_)
    have hP : va_P (dC, dI) vwCl ([(a_this, .inr (8, [.ref a_memory, .ref a_runOf, .int v6_6])), (a_runOf, .inl (g 0, 50, .inl runOf_7)), (a_memory, .inl (g 0, 50, .inl memory_8)), (a_book, .inr (2, [.ref a_book_allKeys, .ref a_book_allMarks, .int book_count])), (a_book_allKeys, .inl (g 0, 200, .inl book_allKeys)), (a_into, .inr (9, [.ref a_into_ranks, .ref a_into_starts, .ref a_into_lengths, .int into_count, .int into_filled])), (a_into_starts, .inl (g 0, 200, .inl into_starts)), (a_into_lengths, .inl (g 0, 200, .inl into_lengths)), (a_into_ranks, .inl (g 0, 100, .inl into_ranks))] ++ TPl tp hd (g 0) F_ n_) H_9 := hP
    have hD : va_D A ([(a_this, .inr (8, [.ref a_memory, .ref a_runOf, .int v6_6])), (a_runOf, .inl (g 0, 50, .inl runOf_7)), (a_memory, .inl (g 0, 50, .inl memory_8)), (a_book, .inr (2, [.ref a_book_allKeys, .ref a_book_allMarks, .int book_count])), (a_book_allKeys, .inl (g 0, 200, .inl book_allKeys)), (a_into, .inr (9, [.ref a_into_ranks, .ref a_into_starts, .ref a_into_lengths, .int into_count, .int into_filled])), (a_into_starts, .inl (g 0, 200, .inl into_starts)), (a_into_lengths, .inl (g 0, 200, .inl into_lengths)), (a_into_ranks, .inl (g 0, 100, .inl into_ranks))] ++ TPl tp hd (g 0) F_ n_) := hD
    refine lv_iconst (v := 0) hx hb dX6_makeByReplacement_54 (by decide) ?_
    refine lv_istore (lv' := [(7, .int 0), (0, .ref a_this), (1, .ref a_book), (2, .ref (tp tape)), (3, .int order), (5, .ref a_into), (6, .int v6_6)]) hx hb dX6_makeByReplacement_55 hl (by decide) rfl (fun ls hl => ?_)
    refine lv_iconst (v := 0) hx hb dX6_makeByReplacement_57 (by decide) ?_
    refine lv_istore (lv' := [(8, .int 0), (7, .int 0), (0, .ref a_this), (1, .ref a_book), (2, .ref (tp tape)), (3, .int order), (5, .ref a_into), (6, .int v6_6)]) hx hb dX6_makeByReplacement_58 hl (by decide) rfl (fun ls hl => ?_)
    have EX60_115 : ∀ (held_22 : Int32) (runOf_23 : Nat → Int32) (memory_24 : Nat → Int32) (into_count_25 : Int32) (into_filled_26 : Int32) (into_starts_27 : Nat → Int32) (into_lengths_28 : Nat → Int32) (into_ranks_29 : Nat → Int32) (H : Heap) (locs : List Loc), (wx_X6_makeByReplacement_60_115 Q) held_22 runOf_23 memory_24 into_count_25 into_filled_26 into_starts_27 into_lengths_28 into_ranks_29 → va_P (dC, dI) vwCl ([(a_this, .inr (8, [.ref a_memory, .ref a_runOf, .int held_22])), (a_runOf, .inl (g 0, 50, .inl runOf_23)), (a_memory, .inl (g 0, 50, .inl memory_24)), (a_book, .inr (2, [.ref a_book_allKeys, .ref a_book_allMarks, .int book_count])), (a_book_allKeys, .inl (g 0, 200, .inl book_allKeys)), (a_into, .inr (9, [.ref a_into_ranks, .ref a_into_starts, .ref a_into_lengths, .int into_count_25, .int into_filled_26])), (a_into_starts, .inl (g 0, 200, .inl into_starts_27)), (a_into_lengths, .inl (g 0, 200, .inl into_lengths_28)), (a_into_ranks, .inl (g 0, 100, .inl into_ranks_29))] ++ TPl tp hd (g 0) F_ n_) H → va_D A ([(a_this, .inr (8, [.ref a_memory, .ref a_runOf, .int held_22])), (a_runOf, .inl (g 0, 50, .inl runOf_23)), (a_memory, .inl (g 0, 50, .inl memory_24)), (a_book, .inr (2, [.ref a_book_allKeys, .ref a_book_allMarks, .int book_count])), (a_book_allKeys, .inl (g 0, 200, .inl book_allKeys)), (a_into, .inr (9, [.ref a_into_ranks, .ref a_into_starts, .ref a_into_lengths, .int into_count_25, .int into_filled_26])), (a_into_starts, .inl (g 0, 200, .inl into_starts_27)), (a_into_lengths, .inl (g 0, 200, .inl into_lengths_28)), (a_into_ranks, .inl (g 0, 100, .inl into_ranks_29))] ++ TPl tp hd (g 0) F_ n_) → va_S A s.heap H locs → ∀ (ls : Array Slot), lv_has ls 12 [] → W p l e (headSpec wqX6_makeByReplacement ({ frames := 1, cells := 0, slots := 0, locals := 23 })).room s m ([.ref a_this, .ref a_book, .ref (tp tape), .int order, .int room, .ref a_into] : List Value).toArray below meth c H locs 0 0 QM (F0 m 115 ls []) := by
      intro held_22 runOf_23 memory_24 into_count_25 into_filled_26 into_starts_27 into_lengths_28 into_ranks_29 H locs hw hP hD hS ls hl
      subst hQM
      have hP9 := va_P.part (cx := [(a_this, .inr (8, [.ref a_memory, .ref a_runOf, .int held_22])), (a_runOf, .inl (g 0, 50, .inl runOf_23)), (a_memory, .inl (g 0, 50, .inl memory_24)), (a_book, .inr (2, [.ref a_book_allKeys, .ref a_book_allMarks, .int book_count])), (a_book_allKeys, .inl (g 0, 200, .inl book_allKeys)), (a_into, .inr (9, [.ref a_into_ranks, .ref a_into_starts, .ref a_into_lengths, .int into_count_25, .int into_filled_26])), (a_into_starts, .inl (g 0, 200, .inl into_starts_27)), (a_into_lengths, .inl (g 0, 200, .inl into_lengths_28)), (a_into_ranks, .inl (g 0, 100, .inl into_ranks_29))]) hP [0, 1, 2, 3, 4, 5, 6, 7, 8] rfl
      have hD9 := va_D.part (cx := [(a_this, .inr (8, [.ref a_memory, .ref a_runOf, .int held_22])), (a_runOf, .inl (g 0, 50, .inl runOf_23)), (a_memory, .inl (g 0, 50, .inl memory_24)), (a_book, .inr (2, [.ref a_book_allKeys, .ref a_book_allMarks, .int book_count])), (a_book_allKeys, .inl (g 0, 200, .inl book_allKeys)), (a_into, .inr (9, [.ref a_into_ranks, .ref a_into_starts, .ref a_into_lengths, .int into_count_25, .int into_filled_26])), (a_into_starts, .inl (g 0, 200, .inl into_starts_27)), (a_into_lengths, .inl (g 0, 200, .inl into_lengths_28)), (a_into_ranks, .inl (g 0, 100, .inl into_ranks_29))]) hD [0, 1, 2, 3, 4, 5, 6, 7, 8] (by decide) rfl
      exact W.vret hx hb hr (fun t ht hW => ⟨⟨(held_22, runOf_23, memory_24, into_count_25, into_filled_26, into_starts_27, into_lengths_28, into_ranks_29, ()), rfl, hw, ⟨P_at ht hP9, hD9⟩⟩, hS.F ht⟩) hS.2.2 dX6_makeByReplacement_115
    have EX60_211 : ∀ (held_30 : Int32) (runOf_31 : Nat → Int32) (memory_32 : Nat → Int32) (into_count_33 : Int32) (into_filled_34 : Int32) (into_starts_35 : Nat → Int32) (into_lengths_36 : Nat → Int32) (into_ranks_37 : Nat → Int32) (H : Heap) (locs : List Loc), (wx_X6_makeByReplacement_60_211 Q) held_30 runOf_31 memory_32 into_count_33 into_filled_34 into_starts_35 into_lengths_36 into_ranks_37 → va_P (dC, dI) vwCl ([(a_this, .inr (8, [.ref a_memory, .ref a_runOf, .int held_30])), (a_runOf, .inl (g 0, 50, .inl runOf_31)), (a_memory, .inl (g 0, 50, .inl memory_32)), (a_book, .inr (2, [.ref a_book_allKeys, .ref a_book_allMarks, .int book_count])), (a_book_allKeys, .inl (g 0, 200, .inl book_allKeys)), (a_into, .inr (9, [.ref a_into_ranks, .ref a_into_starts, .ref a_into_lengths, .int into_count_33, .int into_filled_34])), (a_into_starts, .inl (g 0, 200, .inl into_starts_35)), (a_into_lengths, .inl (g 0, 200, .inl into_lengths_36)), (a_into_ranks, .inl (g 0, 100, .inl into_ranks_37))] ++ TPl tp hd (g 0) F_ n_) H → va_D A ([(a_this, .inr (8, [.ref a_memory, .ref a_runOf, .int held_30])), (a_runOf, .inl (g 0, 50, .inl runOf_31)), (a_memory, .inl (g 0, 50, .inl memory_32)), (a_book, .inr (2, [.ref a_book_allKeys, .ref a_book_allMarks, .int book_count])), (a_book_allKeys, .inl (g 0, 200, .inl book_allKeys)), (a_into, .inr (9, [.ref a_into_ranks, .ref a_into_starts, .ref a_into_lengths, .int into_count_33, .int into_filled_34])), (a_into_starts, .inl (g 0, 200, .inl into_starts_35)), (a_into_lengths, .inl (g 0, 200, .inl into_lengths_36)), (a_into_ranks, .inl (g 0, 100, .inl into_ranks_37))] ++ TPl tp hd (g 0) F_ n_) → va_S A s.heap H locs → ∀ (ls : Array Slot), lv_has ls 12 [] → W p l e (headSpec wqX6_makeByReplacement ({ frames := 1, cells := 0, slots := 0, locals := 23 })).room s m ([.ref a_this, .ref a_book, .ref (tp tape), .int order, .int room, .ref a_into] : List Value).toArray below meth c H locs 0 0 QM (F0 m 211 ls []) := by
      intro held_30 runOf_31 memory_32 into_count_33 into_filled_34 into_starts_35 into_lengths_36 into_ranks_37 H locs hw hP hD hS ls hl
      subst hQM
      have hP9 := va_P.part (cx := [(a_this, .inr (8, [.ref a_memory, .ref a_runOf, .int held_30])), (a_runOf, .inl (g 0, 50, .inl runOf_31)), (a_memory, .inl (g 0, 50, .inl memory_32)), (a_book, .inr (2, [.ref a_book_allKeys, .ref a_book_allMarks, .int book_count])), (a_book_allKeys, .inl (g 0, 200, .inl book_allKeys)), (a_into, .inr (9, [.ref a_into_ranks, .ref a_into_starts, .ref a_into_lengths, .int into_count_33, .int into_filled_34])), (a_into_starts, .inl (g 0, 200, .inl into_starts_35)), (a_into_lengths, .inl (g 0, 200, .inl into_lengths_36)), (a_into_ranks, .inl (g 0, 100, .inl into_ranks_37))]) hP [0, 1, 2, 3, 4, 5, 6, 7, 8] rfl
      have hD9 := va_D.part (cx := [(a_this, .inr (8, [.ref a_memory, .ref a_runOf, .int held_30])), (a_runOf, .inl (g 0, 50, .inl runOf_31)), (a_memory, .inl (g 0, 50, .inl memory_32)), (a_book, .inr (2, [.ref a_book_allKeys, .ref a_book_allMarks, .int book_count])), (a_book_allKeys, .inl (g 0, 200, .inl book_allKeys)), (a_into, .inr (9, [.ref a_into_ranks, .ref a_into_starts, .ref a_into_lengths, .int into_count_33, .int into_filled_34])), (a_into_starts, .inl (g 0, 200, .inl into_starts_35)), (a_into_lengths, .inl (g 0, 200, .inl into_lengths_36)), (a_into_ranks, .inl (g 0, 100, .inl into_ranks_37))]) hD [0, 1, 2, 3, 4, 5, 6, 7, 8] (by decide) rfl
      exact W.vret hx hb hr (fun t ht hW => ⟨⟨(held_30, runOf_31, memory_32, into_count_33, into_filled_34, into_starts_35, into_lengths_36, into_ranks_37, ()), rfl, hw, ⟨P_at ht hP9, hD9⟩⟩, hS.F ht⟩) hS.2.2 dX6_makeByReplacement_211
    have LOOP60 : ∀ (n60 : Nat) (v8_11 : Int32) (v7_12 : Int32) (held_13 : Int32) (runOf_14 : Nat → Int32) (memory_15 : Nat → Int32) (into_count_16 : Int32) (into_filled_17 : Int32) (into_starts_18 : Nat → Int32) (into_lengths_19 : Nat → Int32) (into_ranks_20 : Nat → Int32) (v6_21 : Int32) (H : Heap) (locs : List Loc), wl_X6_makeByReplacement_60 book_allKeys tape order F_ n_ (wx_X6_makeByReplacement_60_115 Q) (wx_X6_makeByReplacement_60_211 Q) n60 v8_11 v7_12 held_13 runOf_14 memory_15 into_count_16 into_filled_17 into_starts_18 into_lengths_19 into_ranks_20 v6_21 → va_P (dC, dI) vwCl ([(a_this, .inr (8, [.ref a_memory, .ref a_runOf, .int held_13])), (a_runOf, .inl (g 0, 50, .inl runOf_14)), (a_memory, .inl (g 0, 50, .inl memory_15)), (a_book, .inr (2, [.ref a_book_allKeys, .ref a_book_allMarks, .int book_count])), (a_book_allKeys, .inl (g 0, 200, .inl book_allKeys)), (a_into, .inr (9, [.ref a_into_ranks, .ref a_into_starts, .ref a_into_lengths, .int into_count_16, .int into_filled_17])), (a_into_starts, .inl (g 0, 200, .inl into_starts_18)), (a_into_lengths, .inl (g 0, 200, .inl into_lengths_19)), (a_into_ranks, .inl (g 0, 100, .inl into_ranks_20))] ++ TPl tp hd (g 0) F_ n_) H → va_D A ([(a_this, .inr (8, [.ref a_memory, .ref a_runOf, .int held_13])), (a_runOf, .inl (g 0, 50, .inl runOf_14)), (a_memory, .inl (g 0, 50, .inl memory_15)), (a_book, .inr (2, [.ref a_book_allKeys, .ref a_book_allMarks, .int book_count])), (a_book_allKeys, .inl (g 0, 200, .inl book_allKeys)), (a_into, .inr (9, [.ref a_into_ranks, .ref a_into_starts, .ref a_into_lengths, .int into_count_16, .int into_filled_17])), (a_into_starts, .inl (g 0, 200, .inl into_starts_18)), (a_into_lengths, .inl (g 0, 200, .inl into_lengths_19)), (a_into_ranks, .inl (g 0, 100, .inl into_ranks_20))] ++ TPl tp hd (g 0) F_ n_) → va_S A s.heap H locs → ∀ (ls : Array Slot), lv_has ls 12 [(0, .ref a_this), (1, .ref a_book), (2, .ref (tp tape)), (3, .int order), (5, .ref a_into), (6, .int v6_21), (7, .int v7_12), (8, .int v8_11)] → W p l e (headSpec wqX6_makeByReplacement ({ frames := 1, cells := 0, slots := 0, locals := 23 })).room s m ([.ref a_this, .ref a_book, .ref (tp tape), .int order, .int room, .ref a_into] : List Value).toArray below meth c H locs 0 0 QM (F0 m 60 ls []) := by
      intro n60
      induction n60 with
      | zero =>
        intro v8_11 v7_12 held_13 runOf_14 memory_15 into_count_16 into_filled_17 into_starts_18 into_lengths_19 into_ranks_20 v6_21 H locs hw hP hD hS ls hl
        exact False.elim hw
      | succ n60 ih60 =>
        intro v8_11 v7_12 held_13 runOf_14 memory_15 into_count_16 into_filled_17 into_starts_18 into_lengths_19 into_ranks_20 v6_21 H locs hw hP hD hS ls hl
        rw [wl_X6_makeByReplacement_60_s] at hw
        refine lv_iload hx hb dX6_makeByReplacement_60 (lv_at hl 7 rfl) ?_
        refine lv_aload_n hx hb dX6_makeByReplacement_62 rfl (lv_at hl 2 rfl) ?_
        refine va_getN (D := (dC, dI)) (ci := 11) (v := .int (n_ tape)) (C := RX9) (T := TX9) (N := 2) hx hb hts hiX9 hown hK hP _ (TP_o hj_tape) rfl 1 (by decide) (nf_2 hG) (fun _ h9 => h9) rfl dX6_makeByReplacement_63 ?_
        refine lv_icmp_ge (tgt := 211) hx hb dX6_makeByReplacement_66 (by decide) (fun c_38 => ?_) (fun c_38 => ?_)
        · have hw := hw.1 c_38
          exact EX60_211 held_13 runOf_14 memory_15 into_count_16 into_filled_17 into_starts_18 into_lengths_19 into_ranks_20 _ _ hw (hP.part [0, 1, 2, 3, 4, 5, 6, 7, 8] rfl) (hD.part [0, 1, 2, 3, 4, 5, 6, 7, 8] (by decide) rfl) hS _ (lv_sub hl [] rfl)
        · have hw := hw.2 c_38
          refine lv_aload_n hx hb dX6_makeByReplacement_69 rfl (lv_at hl 0 rfl) ?_
          refine lv_iload hx hb dX6_makeByReplacement_70 (lv_at hl 6 rfl) ?_
          refine va_calli (va_runV (As := [.int v7_12]) (rest := []) ⟨hx, hb, hml, hown, hts⟩ (c_X6_leastOf l dC dI g (Wd := ([(a_this, .inr (8, [.ref a_memory, .ref a_runOf, .int held_13])), (a_runOf, .inl (g 0, 50, .inl runOf_14)), (a_memory, .inl (g 0, 50, .inl memory_15)), (a_book, .inr (2, [.ref a_book_allKeys, .ref a_book_allMarks, .int book_count])), (a_book_allKeys, .inl (g 0, 200, .inl book_allKeys)), (a_into, .inr (9, [.ref a_into_ranks, .ref a_into_starts, .ref a_into_lengths, .int into_count_16, .int into_filled_17])), (a_into_starts, .inl (g 0, 200, .inl into_starts_18)), (a_into_lengths, .inl (g 0, 200, .inl into_lengths_19)), (a_into_ranks, .inl (g 0, 100, .inl into_ranks_20))] ++ TPl tp hd (g 0) F_ n_)) (a_this := a_this) (a_memory := a_memory) (a_runOf := a_runOf) (held := held_13) (runOf := runOf_14) (memory := memory_15) (run := v7_12) (k_this := 0) (w_this := rfl) (k_runOf := 1) (w_runOf := rfl) (k_memory := 2) (w_memory := rfl) (hw := hw) (sz := H.size)) (cwV 1 hts (gqV aw_3_222 aw_3_224 aw_0_8 aw_1_5 aw_3_225) rfl rfl rfl (by decide +kernel) ⟨Nat.le_of_ble_eq_true rfl, Nat.le_of_ble_eq_true rfl⟩) ⟨PG_blind, va_recv hK hP (ci := 8) (q0 := 0) rfl rfl, PG_call hK hG hS hP hD (A_all hD hA hS.1)⟩ rfl rfl hl.1 rfl (lv_room (Nat.le_of_ble_eq_true rfl)) dX6_makeByReplacement_72 ⟨Nat.le_of_ble_eq_true rfl, Nat.le_of_ble_eq_true rfl⟩) hS (fun q _ h => (A_all hD hA hS.1) q h) (A_all hD hA hS.1) (fun r_39 u_39 t_39 H_39 L_39 ht_39 hvm_39 hw_39 hB_39 hz_39 hk_39 hS => ?_)
          rw [ht_39] at hB_39
          have hP : va_P (dC, dI) vwCl ([(a_this, .inr (8, [.ref a_memory, .ref a_runOf, .int held_13])), (a_runOf, .inl (g 0, 50, .inl runOf_14)), (a_memory, .inl (g 0, 50, .inl memory_15)), (a_book, .inr (2, [.ref a_book_allKeys, .ref a_book_allMarks, .int book_count])), (a_book_allKeys, .inl (g 0, 200, .inl book_allKeys)), (a_into, .inr (9, [.ref a_into_ranks, .ref a_into_starts, .ref a_into_lengths, .int into_count_16, .int into_filled_17])), (a_into_starts, .inl (g 0, 200, .inl into_starts_18)), (a_into_lengths, .inl (g 0, 200, .inl into_lengths_19)), (a_into_ranks, .inl (g 0, 100, .inl into_ranks_20))] ++ TPl tp hd (g 0) F_ n_) H_39 := hB_39
          have hw := hw_39
          refine lv_istore (lv' := [(9, .int r_39), (0, .ref a_this), (1, .ref a_book), (2, .ref (tp tape)), (3, .int order), (5, .ref a_into), (6, .int v6_21), (7, .int v7_12), (8, .int v8_11)]) hx hb dX6_makeByReplacement_75 hl (by decide) rfl (fun ls hl => ?_)
          refine lv_iload hx hb dX6_makeByReplacement_77 (lv_at hl 0 rfl) ?_
          refine lv_iconst (v := (-1)) hx hb dX6_makeByReplacement_79 (by decide) ?_
          have JN94 : ∀ (v9_40 : Int32) (v7_41 : Int32) (H : Heap) (locs : List Loc), (wj_X6_makeByReplacement_94 book_allKeys tape order F_ n_ v8_11 held_13 runOf_14 memory_15 into_count_16 into_filled_17 into_starts_18 into_lengths_19 into_ranks_20 v6_21 (wl_X6_makeByReplacement_60 book_allKeys tape order F_ n_ (wx_X6_makeByReplacement_60_115 Q) (wx_X6_makeByReplacement_60_211 Q) n60) (wx_X6_makeByReplacement_60_115 Q)) v9_40 v7_41 → va_P (dC, dI) vwCl ([(a_this, .inr (8, [.ref a_memory, .ref a_runOf, .int held_13])), (a_runOf, .inl (g 0, 50, .inl runOf_14)), (a_memory, .inl (g 0, 50, .inl memory_15)), (a_book, .inr (2, [.ref a_book_allKeys, .ref a_book_allMarks, .int book_count])), (a_book_allKeys, .inl (g 0, 200, .inl book_allKeys)), (a_into, .inr (9, [.ref a_into_ranks, .ref a_into_starts, .ref a_into_lengths, .int into_count_16, .int into_filled_17])), (a_into_starts, .inl (g 0, 200, .inl into_starts_18)), (a_into_lengths, .inl (g 0, 200, .inl into_lengths_19)), (a_into_ranks, .inl (g 0, 100, .inl into_ranks_20))] ++ TPl tp hd (g 0) F_ n_) H → va_D A ([(a_this, .inr (8, [.ref a_memory, .ref a_runOf, .int held_13])), (a_runOf, .inl (g 0, 50, .inl runOf_14)), (a_memory, .inl (g 0, 50, .inl memory_15)), (a_book, .inr (2, [.ref a_book_allKeys, .ref a_book_allMarks, .int book_count])), (a_book_allKeys, .inl (g 0, 200, .inl book_allKeys)), (a_into, .inr (9, [.ref a_into_ranks, .ref a_into_starts, .ref a_into_lengths, .int into_count_16, .int into_filled_17])), (a_into_starts, .inl (g 0, 200, .inl into_starts_18)), (a_into_lengths, .inl (g 0, 200, .inl into_lengths_19)), (a_into_ranks, .inl (g 0, 100, .inl into_ranks_20))] ++ TPl tp hd (g 0) F_ n_) → va_S A s.heap H locs → ∀ (ls : Array Slot), lv_has ls 12 [(0, .ref a_this), (1, .ref a_book), (2, .ref (tp tape)), (3, .int order), (5, .ref a_into), (6, .int v6_21), (7, .int v7_41), (8, .int v8_11), (9, .int v9_40)] → W p l e (headSpec wqX6_makeByReplacement ({ frames := 1, cells := 0, slots := 0, locals := 23 })).room s m ([.ref a_this, .ref a_book, .ref (tp tape), .int order, .int room, .ref a_into] : List Value).toArray below meth c H locs 0 0 QM (F0 m 94 ls []) := by
            intro v9_40 v7_41 H locs hw hP hD hS ls hl
            refine lv_iload hx hb dX6_makeByReplacement_94 (lv_at hl 8 rfl) ?_
            refine lv_if_lt (tgt := 115) hx hb dX6_makeByReplacement_96 (by decide) (fun c_42 => ?_) (fun c_42 => ?_)
            · have hw := hw.1 c_42
              exact EX60_115 held_13 runOf_14 memory_15 into_count_16 into_filled_17 into_starts_18 into_lengths_19 into_ranks_20 _ _ hw (hP.part [0, 1, 2, 3, 4, 5, 6, 7, 8] rfl) (hD.part [0, 1, 2, 3, 4, 5, 6, 7, 8] (by decide) rfl) hS _ (lv_sub hl [] rfl)
            · have hw := hw.2 c_42
              refine lv_iload hx hb dX6_makeByReplacement_99 (lv_at hl 8 rfl) ?_
              refine lv_aload_n hx hb dX6_makeByReplacement_101 rfl (lv_at hl 0 rfl) ?_
              refine va_get (D := (dC, dI)) (ci := 8) (v := .int held_13) (C := RX6) (T := TX6) (N := 3) hx hb hts hiX6 hown hK hP 0 rfl rfl 2 (by decide) hf18 (fun _ h9 => h9) rfl dX6_makeByReplacement_102 ?_
              refine lv_icmp_ge (tgt := 115) hx hb dX6_makeByReplacement_105 (by decide) (fun c_43 => ?_) (fun c_43 => ?_)
              · have hw := hw.1 c_43
                exact EX60_115 held_13 runOf_14 memory_15 into_count_16 into_filled_17 into_starts_18 into_lengths_19 into_ranks_20 _ _ hw (hP.part [0, 1, 2, 3, 4, 5, 6, 7, 8] rfl) (hD.part [0, 1, 2, 3, 4, 5, 6, 7, 8] (by decide) rfl) hS _ (lv_sub hl [] rfl)
              · have hw := hw.2 c_43
                refine lv_iload hx hb dX6_makeByReplacement_108 (lv_at hl 8 rfl) ?_
                refine lv_bipush (v := 50) hx hb dX6_makeByReplacement_110 (by decide) ?_
                refine lv_icmp_lt (tgt := 116) hx hb dX6_makeByReplacement_112 (by decide) (fun c_44 => ?_) (fun c_44 => ?_)
                · have hw := hw.1 c_44
                  refine lv_aload_n hx hb dX6_makeByReplacement_116 rfl (lv_at hl 0 rfl) ?_
                  refine va_get (D := (dC, dI)) (ci := 8) (v := .ref a_memory) (C := RX6) (T := TX6) (N := 3) hx hb hts hiX6 hown hK hP 0 rfl rfl 0 (by decide) hf9 (fun _ h9 => h9) rfl dX6_makeByReplacement_117 ?_
                  refine lv_iload hx hb dX6_makeByReplacement_120 (lv_at hl 8 rfl) ?_
                  refine va_iald hx hb hK hP 2 0 rfl rfl hw.1 dX6_makeByReplacement_122 ?_
                  have hw := hw.2
                  refine lv_topi (fun x_45 ex_45 => ?_)
                  have hw := hw x_45 ex_45
                  refine lv_istore (lv' := [(10, .int x_45), (0, .ref a_this), (1, .ref a_book), (2, .ref (tp tape)), (3, .int order), (5, .ref a_into), (6, .int v6_21), (7, .int v7_41), (8, .int v8_11), (9, .int v9_40)]) hx hb dX6_makeByReplacement_123 hl (by decide) rfl (fun ls hl => ?_)
                  refine lv_aload hx hb dX6_makeByReplacement_125 (lv_at hl 5 rfl) ?_
                  refine va_getN (D := (dC, dI)) (ci := 9) (v := .int into_count_16) (C := RX7) (T := TX7) (N := 5) hx hb hts hiX7 hown hK hP 5 rfl rfl 3 (by decide) (nf_29 hG) (fun _ h9 => h9) rfl dX6_makeByReplacement_127 ?_
                  refine lv_iload hx hb dX6_makeByReplacement_130 (lv_at hl 7 rfl) ?_
                  have JN140 : ∀ (into_count_46 : Int32) (into_starts_47 : Nat → Int32) (into_lengths_48 : Nat → Int32) (H : Heap) (locs : List Loc), (wj_X6_makeByReplacement_140 book_allKeys tape order F_ n_ v8_11 held_13 runOf_14 memory_15 into_filled_17 into_ranks_20 v6_21 (wl_X6_makeByReplacement_60 book_allKeys tape order F_ n_ (wx_X6_makeByReplacement_60_115 Q) (wx_X6_makeByReplacement_60_211 Q) n60) v9_40 v7_41 x_45) into_count_46 into_starts_47 into_lengths_48 → va_P (dC, dI) vwCl ([(a_this, .inr (8, [.ref a_memory, .ref a_runOf, .int held_13])), (a_runOf, .inl (g 0, 50, .inl runOf_14)), (a_memory, .inl (g 0, 50, .inl memory_15)), (a_book, .inr (2, [.ref a_book_allKeys, .ref a_book_allMarks, .int book_count])), (a_book_allKeys, .inl (g 0, 200, .inl book_allKeys)), (a_into, .inr (9, [.ref a_into_ranks, .ref a_into_starts, .ref a_into_lengths, .int into_count_46, .int into_filled_17])), (a_into_starts, .inl (g 0, 200, .inl into_starts_47)), (a_into_lengths, .inl (g 0, 200, .inl into_lengths_48)), (a_into_ranks, .inl (g 0, 100, .inl into_ranks_20))] ++ TPl tp hd (g 0) F_ n_) H → va_D A ([(a_this, .inr (8, [.ref a_memory, .ref a_runOf, .int held_13])), (a_runOf, .inl (g 0, 50, .inl runOf_14)), (a_memory, .inl (g 0, 50, .inl memory_15)), (a_book, .inr (2, [.ref a_book_allKeys, .ref a_book_allMarks, .int book_count])), (a_book_allKeys, .inl (g 0, 200, .inl book_allKeys)), (a_into, .inr (9, [.ref a_into_ranks, .ref a_into_starts, .ref a_into_lengths, .int into_count_46, .int into_filled_17])), (a_into_starts, .inl (g 0, 200, .inl into_starts_47)), (a_into_lengths, .inl (g 0, 200, .inl into_lengths_48)), (a_into_ranks, .inl (g 0, 100, .inl into_ranks_20))] ++ TPl tp hd (g 0) F_ n_) → va_S A s.heap H locs → ∀ (ls : Array Slot), lv_has ls 12 [(0, .ref a_this), (1, .ref a_book), (2, .ref (tp tape)), (3, .int order), (5, .ref a_into), (6, .int v6_21), (7, .int v7_41), (8, .int v8_11), (9, .int v9_40), (10, .int x_45)] → W p l e (headSpec wqX6_makeByReplacement ({ frames := 1, cells := 0, slots := 0, locals := 23 })).room s m ([.ref a_this, .ref a_book, .ref (tp tape), .int order, .int room, .ref a_into] : List Value).toArray below meth c H locs 0 0 QM (F0 m 140 ls []) := by
                    intro into_count_46 into_starts_47 into_lengths_48 H locs hw hP hD hS ls hl
                    refine lv_aload hx hb dX6_makeByReplacement_140 (lv_at hl 4 rfl) ?_
                    refine lv_iload hx hb dX6_makeByReplacement_142 (lv_at hl 9 rfl) ?_
                    have hPc := hP.sub (ws' := [(a_into, .inr (9, [.ref a_into_ranks, .ref a_into_starts, .ref a_into_lengths, .int into_count_46, .int into_filled_17])), (a_into_ranks, .inl (g 0, 100, .inl into_ranks_20)), (a_into_lengths, .inl (g 0, 200, .inl into_lengths_48))]) [5, 8, 7] rfl
                    have hDc := hD.sub (ws' := [(a_into, .inr (9, [.ref a_into_ranks, .ref a_into_starts, .ref a_into_lengths, .int into_count_46, .int into_filled_17])), (a_into_ranks, .inl (g 0, 100, .inl into_ranks_20)), (a_into_lengths, .inl (g 0, 200, .inl into_lengths_48))]) [5, 8, 7] (by decide) rfl
                    have hFc := va_free (wc := [(a_into, .inr (9, [.ref a_into_ranks, .ref a_into_starts, .ref a_into_lengths, .int into_count_46, .int into_filled_17])), (a_into_ranks, .inl (g 0, 100, .inl into_ranks_20)), (a_into_lengths, .inl (g 0, 200, .inl into_lengths_48))]) hD hS hA [5, 8, 7] rfl
                    refine va_callv (va_runV (As := [.int x_45]) (rest := []) ⟨hx, hb, hml, hown, hts⟩ (c_X7_add l dC dI g (a_this := a_into) (a_ranks := a_into_ranks) (a_starts := a_into_starts) (a_lengths := a_into_lengths) (count := into_count_46) (filled := into_filled_17) (ranks := into_ranks_20) (lengths := into_lengths_48) (rank := x_45) (hw := hw) (sz := H.size)) (cwV 1 hts (gqV aw_3_210 aw_3_211 aw_3_212 aw_1_6 aw_3_213) rfl rfl rfl (by decide +kernel) ⟨Nat.le_of_ble_eq_true rfl, Nat.le_of_ble_eq_true rfl⟩) ⟨PG_blind, va_recv hK hP (ci := 9) (q0 := 5) rfl rfl, PG_call hK hG hS hPc hDc hFc⟩ rfl rfl hl.1 rfl (lv_room (Nat.le_of_ble_eq_true rfl)) dX6_makeByReplacement_144 ⟨Nat.le_of_ble_eq_true rfl, Nat.le_of_ble_eq_true rfl⟩) hS (fun q _ h => hFc q h) hFc (fun u_49 t_49 H_49 L_49 ht_49 hvm_49 hw_49 hB_49 hz_49 hk_49 hS => ?_)
                    obtain ⟨into_filled_50, into_ranks_51, into_lengths_52, u_49⟩ := u_49
                    obtain ⟨hP1, hD1⟩ := hB_49
                    rw [ht_49] at hP1
                    obtain ⟨hP, hD⟩ := va_joinQ (wr := [(a_this, .inr (8, [.ref a_memory, .ref a_runOf, .int held_13])), (a_runOf, .inl (g 0, 50, .inl runOf_14)), (a_memory, .inl (g 0, 50, .inl memory_15)), (a_book, .inr (2, [.ref a_book_allKeys, .ref a_book_allMarks, .int book_count])), (a_book_allKeys, .inl (g 0, 200, .inl book_allKeys)), (a_into_starts, .inl (g 0, 200, .inl into_starts_47))]) (w1 := [(a_into, .inr (9, [.ref a_into_ranks, .ref a_into_starts, .ref a_into_lengths, .int into_count_46, .int into_filled_50])), (a_into_ranks, .inl (g 0, 100, .inl into_ranks_51)), (a_into_lengths, .inl (g 0, 200, .inl into_lengths_52))]) hP hD [5, 8, 7] [0, 1, 2, 3, 4, 6] rfl rfl (by decide) (by decide) hk_49 hFc hP1 hD1
                    have hP : va_P (dC, dI) vwCl ([(a_this, .inr (8, [.ref a_memory, .ref a_runOf, .int held_13])), (a_runOf, .inl (g 0, 50, .inl runOf_14)), (a_memory, .inl (g 0, 50, .inl memory_15)), (a_book, .inr (2, [.ref a_book_allKeys, .ref a_book_allMarks, .int book_count])), (a_book_allKeys, .inl (g 0, 200, .inl book_allKeys)), (a_into_starts, .inl (g 0, 200, .inl into_starts_47)), (a_into, .inr (9, [.ref a_into_ranks, .ref a_into_starts, .ref a_into_lengths, .int into_count_46, .int into_filled_50])), (a_into_ranks, .inl (g 0, 100, .inl into_ranks_51)), (a_into_lengths, .inl (g 0, 200, .inl into_lengths_52))] ++ TPl tp hd (g 0) F_ n_) H_49 := hP
                    have hD : va_D A ([(a_this, .inr (8, [.ref a_memory, .ref a_runOf, .int held_13])), (a_runOf, .inl (g 0, 50, .inl runOf_14)), (a_memory, .inl (g 0, 50, .inl memory_15)), (a_book, .inr (2, [.ref a_book_allKeys, .ref a_book_allMarks, .int book_count])), (a_book_allKeys, .inl (g 0, 200, .inl book_allKeys)), (a_into_starts, .inl (g 0, 200, .inl into_starts_47)), (a_into, .inr (9, [.ref a_into_ranks, .ref a_into_starts, .ref a_into_lengths, .int into_count_46, .int into_filled_50])), (a_into_ranks, .inl (g 0, 100, .inl into_ranks_51)), (a_into_lengths, .inl (g 0, 200, .inl into_lengths_52))] ++ TPl tp hd (g 0) F_ n_) := hD
                    have hw := hw_49
                    refine lv_iload hx hb dX6_makeByReplacement_147 (lv_at hl 5 rfl) ?_
                    refine lv_aload_n hx hb dX6_makeByReplacement_149 rfl (lv_at hl 2 rfl) ?_
                    refine va_getN (D := (dC, dI)) (ci := 11) (v := .int (n_ tape)) (C := RX9) (T := TX9) (N := 2) hx hb hts hiX9 hown hK hP _ (TP_o hj_tape) rfl 1 (by decide) (nf_2 hG) (fun _ h9 => h9) rfl dX6_makeByReplacement_150 ?_
                    refine lv_icmp_ge (tgt := 199) hx hb dX6_makeByReplacement_153 (by decide) (fun c_53 => ?_) (fun c_53 => ?_)
                    · have hw := hw.1 c_53
                      refine lv_aload_n hx hb dX6_makeByReplacement_199 rfl (lv_at hl 0 rfl) ?_
                      refine lv_iload hx hb dX6_makeByReplacement_200 (lv_at hl 8 rfl) ?_
                      have hPc := hP.sub (ws' := [(a_this, .inr (8, [.ref a_memory, .ref a_runOf, .int held_13])), (a_memory, .inl (g 0, 50, .inl memory_15)), (a_runOf, .inl (g 0, 50, .inl runOf_14))]) [0, 2, 1] rfl
                      have hDc := hD.sub (ws' := [(a_this, .inr (8, [.ref a_memory, .ref a_runOf, .int held_13])), (a_memory, .inl (g 0, 50, .inl memory_15)), (a_runOf, .inl (g 0, 50, .inl runOf_14))]) [0, 2, 1] (by decide) rfl
                      have hFc := va_free (wc := [(a_this, .inr (8, [.ref a_memory, .ref a_runOf, .int held_13])), (a_memory, .inl (g 0, 50, .inl memory_15)), (a_runOf, .inl (g 0, 50, .inl runOf_14))]) hD hS hA [0, 2, 1] rfl
                      refine va_callv (va_runV (As := [.int v9_40]) (rest := []) ⟨hx, hb, hml, hown, hts⟩ (c_X6_drop l dC dI g (a_this := a_this) (a_memory := a_memory) (a_runOf := a_runOf) (held := held_13) (memory := memory_15) (runOf := runOf_14) (slot := v9_40) (hw := hw) (sz := H_49.size)) (cwV 1 hts (gqV aw_3_226 aw_3_228 aw_0_9 aw_1_5 aw_3_229) rfl rfl rfl (by decide +kernel) ⟨Nat.le_of_ble_eq_true rfl, Nat.le_of_ble_eq_true rfl⟩) ⟨PG_blind, va_recv hK hP (ci := 8) (q0 := 0) rfl rfl, PG_call hK hG hS hPc hDc hFc⟩ rfl rfl hl.1 rfl (lv_room (Nat.le_of_ble_eq_true rfl)) dX6_makeByReplacement_202 ⟨Nat.le_of_ble_eq_true rfl, Nat.le_of_ble_eq_true rfl⟩) hS (fun q _ h => hFc q h) hFc (fun u_54 t_54 H_54 L_54 ht_54 hvm_54 hw_54 hB_54 hz_54 hk_54 hS => ?_)
                      obtain ⟨held_55, memory_56, runOf_57, u_54⟩ := u_54
                      obtain ⟨hP1, hD1⟩ := hB_54
                      rw [ht_54] at hP1
                      obtain ⟨hP, hD⟩ := va_joinQ (wr := [(a_book, .inr (2, [.ref a_book_allKeys, .ref a_book_allMarks, .int book_count])), (a_book_allKeys, .inl (g 0, 200, .inl book_allKeys)), (a_into_starts, .inl (g 0, 200, .inl into_starts_47)), (a_into, .inr (9, [.ref a_into_ranks, .ref a_into_starts, .ref a_into_lengths, .int into_count_46, .int into_filled_50])), (a_into_ranks, .inl (g 0, 100, .inl into_ranks_51)), (a_into_lengths, .inl (g 0, 200, .inl into_lengths_52))]) (w1 := [(a_this, .inr (8, [.ref a_memory, .ref a_runOf, .int held_55])), (a_memory, .inl (g 0, 50, .inl memory_56)), (a_runOf, .inl (g 0, 50, .inl runOf_57))]) hP hD [0, 2, 1] [3, 4, 5, 6, 7, 8] rfl rfl (by decide) (by decide) hk_54 hFc hP1 hD1
                      have hP : va_P (dC, dI) vwCl ([(a_book, .inr (2, [.ref a_book_allKeys, .ref a_book_allMarks, .int book_count])), (a_book_allKeys, .inl (g 0, 200, .inl book_allKeys)), (a_into_starts, .inl (g 0, 200, .inl into_starts_47)), (a_into, .inr (9, [.ref a_into_ranks, .ref a_into_starts, .ref a_into_lengths, .int into_count_46, .int into_filled_50])), (a_into_ranks, .inl (g 0, 100, .inl into_ranks_51)), (a_into_lengths, .inl (g 0, 200, .inl into_lengths_52)), (a_this, .inr (8, [.ref a_memory, .ref a_runOf, .int held_55])), (a_memory, .inl (g 0, 50, .inl memory_56)), (a_runOf, .inl (g 0, 50, .inl runOf_57))] ++ TPl tp hd (g 0) F_ n_) H_54 := hP
                      have hD : va_D A ([(a_book, .inr (2, [.ref a_book_allKeys, .ref a_book_allMarks, .int book_count])), (a_book_allKeys, .inl (g 0, 200, .inl book_allKeys)), (a_into_starts, .inl (g 0, 200, .inl into_starts_47)), (a_into, .inr (9, [.ref a_into_ranks, .ref a_into_starts, .ref a_into_lengths, .int into_count_46, .int into_filled_50])), (a_into_ranks, .inl (g 0, 100, .inl into_ranks_51)), (a_into_lengths, .inl (g 0, 200, .inl into_lengths_52)), (a_this, .inr (8, [.ref a_memory, .ref a_runOf, .int held_55])), (a_memory, .inl (g 0, 50, .inl memory_56)), (a_runOf, .inl (g 0, 50, .inl runOf_57))] ++ TPl tp hd (g 0) F_ n_) := hD
                      have hw := hw_54
                      obtain ⟨x_58, ex_58⟩ : ∃ y : Int32, y = v8_11 + 1 := ⟨_, rfl⟩
                      have hw := hw x_58 ex_58
                      refine lv_iinc (v := x_58) (lv' := [(8, .int x_58), (0, .ref a_this), (1, .ref a_book), (2, .ref (tp tape)), (3, .int order), (5, .ref a_into), (6, .int v6_21), (7, .int v7_41), (9, .int v9_40), (10, .int x_45)]) hx hb dX6_makeByReplacement_205 hl (k := 7) rfl (by rw [ex_58]; rfl) (by decide) rfl (fun ls hl => ?_)
                      refine lv_goto (tgt := 60) hx hb dX6_makeByReplacement_208 (by decide) ?_
                      exact ih60 x_58 v7_41 held_55 runOf_57 memory_56 into_count_46 into_filled_50 into_starts_47 into_lengths_52 into_ranks_51 v6_21 _ _ hw (hP.part [6, 8, 7, 0, 1, 3, 2, 5, 4] rfl) (hD.part [6, 8, 7, 0, 1, 3, 2, 5, 4] (by decide) rfl) hS _ (lv_sub hl [1, 2, 3, 4, 5, 6, 7, 0] rfl)
                    · have hw := hw.2 c_53
                      refine lv_aload_n hx hb dX6_makeByReplacement_156 rfl (lv_at hl 1 rfl) ?_
                      refine lv_aload_n hx hb dX6_makeByReplacement_157 rfl (lv_at hl 2 rfl) ?_
                      refine lv_iload hx hb dX6_makeByReplacement_158 (lv_at hl 5 rfl) ?_
                      refine va_calli (va_runV (As := [.int v6_21]) (rest := [.ref a_book]) ⟨hx, hb, hml, hown, hts⟩ (c_X9_recordAt l dC dI g tp hd (Wd := ([(a_this, .inr (8, [.ref a_memory, .ref a_runOf, .int held_13])), (a_runOf, .inl (g 0, 50, .inl runOf_14)), (a_memory, .inl (g 0, 50, .inl memory_15)), (a_book, .inr (2, [.ref a_book_allKeys, .ref a_book_allMarks, .int book_count])), (a_book_allKeys, .inl (g 0, 200, .inl book_allKeys)), (a_into_starts, .inl (g 0, 200, .inl into_starts_47)), (a_into, .inr (9, [.ref a_into_ranks, .ref a_into_starts, .ref a_into_lengths, .int into_count_46, .int into_filled_50])), (a_into_ranks, .inl (g 0, 100, .inl into_ranks_51)), (a_into_lengths, .inl (g 0, 200, .inl into_lengths_52))] ++ TPl tp hd (g 0) F_ n_)) (F_ := F_) (n_ := n_) (j := tape) (place := v6_21) (hj_j := hj_tape) (kT := _) (hT := TP_at) (hw := hw) (sz := H_49.size)) (cwV 1 hts (gqV aw_3_197 aw_3_171 aw_3_172 aw_1_3 aw_3_173) rfl rfl rfl (by decide +kernel) ⟨Nat.le_of_ble_eq_true rfl, Nat.le_of_ble_eq_true rfl⟩) ⟨PG_blind, va_recv hK hP (ci := 11) (q0 := _) rfl (TP_o hj_tape), PG_call hK hG hS hP hD (A_all hD hA hS.1)⟩ rfl rfl hl.1 rfl (lv_room (Nat.le_of_ble_eq_true rfl)) dX6_makeByReplacement_160 ⟨Nat.le_of_ble_eq_true rfl, Nat.le_of_ble_eq_true rfl⟩) hS (fun q _ h => (A_all hD hA hS.1) q h) (A_all hD hA hS.1) (fun r_59 u_59 t_59 H_59 L_59 ht_59 hvm_59 hw_59 hB_59 hz_59 hk_59 hS => ?_)
                      rw [ht_59] at hB_59
                      have hP : va_P (dC, dI) vwCl ([(a_this, .inr (8, [.ref a_memory, .ref a_runOf, .int held_13])), (a_runOf, .inl (g 0, 50, .inl runOf_14)), (a_memory, .inl (g 0, 50, .inl memory_15)), (a_book, .inr (2, [.ref a_book_allKeys, .ref a_book_allMarks, .int book_count])), (a_book_allKeys, .inl (g 0, 200, .inl book_allKeys)), (a_into_starts, .inl (g 0, 200, .inl into_starts_47)), (a_into, .inr (9, [.ref a_into_ranks, .ref a_into_starts, .ref a_into_lengths, .int into_count_46, .int into_filled_50])), (a_into_ranks, .inl (g 0, 100, .inl into_ranks_51)), (a_into_lengths, .inl (g 0, 200, .inl into_lengths_52))] ++ TPl tp hd (g 0) F_ n_) H_59 := hB_59
                      have hw := hw_59
                      refine lv_iload_n hx hb dX6_makeByReplacement_163 rfl (lv_at hl 3 rfl) ?_
                      refine va_calli (va_runV (As := [.int r_59, .int order]) (rest := []) ⟨hx, hb, hml, hown, hts⟩ (c_X0_rankOf l dC dI g (Wd := ([(a_this, .inr (8, [.ref a_memory, .ref a_runOf, .int held_13])), (a_runOf, .inl (g 0, 50, .inl runOf_14)), (a_memory, .inl (g 0, 50, .inl memory_15)), (a_book, .inr (2, [.ref a_book_allKeys, .ref a_book_allMarks, .int book_count])), (a_book_allKeys, .inl (g 0, 200, .inl book_allKeys)), (a_into_starts, .inl (g 0, 200, .inl into_starts_47)), (a_into, .inr (9, [.ref a_into_ranks, .ref a_into_starts, .ref a_into_lengths, .int into_count_46, .int into_filled_50])), (a_into_ranks, .inl (g 0, 100, .inl into_ranks_51)), (a_into_lengths, .inl (g 0, 200, .inl into_lengths_52))] ++ TPl tp hd (g 0) F_ n_)) (a_this := a_book) (a_allKeys := a_book_allKeys) (a_allMarks := a_book_allMarks) (count := book_count) (allKeys := book_allKeys) (record := r_59) (order := order) (k_this := 3) (w_this := rfl) (k_allKeys := 4) (w_allKeys := rfl) (hw := hw) (sz := H_59.size)) (cwV 2 hts (gqV aw_3_198 aw_3_199 aw_3_200 aw_1_2 aw_3_201) rfl rfl rfl (by decide +kernel) ⟨Nat.le_of_ble_eq_true rfl, Nat.le_of_ble_eq_true rfl⟩) ⟨PG_blind, va_recv hK hP (ci := 2) (q0 := 3) rfl rfl, PG_call hK hG hS hP hD (A_all hD hA hS.1)⟩ rfl rfl hl.1 rfl (lv_room (Nat.le_of_ble_eq_true rfl)) dX6_makeByReplacement_164 ⟨Nat.le_of_ble_eq_true rfl, Nat.le_of_ble_eq_true rfl⟩) hS (fun q _ h => (A_all hD hA hS.1) q h) (A_all hD hA hS.1) (fun r_60 u_60 t_60 H_60 L_60 ht_60 hvm_60 hw_60 hB_60 hz_60 hk_60 hS => ?_)
                      rw [ht_60] at hB_60
                      have hP : va_P (dC, dI) vwCl ([(a_this, .inr (8, [.ref a_memory, .ref a_runOf, .int held_13])), (a_runOf, .inl (g 0, 50, .inl runOf_14)), (a_memory, .inl (g 0, 50, .inl memory_15)), (a_book, .inr (2, [.ref a_book_allKeys, .ref a_book_allMarks, .int book_count])), (a_book_allKeys, .inl (g 0, 200, .inl book_allKeys)), (a_into_starts, .inl (g 0, 200, .inl into_starts_47)), (a_into, .inr (9, [.ref a_into_ranks, .ref a_into_starts, .ref a_into_lengths, .int into_count_46, .int into_filled_50])), (a_into_ranks, .inl (g 0, 100, .inl into_ranks_51)), (a_into_lengths, .inl (g 0, 200, .inl into_lengths_52))] ++ TPl tp hd (g 0) F_ n_) H_60 := hB_60
                      have hw := hw_60
                      refine lv_istore (lv' := [(11, .int r_60), (0, .ref a_this), (1, .ref a_book), (2, .ref (tp tape)), (3, .int order), (5, .ref a_into), (6, .int v6_21), (7, .int v7_41), (8, .int v8_11), (9, .int v9_40), (10, .int x_45)]) hx hb dX6_makeByReplacement_167 hl (by decide) rfl (fun ls hl => ?_)
                      refine lv_aload_n hx hb dX6_makeByReplacement_169 rfl (lv_at hl 1 rfl) ?_
                      refine lv_iload hx hb dX6_makeByReplacement_170 (lv_at hl 9 rfl) ?_
                      refine lv_iload hx hb dX6_makeByReplacement_172 (lv_at hl 0 rfl) ?_
                      refine lv_iload hx hb dX6_makeByReplacement_174 (lv_at hl 0 rfl) ?_
                      refine lv_iload hx hb dX6_makeByReplacement_176 (lv_at hl 10 rfl) ?_
                      have JN190 : ∀ (sk0_61 : Int32) (H : Heap) (locs : List Loc), (wj_X6_makeByReplacement_190 v8_11 held_13 runOf_14 memory_15 v6_21 (wl_X6_makeByReplacement_60 book_allKeys tape order F_ n_ (wx_X6_makeByReplacement_60_115 Q) (wx_X6_makeByReplacement_60_211 Q) n60) v9_40 v7_41 into_count_46 into_starts_47 into_filled_50 into_ranks_51 into_lengths_52 r_60) sk0_61 → va_P (dC, dI) vwCl ([(a_this, .inr (8, [.ref a_memory, .ref a_runOf, .int held_13])), (a_runOf, .inl (g 0, 50, .inl runOf_14)), (a_memory, .inl (g 0, 50, .inl memory_15)), (a_book, .inr (2, [.ref a_book_allKeys, .ref a_book_allMarks, .int book_count])), (a_book_allKeys, .inl (g 0, 200, .inl book_allKeys)), (a_into, .inr (9, [.ref a_into_ranks, .ref a_into_starts, .ref a_into_lengths, .int into_count_46, .int into_filled_50])), (a_into_starts, .inl (g 0, 200, .inl into_starts_47)), (a_into_lengths, .inl (g 0, 200, .inl into_lengths_52)), (a_into_ranks, .inl (g 0, 100, .inl into_ranks_51))] ++ TPl tp hd (g 0) F_ n_) H → va_D A ([(a_this, .inr (8, [.ref a_memory, .ref a_runOf, .int held_13])), (a_runOf, .inl (g 0, 50, .inl runOf_14)), (a_memory, .inl (g 0, 50, .inl memory_15)), (a_book, .inr (2, [.ref a_book_allKeys, .ref a_book_allMarks, .int book_count])), (a_book_allKeys, .inl (g 0, 200, .inl book_allKeys)), (a_into, .inr (9, [.ref a_into_ranks, .ref a_into_starts, .ref a_into_lengths, .int into_count_46, .int into_filled_50])), (a_into_starts, .inl (g 0, 200, .inl into_starts_47)), (a_into_lengths, .inl (g 0, 200, .inl into_lengths_52)), (a_into_ranks, .inl (g 0, 100, .inl into_ranks_51))] ++ TPl tp hd (g 0) F_ n_) → va_S A s.heap H locs → ∀ (ls : Array Slot), lv_has ls 12 [(0, .ref a_this), (1, .ref a_book), (2, .ref (tp tape)), (3, .int order), (5, .ref a_into), (6, .int v6_21), (7, .int v7_41), (8, .int v8_11)] → W p l e (headSpec wqX6_makeByReplacement ({ frames := 1, cells := 0, slots := 0, locals := 23 })).room s m ([.ref a_this, .ref a_book, .ref (tp tape), .int order, .int room, .ref a_into] : List Value).toArray below meth c H locs 0 0 QM (F0 m 190 ls [.int sk0_61, .int r_60, .int v9_40, .ref a_this]) := by
                        intro sk0_61 H locs hw hP hD hS ls hl
                        have hPc := hP.sub (ws' := [(a_this, .inr (8, [.ref a_memory, .ref a_runOf, .int held_13])), (a_memory, .inl (g 0, 50, .inl memory_15)), (a_runOf, .inl (g 0, 50, .inl runOf_14))]) [0, 2, 1] rfl
                        have hDc := hD.sub (ws' := [(a_this, .inr (8, [.ref a_memory, .ref a_runOf, .int held_13])), (a_memory, .inl (g 0, 50, .inl memory_15)), (a_runOf, .inl (g 0, 50, .inl runOf_14))]) [0, 2, 1] (by decide) rfl
                        have hFc := va_free (wc := [(a_this, .inr (8, [.ref a_memory, .ref a_runOf, .int held_13])), (a_memory, .inl (g 0, 50, .inl memory_15)), (a_runOf, .inl (g 0, 50, .inl runOf_14))]) hD hS hA [0, 2, 1] rfl
                        refine va_callv (va_runV (As := [.int v9_40, .int r_60, .int sk0_61]) (rest := []) ⟨hx, hb, hml, hown, hts⟩ (c_X6_hold l dC dI g (a_this := a_this) (a_memory := a_memory) (a_runOf := a_runOf) (held := held_13) (memory := memory_15) (runOf := runOf_14) (slot := v9_40) (rank := r_60) (run := sk0_61) (hw := hw) (sz := H.size)) (cwV 3 hts (gqV aw_3_218 aw_3_220 aw_0_7 aw_1_5 aw_3_221) rfl rfl rfl (by decide +kernel) ⟨Nat.le_of_ble_eq_true rfl, Nat.le_of_ble_eq_true rfl⟩) ⟨PG_blind, va_recv hK hP (ci := 8) (q0 := 0) rfl rfl, PG_call hK hG hS hPc hDc hFc⟩ rfl rfl hl.1 rfl (lv_room (Nat.le_of_ble_eq_true rfl)) dX6_makeByReplacement_190 ⟨Nat.le_of_ble_eq_true rfl, Nat.le_of_ble_eq_true rfl⟩) hS (fun q _ h => hFc q h) hFc (fun u_62 t_62 H_62 L_62 ht_62 hvm_62 hw_62 hB_62 hz_62 hk_62 hS => ?_)
                        obtain ⟨memory_63, runOf_64, u_62⟩ := u_62
                        obtain ⟨hP1, hD1⟩ := hB_62
                        rw [ht_62] at hP1
                        obtain ⟨hP, hD⟩ := va_joinQ (wr := [(a_book, .inr (2, [.ref a_book_allKeys, .ref a_book_allMarks, .int book_count])), (a_book_allKeys, .inl (g 0, 200, .inl book_allKeys)), (a_into, .inr (9, [.ref a_into_ranks, .ref a_into_starts, .ref a_into_lengths, .int into_count_46, .int into_filled_50])), (a_into_starts, .inl (g 0, 200, .inl into_starts_47)), (a_into_lengths, .inl (g 0, 200, .inl into_lengths_52)), (a_into_ranks, .inl (g 0, 100, .inl into_ranks_51))]) (w1 := [(a_this, .inr (8, [.ref a_memory, .ref a_runOf, .int held_13])), (a_memory, .inl (g 0, 50, .inl memory_63)), (a_runOf, .inl (g 0, 50, .inl runOf_64))]) hP hD [0, 2, 1] [3, 4, 5, 6, 7, 8] rfl rfl (by decide) (by decide) hk_62 hFc hP1 hD1
                        have hP : va_P (dC, dI) vwCl ([(a_book, .inr (2, [.ref a_book_allKeys, .ref a_book_allMarks, .int book_count])), (a_book_allKeys, .inl (g 0, 200, .inl book_allKeys)), (a_into, .inr (9, [.ref a_into_ranks, .ref a_into_starts, .ref a_into_lengths, .int into_count_46, .int into_filled_50])), (a_into_starts, .inl (g 0, 200, .inl into_starts_47)), (a_into_lengths, .inl (g 0, 200, .inl into_lengths_52)), (a_into_ranks, .inl (g 0, 100, .inl into_ranks_51)), (a_this, .inr (8, [.ref a_memory, .ref a_runOf, .int held_13])), (a_memory, .inl (g 0, 50, .inl memory_63)), (a_runOf, .inl (g 0, 50, .inl runOf_64))] ++ TPl tp hd (g 0) F_ n_) H_62 := hP
                        have hD : va_D A ([(a_book, .inr (2, [.ref a_book_allKeys, .ref a_book_allMarks, .int book_count])), (a_book_allKeys, .inl (g 0, 200, .inl book_allKeys)), (a_into, .inr (9, [.ref a_into_ranks, .ref a_into_starts, .ref a_into_lengths, .int into_count_46, .int into_filled_50])), (a_into_starts, .inl (g 0, 200, .inl into_starts_47)), (a_into_lengths, .inl (g 0, 200, .inl into_lengths_52)), (a_into_ranks, .inl (g 0, 100, .inl into_ranks_51)), (a_this, .inr (8, [.ref a_memory, .ref a_runOf, .int held_13])), (a_memory, .inl (g 0, 50, .inl memory_63)), (a_runOf, .inl (g 0, 50, .inl runOf_64))] ++ TPl tp hd (g 0) F_ n_) := hD
                        have hw := hw_62
                        obtain ⟨x_65, ex_65⟩ : ∃ y : Int32, y = v6_21 + 1 := ⟨_, rfl⟩
                        have hw := hw x_65 ex_65
                        refine lv_iinc (v := x_65) (lv' := [(6, .int x_65), (0, .ref a_this), (1, .ref a_book), (2, .ref (tp tape)), (3, .int order), (5, .ref a_into), (7, .int v7_41), (8, .int v8_11)]) hx hb dX6_makeByReplacement_193 hl (k := 5) rfl (by rw [ex_65]; rfl) (by decide) rfl (fun ls hl => ?_)
                        refine lv_goto (tgt := 205) hx hb dX6_makeByReplacement_196 (by decide) ?_
                        obtain ⟨x_66, ex_66⟩ : ∃ y : Int32, y = v8_11 + 1 := ⟨_, rfl⟩
                        have hw := hw x_66 ex_66
                        refine lv_iinc (v := x_66) (lv' := [(8, .int x_66), (6, .int x_65), (0, .ref a_this), (1, .ref a_book), (2, .ref (tp tape)), (3, .int order), (5, .ref a_into), (7, .int v7_41)]) hx hb dX6_makeByReplacement_205 hl (k := 7) rfl (by rw [ex_66]; rfl) (by decide) rfl (fun ls hl => ?_)
                        refine lv_goto (tgt := 60) hx hb dX6_makeByReplacement_208 (by decide) ?_
                        exact ih60 x_66 v7_41 held_13 runOf_64 memory_63 into_count_46 into_filled_50 into_starts_47 into_lengths_52 into_ranks_51 x_65 _ _ hw (hP.part [6, 8, 7, 0, 1, 2, 3, 4, 5] rfl) (hD.part [6, 8, 7, 0, 1, 2, 3, 4, 5] (by decide) rfl) hS _ (lv_sub hl [2, 3, 4, 5, 6, 1, 7, 0] rfl)
                      refine lv_icmp_ge (tgt := 188) hx hb dX6_makeByReplacement_178 (by decide) (fun c_67 => ?_) (fun c_67 => ?_)
                      · have hw := hw.1 c_67
                        refine lv_iload hx hb dX6_makeByReplacement_188 (lv_at hl 7 rfl) ?_
                        exact JN190 v7_41 _ _ hw (hP.part [0, 1, 2, 3, 4, 6, 5, 8, 7] rfl) (hD.part [0, 1, 2, 3, 4, 6, 5, 8, 7] (by decide) rfl) hS _ (lv_sub hl [1, 2, 3, 4, 5, 6, 7, 8] rfl)
                      · have hw := hw.2 c_67
                        refine lv_iload hx hb dX6_makeByReplacement_181 (lv_at hl 7 rfl) ?_
                        refine lv_iconst (v := 1) hx hb dX6_makeByReplacement_183 (by decide) ?_
                        refine lv_iadd hx hb dX6_makeByReplacement_184 ?_
                        refine lv_topi (fun x_68 ex_68 => ?_)
                        have hw := hw x_68 ex_68
                        refine lv_goto (tgt := 190) hx hb dX6_makeByReplacement_185 (by decide) ?_
                        exact JN190 x_68 _ _ hw (hP.part [0, 1, 2, 3, 4, 6, 5, 8, 7] rfl) (hD.part [0, 1, 2, 3, 4, 6, 5, 8, 7] (by decide) rfl) hS _ (lv_sub hl [1, 2, 3, 4, 5, 6, 7, 8] rfl)
                  refine lv_icmp_gt (tgt := 140) hx hb dX6_makeByReplacement_132 (by decide) (fun c_69 => ?_) (fun c_69 => ?_)
                  · have hw := hw.1 c_69
                    exact JN140 into_count_16 into_starts_18 into_lengths_19 _ _ hw (hP.part [0, 1, 2, 3, 4, 5, 6, 7, 8] rfl) (hD.part [0, 1, 2, 3, 4, 5, 6, 7, 8] (by decide) rfl) hS _ (lv_sub hl [1, 2, 3, 4, 5, 6, 7, 8, 9, 0] rfl)
                  · have hw := hw.2 c_69
                    refine lv_aload hx hb dX6_makeByReplacement_135 (lv_at hl 5 rfl) ?_
                    have hPc := hP.sub (ws' := [(a_into, .inr (9, [.ref a_into_ranks, .ref a_into_starts, .ref a_into_lengths, .int into_count_16, .int into_filled_17])), (a_into_starts, .inl (g 0, 200, .inl into_starts_18)), (a_into_lengths, .inl (g 0, 200, .inl into_lengths_19))]) [5, 6, 7] rfl
                    have hDc := hD.sub (ws' := [(a_into, .inr (9, [.ref a_into_ranks, .ref a_into_starts, .ref a_into_lengths, .int into_count_16, .int into_filled_17])), (a_into_starts, .inl (g 0, 200, .inl into_starts_18)), (a_into_lengths, .inl (g 0, 200, .inl into_lengths_19))]) [5, 6, 7] (by decide) rfl
                    have hFc := va_free (wc := [(a_into, .inr (9, [.ref a_into_ranks, .ref a_into_starts, .ref a_into_lengths, .int into_count_16, .int into_filled_17])), (a_into_starts, .inl (g 0, 200, .inl into_starts_18)), (a_into_lengths, .inl (g 0, 200, .inl into_lengths_19))]) hD hS hA [5, 6, 7] rfl
                    refine va_callv (va_runV (As := []) (rest := []) ⟨hx, hb, hml, hown, hts⟩ (c_X7_openRun l dC dI g (a_this := a_into) (a_ranks := a_into_ranks) (a_starts := a_into_starts) (a_lengths := a_into_lengths) (count := into_count_16) (filled := into_filled_17) (starts := into_starts_18) (lengths := into_lengths_19) (hw := hw) (sz := H.size)) (cwV 0 hts (gqV aw_3_206 aw_3_207 aw_3_208 aw_1_6 aw_3_209) rfl rfl rfl (by decide +kernel) ⟨Nat.le_of_ble_eq_true rfl, Nat.le_of_ble_eq_true rfl⟩) ⟨PG_blind, va_recv hK hP (ci := 9) (q0 := 5) rfl rfl, PG_call hK hG hS hPc hDc hFc⟩ rfl rfl hl.1 rfl (lv_room (Nat.le_of_ble_eq_true rfl)) dX6_makeByReplacement_137 ⟨Nat.le_of_ble_eq_true rfl, Nat.le_of_ble_eq_true rfl⟩) hS (fun q _ h => hFc q h) hFc (fun u_70 t_70 H_70 L_70 ht_70 hvm_70 hw_70 hB_70 hz_70 hk_70 hS => ?_)
                    obtain ⟨into_count_71, into_starts_72, into_lengths_73, u_70⟩ := u_70
                    obtain ⟨hP1, hD1⟩ := hB_70
                    rw [ht_70] at hP1
                    obtain ⟨hP, hD⟩ := va_joinQ (wr := [(a_this, .inr (8, [.ref a_memory, .ref a_runOf, .int held_13])), (a_runOf, .inl (g 0, 50, .inl runOf_14)), (a_memory, .inl (g 0, 50, .inl memory_15)), (a_book, .inr (2, [.ref a_book_allKeys, .ref a_book_allMarks, .int book_count])), (a_book_allKeys, .inl (g 0, 200, .inl book_allKeys)), (a_into_ranks, .inl (g 0, 100, .inl into_ranks_20))]) (w1 := [(a_into, .inr (9, [.ref a_into_ranks, .ref a_into_starts, .ref a_into_lengths, .int into_count_71, .int into_filled_17])), (a_into_starts, .inl (g 0, 200, .inl into_starts_72)), (a_into_lengths, .inl (g 0, 200, .inl into_lengths_73))]) hP hD [5, 6, 7] [0, 1, 2, 3, 4, 8] rfl rfl (by decide) (by decide) hk_70 hFc hP1 hD1
                    have hP : va_P (dC, dI) vwCl ([(a_this, .inr (8, [.ref a_memory, .ref a_runOf, .int held_13])), (a_runOf, .inl (g 0, 50, .inl runOf_14)), (a_memory, .inl (g 0, 50, .inl memory_15)), (a_book, .inr (2, [.ref a_book_allKeys, .ref a_book_allMarks, .int book_count])), (a_book_allKeys, .inl (g 0, 200, .inl book_allKeys)), (a_into_ranks, .inl (g 0, 100, .inl into_ranks_20)), (a_into, .inr (9, [.ref a_into_ranks, .ref a_into_starts, .ref a_into_lengths, .int into_count_71, .int into_filled_17])), (a_into_starts, .inl (g 0, 200, .inl into_starts_72)), (a_into_lengths, .inl (g 0, 200, .inl into_lengths_73))] ++ TPl tp hd (g 0) F_ n_) H_70 := hP
                    have hD : va_D A ([(a_this, .inr (8, [.ref a_memory, .ref a_runOf, .int held_13])), (a_runOf, .inl (g 0, 50, .inl runOf_14)), (a_memory, .inl (g 0, 50, .inl memory_15)), (a_book, .inr (2, [.ref a_book_allKeys, .ref a_book_allMarks, .int book_count])), (a_book_allKeys, .inl (g 0, 200, .inl book_allKeys)), (a_into_ranks, .inl (g 0, 100, .inl into_ranks_20)), (a_into, .inr (9, [.ref a_into_ranks, .ref a_into_starts, .ref a_into_lengths, .int into_count_71, .int into_filled_17])), (a_into_starts, .inl (g 0, 200, .inl into_starts_72)), (a_into_lengths, .inl (g 0, 200, .inl into_lengths_73))] ++ TPl tp hd (g 0) F_ n_) := hD
                    have hw := hw_70
                    exact JN140 into_count_71 into_starts_72 into_lengths_73 _ _ hw (hP.part [0, 1, 2, 3, 4, 6, 7, 8, 5] rfl) (hD.part [0, 1, 2, 3, 4, 6, 7, 8, 5] (by decide) rfl) hS _ (lv_sub hl [1, 2, 3, 4, 5, 6, 7, 8, 9, 0] rfl)
                · have hw := hw.2 c_44
                  exact EX60_115 held_13 runOf_14 memory_15 into_count_16 into_filled_17 into_starts_18 into_lengths_19 into_ranks_20 _ _ hw (hP.part [0, 1, 2, 3, 4, 5, 6, 7, 8] rfl) (hD.part [0, 1, 2, 3, 4, 5, 6, 7, 8] (by decide) rfl) hS _ (lv_sub hl [] rfl)
          refine lv_icmp_ne (tgt := 94) hx hb dX6_makeByReplacement_80 (by decide) (fun c_74 => ?_) (fun c_74 => ?_)
          · have hw := hw.2 c_74
            exact JN94 r_39 v7_12 _ _ hw (hP.part [0, 1, 2, 3, 4, 5, 6, 7, 8] rfl) (hD.part [0, 1, 2, 3, 4, 5, 6, 7, 8] (by decide) rfl) hS _ (lv_sub hl [1, 2, 3, 4, 5, 6, 7, 8, 0] rfl)
          · have hw := hw.1 c_74
            obtain ⟨x_75, ex_75⟩ : ∃ y : Int32, y = v7_12 + 1 := ⟨_, rfl⟩
            have hw := hw x_75 ex_75
            refine lv_iinc (v := x_75) (lv' := [(7, .int x_75), (9, .int r_39), (0, .ref a_this), (1, .ref a_book), (2, .ref (tp tape)), (3, .int order), (5, .ref a_into), (6, .int v6_21), (8, .int v8_11)]) hx hb dX6_makeByReplacement_83 hl (k := 7) rfl (by rw [ex_75]; rfl) (by decide) rfl (fun ls hl => ?_)
            refine lv_aload_n hx hb dX6_makeByReplacement_86 rfl (lv_at hl 2 rfl) ?_
            refine lv_iload hx hb dX6_makeByReplacement_87 (lv_at hl 0 rfl) ?_
            refine va_calli (va_runV (As := [.int x_75]) (rest := []) ⟨hx, hb, hml, hown, hts⟩ (c_X6_leastOf l dC dI g (Wd := ([(a_this, .inr (8, [.ref a_memory, .ref a_runOf, .int held_13])), (a_runOf, .inl (g 0, 50, .inl runOf_14)), (a_memory, .inl (g 0, 50, .inl memory_15)), (a_book, .inr (2, [.ref a_book_allKeys, .ref a_book_allMarks, .int book_count])), (a_book_allKeys, .inl (g 0, 200, .inl book_allKeys)), (a_into, .inr (9, [.ref a_into_ranks, .ref a_into_starts, .ref a_into_lengths, .int into_count_16, .int into_filled_17])), (a_into_starts, .inl (g 0, 200, .inl into_starts_18)), (a_into_lengths, .inl (g 0, 200, .inl into_lengths_19)), (a_into_ranks, .inl (g 0, 100, .inl into_ranks_20))] ++ TPl tp hd (g 0) F_ n_)) (a_this := a_this) (a_memory := a_memory) (a_runOf := a_runOf) (held := held_13) (runOf := runOf_14) (memory := memory_15) (run := x_75) (k_this := 0) (w_this := rfl) (k_runOf := 1) (w_runOf := rfl) (k_memory := 2) (w_memory := rfl) (hw := hw) (sz := H_39.size)) (cwV 1 hts (gqV aw_3_222 aw_3_224 aw_0_8 aw_1_5 aw_3_225) rfl rfl rfl (by decide +kernel) ⟨Nat.le_of_ble_eq_true rfl, Nat.le_of_ble_eq_true rfl⟩) ⟨PG_blind, va_recv hK hP (ci := 8) (q0 := 0) rfl rfl, PG_call hK hG hS hP hD (A_all hD hA hS.1)⟩ rfl rfl hl.1 rfl (lv_room (Nat.le_of_ble_eq_true rfl)) dX6_makeByReplacement_89 ⟨Nat.le_of_ble_eq_true rfl, Nat.le_of_ble_eq_true rfl⟩) hS (fun q _ h => (A_all hD hA hS.1) q h) (A_all hD hA hS.1) (fun r_76 u_76 t_76 H_76 L_76 ht_76 hvm_76 hw_76 hB_76 hz_76 hk_76 hS => ?_)
            rw [ht_76] at hB_76
            have hP : va_P (dC, dI) vwCl ([(a_this, .inr (8, [.ref a_memory, .ref a_runOf, .int held_13])), (a_runOf, .inl (g 0, 50, .inl runOf_14)), (a_memory, .inl (g 0, 50, .inl memory_15)), (a_book, .inr (2, [.ref a_book_allKeys, .ref a_book_allMarks, .int book_count])), (a_book_allKeys, .inl (g 0, 200, .inl book_allKeys)), (a_into, .inr (9, [.ref a_into_ranks, .ref a_into_starts, .ref a_into_lengths, .int into_count_16, .int into_filled_17])), (a_into_starts, .inl (g 0, 200, .inl into_starts_18)), (a_into_lengths, .inl (g 0, 200, .inl into_lengths_19)), (a_into_ranks, .inl (g 0, 100, .inl into_ranks_20))] ++ TPl tp hd (g 0) F_ n_) H_76 := hB_76
            have hw := hw_76
            refine lv_istore (lv' := [(9, .int r_76), (7, .int x_75), (0, .ref a_this), (1, .ref a_book), (2, .ref (tp tape)), (3, .int order), (5, .ref a_into), (6, .int v6_21), (8, .int v8_11)]) hx hb dX6_makeByReplacement_92 hl (by decide) rfl (fun ls hl => ?_)
            exact JN94 r_76 x_75 _ _ hw (hP.part [0, 1, 2, 3, 4, 5, 6, 7, 8] rfl) (hD.part [0, 1, 2, 3, 4, 5, 6, 7, 8] (by decide) rfl) hS _ (lv_sub hl [2, 3, 4, 5, 6, 7, 1, 8, 0] rfl)
    obtain ⟨n60, hw⟩ := hw
    exact LOOP60 n60 0 0 v6_6 runOf_7 memory_8 into_count into_filled into_starts into_lengths into_ranks v6_6 _ _ hw (hP.part [0, 1, 2, 3, 4, 5, 6, 7, 8] rfl) (hD.part [0, 1, 2, 3, 4, 5, 6, 7, 8] (by decide) rfl) hS _ (lv_sub hl [2, 3, 4, 5, 6, 7, 1, 0] rfl)
  have LOOP8 : ∀ (n8 : Nat) (v6_3 : Int32) (runOf_4 : Nat → Int32) (memory_5 : Nat → Int32) (H : Heap) (locs : List Loc), wl_X6_makeByReplacement_8 book_allKeys tape order room F_ n_ (wx_X6_makeByReplacement_8_48 book_allKeys into_count into_filled into_starts into_lengths into_ranks tape order F_ n_ Q) n8 v6_3 runOf_4 memory_5 → va_P (dC, dI) vwCl ([(a_this, .inr (8, [.ref a_memory, .ref a_runOf, .int 0])), (a_runOf, .inl (g 0, 50, .inl runOf_4)), (a_memory, .inl (g 0, 50, .inl memory_5)), (a_book, .inr (2, [.ref a_book_allKeys, .ref a_book_allMarks, .int book_count])), (a_book_allKeys, .inl (g 0, 200, .inl book_allKeys)), (a_into, .inr (9, [.ref a_into_ranks, .ref a_into_starts, .ref a_into_lengths, .int into_count, .int into_filled])), (a_into_starts, .inl (g 0, 200, .inl into_starts)), (a_into_lengths, .inl (g 0, 200, .inl into_lengths)), (a_into_ranks, .inl (g 0, 100, .inl into_ranks))] ++ TPl tp hd (g 0) F_ n_) H → va_D A ([(a_this, .inr (8, [.ref a_memory, .ref a_runOf, .int 0])), (a_runOf, .inl (g 0, 50, .inl runOf_4)), (a_memory, .inl (g 0, 50, .inl memory_5)), (a_book, .inr (2, [.ref a_book_allKeys, .ref a_book_allMarks, .int book_count])), (a_book_allKeys, .inl (g 0, 200, .inl book_allKeys)), (a_into, .inr (9, [.ref a_into_ranks, .ref a_into_starts, .ref a_into_lengths, .int into_count, .int into_filled])), (a_into_starts, .inl (g 0, 200, .inl into_starts)), (a_into_lengths, .inl (g 0, 200, .inl into_lengths)), (a_into_ranks, .inl (g 0, 100, .inl into_ranks))] ++ TPl tp hd (g 0) F_ n_) → va_S A s.heap H locs → ∀ (ls : Array Slot), lv_has ls 12 [(0, .ref a_this), (1, .ref a_book), (2, .ref (tp tape)), (3, .int order), (4, .int room), (5, .ref a_into), (6, .int v6_3)] → W p l e (headSpec wqX6_makeByReplacement ({ frames := 1, cells := 0, slots := 0, locals := 23 })).room s m ([.ref a_this, .ref a_book, .ref (tp tape), .int order, .int room, .ref a_into] : List Value).toArray below meth c H locs 0 0 QM (F0 m 8 ls []) := by
    intro n8
    induction n8 with
    | zero =>
      intro v6_3 runOf_4 memory_5 H locs hw hP hD hS ls hl
      exact False.elim hw
    | succ n8 ih8 =>
      intro v6_3 runOf_4 memory_5 H locs hw hP hD hS ls hl
      rw [wl_X6_makeByReplacement_8_s] at hw
      refine lv_iload hx hb dX6_makeByReplacement_8 (lv_at hl 6 rfl) ?_
      refine lv_aload_n hx hb dX6_makeByReplacement_10 rfl (lv_at hl 2 rfl) ?_
      refine va_getN (D := (dC, dI)) (ci := 11) (v := .int (n_ tape)) (C := RX9) (T := TX9) (N := 2) hx hb hts hiX9 hown hK hP _ (TP_o hj_tape) rfl 1 (by decide) (nf_2 hG) (fun _ h9 => h9) rfl dX6_makeByReplacement_11 ?_
      refine lv_icmp_ge (tgt := 48) hx hb dX6_makeByReplacement_14 (by decide) (fun c_77 => ?_) (fun c_77 => ?_)
      · have hw := hw.1 c_77
        exact EX8_48 v6_3 runOf_4 memory_5 _ _ hw (hP.part [0, 1, 2, 3, 4, 5, 6, 7, 8] rfl) (hD.part [0, 1, 2, 3, 4, 5, 6, 7, 8] (by decide) rfl) hS _ (lv_sub hl [0, 1, 2, 3, 5, 6] rfl)
      · have hw := hw.2 c_77
        refine lv_iload hx hb dX6_makeByReplacement_17 (lv_at hl 6 rfl) ?_
        refine lv_iload hx hb dX6_makeByReplacement_19 (lv_at hl 4 rfl) ?_
        refine lv_icmp_ge (tgt := 48) hx hb dX6_makeByReplacement_21 (by decide) (fun c_78 => ?_) (fun c_78 => ?_)
        · have hw := hw.1 c_78
          exact EX8_48 v6_3 runOf_4 memory_5 _ _ hw (hP.part [0, 1, 2, 3, 4, 5, 6, 7, 8] rfl) (hD.part [0, 1, 2, 3, 4, 5, 6, 7, 8] (by decide) rfl) hS _ (lv_sub hl [0, 1, 2, 3, 5, 6] rfl)
        · have hw := hw.2 c_78
          refine lv_aload_n hx hb dX6_makeByReplacement_24 rfl (lv_at hl 0 rfl) ?_
          refine lv_iload hx hb dX6_makeByReplacement_25 (lv_at hl 6 rfl) ?_
          refine lv_aload_n hx hb dX6_makeByReplacement_27 rfl (lv_at hl 1 rfl) ?_
          refine lv_aload_n hx hb dX6_makeByReplacement_28 rfl (lv_at hl 2 rfl) ?_
          refine lv_iload hx hb dX6_makeByReplacement_29 (lv_at hl 6 rfl) ?_
          refine va_calli (va_runV (As := [.int v6_3]) (rest := [.ref a_book, .int v6_3, .ref a_this]) ⟨hx, hb, hml, hown, hts⟩ (c_X9_recordAt l dC dI g tp hd (Wd := ([(a_this, .inr (8, [.ref a_memory, .ref a_runOf, .int 0])), (a_runOf, .inl (g 0, 50, .inl runOf_4)), (a_memory, .inl (g 0, 50, .inl memory_5)), (a_book, .inr (2, [.ref a_book_allKeys, .ref a_book_allMarks, .int book_count])), (a_book_allKeys, .inl (g 0, 200, .inl book_allKeys)), (a_into, .inr (9, [.ref a_into_ranks, .ref a_into_starts, .ref a_into_lengths, .int into_count, .int into_filled])), (a_into_starts, .inl (g 0, 200, .inl into_starts)), (a_into_lengths, .inl (g 0, 200, .inl into_lengths)), (a_into_ranks, .inl (g 0, 100, .inl into_ranks))] ++ TPl tp hd (g 0) F_ n_)) (F_ := F_) (n_ := n_) (j := tape) (place := v6_3) (hj_j := hj_tape) (kT := _) (hT := TP_at) (hw := hw) (sz := H.size)) (cwV 1 hts (gqV aw_3_197 aw_3_171 aw_3_172 aw_1_3 aw_3_173) rfl rfl rfl (by decide +kernel) ⟨Nat.le_of_ble_eq_true rfl, Nat.le_of_ble_eq_true rfl⟩) ⟨PG_blind, va_recv hK hP (ci := 11) (q0 := _) rfl (TP_o hj_tape), PG_call hK hG hS hP hD (A_all hD hA hS.1)⟩ rfl rfl hl.1 rfl (lv_room (Nat.le_of_ble_eq_true rfl)) dX6_makeByReplacement_31 ⟨Nat.le_of_ble_eq_true rfl, Nat.le_of_ble_eq_true rfl⟩) hS (fun q _ h => (A_all hD hA hS.1) q h) (A_all hD hA hS.1) (fun r_79 u_79 t_79 H_79 L_79 ht_79 hvm_79 hw_79 hB_79 hz_79 hk_79 hS => ?_)
          rw [ht_79] at hB_79
          have hP : va_P (dC, dI) vwCl ([(a_this, .inr (8, [.ref a_memory, .ref a_runOf, .int 0])), (a_runOf, .inl (g 0, 50, .inl runOf_4)), (a_memory, .inl (g 0, 50, .inl memory_5)), (a_book, .inr (2, [.ref a_book_allKeys, .ref a_book_allMarks, .int book_count])), (a_book_allKeys, .inl (g 0, 200, .inl book_allKeys)), (a_into, .inr (9, [.ref a_into_ranks, .ref a_into_starts, .ref a_into_lengths, .int into_count, .int into_filled])), (a_into_starts, .inl (g 0, 200, .inl into_starts)), (a_into_lengths, .inl (g 0, 200, .inl into_lengths)), (a_into_ranks, .inl (g 0, 100, .inl into_ranks))] ++ TPl tp hd (g 0) F_ n_) H_79 := hB_79
          have hw := hw_79
          refine lv_iload_n hx hb dX6_makeByReplacement_34 rfl (lv_at hl 3 rfl) ?_
          refine va_calli (va_runV (As := [.int r_79, .int order]) (rest := [.int v6_3, .ref a_this]) ⟨hx, hb, hml, hown, hts⟩ (c_X0_rankOf l dC dI g (Wd := ([(a_this, .inr (8, [.ref a_memory, .ref a_runOf, .int 0])), (a_runOf, .inl (g 0, 50, .inl runOf_4)), (a_memory, .inl (g 0, 50, .inl memory_5)), (a_book, .inr (2, [.ref a_book_allKeys, .ref a_book_allMarks, .int book_count])), (a_book_allKeys, .inl (g 0, 200, .inl book_allKeys)), (a_into, .inr (9, [.ref a_into_ranks, .ref a_into_starts, .ref a_into_lengths, .int into_count, .int into_filled])), (a_into_starts, .inl (g 0, 200, .inl into_starts)), (a_into_lengths, .inl (g 0, 200, .inl into_lengths)), (a_into_ranks, .inl (g 0, 100, .inl into_ranks))] ++ TPl tp hd (g 0) F_ n_)) (a_this := a_book) (a_allKeys := a_book_allKeys) (a_allMarks := a_book_allMarks) (count := book_count) (allKeys := book_allKeys) (record := r_79) (order := order) (k_this := 3) (w_this := rfl) (k_allKeys := 4) (w_allKeys := rfl) (hw := hw) (sz := H_79.size)) (cwV 2 hts (gqV aw_3_198 aw_3_199 aw_3_200 aw_1_2 aw_3_201) rfl rfl rfl (by decide +kernel) ⟨Nat.le_of_ble_eq_true rfl, Nat.le_of_ble_eq_true rfl⟩) ⟨PG_blind, va_recv hK hP (ci := 2) (q0 := 3) rfl rfl, PG_call hK hG hS hP hD (A_all hD hA hS.1)⟩ rfl rfl hl.1 rfl (lv_room (Nat.le_of_ble_eq_true rfl)) dX6_makeByReplacement_35 ⟨Nat.le_of_ble_eq_true rfl, Nat.le_of_ble_eq_true rfl⟩) hS (fun q _ h => (A_all hD hA hS.1) q h) (A_all hD hA hS.1) (fun r_80 u_80 t_80 H_80 L_80 ht_80 hvm_80 hw_80 hB_80 hz_80 hk_80 hS => ?_)
          rw [ht_80] at hB_80
          have hP : va_P (dC, dI) vwCl ([(a_this, .inr (8, [.ref a_memory, .ref a_runOf, .int 0])), (a_runOf, .inl (g 0, 50, .inl runOf_4)), (a_memory, .inl (g 0, 50, .inl memory_5)), (a_book, .inr (2, [.ref a_book_allKeys, .ref a_book_allMarks, .int book_count])), (a_book_allKeys, .inl (g 0, 200, .inl book_allKeys)), (a_into, .inr (9, [.ref a_into_ranks, .ref a_into_starts, .ref a_into_lengths, .int into_count, .int into_filled])), (a_into_starts, .inl (g 0, 200, .inl into_starts)), (a_into_lengths, .inl (g 0, 200, .inl into_lengths)), (a_into_ranks, .inl (g 0, 100, .inl into_ranks))] ++ TPl tp hd (g 0) F_ n_) H_80 := hB_80
          have hw := hw_80
          refine lv_iconst (v := 0) hx hb dX6_makeByReplacement_38 (by decide) ?_
          have hPc := hP.sub (ws' := [(a_this, .inr (8, [.ref a_memory, .ref a_runOf, .int 0])), (a_memory, .inl (g 0, 50, .inl memory_5)), (a_runOf, .inl (g 0, 50, .inl runOf_4))]) [0, 2, 1] rfl
          have hDc := hD.sub (ws' := [(a_this, .inr (8, [.ref a_memory, .ref a_runOf, .int 0])), (a_memory, .inl (g 0, 50, .inl memory_5)), (a_runOf, .inl (g 0, 50, .inl runOf_4))]) [0, 2, 1] (by decide) rfl
          have hFc := va_free (wc := [(a_this, .inr (8, [.ref a_memory, .ref a_runOf, .int 0])), (a_memory, .inl (g 0, 50, .inl memory_5)), (a_runOf, .inl (g 0, 50, .inl runOf_4))]) hD hS hA [0, 2, 1] rfl
          refine va_callv (va_runV (As := [.int v6_3, .int r_80, .int 0]) (rest := []) ⟨hx, hb, hml, hown, hts⟩ (c_X6_hold l dC dI g (a_this := a_this) (a_memory := a_memory) (a_runOf := a_runOf) (held := 0) (memory := memory_5) (runOf := runOf_4) (slot := v6_3) (rank := r_80) (run := 0) (hw := hw) (sz := H_80.size)) (cwV 3 hts (gqV aw_3_218 aw_3_220 aw_0_7 aw_1_5 aw_3_221) rfl rfl rfl (by decide +kernel) ⟨Nat.le_of_ble_eq_true rfl, Nat.le_of_ble_eq_true rfl⟩) ⟨PG_blind, va_recv hK hP (ci := 8) (q0 := 0) rfl rfl, PG_call hK hG hS hPc hDc hFc⟩ rfl rfl hl.1 rfl (lv_room (Nat.le_of_ble_eq_true rfl)) dX6_makeByReplacement_39 ⟨Nat.le_of_ble_eq_true rfl, Nat.le_of_ble_eq_true rfl⟩) hS (fun q _ h => hFc q h) hFc (fun u_81 t_81 H_81 L_81 ht_81 hvm_81 hw_81 hB_81 hz_81 hk_81 hS => ?_)
          obtain ⟨memory_82, runOf_83, u_81⟩ := u_81
          obtain ⟨hP1, hD1⟩ := hB_81
          rw [ht_81] at hP1
          obtain ⟨hP, hD⟩ := va_joinQ (wr := [(a_book, .inr (2, [.ref a_book_allKeys, .ref a_book_allMarks, .int book_count])), (a_book_allKeys, .inl (g 0, 200, .inl book_allKeys)), (a_into, .inr (9, [.ref a_into_ranks, .ref a_into_starts, .ref a_into_lengths, .int into_count, .int into_filled])), (a_into_starts, .inl (g 0, 200, .inl into_starts)), (a_into_lengths, .inl (g 0, 200, .inl into_lengths)), (a_into_ranks, .inl (g 0, 100, .inl into_ranks))]) (w1 := [(a_this, .inr (8, [.ref a_memory, .ref a_runOf, .int 0])), (a_memory, .inl (g 0, 50, .inl memory_82)), (a_runOf, .inl (g 0, 50, .inl runOf_83))]) hP hD [0, 2, 1] [3, 4, 5, 6, 7, 8] rfl rfl (by decide) (by decide) hk_81 hFc hP1 hD1
          have hP : va_P (dC, dI) vwCl ([(a_book, .inr (2, [.ref a_book_allKeys, .ref a_book_allMarks, .int book_count])), (a_book_allKeys, .inl (g 0, 200, .inl book_allKeys)), (a_into, .inr (9, [.ref a_into_ranks, .ref a_into_starts, .ref a_into_lengths, .int into_count, .int into_filled])), (a_into_starts, .inl (g 0, 200, .inl into_starts)), (a_into_lengths, .inl (g 0, 200, .inl into_lengths)), (a_into_ranks, .inl (g 0, 100, .inl into_ranks)), (a_this, .inr (8, [.ref a_memory, .ref a_runOf, .int 0])), (a_memory, .inl (g 0, 50, .inl memory_82)), (a_runOf, .inl (g 0, 50, .inl runOf_83))] ++ TPl tp hd (g 0) F_ n_) H_81 := hP
          have hD : va_D A ([(a_book, .inr (2, [.ref a_book_allKeys, .ref a_book_allMarks, .int book_count])), (a_book_allKeys, .inl (g 0, 200, .inl book_allKeys)), (a_into, .inr (9, [.ref a_into_ranks, .ref a_into_starts, .ref a_into_lengths, .int into_count, .int into_filled])), (a_into_starts, .inl (g 0, 200, .inl into_starts)), (a_into_lengths, .inl (g 0, 200, .inl into_lengths)), (a_into_ranks, .inl (g 0, 100, .inl into_ranks)), (a_this, .inr (8, [.ref a_memory, .ref a_runOf, .int 0])), (a_memory, .inl (g 0, 50, .inl memory_82)), (a_runOf, .inl (g 0, 50, .inl runOf_83))] ++ TPl tp hd (g 0) F_ n_) := hD
          have hw := hw_81
          obtain ⟨x_84, ex_84⟩ : ∃ y : Int32, y = v6_3 + 1 := ⟨_, rfl⟩
          have hw := hw x_84 ex_84
          refine lv_iinc (v := x_84) (lv' := [(6, .int x_84), (0, .ref a_this), (1, .ref a_book), (2, .ref (tp tape)), (3, .int order), (4, .int room), (5, .ref a_into)]) hx hb dX6_makeByReplacement_42 hl (k := 6) rfl (by rw [ex_84]; rfl) (by decide) rfl (fun ls hl => ?_)
          refine lv_goto (tgt := 8) hx hb dX6_makeByReplacement_45 (by decide) ?_
          exact ih8 x_84 runOf_83 memory_82 _ _ hw (hP.part [6, 8, 7, 0, 1, 2, 3, 4, 5] rfl) (hD.part [6, 8, 7, 0, 1, 2, 3, 4, 5] (by decide) rfl) hS _ (lv_sub hl [1, 2, 3, 4, 5, 6, 0] rfl)
  obtain ⟨n8, hw⟩ := hw
  exact LOOP8 n8 0 runOf memory _ _ hw (hP.part [0, 1, 2, 3, 4, 5, 6, 7, 8] rfl) (hD.part [0, 1, 2, 3, 4, 5, 6, 7, 8] (by decide) rfl) hS _ (lv_sub hl [1, 2, 3, 4, 5, 6, 0] rfl)
theorem dX6_makeNatural_0 : decode cX6_makeNatural 0 = .ok (.iconst 0, 1) := by decide +kernel
theorem dX6_makeNatural_1 : decode cX6_makeNatural 1 = .ok (.istore 5, 2) := by decide +kernel
theorem dX6_makeNatural_3 : decode cX6_makeNatural 3 = .ok (.iconst 0, 1) := by decide +kernel
theorem dX6_makeNatural_4 : decode cX6_makeNatural 4 = .ok (.istore 6, 2) := by decide +kernel
theorem dX6_makeNatural_62 : decode cX6_makeNatural 62 = .ok (.return_, 1) := by decide +kernel
theorem dX6_makeNatural_6 : decode cX6_makeNatural 6 = .ok (.iload 6, 2) := by decide +kernel
theorem dX6_makeNatural_8 : decode cX6_makeNatural 8 = .ok (.aload_n 2, 1) := by decide +kernel
theorem dX6_makeNatural_9 : decode cX6_makeNatural 9 = .ok (.getfield 57, 3) := by decide +kernel
theorem dX6_makeNatural_12 : decode cX6_makeNatural 12 = .ok (.if_icmp .ge 50, 3) := by decide +kernel
theorem dX6_makeNatural_15 : decode cX6_makeNatural 15 = .ok (.aload_n 1, 1) := by decide +kernel
theorem dX6_makeNatural_16 : decode cX6_makeNatural 16 = .ok (.aload_n 2, 1) := by decide +kernel
theorem dX6_makeNatural_17 : decode cX6_makeNatural 17 = .ok (.iload 6, 2) := by decide +kernel
theorem dX6_makeNatural_19 : decode cX6_makeNatural 19 = .ok (.invokevirtual 62, 3) := by decide +kernel
theorem dX6_makeNatural_22 : decode cX6_makeNatural 22 = .ok (.iload_n 3, 1) := by decide +kernel
theorem dX6_makeNatural_23 : decode cX6_makeNatural 23 = .ok (.invokevirtual 66, 3) := by decide +kernel
theorem dX6_makeNatural_26 : decode cX6_makeNatural 26 = .ok (.istore 7, 2) := by decide +kernel
theorem dX6_makeNatural_28 : decode cX6_makeNatural 28 = .ok (.iload 6, 2) := by decide +kernel
theorem dX6_makeNatural_40 : decode cX6_makeNatural 40 = .ok (.aload 4, 2) := by decide +kernel
theorem dX6_makeNatural_42 : decode cX6_makeNatural 42 = .ok (.invokevirtual 75, 3) := by decide +kernel
theorem dX6_makeNatural_45 : decode cX6_makeNatural 45 = .ok (.aload 4, 2) := by decide +kernel
theorem dX6_makeNatural_47 : decode cX6_makeNatural 47 = .ok (.iload 7, 2) := by decide +kernel
theorem dX6_makeNatural_49 : decode cX6_makeNatural 49 = .ok (.invokevirtual 78, 3) := by decide +kernel
theorem dX6_makeNatural_52 : decode cX6_makeNatural 52 = .ok (.iload 7, 2) := by decide +kernel
theorem dX6_makeNatural_54 : decode cX6_makeNatural 54 = .ok (.istore 5, 2) := by decide +kernel
theorem dX6_makeNatural_56 : decode cX6_makeNatural 56 = .ok (.iinc 6 1, 3) := by decide +kernel
theorem dX6_makeNatural_59 : decode cX6_makeNatural 59 = .ok (.goto (-53), 3) := by decide +kernel
theorem dX6_makeNatural_30 : decode cX6_makeNatural 30 = .ok (.ifCond .eq 10, 3) := by decide +kernel
theorem dX6_makeNatural_33 : decode cX6_makeNatural 33 = .ok (.iload 7, 2) := by decide +kernel
theorem dX6_makeNatural_35 : decode cX6_makeNatural 35 = .ok (.iload 5, 2) := by decide +kernel
theorem dX6_makeNatural_37 : decode cX6_makeNatural 37 = .ok (.if_icmp .ge 8, 3) := by decide +kernel
abbrev Wa_X6_makeNatural (g : Nat → ClassId) (tp : Nat → Nat) (hd : Nat → Nat) (a_book : Nat) (a_into : Nat) (a_book_allKeys : Nat) (a_book_allMarks : Nat) (book_count : Int32) (book_allKeys : Nat → Int32) (a_into_ranks : Nat) (a_into_starts : Nat) (a_into_lengths : Nat) (into_count : Int32) (into_filled : Int32) (into_starts : Nat → Int32) (into_lengths : Nat → Int32) (into_ranks : Nat → Int32) (F_ : Nat → Nat → Int32) (n_ : Nat → Int32) : va_W := ([(a_book, .inr (2, [.ref a_book_allKeys, .ref a_book_allMarks, .int book_count])), (a_book_allKeys, .inl (g 0, 200, .inl book_allKeys)), (a_into, .inr (9, [.ref a_into_ranks, .ref a_into_starts, .ref a_into_lengths, .int into_count, .int into_filled])), (a_into_starts, .inl (g 0, 200, .inl into_starts)), (a_into_lengths, .inl (g 0, 200, .inl into_lengths)), (a_into_ranks, .inl (g 0, 100, .inl into_ranks))] ++ TPl tp hd (g 0) F_ n_)
abbrev Wb_X6_makeNatural (g : Nat → ClassId) (tp : Nat → Nat) (hd : Nat → Nat) (a_book : Nat) (a_into : Nat) (a_book_allKeys : Nat) (a_book_allMarks : Nat) (book_count : Int32) (book_allKeys : Nat → Int32) (a_into_ranks : Nat) (a_into_starts : Nat) (a_into_lengths : Nat) (F_ : Nat → Nat → Int32) (n_ : Nat → Int32) (u : Int32 × Int32 × (Nat → Int32) × (Nat → Int32) × (Nat → Int32) × Unit) : va_W := ([(a_book, .inr (2, [.ref a_book_allKeys, .ref a_book_allMarks, .int book_count])), (a_book_allKeys, .inl (g 0, 200, .inl book_allKeys)), (a_into, .inr (9, [.ref a_into_ranks, .ref a_into_starts, .ref a_into_lengths, .int u.1, .int u.2.1])), (a_into_starts, .inl (g 0, 200, .inl u.2.2.1)), (a_into_lengths, .inl (g 0, 200, .inl u.2.2.2.1)), (a_into_ranks, .inl (g 0, 100, .inl u.2.2.2.2.1))] ++ TPl tp hd (g 0) F_ n_)
set_option maxHeartbeats 8000000 in
set_option maxRecDepth 100000 in
theorem c_X6_makeNatural (l : Launch) (dC : Nat → ClassId) (dI : Nat → Nat → Nat) (g : Nat → ClassId) (tp hd : Nat → Nat) (a_this : Nat) (a_book : Nat) (a_into : Nat) (a_book_allKeys : Nat) (a_book_allMarks : Nat) (book_count : Int32) (book_allKeys : Nat → Int32) (a_into_ranks : Nat) (a_into_starts : Nat) (a_into_lengths : Nat) (into_count : Int32) (into_filled : Int32) (into_starts : Nat → Int32) (into_lengths : Nat → Int32) (into_ranks : Nat → Int32) (F_ : Nat → Nat → Int32) (n_ : Nat → Int32) (tape : Nat) (order : Int32) (hj_tape : tape < 18) (Q : Int32 → Int32 → (Nat → Int32) → (Nat → Int32) → (Nat → Int32) → Prop) (hw : wp_X6_makeNatural book_allKeys into_count into_filled into_starts into_lengths into_ranks tape order F_ n_ Q) (sz : Nat) : Met l yX6_makeNatural wqX6_makeNatural ({ frames := 1, cells := 0, slots := 0, locals := 23 }) (va_Pc [.ref a_this, .ref a_book, .ref (tp tape), .int order, .ref a_into] (PG (dC, dI) g (Wa_X6_makeNatural g tp hd a_book a_into a_book_allKeys a_book_allMarks book_count book_allKeys a_into_ranks a_into_starts a_into_lengths into_count into_filled into_starts into_lengths into_ranks F_ n_) sz)) (va_Qv (fun (u : Int32 × Int32 × (Nat → Int32) × (Nat → Int32) × (Nat → Int32) × Unit) => Q u.1 u.2.1 u.2.2.1 u.2.2.2.1 u.2.2.2.2.1) (fun (u : Int32 × Int32 × (Nat → Int32) × (Nat → Int32) × (Nat → Int32) × Unit) t9 => va_P (dC, dI) vwCl (Wb_X6_makeNatural g tp hd a_book a_into a_book_allKeys a_book_allMarks book_count book_allKeys a_into_ranks a_into_starts a_into_lengths F_ n_ u) t9.heap ∧ va_D (va_A (Wa_X6_makeNatural g tp hd a_book a_into a_book_allKeys a_book_allMarks book_count book_allKeys a_into_ranks a_into_starts a_into_lengths into_count into_filled into_starts into_lengths into_ranks F_ n_) sz) (Wb_X6_makeNatural g tp hd a_book a_into a_book_allKeys a_book_allMarks book_count book_allKeys a_into_ranks a_into_starts a_into_lengths F_ n_ u)) (va_A (Wa_X6_makeNatural g tp hd a_book a_into a_book_allKeys a_book_allMarks book_count book_allKeys a_into_ranks a_into_starts a_into_lengths into_count into_filled into_starts into_lengths into_ranks F_ n_) sz)) 0 0 (va_A (Wa_X6_makeNatural g tp hd a_book a_into a_book_allKeys a_book_allMarks book_count book_allKeys a_into_ranks a_into_starts a_into_lengths into_count into_filled into_starts into_lengths into_ranks F_ n_) sz) := by
  refine Met.ofW (cc := cX6_makeNatural) (maxL := 8) (ret := none) (by decide) rfl ?_
  intro p e s m args below meth c s₁ B hml hv
  obtain ⟨rfl, hsz, hP, hK, hD0, hG⟩ := hv
  have hx := B.exec
  have hb := B.bytes
  have hr := B.returns
  have hts := atoms_spec (ws := wqX6_makeNatural) B.pre
  have hown : s.vm.findClass RX6 = some m.cls := findClass_of_methodNamed B.named
  have hlocks := B.notSynchronized
  subst hsz
  have hD := hD0.self (sz := s.heap.size)
  generalize hAe : va_A (Wa_X6_makeNatural g tp hd a_book a_into a_book_allKeys a_book_allMarks book_count book_allKeys a_into_ranks a_into_starts a_into_lengths into_count into_filled into_starts into_lengths into_ranks F_ n_) s.heap.size = A at hD hG ⊢
  have hA : ∀ q : Nat, s.heap.size ≤ q → A q := fun q h => by rw [← hAe]; exact Or.inr h
  have hS : va_S A s.heap s.heap [] := va_S.rf
  have hl := lv_entry ([.ref a_this, .ref a_book, .ref (tp tape), .int order, .ref a_into]) (n := 8) (Nat.le_of_ble_eq_true rfl)
  rw [lg_entry_eq]
  generalize (lg_sl ([.ref a_this, .ref a_book, .ref (tp tape), .int order, .ref a_into]) ++ List.replicate (8 - (lg_sl ([.ref a_this, .ref a_book, .ref (tp tape), .int order, .ref a_into])).length) Slot.unset).toArray = ls at hl ⊢
  have hl : lv_has ls 8 [(0, .ref a_this), (1, .ref a_book), (2, .ref (tp tape)), (3, .int order), (4, .ref a_into)] := hl
  unfold wp_X6_makeNatural at hw
  have hiX9 : ∀ w ∈ u_ws RX9 TX9 2, w ∈ wqX6_makeNatural := fun w h => aw_l (aw_wsX90 w h)
  refine lv_iconst (v := 0) hx hb dX6_makeNatural_0 (by decide) ?_
  refine lv_istore (lv' := [(5, .int 0), (0, .ref a_this), (1, .ref a_book), (2, .ref (tp tape)), (3, .int order), (4, .ref a_into)]) hx hb dX6_makeNatural_1 hl (by decide) rfl (fun ls hl => ?_)
  refine lv_iconst (v := 0) hx hb dX6_makeNatural_3 (by decide) ?_
  refine lv_istore (lv' := [(6, .int 0), (5, .int 0), (0, .ref a_this), (1, .ref a_book), (2, .ref (tp tape)), (3, .int order), (4, .ref a_into)]) hx hb dX6_makeNatural_4 hl (by decide) rfl (fun ls hl => ?_)
  refine W_abs (fun QM hQM => ?_)
  have EX6_62 : ∀ (into_count_8 : Int32) (into_filled_9 : Int32) (into_starts_10 : Nat → Int32) (into_lengths_11 : Nat → Int32) (into_ranks_12 : Nat → Int32) (H : Heap) (locs : List Loc), (wx_X6_makeNatural_6_62 Q) into_count_8 into_filled_9 into_starts_10 into_lengths_11 into_ranks_12 → va_P (dC, dI) vwCl ([(a_book, .inr (2, [.ref a_book_allKeys, .ref a_book_allMarks, .int book_count])), (a_book_allKeys, .inl (g 0, 200, .inl book_allKeys)), (a_into, .inr (9, [.ref a_into_ranks, .ref a_into_starts, .ref a_into_lengths, .int into_count_8, .int into_filled_9])), (a_into_starts, .inl (g 0, 200, .inl into_starts_10)), (a_into_lengths, .inl (g 0, 200, .inl into_lengths_11)), (a_into_ranks, .inl (g 0, 100, .inl into_ranks_12))] ++ TPl tp hd (g 0) F_ n_) H → va_D A ([(a_book, .inr (2, [.ref a_book_allKeys, .ref a_book_allMarks, .int book_count])), (a_book_allKeys, .inl (g 0, 200, .inl book_allKeys)), (a_into, .inr (9, [.ref a_into_ranks, .ref a_into_starts, .ref a_into_lengths, .int into_count_8, .int into_filled_9])), (a_into_starts, .inl (g 0, 200, .inl into_starts_10)), (a_into_lengths, .inl (g 0, 200, .inl into_lengths_11)), (a_into_ranks, .inl (g 0, 100, .inl into_ranks_12))] ++ TPl tp hd (g 0) F_ n_) → va_S A s.heap H locs → ∀ (ls : Array Slot), lv_has ls 8 [] → W p l e (headSpec wqX6_makeNatural ({ frames := 1, cells := 0, slots := 0, locals := 23 })).room s m ([.ref a_this, .ref a_book, .ref (tp tape), .int order, .ref a_into] : List Value).toArray below meth c H locs 0 0 QM (F0 m 62 ls []) := by
    intro into_count_8 into_filled_9 into_starts_10 into_lengths_11 into_ranks_12 H locs hw hP hD hS ls hl
    subst hQM
    have hP9 := va_P.part (cx := [(a_book, .inr (2, [.ref a_book_allKeys, .ref a_book_allMarks, .int book_count])), (a_book_allKeys, .inl (g 0, 200, .inl book_allKeys)), (a_into, .inr (9, [.ref a_into_ranks, .ref a_into_starts, .ref a_into_lengths, .int into_count_8, .int into_filled_9])), (a_into_starts, .inl (g 0, 200, .inl into_starts_10)), (a_into_lengths, .inl (g 0, 200, .inl into_lengths_11)), (a_into_ranks, .inl (g 0, 100, .inl into_ranks_12))]) hP [0, 1, 2, 3, 4, 5] rfl
    have hD9 := va_D.part (cx := [(a_book, .inr (2, [.ref a_book_allKeys, .ref a_book_allMarks, .int book_count])), (a_book_allKeys, .inl (g 0, 200, .inl book_allKeys)), (a_into, .inr (9, [.ref a_into_ranks, .ref a_into_starts, .ref a_into_lengths, .int into_count_8, .int into_filled_9])), (a_into_starts, .inl (g 0, 200, .inl into_starts_10)), (a_into_lengths, .inl (g 0, 200, .inl into_lengths_11)), (a_into_ranks, .inl (g 0, 100, .inl into_ranks_12))]) hD [0, 1, 2, 3, 4, 5] (by decide) rfl
    exact W.vret hx hb hr (fun t ht hW => ⟨⟨(into_count_8, into_filled_9, into_starts_10, into_lengths_11, into_ranks_12, ()), rfl, hw, ⟨P_at ht hP9, hD9⟩⟩, hS.F ht⟩) hS.2.2 dX6_makeNatural_62
  have LOOP6 : ∀ (n6 : Nat) (v6_1 : Int32) (v5_2 : Int32) (into_count_3 : Int32) (into_filled_4 : Int32) (into_starts_5 : Nat → Int32) (into_lengths_6 : Nat → Int32) (into_ranks_7 : Nat → Int32) (H : Heap) (locs : List Loc), wl_X6_makeNatural_6 book_allKeys tape order F_ n_ (wx_X6_makeNatural_6_62 Q) n6 v6_1 v5_2 into_count_3 into_filled_4 into_starts_5 into_lengths_6 into_ranks_7 → va_P (dC, dI) vwCl ([(a_book, .inr (2, [.ref a_book_allKeys, .ref a_book_allMarks, .int book_count])), (a_book_allKeys, .inl (g 0, 200, .inl book_allKeys)), (a_into, .inr (9, [.ref a_into_ranks, .ref a_into_starts, .ref a_into_lengths, .int into_count_3, .int into_filled_4])), (a_into_starts, .inl (g 0, 200, .inl into_starts_5)), (a_into_lengths, .inl (g 0, 200, .inl into_lengths_6)), (a_into_ranks, .inl (g 0, 100, .inl into_ranks_7))] ++ TPl tp hd (g 0) F_ n_) H → va_D A ([(a_book, .inr (2, [.ref a_book_allKeys, .ref a_book_allMarks, .int book_count])), (a_book_allKeys, .inl (g 0, 200, .inl book_allKeys)), (a_into, .inr (9, [.ref a_into_ranks, .ref a_into_starts, .ref a_into_lengths, .int into_count_3, .int into_filled_4])), (a_into_starts, .inl (g 0, 200, .inl into_starts_5)), (a_into_lengths, .inl (g 0, 200, .inl into_lengths_6)), (a_into_ranks, .inl (g 0, 100, .inl into_ranks_7))] ++ TPl tp hd (g 0) F_ n_) → va_S A s.heap H locs → ∀ (ls : Array Slot), lv_has ls 8 [(1, .ref a_book), (2, .ref (tp tape)), (3, .int order), (4, .ref a_into), (5, .int v5_2), (6, .int v6_1)] → W p l e (headSpec wqX6_makeNatural ({ frames := 1, cells := 0, slots := 0, locals := 23 })).room s m ([.ref a_this, .ref a_book, .ref (tp tape), .int order, .ref a_into] : List Value).toArray below meth c H locs 0 0 QM (F0 m 6 ls []) := by
    intro n6
    induction n6 with
    | zero =>
      intro v6_1 v5_2 into_count_3 into_filled_4 into_starts_5 into_lengths_6 into_ranks_7 H locs hw hP hD hS ls hl
      exact False.elim hw
    | succ n6 ih6 =>
      intro v6_1 v5_2 into_count_3 into_filled_4 into_starts_5 into_lengths_6 into_ranks_7 H locs hw hP hD hS ls hl
      rw [wl_X6_makeNatural_6_s] at hw
      refine lv_iload hx hb dX6_makeNatural_6 (lv_at hl 5 rfl) ?_
      refine lv_aload_n hx hb dX6_makeNatural_8 rfl (lv_at hl 1 rfl) ?_
      refine va_getN (D := (dC, dI)) (ci := 11) (v := .int (n_ tape)) (C := RX9) (T := TX9) (N := 2) hx hb hts hiX9 hown hK hP _ (TP_o hj_tape) rfl 1 (by decide) (nf_2 hG) (fun _ h9 => h9) rfl dX6_makeNatural_9 ?_
      refine lv_icmp_ge (tgt := 62) hx hb dX6_makeNatural_12 (by decide) (fun c_13 => ?_) (fun c_13 => ?_)
      · have hw := hw.1 c_13
        exact EX6_62 into_count_3 into_filled_4 into_starts_5 into_lengths_6 into_ranks_7 _ _ hw (hP.part [0, 1, 2, 3, 4, 5] rfl) (hD.part [0, 1, 2, 3, 4, 5] (by decide) rfl) hS _ (lv_sub hl [] rfl)
      · have hw := hw.2 c_13
        refine lv_aload_n hx hb dX6_makeNatural_15 rfl (lv_at hl 0 rfl) ?_
        refine lv_aload_n hx hb dX6_makeNatural_16 rfl (lv_at hl 1 rfl) ?_
        refine lv_iload hx hb dX6_makeNatural_17 (lv_at hl 5 rfl) ?_
        refine va_calli (va_runV (As := [.int v6_1]) (rest := [.ref a_book]) ⟨hx, hb, hml, hown, hts⟩ (c_X9_recordAt l dC dI g tp hd (Wd := ([(a_book, .inr (2, [.ref a_book_allKeys, .ref a_book_allMarks, .int book_count])), (a_book_allKeys, .inl (g 0, 200, .inl book_allKeys)), (a_into, .inr (9, [.ref a_into_ranks, .ref a_into_starts, .ref a_into_lengths, .int into_count_3, .int into_filled_4])), (a_into_starts, .inl (g 0, 200, .inl into_starts_5)), (a_into_lengths, .inl (g 0, 200, .inl into_lengths_6)), (a_into_ranks, .inl (g 0, 100, .inl into_ranks_7))] ++ TPl tp hd (g 0) F_ n_)) (F_ := F_) (n_ := n_) (j := tape) (place := v6_1) (hj_j := hj_tape) (kT := _) (hT := TP_at) (hw := hw) (sz := H.size)) (cwV 1 hts (gqV aw_3_197 aw_3_171 aw_3_172 aw_1_3 aw_3_173) rfl rfl rfl (by decide +kernel) ⟨Nat.le_of_ble_eq_true rfl, Nat.le_of_ble_eq_true rfl⟩) ⟨PG_blind, va_recv hK hP (ci := 11) (q0 := _) rfl (TP_o hj_tape), PG_call hK hG hS hP hD (A_all hD hA hS.1)⟩ rfl rfl hl.1 rfl (lv_room (Nat.le_of_ble_eq_true rfl)) dX6_makeNatural_19 ⟨Nat.le_of_ble_eq_true rfl, Nat.le_of_ble_eq_true rfl⟩) hS (fun q _ h => (A_all hD hA hS.1) q h) (A_all hD hA hS.1) (fun r_14 u_14 t_14 H_14 L_14 ht_14 hvm_14 hw_14 hB_14 hz_14 hk_14 hS => ?_)
        rw [ht_14] at hB_14
        have hP : va_P (dC, dI) vwCl ([(a_book, .inr (2, [.ref a_book_allKeys, .ref a_book_allMarks, .int book_count])), (a_book_allKeys, .inl (g 0, 200, .inl book_allKeys)), (a_into, .inr (9, [.ref a_into_ranks, .ref a_into_starts, .ref a_into_lengths, .int into_count_3, .int into_filled_4])), (a_into_starts, .inl (g 0, 200, .inl into_starts_5)), (a_into_lengths, .inl (g 0, 200, .inl into_lengths_6)), (a_into_ranks, .inl (g 0, 100, .inl into_ranks_7))] ++ TPl tp hd (g 0) F_ n_) H_14 := hB_14
        have hw := hw_14
        refine lv_iload_n hx hb dX6_makeNatural_22 rfl (lv_at hl 2 rfl) ?_
        refine va_calli (va_runV (As := [.int r_14, .int order]) (rest := []) ⟨hx, hb, hml, hown, hts⟩ (c_X0_rankOf l dC dI g (Wd := ([(a_book, .inr (2, [.ref a_book_allKeys, .ref a_book_allMarks, .int book_count])), (a_book_allKeys, .inl (g 0, 200, .inl book_allKeys)), (a_into, .inr (9, [.ref a_into_ranks, .ref a_into_starts, .ref a_into_lengths, .int into_count_3, .int into_filled_4])), (a_into_starts, .inl (g 0, 200, .inl into_starts_5)), (a_into_lengths, .inl (g 0, 200, .inl into_lengths_6)), (a_into_ranks, .inl (g 0, 100, .inl into_ranks_7))] ++ TPl tp hd (g 0) F_ n_)) (a_this := a_book) (a_allKeys := a_book_allKeys) (a_allMarks := a_book_allMarks) (count := book_count) (allKeys := book_allKeys) (record := r_14) (order := order) (k_this := 0) (w_this := rfl) (k_allKeys := 1) (w_allKeys := rfl) (hw := hw) (sz := H_14.size)) (cwV 2 hts (gqV aw_3_198 aw_3_199 aw_3_200 aw_1_2 aw_3_201) rfl rfl rfl (by decide +kernel) ⟨Nat.le_of_ble_eq_true rfl, Nat.le_of_ble_eq_true rfl⟩) ⟨PG_blind, va_recv hK hP (ci := 2) (q0 := 0) rfl rfl, PG_call hK hG hS hP hD (A_all hD hA hS.1)⟩ rfl rfl hl.1 rfl (lv_room (Nat.le_of_ble_eq_true rfl)) dX6_makeNatural_23 ⟨Nat.le_of_ble_eq_true rfl, Nat.le_of_ble_eq_true rfl⟩) hS (fun q _ h => (A_all hD hA hS.1) q h) (A_all hD hA hS.1) (fun r_15 u_15 t_15 H_15 L_15 ht_15 hvm_15 hw_15 hB_15 hz_15 hk_15 hS => ?_)
        rw [ht_15] at hB_15
        have hP : va_P (dC, dI) vwCl ([(a_book, .inr (2, [.ref a_book_allKeys, .ref a_book_allMarks, .int book_count])), (a_book_allKeys, .inl (g 0, 200, .inl book_allKeys)), (a_into, .inr (9, [.ref a_into_ranks, .ref a_into_starts, .ref a_into_lengths, .int into_count_3, .int into_filled_4])), (a_into_starts, .inl (g 0, 200, .inl into_starts_5)), (a_into_lengths, .inl (g 0, 200, .inl into_lengths_6)), (a_into_ranks, .inl (g 0, 100, .inl into_ranks_7))] ++ TPl tp hd (g 0) F_ n_) H_15 := hB_15
        have hw := hw_15
        refine lv_istore (lv' := [(7, .int r_15), (1, .ref a_book), (2, .ref (tp tape)), (3, .int order), (4, .ref a_into), (5, .int v5_2), (6, .int v6_1)]) hx hb dX6_makeNatural_26 hl (by decide) rfl (fun ls hl => ?_)
        refine lv_iload hx hb dX6_makeNatural_28 (lv_at hl 6 rfl) ?_
        have JN40 : ∀  (H : Heap) (locs : List Loc), (wj_X6_makeNatural_40 v6_1 into_count_3 into_filled_4 into_starts_5 into_lengths_6 into_ranks_7 (wl_X6_makeNatural_6 book_allKeys tape order F_ n_ (wx_X6_makeNatural_6_62 Q) n6) r_15)  → va_P (dC, dI) vwCl ([(a_book, .inr (2, [.ref a_book_allKeys, .ref a_book_allMarks, .int book_count])), (a_book_allKeys, .inl (g 0, 200, .inl book_allKeys)), (a_into, .inr (9, [.ref a_into_ranks, .ref a_into_starts, .ref a_into_lengths, .int into_count_3, .int into_filled_4])), (a_into_starts, .inl (g 0, 200, .inl into_starts_5)), (a_into_lengths, .inl (g 0, 200, .inl into_lengths_6)), (a_into_ranks, .inl (g 0, 100, .inl into_ranks_7))] ++ TPl tp hd (g 0) F_ n_) H → va_D A ([(a_book, .inr (2, [.ref a_book_allKeys, .ref a_book_allMarks, .int book_count])), (a_book_allKeys, .inl (g 0, 200, .inl book_allKeys)), (a_into, .inr (9, [.ref a_into_ranks, .ref a_into_starts, .ref a_into_lengths, .int into_count_3, .int into_filled_4])), (a_into_starts, .inl (g 0, 200, .inl into_starts_5)), (a_into_lengths, .inl (g 0, 200, .inl into_lengths_6)), (a_into_ranks, .inl (g 0, 100, .inl into_ranks_7))] ++ TPl tp hd (g 0) F_ n_) → va_S A s.heap H locs → ∀ (ls : Array Slot), lv_has ls 8 [(1, .ref a_book), (2, .ref (tp tape)), (3, .int order), (4, .ref a_into), (6, .int v6_1), (7, .int r_15)] → W p l e (headSpec wqX6_makeNatural ({ frames := 1, cells := 0, slots := 0, locals := 23 })).room s m ([.ref a_this, .ref a_book, .ref (tp tape), .int order, .ref a_into] : List Value).toArray below meth c H locs 0 0 QM (F0 m 40 ls []) := by
          intro  H locs hw hP hD hS ls hl
          refine lv_aload hx hb dX6_makeNatural_40 (lv_at hl 3 rfl) ?_
          have hPc := hP.sub (ws' := [(a_into, .inr (9, [.ref a_into_ranks, .ref a_into_starts, .ref a_into_lengths, .int into_count_3, .int into_filled_4])), (a_into_starts, .inl (g 0, 200, .inl into_starts_5)), (a_into_lengths, .inl (g 0, 200, .inl into_lengths_6))]) [2, 3, 4] rfl
          have hDc := hD.sub (ws' := [(a_into, .inr (9, [.ref a_into_ranks, .ref a_into_starts, .ref a_into_lengths, .int into_count_3, .int into_filled_4])), (a_into_starts, .inl (g 0, 200, .inl into_starts_5)), (a_into_lengths, .inl (g 0, 200, .inl into_lengths_6))]) [2, 3, 4] (by decide) rfl
          have hFc := va_free (wc := [(a_into, .inr (9, [.ref a_into_ranks, .ref a_into_starts, .ref a_into_lengths, .int into_count_3, .int into_filled_4])), (a_into_starts, .inl (g 0, 200, .inl into_starts_5)), (a_into_lengths, .inl (g 0, 200, .inl into_lengths_6))]) hD hS hA [2, 3, 4] rfl
          refine va_callv (va_runV (As := []) (rest := []) ⟨hx, hb, hml, hown, hts⟩ (c_X7_openRun l dC dI g (a_this := a_into) (a_ranks := a_into_ranks) (a_starts := a_into_starts) (a_lengths := a_into_lengths) (count := into_count_3) (filled := into_filled_4) (starts := into_starts_5) (lengths := into_lengths_6) (hw := hw) (sz := H.size)) (cwV 0 hts (gqV aw_3_206 aw_3_207 aw_3_208 aw_1_6 aw_3_209) rfl rfl rfl (by decide +kernel) ⟨Nat.le_of_ble_eq_true rfl, Nat.le_of_ble_eq_true rfl⟩) ⟨PG_blind, va_recv hK hP (ci := 9) (q0 := 2) rfl rfl, PG_call hK hG hS hPc hDc hFc⟩ rfl rfl hl.1 rfl (lv_room (Nat.le_of_ble_eq_true rfl)) dX6_makeNatural_42 ⟨Nat.le_of_ble_eq_true rfl, Nat.le_of_ble_eq_true rfl⟩) hS (fun q _ h => hFc q h) hFc (fun u_16 t_16 H_16 L_16 ht_16 hvm_16 hw_16 hB_16 hz_16 hk_16 hS => ?_)
          obtain ⟨into_count_17, into_starts_18, into_lengths_19, u_16⟩ := u_16
          obtain ⟨hP1, hD1⟩ := hB_16
          rw [ht_16] at hP1
          obtain ⟨hP, hD⟩ := va_joinQ (wr := [(a_book, .inr (2, [.ref a_book_allKeys, .ref a_book_allMarks, .int book_count])), (a_book_allKeys, .inl (g 0, 200, .inl book_allKeys)), (a_into_ranks, .inl (g 0, 100, .inl into_ranks_7))]) (w1 := [(a_into, .inr (9, [.ref a_into_ranks, .ref a_into_starts, .ref a_into_lengths, .int into_count_17, .int into_filled_4])), (a_into_starts, .inl (g 0, 200, .inl into_starts_18)), (a_into_lengths, .inl (g 0, 200, .inl into_lengths_19))]) hP hD [2, 3, 4] [0, 1, 5] rfl rfl (by decide) (by decide) hk_16 hFc hP1 hD1
          have hP : va_P (dC, dI) vwCl ([(a_book, .inr (2, [.ref a_book_allKeys, .ref a_book_allMarks, .int book_count])), (a_book_allKeys, .inl (g 0, 200, .inl book_allKeys)), (a_into_ranks, .inl (g 0, 100, .inl into_ranks_7)), (a_into, .inr (9, [.ref a_into_ranks, .ref a_into_starts, .ref a_into_lengths, .int into_count_17, .int into_filled_4])), (a_into_starts, .inl (g 0, 200, .inl into_starts_18)), (a_into_lengths, .inl (g 0, 200, .inl into_lengths_19))] ++ TPl tp hd (g 0) F_ n_) H_16 := hP
          have hD : va_D A ([(a_book, .inr (2, [.ref a_book_allKeys, .ref a_book_allMarks, .int book_count])), (a_book_allKeys, .inl (g 0, 200, .inl book_allKeys)), (a_into_ranks, .inl (g 0, 100, .inl into_ranks_7)), (a_into, .inr (9, [.ref a_into_ranks, .ref a_into_starts, .ref a_into_lengths, .int into_count_17, .int into_filled_4])), (a_into_starts, .inl (g 0, 200, .inl into_starts_18)), (a_into_lengths, .inl (g 0, 200, .inl into_lengths_19))] ++ TPl tp hd (g 0) F_ n_) := hD
          have hw := hw_16
          refine lv_aload hx hb dX6_makeNatural_45 (lv_at hl 3 rfl) ?_
          refine lv_iload hx hb dX6_makeNatural_47 (lv_at hl 5 rfl) ?_
          have hPc := hP.sub (ws' := [(a_into, .inr (9, [.ref a_into_ranks, .ref a_into_starts, .ref a_into_lengths, .int into_count_17, .int into_filled_4])), (a_into_ranks, .inl (g 0, 100, .inl into_ranks_7)), (a_into_lengths, .inl (g 0, 200, .inl into_lengths_19))]) [3, 2, 5] rfl
          have hDc := hD.sub (ws' := [(a_into, .inr (9, [.ref a_into_ranks, .ref a_into_starts, .ref a_into_lengths, .int into_count_17, .int into_filled_4])), (a_into_ranks, .inl (g 0, 100, .inl into_ranks_7)), (a_into_lengths, .inl (g 0, 200, .inl into_lengths_19))]) [3, 2, 5] (by decide) rfl
          have hFc := va_free (wc := [(a_into, .inr (9, [.ref a_into_ranks, .ref a_into_starts, .ref a_into_lengths, .int into_count_17, .int into_filled_4])), (a_into_ranks, .inl (g 0, 100, .inl into_ranks_7)), (a_into_lengths, .inl (g 0, 200, .inl into_lengths_19))]) hD hS hA [3, 2, 5] rfl
          refine va_callv (va_runV (As := [.int r_15]) (rest := []) ⟨hx, hb, hml, hown, hts⟩ (c_X7_add l dC dI g (a_this := a_into) (a_ranks := a_into_ranks) (a_starts := a_into_starts) (a_lengths := a_into_lengths) (count := into_count_17) (filled := into_filled_4) (ranks := into_ranks_7) (lengths := into_lengths_19) (rank := r_15) (hw := hw) (sz := H_16.size)) (cwV 1 hts (gqV aw_3_210 aw_3_211 aw_3_212 aw_1_6 aw_3_213) rfl rfl rfl (by decide +kernel) ⟨Nat.le_of_ble_eq_true rfl, Nat.le_of_ble_eq_true rfl⟩) ⟨PG_blind, va_recv hK hP (ci := 9) (q0 := 3) rfl rfl, PG_call hK hG hS hPc hDc hFc⟩ rfl rfl hl.1 rfl (lv_room (Nat.le_of_ble_eq_true rfl)) dX6_makeNatural_49 ⟨Nat.le_of_ble_eq_true rfl, Nat.le_of_ble_eq_true rfl⟩) hS (fun q _ h => hFc q h) hFc (fun u_20 t_20 H_20 L_20 ht_20 hvm_20 hw_20 hB_20 hz_20 hk_20 hS => ?_)
          obtain ⟨into_filled_21, into_ranks_22, into_lengths_23, u_20⟩ := u_20
          obtain ⟨hP1, hD1⟩ := hB_20
          rw [ht_20] at hP1
          obtain ⟨hP, hD⟩ := va_joinQ (wr := [(a_book, .inr (2, [.ref a_book_allKeys, .ref a_book_allMarks, .int book_count])), (a_book_allKeys, .inl (g 0, 200, .inl book_allKeys)), (a_into_starts, .inl (g 0, 200, .inl into_starts_18))]) (w1 := [(a_into, .inr (9, [.ref a_into_ranks, .ref a_into_starts, .ref a_into_lengths, .int into_count_17, .int into_filled_21])), (a_into_ranks, .inl (g 0, 100, .inl into_ranks_22)), (a_into_lengths, .inl (g 0, 200, .inl into_lengths_23))]) hP hD [3, 2, 5] [0, 1, 4] rfl rfl (by decide) (by decide) hk_20 hFc hP1 hD1
          have hP : va_P (dC, dI) vwCl ([(a_book, .inr (2, [.ref a_book_allKeys, .ref a_book_allMarks, .int book_count])), (a_book_allKeys, .inl (g 0, 200, .inl book_allKeys)), (a_into_starts, .inl (g 0, 200, .inl into_starts_18)), (a_into, .inr (9, [.ref a_into_ranks, .ref a_into_starts, .ref a_into_lengths, .int into_count_17, .int into_filled_21])), (a_into_ranks, .inl (g 0, 100, .inl into_ranks_22)), (a_into_lengths, .inl (g 0, 200, .inl into_lengths_23))] ++ TPl tp hd (g 0) F_ n_) H_20 := hP
          have hD : va_D A ([(a_book, .inr (2, [.ref a_book_allKeys, .ref a_book_allMarks, .int book_count])), (a_book_allKeys, .inl (g 0, 200, .inl book_allKeys)), (a_into_starts, .inl (g 0, 200, .inl into_starts_18)), (a_into, .inr (9, [.ref a_into_ranks, .ref a_into_starts, .ref a_into_lengths, .int into_count_17, .int into_filled_21])), (a_into_ranks, .inl (g 0, 100, .inl into_ranks_22)), (a_into_lengths, .inl (g 0, 200, .inl into_lengths_23))] ++ TPl tp hd (g 0) F_ n_) := hD
          have hw := hw_20
          refine lv_iload hx hb dX6_makeNatural_52 (lv_at hl 5 rfl) ?_
          refine lv_istore (lv' := [(5, .int r_15), (1, .ref a_book), (2, .ref (tp tape)), (3, .int order), (4, .ref a_into), (6, .int v6_1), (7, .int r_15)]) hx hb dX6_makeNatural_54 hl (by decide) rfl (fun ls hl => ?_)
          obtain ⟨x_24, ex_24⟩ : ∃ y : Int32, y = v6_1 + 1 := ⟨_, rfl⟩
          have hw := hw x_24 ex_24
          refine lv_iinc (v := x_24) (lv' := [(6, .int x_24), (5, .int r_15), (1, .ref a_book), (2, .ref (tp tape)), (3, .int order), (4, .ref a_into), (7, .int r_15)]) hx hb dX6_makeNatural_56 hl (k := 5) rfl (by rw [ex_24]; rfl) (by decide) rfl (fun ls hl => ?_)
          refine lv_goto (tgt := 6) hx hb dX6_makeNatural_59 (by decide) ?_
          exact ih6 x_24 r_15 into_count_17 into_filled_21 into_starts_18 into_lengths_23 into_ranks_22 _ _ hw (hP.part [0, 1, 3, 2, 5, 4] rfl) (hD.part [0, 1, 3, 2, 5, 4] (by decide) rfl) hS _ (lv_sub hl [2, 3, 4, 5, 1, 0] rfl)
        refine lv_if_eq (tgt := 40) hx hb dX6_makeNatural_30 (by decide) (fun c_25 => ?_) (fun c_25 => ?_)
        · have hw := hw.1 c_25
          exact JN40  _ _ hw (hP.part [0, 1, 2, 3, 4, 5] rfl) (hD.part [0, 1, 2, 3, 4, 5] (by decide) rfl) hS _ (lv_sub hl [1, 2, 3, 4, 6, 0] rfl)
        · have hw := hw.2 c_25
          refine lv_iload hx hb dX6_makeNatural_33 (lv_at hl 0 rfl) ?_
          refine lv_iload hx hb dX6_makeNatural_35 (lv_at hl 5 rfl) ?_
          refine lv_icmp_ge (tgt := 45) hx hb dX6_makeNatural_37 (by decide) (fun c_26 => ?_) (fun c_26 => ?_)
          · have hw := hw.1 c_26
            refine lv_aload hx hb dX6_makeNatural_45 (lv_at hl 4 rfl) ?_
            refine lv_iload hx hb dX6_makeNatural_47 (lv_at hl 0 rfl) ?_
            have hPc := hP.sub (ws' := [(a_into, .inr (9, [.ref a_into_ranks, .ref a_into_starts, .ref a_into_lengths, .int into_count_3, .int into_filled_4])), (a_into_ranks, .inl (g 0, 100, .inl into_ranks_7)), (a_into_lengths, .inl (g 0, 200, .inl into_lengths_6))]) [2, 5, 4] rfl
            have hDc := hD.sub (ws' := [(a_into, .inr (9, [.ref a_into_ranks, .ref a_into_starts, .ref a_into_lengths, .int into_count_3, .int into_filled_4])), (a_into_ranks, .inl (g 0, 100, .inl into_ranks_7)), (a_into_lengths, .inl (g 0, 200, .inl into_lengths_6))]) [2, 5, 4] (by decide) rfl
            have hFc := va_free (wc := [(a_into, .inr (9, [.ref a_into_ranks, .ref a_into_starts, .ref a_into_lengths, .int into_count_3, .int into_filled_4])), (a_into_ranks, .inl (g 0, 100, .inl into_ranks_7)), (a_into_lengths, .inl (g 0, 200, .inl into_lengths_6))]) hD hS hA [2, 5, 4] rfl
            refine va_callv (va_runV (As := [.int r_15]) (rest := []) ⟨hx, hb, hml, hown, hts⟩ (c_X7_add l dC dI g (a_this := a_into) (a_ranks := a_into_ranks) (a_starts := a_into_starts) (a_lengths := a_into_lengths) (count := into_count_3) (filled := into_filled_4) (ranks := into_ranks_7) (lengths := into_lengths_6) (rank := r_15) (hw := hw) (sz := H_15.size)) (cwV 1 hts (gqV aw_3_210 aw_3_211 aw_3_212 aw_1_6 aw_3_213) rfl rfl rfl (by decide +kernel) ⟨Nat.le_of_ble_eq_true rfl, Nat.le_of_ble_eq_true rfl⟩) ⟨PG_blind, va_recv hK hP (ci := 9) (q0 := 2) rfl rfl, PG_call hK hG hS hPc hDc hFc⟩ rfl rfl hl.1 rfl (lv_room (Nat.le_of_ble_eq_true rfl)) dX6_makeNatural_49 ⟨Nat.le_of_ble_eq_true rfl, Nat.le_of_ble_eq_true rfl⟩) hS (fun q _ h => hFc q h) hFc (fun u_27 t_27 H_27 L_27 ht_27 hvm_27 hw_27 hB_27 hz_27 hk_27 hS => ?_)
            obtain ⟨into_filled_28, into_ranks_29, into_lengths_30, u_27⟩ := u_27
            obtain ⟨hP1, hD1⟩ := hB_27
            rw [ht_27] at hP1
            obtain ⟨hP, hD⟩ := va_joinQ (wr := [(a_book, .inr (2, [.ref a_book_allKeys, .ref a_book_allMarks, .int book_count])), (a_book_allKeys, .inl (g 0, 200, .inl book_allKeys)), (a_into_starts, .inl (g 0, 200, .inl into_starts_5))]) (w1 := [(a_into, .inr (9, [.ref a_into_ranks, .ref a_into_starts, .ref a_into_lengths, .int into_count_3, .int into_filled_28])), (a_into_ranks, .inl (g 0, 100, .inl into_ranks_29)), (a_into_lengths, .inl (g 0, 200, .inl into_lengths_30))]) hP hD [2, 5, 4] [0, 1, 3] rfl rfl (by decide) (by decide) hk_27 hFc hP1 hD1
            have hP : va_P (dC, dI) vwCl ([(a_book, .inr (2, [.ref a_book_allKeys, .ref a_book_allMarks, .int book_count])), (a_book_allKeys, .inl (g 0, 200, .inl book_allKeys)), (a_into_starts, .inl (g 0, 200, .inl into_starts_5)), (a_into, .inr (9, [.ref a_into_ranks, .ref a_into_starts, .ref a_into_lengths, .int into_count_3, .int into_filled_28])), (a_into_ranks, .inl (g 0, 100, .inl into_ranks_29)), (a_into_lengths, .inl (g 0, 200, .inl into_lengths_30))] ++ TPl tp hd (g 0) F_ n_) H_27 := hP
            have hD : va_D A ([(a_book, .inr (2, [.ref a_book_allKeys, .ref a_book_allMarks, .int book_count])), (a_book_allKeys, .inl (g 0, 200, .inl book_allKeys)), (a_into_starts, .inl (g 0, 200, .inl into_starts_5)), (a_into, .inr (9, [.ref a_into_ranks, .ref a_into_starts, .ref a_into_lengths, .int into_count_3, .int into_filled_28])), (a_into_ranks, .inl (g 0, 100, .inl into_ranks_29)), (a_into_lengths, .inl (g 0, 200, .inl into_lengths_30))] ++ TPl tp hd (g 0) F_ n_) := hD
            have hw := hw_27
            refine lv_iload hx hb dX6_makeNatural_52 (lv_at hl 0 rfl) ?_
            refine lv_istore (lv' := [(5, .int r_15), (7, .int r_15), (1, .ref a_book), (2, .ref (tp tape)), (3, .int order), (4, .ref a_into), (6, .int v6_1)]) hx hb dX6_makeNatural_54 hl (by decide) rfl (fun ls hl => ?_)
            obtain ⟨x_31, ex_31⟩ : ∃ y : Int32, y = v6_1 + 1 := ⟨_, rfl⟩
            have hw := hw x_31 ex_31
            refine lv_iinc (v := x_31) (lv' := [(6, .int x_31), (5, .int r_15), (7, .int r_15), (1, .ref a_book), (2, .ref (tp tape)), (3, .int order), (4, .ref a_into)]) hx hb dX6_makeNatural_56 hl (k := 6) rfl (by rw [ex_31]; rfl) (by decide) rfl (fun ls hl => ?_)
            refine lv_goto (tgt := 6) hx hb dX6_makeNatural_59 (by decide) ?_
            exact ih6 x_31 r_15 into_count_3 into_filled_28 into_starts_5 into_lengths_30 into_ranks_29 _ _ hw (hP.part [0, 1, 3, 2, 5, 4] rfl) (hD.part [0, 1, 3, 2, 5, 4] (by decide) rfl) hS _ (lv_sub hl [3, 4, 5, 6, 1, 0] rfl)
          · have hw := hw.2 c_26
            exact JN40  _ _ hw (hP.part [0, 1, 2, 3, 4, 5] rfl) (hD.part [0, 1, 2, 3, 4, 5] (by decide) rfl) hS _ (lv_sub hl [1, 2, 3, 4, 6, 0] rfl)
  obtain ⟨n6, hw⟩ := hw
  exact LOOP6 n6 0 0 into_count into_filled into_starts into_lengths into_ranks _ _ hw (hP.part [0, 1, 2, 3, 4, 5] rfl) (hD.part [0, 1, 2, 3, 4, 5] (by decide) rfl) hS _ (lv_sub hl [3, 4, 5, 6, 1, 0] rfl)
theorem dX6_makeRuns_0 : decode cX6_makeRuns 0 = .ok (.aload 4, 2) := by decide +kernel
theorem dX6_makeRuns_2 : decode cX6_makeRuns 2 = .ok (.invokevirtual 22, 3) := by decide +kernel
theorem dX6_makeRuns_5 : decode cX6_makeRuns 5 = .ok (.iconst 1, 1) := by decide +kernel
theorem dX6_makeRuns_6 : decode cX6_makeRuns 6 = .ok (.aload_n 3, 1) := by decide +kernel
theorem dX6_makeRuns_7 : decode cX6_makeRuns 7 = .ok (.getfield 27, 3) := by decide +kernel
theorem dX6_makeRuns_10 : decode cX6_makeRuns 10 = .ok (.bipush 50, 2) := by decide +kernel
theorem dX6_makeRuns_12 : decode cX6_makeRuns 12 = .ok (.invokestatic 31, 3) := by decide +kernel
theorem dX6_makeRuns_15 : decode cX6_makeRuns 15 = .ok (.invokestatic 37, 3) := by decide +kernel
theorem dX6_makeRuns_18 : decode cX6_makeRuns 18 = .ok (.istore 5, 2) := by decide +kernel
theorem dX6_makeRuns_20 : decode cX6_makeRuns 20 = .ok (.aload_n 3, 1) := by decide +kernel
theorem dX6_makeRuns_21 : decode cX6_makeRuns 21 = .ok (.getfield 40, 3) := by decide +kernel
theorem dX6_makeRuns_24 : decode cX6_makeRuns 24 = .ok (.ifCond .ne 20, 3) := by decide +kernel
theorem dX6_makeRuns_44 : decode cX6_makeRuns 44 = .ok (.aload_n 3, 1) := by decide +kernel
theorem dX6_makeRuns_45 : decode cX6_makeRuns 45 = .ok (.getfield 40, 3) := by decide +kernel
theorem dX6_makeRuns_48 : decode cX6_makeRuns 48 = .ok (.iconst 1, 1) := by decide +kernel
theorem dX6_makeRuns_49 : decode cX6_makeRuns 49 = .ok (.if_icmp .ne 20, 3) := by decide +kernel
theorem dX6_makeRuns_69 : decode cX6_makeRuns 69 = .ok (.aload_n 0, 1) := by decide +kernel
theorem dX6_makeRuns_70 : decode cX6_makeRuns 70 = .ok (.aload_n 1, 1) := by decide +kernel
theorem dX6_makeRuns_71 : decode cX6_makeRuns 71 = .ok (.aload_n 2, 1) := by decide +kernel
theorem dX6_makeRuns_72 : decode cX6_makeRuns 72 = .ok (.aload_n 3, 1) := by decide +kernel
theorem dX6_makeRuns_73 : decode cX6_makeRuns 73 = .ok (.getfield 43, 3) := by decide +kernel
theorem dX6_makeRuns_76 : decode cX6_makeRuns 76 = .ok (.aload 4, 2) := by decide +kernel
theorem dX6_makeRuns_78 : decode cX6_makeRuns 78 = .ok (.invokevirtual 53, 3) := by decide +kernel
theorem dX6_makeRuns_81 : decode cX6_makeRuns 81 = .ok (.return_, 1) := by decide +kernel
theorem dX6_makeRuns_52 : decode cX6_makeRuns 52 = .ok (.aload_n 0, 1) := by decide +kernel
theorem dX6_makeRuns_53 : decode cX6_makeRuns 53 = .ok (.aload_n 1, 1) := by decide +kernel
theorem dX6_makeRuns_54 : decode cX6_makeRuns 54 = .ok (.aload_n 2, 1) := by decide +kernel
theorem dX6_makeRuns_55 : decode cX6_makeRuns 55 = .ok (.aload_n 3, 1) := by decide +kernel
theorem dX6_makeRuns_56 : decode cX6_makeRuns 56 = .ok (.getfield 43, 3) := by decide +kernel
theorem dX6_makeRuns_59 : decode cX6_makeRuns 59 = .ok (.iload 5, 2) := by decide +kernel
theorem dX6_makeRuns_61 : decode cX6_makeRuns 61 = .ok (.aload 4, 2) := by decide +kernel
theorem dX6_makeRuns_63 : decode cX6_makeRuns 63 = .ok (.invokevirtual 50, 3) := by decide +kernel
theorem dX6_makeRuns_66 : decode cX6_makeRuns 66 = .ok (.goto 15, 3) := by decide +kernel
theorem dX6_makeRuns_27 : decode cX6_makeRuns 27 = .ok (.aload_n 0, 1) := by decide +kernel
theorem dX6_makeRuns_28 : decode cX6_makeRuns 28 = .ok (.aload_n 1, 1) := by decide +kernel
theorem dX6_makeRuns_29 : decode cX6_makeRuns 29 = .ok (.aload_n 2, 1) := by decide +kernel
theorem dX6_makeRuns_30 : decode cX6_makeRuns 30 = .ok (.aload_n 3, 1) := by decide +kernel
theorem dX6_makeRuns_31 : decode cX6_makeRuns 31 = .ok (.getfield 43, 3) := by decide +kernel
theorem dX6_makeRuns_34 : decode cX6_makeRuns 34 = .ok (.iload 5, 2) := by decide +kernel
theorem dX6_makeRuns_36 : decode cX6_makeRuns 36 = .ok (.aload 4, 2) := by decide +kernel
theorem dX6_makeRuns_38 : decode cX6_makeRuns 38 = .ok (.invokevirtual 46, 3) := by decide +kernel
theorem dX6_makeRuns_41 : decode cX6_makeRuns 41 = .ok (.goto 40, 3) := by decide +kernel
abbrev Wa_X6_makeRuns (g : Nat → ClassId) (tp : Nat → Nat) (hd : Nat → Nat) (a_this : Nat) (a_book : Nat) (a_with_ : Nat) (a_into : Nat) (a_memory : Nat) (a_runOf : Nat) (held : Int32) (runOf : Nat → Int32) (memory : Nat → Int32) (a_book_allKeys : Nat) (a_book_allMarks : Nat) (book_count : Int32) (book_allKeys : Nat → Int32) (with__order : Int32) (with__runWay : Int32) (with__memory : Int32) (with__mergeWay : Int32) (with__ways : Int32) (a_into_ranks : Nat) (a_into_starts : Nat) (a_into_lengths : Nat) (into_count : Int32) (into_filled : Int32) (into_starts : Nat → Int32) (into_lengths : Nat → Int32) (into_ranks : Nat → Int32) (F_ : Nat → Nat → Int32) (n_ : Nat → Int32) : va_W := ([(a_this, .inr (8, [.ref a_memory, .ref a_runOf, .int held])), (a_runOf, .inl (g 0, 50, .inl runOf)), (a_memory, .inl (g 0, 50, .inl memory)), (a_book, .inr (2, [.ref a_book_allKeys, .ref a_book_allMarks, .int book_count])), (a_book_allKeys, .inl (g 0, 200, .inl book_allKeys)), (a_with_, .inr (10, [.int with__order, .int with__runWay, .int with__memory, .int with__mergeWay, .int with__ways])), (a_into, .inr (9, [.ref a_into_ranks, .ref a_into_starts, .ref a_into_lengths, .int into_count, .int into_filled])), (a_into_starts, .inl (g 0, 200, .inl into_starts)), (a_into_lengths, .inl (g 0, 200, .inl into_lengths)), (a_into_ranks, .inl (g 0, 100, .inl into_ranks))] ++ TPl tp hd (g 0) F_ n_)
abbrev Wb_X6_makeRuns (g : Nat → ClassId) (tp : Nat → Nat) (hd : Nat → Nat) (a_this : Nat) (a_book : Nat) (a_with_ : Nat) (a_into : Nat) (a_memory : Nat) (a_runOf : Nat) (a_book_allKeys : Nat) (a_book_allMarks : Nat) (book_count : Int32) (book_allKeys : Nat → Int32) (with__order : Int32) (with__runWay : Int32) (with__memory : Int32) (with__mergeWay : Int32) (with__ways : Int32) (a_into_ranks : Nat) (a_into_starts : Nat) (a_into_lengths : Nat) (F_ : Nat → Nat → Int32) (n_ : Nat → Int32) (u : Int32 × (Nat → Int32) × (Nat → Int32) × Int32 × Int32 × (Nat → Int32) × (Nat → Int32) × (Nat → Int32) × Unit) : va_W := ([(a_this, .inr (8, [.ref a_memory, .ref a_runOf, .int u.1])), (a_runOf, .inl (g 0, 50, .inl u.2.1)), (a_memory, .inl (g 0, 50, .inl u.2.2.1)), (a_book, .inr (2, [.ref a_book_allKeys, .ref a_book_allMarks, .int book_count])), (a_book_allKeys, .inl (g 0, 200, .inl book_allKeys)), (a_with_, .inr (10, [.int with__order, .int with__runWay, .int with__memory, .int with__mergeWay, .int with__ways])), (a_into, .inr (9, [.ref a_into_ranks, .ref a_into_starts, .ref a_into_lengths, .int u.2.2.2.1, .int u.2.2.2.2.1])), (a_into_starts, .inl (g 0, 200, .inl u.2.2.2.2.2.1)), (a_into_lengths, .inl (g 0, 200, .inl u.2.2.2.2.2.2.1)), (a_into_ranks, .inl (g 0, 100, .inl u.2.2.2.2.2.2.2.1))] ++ TPl tp hd (g 0) F_ n_)
set_option maxHeartbeats 8000000 in
set_option maxRecDepth 100000 in
theorem c_X6_makeRuns (l : Launch) (dC : Nat → ClassId) (dI : Nat → Nat → Nat) (g : Nat → ClassId) (tp hd : Nat → Nat) (a_this : Nat) (a_book : Nat) (a_with_ : Nat) (a_into : Nat) (a_memory : Nat) (a_runOf : Nat) (held : Int32) (runOf : Nat → Int32) (memory : Nat → Int32) (a_book_allKeys : Nat) (a_book_allMarks : Nat) (book_count : Int32) (book_allKeys : Nat → Int32) (with__order : Int32) (with__runWay : Int32) (with__memory : Int32) (with__mergeWay : Int32) (with__ways : Int32) (a_into_ranks : Nat) (a_into_starts : Nat) (a_into_lengths : Nat) (into_count : Int32) (into_filled : Int32) (into_starts : Nat → Int32) (into_lengths : Nat → Int32) (into_ranks : Nat → Int32) (F_ : Nat → Nat → Int32) (n_ : Nat → Int32) (tape : Nat) (hj_tape : tape < 18) (Q : Int32 → (Nat → Int32) → (Nat → Int32) → Int32 → Int32 → (Nat → Int32) → (Nat → Int32) → (Nat → Int32) → Prop) (hw : wp_X6_makeRuns held runOf memory book_allKeys with__order with__runWay with__memory into_starts into_lengths into_ranks tape F_ n_ Q) (sz : Nat) : Met l yX6_makeRuns wqX6_makeRuns ({ frames := 2, cells := 0, slots := 0, locals := 54 }) (va_Pc [.ref a_this, .ref a_book, .ref (tp tape), .ref a_with_, .ref a_into] (PG (dC, dI) g (Wa_X6_makeRuns g tp hd a_this a_book a_with_ a_into a_memory a_runOf held runOf memory a_book_allKeys a_book_allMarks book_count book_allKeys with__order with__runWay with__memory with__mergeWay with__ways a_into_ranks a_into_starts a_into_lengths into_count into_filled into_starts into_lengths into_ranks F_ n_) sz)) (va_Qv (fun (u : Int32 × (Nat → Int32) × (Nat → Int32) × Int32 × Int32 × (Nat → Int32) × (Nat → Int32) × (Nat → Int32) × Unit) => Q u.1 u.2.1 u.2.2.1 u.2.2.2.1 u.2.2.2.2.1 u.2.2.2.2.2.1 u.2.2.2.2.2.2.1 u.2.2.2.2.2.2.2.1) (fun (u : Int32 × (Nat → Int32) × (Nat → Int32) × Int32 × Int32 × (Nat → Int32) × (Nat → Int32) × (Nat → Int32) × Unit) t9 => va_P (dC, dI) vwCl (Wb_X6_makeRuns g tp hd a_this a_book a_with_ a_into a_memory a_runOf a_book_allKeys a_book_allMarks book_count book_allKeys with__order with__runWay with__memory with__mergeWay with__ways a_into_ranks a_into_starts a_into_lengths F_ n_ u) t9.heap ∧ va_D (va_A (Wa_X6_makeRuns g tp hd a_this a_book a_with_ a_into a_memory a_runOf held runOf memory a_book_allKeys a_book_allMarks book_count book_allKeys with__order with__runWay with__memory with__mergeWay with__ways a_into_ranks a_into_starts a_into_lengths into_count into_filled into_starts into_lengths into_ranks F_ n_) sz) (Wb_X6_makeRuns g tp hd a_this a_book a_with_ a_into a_memory a_runOf a_book_allKeys a_book_allMarks book_count book_allKeys with__order with__runWay with__memory with__mergeWay with__ways a_into_ranks a_into_starts a_into_lengths F_ n_ u)) (va_A (Wa_X6_makeRuns g tp hd a_this a_book a_with_ a_into a_memory a_runOf held runOf memory a_book_allKeys a_book_allMarks book_count book_allKeys with__order with__runWay with__memory with__mergeWay with__ways a_into_ranks a_into_starts a_into_lengths into_count into_filled into_starts into_lengths into_ranks F_ n_) sz)) 0 0 (va_A (Wa_X6_makeRuns g tp hd a_this a_book a_with_ a_into a_memory a_runOf held runOf memory a_book_allKeys a_book_allMarks book_count book_allKeys with__order with__runWay with__memory with__mergeWay with__ways a_into_ranks a_into_starts a_into_lengths into_count into_filled into_starts into_lengths into_ranks F_ n_) sz) := by
  refine Met.ofW (cc := cX6_makeRuns) (maxL := 6) (ret := none) (by decide) rfl ?_
  intro p e s m args below meth c s₁ B hml hv
  obtain ⟨rfl, hsz, hP, hK, hD0, hG⟩ := hv
  have hx := B.exec
  have hb := B.bytes
  have hr := B.returns
  have hts := atoms_spec (ws := wqX6_makeRuns) B.pre
  have hown : s.vm.findClass RX6 = some m.cls := findClass_of_methodNamed B.named
  have hlocks := B.notSynchronized
  subst hsz
  have hD := hD0.self (sz := s.heap.size)
  generalize hAe : va_A (Wa_X6_makeRuns g tp hd a_this a_book a_with_ a_into a_memory a_runOf held runOf memory a_book_allKeys a_book_allMarks book_count book_allKeys with__order with__runWay with__memory with__mergeWay with__ways a_into_ranks a_into_starts a_into_lengths into_count into_filled into_starts into_lengths into_ranks F_ n_) s.heap.size = A at hD hG ⊢
  have hA : ∀ q : Nat, s.heap.size ≤ q → A q := fun q h => by rw [← hAe]; exact Or.inr h
  have hS : va_S A s.heap s.heap [] := va_S.rf
  have hl := lv_entry ([.ref a_this, .ref a_book, .ref (tp tape), .ref a_with_, .ref a_into]) (n := 6) (Nat.le_of_ble_eq_true rfl)
  rw [lg_entry_eq]
  generalize (lg_sl ([.ref a_this, .ref a_book, .ref (tp tape), .ref a_with_, .ref a_into]) ++ List.replicate (6 - (lg_sl ([.ref a_this, .ref a_book, .ref (tp tape), .ref a_with_, .ref a_into])).length) Slot.unset).toArray = ls at hl ⊢
  have hl : lv_has ls 6 [(0, .ref a_this), (1, .ref a_book), (2, .ref (tp tape)), (3, .ref a_with_), (4, .ref a_into)] := hl
  unfold wp_X6_makeRuns at hw
  have hiX8 : ∀ w ∈ u_ws RX8 TX8 5, w ∈ wqX6_makeRuns := fun w h => aw_l (aw_wsX80 w h)
  have hmmin31_0 := hts (Cond.methodLink RX6 31 Lib.Math.min.name) (aw_l aw_3_189)
  have hmmin31_1 := hts (Cond.static Lib.Math.min.name) (aw_l aw_3_141)
  have hmmin31_2 := hts (Cond.initialized "java/lang/Math") (aw_l aw_1_19)
  have hmmin31_3 := hts (Cond.code Lib.Math.min.name Lib.Math.min.code 2 (some .int)) (aw_l aw_3_142)
  have hmmax37_0 := hts (Cond.methodLink RX6 37 Lib.Math.max.name) (aw_l aw_3_190)
  have hmmax37_1 := hts (Cond.static Lib.Math.max.name) (aw_l aw_3_191)
  have hmmax37_2 := hts (Cond.initialized "java/lang/Math") (aw_l aw_1_19)
  have hmmax37_3 := hts (Cond.code Lib.Math.max.name Lib.Math.max.code 2 (some .int)) (aw_l aw_3_192)
  refine lv_aload hx hb dX6_makeRuns_0 (lv_at hl 4 rfl) ?_
  have hPc := hP.sub (ws' := [(a_into, .inr (9, [.ref a_into_ranks, .ref a_into_starts, .ref a_into_lengths, .int into_count, .int into_filled]))]) [6] rfl
  have hDc := hD.sub (ws' := [(a_into, .inr (9, [.ref a_into_ranks, .ref a_into_starts, .ref a_into_lengths, .int into_count, .int into_filled]))]) [6] (by decide) rfl
  have hFc := va_free (wc := [(a_into, .inr (9, [.ref a_into_ranks, .ref a_into_starts, .ref a_into_lengths, .int into_count, .int into_filled]))]) hD hS hA [6] rfl
  refine va_callv (va_runV (As := []) (rest := []) ⟨hx, hb, hml, hown, hts⟩ (c_X7_empty l dC dI g (a_this := a_into) (a_ranks := a_into_ranks) (a_starts := a_into_starts) (a_lengths := a_into_lengths) (count := into_count) (filled := into_filled) (hw := hw) (sz := s.heap.size)) (cwV 0 hts (gqV aw_3_185 aw_3_186 aw_3_187 aw_1_6 aw_3_188) rfl rfl rfl (by decide +kernel) ⟨Nat.le_of_ble_eq_true rfl, Nat.le_of_ble_eq_true rfl⟩) ⟨PG_blind, va_recv hK hP (ci := 9) (q0 := 6) rfl rfl, PG_call hK hG hS hPc hDc hFc⟩ rfl rfl hl.1 rfl (lv_room (Nat.le_of_ble_eq_true rfl)) dX6_makeRuns_2 ⟨Nat.le_of_ble_eq_true rfl, Nat.le_of_ble_eq_true rfl⟩) hS (fun q _ h => hFc q h) hFc (fun u_1 t_1 H_1 L_1 ht_1 hvm_1 hw_1 hB_1 hz_1 hk_1 hS => ?_)
  obtain ⟨into_count_2, into_filled_3, u_1⟩ := u_1
  obtain ⟨hP1, hD1⟩ := hB_1
  rw [ht_1] at hP1
  obtain ⟨hP, hD⟩ := va_joinQ (wr := [(a_this, .inr (8, [.ref a_memory, .ref a_runOf, .int held])), (a_runOf, .inl (g 0, 50, .inl runOf)), (a_memory, .inl (g 0, 50, .inl memory)), (a_book, .inr (2, [.ref a_book_allKeys, .ref a_book_allMarks, .int book_count])), (a_book_allKeys, .inl (g 0, 200, .inl book_allKeys)), (a_with_, .inr (10, [.int with__order, .int with__runWay, .int with__memory, .int with__mergeWay, .int with__ways])), (a_into_starts, .inl (g 0, 200, .inl into_starts)), (a_into_lengths, .inl (g 0, 200, .inl into_lengths)), (a_into_ranks, .inl (g 0, 100, .inl into_ranks))]) (w1 := [(a_into, .inr (9, [.ref a_into_ranks, .ref a_into_starts, .ref a_into_lengths, .int into_count_2, .int into_filled_3]))]) hP hD [6] [0, 1, 2, 3, 4, 5, 7, 8, 9] rfl rfl (by decide) (by decide) hk_1 hFc hP1 hD1
  have hP : va_P (dC, dI) vwCl ([(a_this, .inr (8, [.ref a_memory, .ref a_runOf, .int held])), (a_runOf, .inl (g 0, 50, .inl runOf)), (a_memory, .inl (g 0, 50, .inl memory)), (a_book, .inr (2, [.ref a_book_allKeys, .ref a_book_allMarks, .int book_count])), (a_book_allKeys, .inl (g 0, 200, .inl book_allKeys)), (a_with_, .inr (10, [.int with__order, .int with__runWay, .int with__memory, .int with__mergeWay, .int with__ways])), (a_into_starts, .inl (g 0, 200, .inl into_starts)), (a_into_lengths, .inl (g 0, 200, .inl into_lengths)), (a_into_ranks, .inl (g 0, 100, .inl into_ranks)), (a_into, .inr (9, [.ref a_into_ranks, .ref a_into_starts, .ref a_into_lengths, .int into_count_2, .int into_filled_3]))] ++ TPl tp hd (g 0) F_ n_) H_1 := hP
  have hD : va_D A ([(a_this, .inr (8, [.ref a_memory, .ref a_runOf, .int held])), (a_runOf, .inl (g 0, 50, .inl runOf)), (a_memory, .inl (g 0, 50, .inl memory)), (a_book, .inr (2, [.ref a_book_allKeys, .ref a_book_allMarks, .int book_count])), (a_book_allKeys, .inl (g 0, 200, .inl book_allKeys)), (a_with_, .inr (10, [.int with__order, .int with__runWay, .int with__memory, .int with__mergeWay, .int with__ways])), (a_into_starts, .inl (g 0, 200, .inl into_starts)), (a_into_lengths, .inl (g 0, 200, .inl into_lengths)), (a_into_ranks, .inl (g 0, 100, .inl into_ranks)), (a_into, .inr (9, [.ref a_into_ranks, .ref a_into_starts, .ref a_into_lengths, .int into_count_2, .int into_filled_3]))] ++ TPl tp hd (g 0) F_ n_) := hD
  have hw := hw_1
  refine lv_iconst (v := 1) hx hb dX6_makeRuns_5 (by decide) ?_
  refine lv_aload_n hx hb dX6_makeRuns_6 rfl (lv_at hl 3 rfl) ?_
  refine va_getN (D := (dC, dI)) (ci := 10) (v := .int with__memory) (C := RX8) (T := TX8) (N := 5) hx hb hts hiX8 hown hK hP 5 rfl rfl 2 (by decide) (nf_13 hG) (fun _ h9 => h9) rfl dX6_makeRuns_7 ?_
  refine lv_bipush (v := 50) hx hb dX6_makeRuns_10 (by decide) ?_
  refine va_mmin hx hb (hml.trans hl.1.symm) hown hmmin31_0 hmmin31_1 hmmin31_2 hmmin31_3 (Nat.le_of_ble_eq_true rfl) (Nat.le_of_ble_eq_true rfl) (Nat.le_of_ble_eq_true rfl) (Nat.le_of_ble_eq_true rfl) dX6_makeRuns_12 ?_
  refine lv_topi (fun x_4 ex_4 => ?_)
  have hw := hw x_4 ex_4
  refine va_mmax hx hb (hml.trans hl.1.symm) hown hmmax37_0 hmmax37_1 hmmax37_2 hmmax37_3 (Nat.le_of_ble_eq_true rfl) (Nat.le_of_ble_eq_true rfl) (Nat.le_of_ble_eq_true rfl) (Nat.le_of_ble_eq_true rfl) dX6_makeRuns_15 ?_
  refine lv_topi (fun x_5 ex_5 => ?_)
  have hw := hw x_5 ex_5
  refine lv_istore (lv' := [(5, .int x_5), (0, .ref a_this), (1, .ref a_book), (2, .ref (tp tape)), (3, .ref a_with_), (4, .ref a_into)]) hx hb dX6_makeRuns_18 hl (by decide) rfl (fun ls hl => ?_)
  refine lv_aload_n hx hb dX6_makeRuns_20 rfl (lv_at hl 4 rfl) ?_
  refine va_getN (D := (dC, dI)) (ci := 10) (v := .int with__runWay) (C := RX8) (T := TX8) (N := 5) hx hb hts hiX8 hown hK hP 5 rfl rfl 1 (by decide) (nf_9 hG) (fun _ h9 => h9) rfl dX6_makeRuns_21 ?_
  refine lv_if_ne (tgt := 44) hx hb dX6_makeRuns_24 (by decide) (fun c_6 => ?_) (fun c_6 => ?_)
  · have hw := hw.2 c_6
    refine lv_aload_n hx hb dX6_makeRuns_44 rfl (lv_at hl 4 rfl) ?_
    refine va_getN (D := (dC, dI)) (ci := 10) (v := .int with__runWay) (C := RX8) (T := TX8) (N := 5) hx hb hts hiX8 hown hK hP 5 rfl rfl 1 (by decide) (nf_9 hG) (fun _ h9 => h9) rfl dX6_makeRuns_45 ?_
    refine lv_iconst (v := 1) hx hb dX6_makeRuns_48 (by decide) ?_
    refine lv_icmp_ne (tgt := 69) hx hb dX6_makeRuns_49 (by decide) (fun c_7 => ?_) (fun c_7 => ?_)
    · have hw := hw.2 c_7
      refine lv_aload_n hx hb dX6_makeRuns_69 rfl (lv_at hl 1 rfl) ?_
      refine lv_aload_n hx hb dX6_makeRuns_70 rfl (lv_at hl 2 rfl) ?_
      refine lv_aload_n hx hb dX6_makeRuns_71 rfl (lv_at hl 3 rfl) ?_
      refine lv_aload_n hx hb dX6_makeRuns_72 rfl (lv_at hl 4 rfl) ?_
      refine va_getN (D := (dC, dI)) (ci := 10) (v := .int with__order) (C := RX8) (T := TX8) (N := 5) hx hb hts hiX8 hown hK hP 5 rfl rfl 0 (by decide) (nf_5 hG) (fun _ h9 => h9) rfl dX6_makeRuns_73 ?_
      refine lv_aload hx hb dX6_makeRuns_76 (lv_at hl 5 rfl) ?_
      have hPc := va_P.part (cx := [(a_book, .inr (2, [.ref a_book_allKeys, .ref a_book_allMarks, .int book_count])), (a_book_allKeys, .inl (g 0, 200, .inl book_allKeys)), (a_into, .inr (9, [.ref a_into_ranks, .ref a_into_starts, .ref a_into_lengths, .int into_count_2, .int into_filled_3])), (a_into_starts, .inl (g 0, 200, .inl into_starts)), (a_into_lengths, .inl (g 0, 200, .inl into_lengths)), (a_into_ranks, .inl (g 0, 100, .inl into_ranks))]) hP [3, 4, 9, 6, 7, 8] rfl
      have hDc := va_D.part (cx := [(a_book, .inr (2, [.ref a_book_allKeys, .ref a_book_allMarks, .int book_count])), (a_book_allKeys, .inl (g 0, 200, .inl book_allKeys)), (a_into, .inr (9, [.ref a_into_ranks, .ref a_into_starts, .ref a_into_lengths, .int into_count_2, .int into_filled_3])), (a_into_starts, .inl (g 0, 200, .inl into_starts)), (a_into_lengths, .inl (g 0, 200, .inl into_lengths)), (a_into_ranks, .inl (g 0, 100, .inl into_ranks))]) hD [3, 4, 9, 6, 7, 8] (by decide) rfl
      have hFc := va_freeP (cx := [(a_book, .inr (2, [.ref a_book_allKeys, .ref a_book_allMarks, .int book_count])), (a_book_allKeys, .inl (g 0, 200, .inl book_allKeys)), (a_into, .inr (9, [.ref a_into_ranks, .ref a_into_starts, .ref a_into_lengths, .int into_count_2, .int into_filled_3])), (a_into_starts, .inl (g 0, 200, .inl into_starts)), (a_into_lengths, .inl (g 0, 200, .inl into_lengths)), (a_into_ranks, .inl (g 0, 100, .inl into_ranks))]) hD hS hA [3, 4, 9, 6, 7, 8] rfl
      refine va_callv (va_runV (As := [.ref a_book, .ref (tp tape), .int with__order, .ref a_into]) (rest := []) ⟨hx, hb, hml, hown, hts⟩ (c_X6_makeNatural l dC dI g tp hd (a_this := a_this) (a_book := a_book) (a_into := a_into) (a_book_allKeys := a_book_allKeys) (a_book_allMarks := a_book_allMarks) (book_count := book_count) (book_allKeys := book_allKeys) (a_into_ranks := a_into_ranks) (a_into_starts := a_into_starts) (a_into_lengths := a_into_lengths) (into_count := into_count_2) (into_filled := into_filled_3) (into_starts := into_starts) (into_lengths := into_lengths) (into_ranks := into_ranks) (F_ := F_) (n_ := n_) (tape := tape) (order := with__order) (hj_tape := hj_tape) (hw := hw) (sz := H_1.size)) (cwV 4 hts (gqV aw_3_230 aw_3_232 aw_0_10 aw_1_5 aw_3_233) rfl rfl rfl (by decide +kernel) ⟨Nat.le_of_ble_eq_true rfl, Nat.le_of_ble_eq_true rfl⟩) ⟨PG_blind, va_recv hK hP (ci := 8) (q0 := 0) rfl rfl, PG_call hK hG hS hPc hDc hFc⟩ rfl rfl hl.1 rfl (lv_room (Nat.le_of_ble_eq_true rfl)) dX6_makeRuns_78 ⟨Nat.le_of_ble_eq_true rfl, Nat.le_of_ble_eq_true rfl⟩) hS (fun q _ h => hFc q h) hFc (fun u_8 t_8 H_8 L_8 ht_8 hvm_8 hw_8 hB_8 hz_8 hk_8 hS => ?_)
      obtain ⟨into_count_9, into_filled_10, into_starts_11, into_lengths_12, into_ranks_13, u_8⟩ := u_8
      obtain ⟨hP1, hD1⟩ := hB_8
      rw [ht_8] at hP1
      obtain ⟨hP, hD⟩ := va_joinP (wr := [(a_this, .inr (8, [.ref a_memory, .ref a_runOf, .int held])), (a_runOf, .inl (g 0, 50, .inl runOf)), (a_memory, .inl (g 0, 50, .inl memory)), (a_with_, .inr (10, [.int with__order, .int with__runWay, .int with__memory, .int with__mergeWay, .int with__ways]))]) (rx := [(a_book, .inr (2, [.ref a_book_allKeys, .ref a_book_allMarks, .int book_count])), (a_book_allKeys, .inl (g 0, 200, .inl book_allKeys)), (a_into, .inr (9, [.ref a_into_ranks, .ref a_into_starts, .ref a_into_lengths, .int into_count_9, .int into_filled_10])), (a_into_starts, .inl (g 0, 200, .inl into_starts_11)), (a_into_lengths, .inl (g 0, 200, .inl into_lengths_12)), (a_into_ranks, .inl (g 0, 100, .inl into_ranks_13))]) (pl1 := TPl tp hd (g 0) F_ n_) hP hD [3, 4, 9, 6, 7, 8] [0, 1, 2, 5] rfl rfl (by decide) (by decide) hk_8 hFc hP1 hD1
      have hP : va_P (dC, dI) vwCl ([(a_this, .inr (8, [.ref a_memory, .ref a_runOf, .int held])), (a_runOf, .inl (g 0, 50, .inl runOf)), (a_memory, .inl (g 0, 50, .inl memory)), (a_with_, .inr (10, [.int with__order, .int with__runWay, .int with__memory, .int with__mergeWay, .int with__ways])), (a_book, .inr (2, [.ref a_book_allKeys, .ref a_book_allMarks, .int book_count])), (a_book_allKeys, .inl (g 0, 200, .inl book_allKeys)), (a_into, .inr (9, [.ref a_into_ranks, .ref a_into_starts, .ref a_into_lengths, .int into_count_9, .int into_filled_10])), (a_into_starts, .inl (g 0, 200, .inl into_starts_11)), (a_into_lengths, .inl (g 0, 200, .inl into_lengths_12)), (a_into_ranks, .inl (g 0, 100, .inl into_ranks_13))] ++ TPl tp hd (g 0) F_ n_) H_8 := hP
      have hD : va_D A ([(a_this, .inr (8, [.ref a_memory, .ref a_runOf, .int held])), (a_runOf, .inl (g 0, 50, .inl runOf)), (a_memory, .inl (g 0, 50, .inl memory)), (a_with_, .inr (10, [.int with__order, .int with__runWay, .int with__memory, .int with__mergeWay, .int with__ways])), (a_book, .inr (2, [.ref a_book_allKeys, .ref a_book_allMarks, .int book_count])), (a_book_allKeys, .inl (g 0, 200, .inl book_allKeys)), (a_into, .inr (9, [.ref a_into_ranks, .ref a_into_starts, .ref a_into_lengths, .int into_count_9, .int into_filled_10])), (a_into_starts, .inl (g 0, 200, .inl into_starts_11)), (a_into_lengths, .inl (g 0, 200, .inl into_lengths_12)), (a_into_ranks, .inl (g 0, 100, .inl into_ranks_13))] ++ TPl tp hd (g 0) F_ n_) := hD
      have hw := hw_8
      have hP9 := va_P.part (cx := [(a_this, .inr (8, [.ref a_memory, .ref a_runOf, .int held])), (a_runOf, .inl (g 0, 50, .inl runOf)), (a_memory, .inl (g 0, 50, .inl memory)), (a_book, .inr (2, [.ref a_book_allKeys, .ref a_book_allMarks, .int book_count])), (a_book_allKeys, .inl (g 0, 200, .inl book_allKeys)), (a_with_, .inr (10, [.int with__order, .int with__runWay, .int with__memory, .int with__mergeWay, .int with__ways])), (a_into, .inr (9, [.ref a_into_ranks, .ref a_into_starts, .ref a_into_lengths, .int into_count_9, .int into_filled_10])), (a_into_starts, .inl (g 0, 200, .inl into_starts_11)), (a_into_lengths, .inl (g 0, 200, .inl into_lengths_12)), (a_into_ranks, .inl (g 0, 100, .inl into_ranks_13))]) hP [0, 1, 2, 4, 5, 3, 6, 7, 8, 9] rfl
      have hD9 := va_D.part (cx := [(a_this, .inr (8, [.ref a_memory, .ref a_runOf, .int held])), (a_runOf, .inl (g 0, 50, .inl runOf)), (a_memory, .inl (g 0, 50, .inl memory)), (a_book, .inr (2, [.ref a_book_allKeys, .ref a_book_allMarks, .int book_count])), (a_book_allKeys, .inl (g 0, 200, .inl book_allKeys)), (a_with_, .inr (10, [.int with__order, .int with__runWay, .int with__memory, .int with__mergeWay, .int with__ways])), (a_into, .inr (9, [.ref a_into_ranks, .ref a_into_starts, .ref a_into_lengths, .int into_count_9, .int into_filled_10])), (a_into_starts, .inl (g 0, 200, .inl into_starts_11)), (a_into_lengths, .inl (g 0, 200, .inl into_lengths_12)), (a_into_ranks, .inl (g 0, 100, .inl into_ranks_13))]) hD [0, 1, 2, 4, 5, 3, 6, 7, 8, 9] (by decide) rfl
      exact W.vret hx hb hr (fun t ht hW => ⟨⟨(held, runOf, memory, into_count_9, into_filled_10, into_starts_11, into_lengths_12, into_ranks_13, ()), rfl, hw, ⟨P_at ht hP9, hD9⟩⟩, hS.F ht⟩) hS.2.2 dX6_makeRuns_81
    · have hw := hw.1 c_7
      refine lv_aload_n hx hb dX6_makeRuns_52 rfl (lv_at hl 1 rfl) ?_
      refine lv_aload_n hx hb dX6_makeRuns_53 rfl (lv_at hl 2 rfl) ?_
      refine lv_aload_n hx hb dX6_makeRuns_54 rfl (lv_at hl 3 rfl) ?_
      refine lv_aload_n hx hb dX6_makeRuns_55 rfl (lv_at hl 4 rfl) ?_
      refine va_getN (D := (dC, dI)) (ci := 10) (v := .int with__order) (C := RX8) (T := TX8) (N := 5) hx hb hts hiX8 hown hK hP 5 rfl rfl 0 (by decide) (nf_5 hG) (fun _ h9 => h9) rfl dX6_makeRuns_56 ?_
      refine lv_iload hx hb dX6_makeRuns_59 (lv_at hl 0 rfl) ?_
      refine lv_aload hx hb dX6_makeRuns_61 (lv_at hl 5 rfl) ?_
      have hPc := va_P.part (cx := [(a_this, .inr (8, [.ref a_memory, .ref a_runOf, .int held])), (a_runOf, .inl (g 0, 50, .inl runOf)), (a_memory, .inl (g 0, 50, .inl memory)), (a_book, .inr (2, [.ref a_book_allKeys, .ref a_book_allMarks, .int book_count])), (a_book_allKeys, .inl (g 0, 200, .inl book_allKeys)), (a_into, .inr (9, [.ref a_into_ranks, .ref a_into_starts, .ref a_into_lengths, .int into_count_2, .int into_filled_3])), (a_into_starts, .inl (g 0, 200, .inl into_starts)), (a_into_lengths, .inl (g 0, 200, .inl into_lengths)), (a_into_ranks, .inl (g 0, 100, .inl into_ranks))]) hP [0, 1, 2, 3, 4, 9, 6, 7, 8] rfl
      have hDc := va_D.part (cx := [(a_this, .inr (8, [.ref a_memory, .ref a_runOf, .int held])), (a_runOf, .inl (g 0, 50, .inl runOf)), (a_memory, .inl (g 0, 50, .inl memory)), (a_book, .inr (2, [.ref a_book_allKeys, .ref a_book_allMarks, .int book_count])), (a_book_allKeys, .inl (g 0, 200, .inl book_allKeys)), (a_into, .inr (9, [.ref a_into_ranks, .ref a_into_starts, .ref a_into_lengths, .int into_count_2, .int into_filled_3])), (a_into_starts, .inl (g 0, 200, .inl into_starts)), (a_into_lengths, .inl (g 0, 200, .inl into_lengths)), (a_into_ranks, .inl (g 0, 100, .inl into_ranks))]) hD [0, 1, 2, 3, 4, 9, 6, 7, 8] (by decide) rfl
      have hFc := va_freeP (cx := [(a_this, .inr (8, [.ref a_memory, .ref a_runOf, .int held])), (a_runOf, .inl (g 0, 50, .inl runOf)), (a_memory, .inl (g 0, 50, .inl memory)), (a_book, .inr (2, [.ref a_book_allKeys, .ref a_book_allMarks, .int book_count])), (a_book_allKeys, .inl (g 0, 200, .inl book_allKeys)), (a_into, .inr (9, [.ref a_into_ranks, .ref a_into_starts, .ref a_into_lengths, .int into_count_2, .int into_filled_3])), (a_into_starts, .inl (g 0, 200, .inl into_starts)), (a_into_lengths, .inl (g 0, 200, .inl into_lengths)), (a_into_ranks, .inl (g 0, 100, .inl into_ranks))]) hD hS hA [0, 1, 2, 3, 4, 9, 6, 7, 8] rfl
      refine va_callv (va_runV (As := [.ref a_book, .ref (tp tape), .int with__order, .int x_5, .ref a_into]) (rest := []) ⟨hx, hb, hml, hown, hts⟩ (c_X6_makeByReplacement l dC dI g tp hd (a_this := a_this) (a_book := a_book) (a_into := a_into) (a_memory := a_memory) (a_runOf := a_runOf) (held := held) (runOf := runOf) (memory := memory) (a_book_allKeys := a_book_allKeys) (a_book_allMarks := a_book_allMarks) (book_count := book_count) (book_allKeys := book_allKeys) (a_into_ranks := a_into_ranks) (a_into_starts := a_into_starts) (a_into_lengths := a_into_lengths) (into_count := into_count_2) (into_filled := into_filled_3) (into_starts := into_starts) (into_lengths := into_lengths) (into_ranks := into_ranks) (F_ := F_) (n_ := n_) (tape := tape) (order := with__order) (room := x_5) (hj_tape := hj_tape) (hw := hw) (sz := H_1.size)) (cwV 5 hts (gqV aw_3_214 aw_3_216 aw_0_6 aw_1_5 aw_3_217) rfl rfl rfl (by decide +kernel) ⟨Nat.le_of_ble_eq_true rfl, Nat.le_of_ble_eq_true rfl⟩) ⟨PG_blind, va_recv hK hP (ci := 8) (q0 := 0) rfl rfl, PG_call hK hG hS hPc hDc hFc⟩ rfl rfl hl.1 rfl (lv_room (Nat.le_of_ble_eq_true rfl)) dX6_makeRuns_63 ⟨Nat.le_of_ble_eq_true rfl, Nat.le_of_ble_eq_true rfl⟩) hS (fun q _ h => hFc q h) hFc (fun u_14 t_14 H_14 L_14 ht_14 hvm_14 hw_14 hB_14 hz_14 hk_14 hS => ?_)
      obtain ⟨held_15, runOf_16, memory_17, into_count_18, into_filled_19, into_starts_20, into_lengths_21, into_ranks_22, u_14⟩ := u_14
      obtain ⟨hP1, hD1⟩ := hB_14
      rw [ht_14] at hP1
      obtain ⟨hP, hD⟩ := va_joinP (wr := [(a_with_, .inr (10, [.int with__order, .int with__runWay, .int with__memory, .int with__mergeWay, .int with__ways]))]) (rx := [(a_this, .inr (8, [.ref a_memory, .ref a_runOf, .int held_15])), (a_runOf, .inl (g 0, 50, .inl runOf_16)), (a_memory, .inl (g 0, 50, .inl memory_17)), (a_book, .inr (2, [.ref a_book_allKeys, .ref a_book_allMarks, .int book_count])), (a_book_allKeys, .inl (g 0, 200, .inl book_allKeys)), (a_into, .inr (9, [.ref a_into_ranks, .ref a_into_starts, .ref a_into_lengths, .int into_count_18, .int into_filled_19])), (a_into_starts, .inl (g 0, 200, .inl into_starts_20)), (a_into_lengths, .inl (g 0, 200, .inl into_lengths_21)), (a_into_ranks, .inl (g 0, 100, .inl into_ranks_22))]) (pl1 := TPl tp hd (g 0) F_ n_) hP hD [0, 1, 2, 3, 4, 9, 6, 7, 8] [5] rfl rfl (by decide) (by decide) hk_14 hFc hP1 hD1
      have hP : va_P (dC, dI) vwCl ([(a_with_, .inr (10, [.int with__order, .int with__runWay, .int with__memory, .int with__mergeWay, .int with__ways])), (a_this, .inr (8, [.ref a_memory, .ref a_runOf, .int held_15])), (a_runOf, .inl (g 0, 50, .inl runOf_16)), (a_memory, .inl (g 0, 50, .inl memory_17)), (a_book, .inr (2, [.ref a_book_allKeys, .ref a_book_allMarks, .int book_count])), (a_book_allKeys, .inl (g 0, 200, .inl book_allKeys)), (a_into, .inr (9, [.ref a_into_ranks, .ref a_into_starts, .ref a_into_lengths, .int into_count_18, .int into_filled_19])), (a_into_starts, .inl (g 0, 200, .inl into_starts_20)), (a_into_lengths, .inl (g 0, 200, .inl into_lengths_21)), (a_into_ranks, .inl (g 0, 100, .inl into_ranks_22))] ++ TPl tp hd (g 0) F_ n_) H_14 := hP
      have hD : va_D A ([(a_with_, .inr (10, [.int with__order, .int with__runWay, .int with__memory, .int with__mergeWay, .int with__ways])), (a_this, .inr (8, [.ref a_memory, .ref a_runOf, .int held_15])), (a_runOf, .inl (g 0, 50, .inl runOf_16)), (a_memory, .inl (g 0, 50, .inl memory_17)), (a_book, .inr (2, [.ref a_book_allKeys, .ref a_book_allMarks, .int book_count])), (a_book_allKeys, .inl (g 0, 200, .inl book_allKeys)), (a_into, .inr (9, [.ref a_into_ranks, .ref a_into_starts, .ref a_into_lengths, .int into_count_18, .int into_filled_19])), (a_into_starts, .inl (g 0, 200, .inl into_starts_20)), (a_into_lengths, .inl (g 0, 200, .inl into_lengths_21)), (a_into_ranks, .inl (g 0, 100, .inl into_ranks_22))] ++ TPl tp hd (g 0) F_ n_) := hD
      have hw := hw_14
      refine lv_goto (tgt := 81) hx hb dX6_makeRuns_66 (by decide) ?_
      have hP9 := va_P.part (cx := [(a_this, .inr (8, [.ref a_memory, .ref a_runOf, .int held_15])), (a_runOf, .inl (g 0, 50, .inl runOf_16)), (a_memory, .inl (g 0, 50, .inl memory_17)), (a_book, .inr (2, [.ref a_book_allKeys, .ref a_book_allMarks, .int book_count])), (a_book_allKeys, .inl (g 0, 200, .inl book_allKeys)), (a_with_, .inr (10, [.int with__order, .int with__runWay, .int with__memory, .int with__mergeWay, .int with__ways])), (a_into, .inr (9, [.ref a_into_ranks, .ref a_into_starts, .ref a_into_lengths, .int into_count_18, .int into_filled_19])), (a_into_starts, .inl (g 0, 200, .inl into_starts_20)), (a_into_lengths, .inl (g 0, 200, .inl into_lengths_21)), (a_into_ranks, .inl (g 0, 100, .inl into_ranks_22))]) hP [1, 2, 3, 4, 5, 0, 6, 7, 8, 9] rfl
      have hD9 := va_D.part (cx := [(a_this, .inr (8, [.ref a_memory, .ref a_runOf, .int held_15])), (a_runOf, .inl (g 0, 50, .inl runOf_16)), (a_memory, .inl (g 0, 50, .inl memory_17)), (a_book, .inr (2, [.ref a_book_allKeys, .ref a_book_allMarks, .int book_count])), (a_book_allKeys, .inl (g 0, 200, .inl book_allKeys)), (a_with_, .inr (10, [.int with__order, .int with__runWay, .int with__memory, .int with__mergeWay, .int with__ways])), (a_into, .inr (9, [.ref a_into_ranks, .ref a_into_starts, .ref a_into_lengths, .int into_count_18, .int into_filled_19])), (a_into_starts, .inl (g 0, 200, .inl into_starts_20)), (a_into_lengths, .inl (g 0, 200, .inl into_lengths_21)), (a_into_ranks, .inl (g 0, 100, .inl into_ranks_22))]) hD [1, 2, 3, 4, 5, 0, 6, 7, 8, 9] (by decide) rfl
      exact W.vret hx hb hr (fun t ht hW => ⟨⟨(held_15, runOf_16, memory_17, into_count_18, into_filled_19, into_starts_20, into_lengths_21, into_ranks_22, ()), rfl, hw, ⟨P_at ht hP9, hD9⟩⟩, hS.F ht⟩) hS.2.2 dX6_makeRuns_81
  · have hw := hw.1 c_6
    refine lv_aload_n hx hb dX6_makeRuns_27 rfl (lv_at hl 1 rfl) ?_
    refine lv_aload_n hx hb dX6_makeRuns_28 rfl (lv_at hl 2 rfl) ?_
    refine lv_aload_n hx hb dX6_makeRuns_29 rfl (lv_at hl 3 rfl) ?_
    refine lv_aload_n hx hb dX6_makeRuns_30 rfl (lv_at hl 4 rfl) ?_
    refine va_getN (D := (dC, dI)) (ci := 10) (v := .int with__order) (C := RX8) (T := TX8) (N := 5) hx hb hts hiX8 hown hK hP 5 rfl rfl 0 (by decide) (nf_5 hG) (fun _ h9 => h9) rfl dX6_makeRuns_31 ?_
    refine lv_iload hx hb dX6_makeRuns_34 (lv_at hl 0 rfl) ?_
    refine lv_aload hx hb dX6_makeRuns_36 (lv_at hl 5 rfl) ?_
    have hPc := va_P.part (cx := [(a_this, .inr (8, [.ref a_memory, .ref a_runOf, .int held])), (a_memory, .inl (g 0, 50, .inl memory)), (a_book, .inr (2, [.ref a_book_allKeys, .ref a_book_allMarks, .int book_count])), (a_book_allKeys, .inl (g 0, 200, .inl book_allKeys)), (a_into, .inr (9, [.ref a_into_ranks, .ref a_into_starts, .ref a_into_lengths, .int into_count_2, .int into_filled_3])), (a_into_starts, .inl (g 0, 200, .inl into_starts)), (a_into_lengths, .inl (g 0, 200, .inl into_lengths)), (a_into_ranks, .inl (g 0, 100, .inl into_ranks))]) hP [0, 2, 3, 4, 9, 6, 7, 8] rfl
    have hDc := va_D.part (cx := [(a_this, .inr (8, [.ref a_memory, .ref a_runOf, .int held])), (a_memory, .inl (g 0, 50, .inl memory)), (a_book, .inr (2, [.ref a_book_allKeys, .ref a_book_allMarks, .int book_count])), (a_book_allKeys, .inl (g 0, 200, .inl book_allKeys)), (a_into, .inr (9, [.ref a_into_ranks, .ref a_into_starts, .ref a_into_lengths, .int into_count_2, .int into_filled_3])), (a_into_starts, .inl (g 0, 200, .inl into_starts)), (a_into_lengths, .inl (g 0, 200, .inl into_lengths)), (a_into_ranks, .inl (g 0, 100, .inl into_ranks))]) hD [0, 2, 3, 4, 9, 6, 7, 8] (by decide) rfl
    have hFc := va_freeP (cx := [(a_this, .inr (8, [.ref a_memory, .ref a_runOf, .int held])), (a_memory, .inl (g 0, 50, .inl memory)), (a_book, .inr (2, [.ref a_book_allKeys, .ref a_book_allMarks, .int book_count])), (a_book_allKeys, .inl (g 0, 200, .inl book_allKeys)), (a_into, .inr (9, [.ref a_into_ranks, .ref a_into_starts, .ref a_into_lengths, .int into_count_2, .int into_filled_3])), (a_into_starts, .inl (g 0, 200, .inl into_starts)), (a_into_lengths, .inl (g 0, 200, .inl into_lengths)), (a_into_ranks, .inl (g 0, 100, .inl into_ranks))]) hD hS hA [0, 2, 3, 4, 9, 6, 7, 8] rfl
    refine va_callv (va_runV (As := [.ref a_book, .ref (tp tape), .int with__order, .int x_5, .ref a_into]) (rest := []) ⟨hx, hb, hml, hown, hts⟩ (c_X6_makeFull l dC dI g tp hd (a_this := a_this) (a_book := a_book) (a_into := a_into) (a_memory := a_memory) (a_runOf := a_runOf) (held := held) (memory := memory) (a_book_allKeys := a_book_allKeys) (a_book_allMarks := a_book_allMarks) (book_count := book_count) (book_allKeys := book_allKeys) (a_into_ranks := a_into_ranks) (a_into_starts := a_into_starts) (a_into_lengths := a_into_lengths) (into_count := into_count_2) (into_filled := into_filled_3) (into_starts := into_starts) (into_lengths := into_lengths) (into_ranks := into_ranks) (F_ := F_) (n_ := n_) (tape := tape) (order := with__order) (room := x_5) (hj_tape := hj_tape) (hw := hw) (sz := H_1.size)) (cwV 5 hts (gqV aw_3_193 aw_3_195 aw_0_4 aw_1_5 aw_3_196) rfl rfl rfl (by decide +kernel) ⟨Nat.le_of_ble_eq_true rfl, Nat.le_of_ble_eq_true rfl⟩) ⟨PG_blind, va_recv hK hP (ci := 8) (q0 := 0) rfl rfl, PG_call hK hG hS hPc hDc hFc⟩ rfl rfl hl.1 rfl (lv_room (Nat.le_of_ble_eq_true rfl)) dX6_makeRuns_38 ⟨Nat.le_of_ble_eq_true rfl, Nat.le_of_ble_eq_true rfl⟩) hS (fun q _ h => hFc q h) hFc (fun u_23 t_23 H_23 L_23 ht_23 hvm_23 hw_23 hB_23 hz_23 hk_23 hS => ?_)
    obtain ⟨held_24, memory_25, into_count_26, into_filled_27, into_starts_28, into_lengths_29, into_ranks_30, u_23⟩ := u_23
    obtain ⟨hP1, hD1⟩ := hB_23
    rw [ht_23] at hP1
    obtain ⟨hP, hD⟩ := va_joinP (wr := [(a_runOf, .inl (g 0, 50, .inl runOf)), (a_with_, .inr (10, [.int with__order, .int with__runWay, .int with__memory, .int with__mergeWay, .int with__ways]))]) (rx := [(a_this, .inr (8, [.ref a_memory, .ref a_runOf, .int held_24])), (a_memory, .inl (g 0, 50, .inl memory_25)), (a_book, .inr (2, [.ref a_book_allKeys, .ref a_book_allMarks, .int book_count])), (a_book_allKeys, .inl (g 0, 200, .inl book_allKeys)), (a_into, .inr (9, [.ref a_into_ranks, .ref a_into_starts, .ref a_into_lengths, .int into_count_26, .int into_filled_27])), (a_into_starts, .inl (g 0, 200, .inl into_starts_28)), (a_into_lengths, .inl (g 0, 200, .inl into_lengths_29)), (a_into_ranks, .inl (g 0, 100, .inl into_ranks_30))]) (pl1 := TPl tp hd (g 0) F_ n_) hP hD [0, 2, 3, 4, 9, 6, 7, 8] [1, 5] rfl rfl (by decide) (by decide) hk_23 hFc hP1 hD1
    have hP : va_P (dC, dI) vwCl ([(a_runOf, .inl (g 0, 50, .inl runOf)), (a_with_, .inr (10, [.int with__order, .int with__runWay, .int with__memory, .int with__mergeWay, .int with__ways])), (a_this, .inr (8, [.ref a_memory, .ref a_runOf, .int held_24])), (a_memory, .inl (g 0, 50, .inl memory_25)), (a_book, .inr (2, [.ref a_book_allKeys, .ref a_book_allMarks, .int book_count])), (a_book_allKeys, .inl (g 0, 200, .inl book_allKeys)), (a_into, .inr (9, [.ref a_into_ranks, .ref a_into_starts, .ref a_into_lengths, .int into_count_26, .int into_filled_27])), (a_into_starts, .inl (g 0, 200, .inl into_starts_28)), (a_into_lengths, .inl (g 0, 200, .inl into_lengths_29)), (a_into_ranks, .inl (g 0, 100, .inl into_ranks_30))] ++ TPl tp hd (g 0) F_ n_) H_23 := hP
    have hD : va_D A ([(a_runOf, .inl (g 0, 50, .inl runOf)), (a_with_, .inr (10, [.int with__order, .int with__runWay, .int with__memory, .int with__mergeWay, .int with__ways])), (a_this, .inr (8, [.ref a_memory, .ref a_runOf, .int held_24])), (a_memory, .inl (g 0, 50, .inl memory_25)), (a_book, .inr (2, [.ref a_book_allKeys, .ref a_book_allMarks, .int book_count])), (a_book_allKeys, .inl (g 0, 200, .inl book_allKeys)), (a_into, .inr (9, [.ref a_into_ranks, .ref a_into_starts, .ref a_into_lengths, .int into_count_26, .int into_filled_27])), (a_into_starts, .inl (g 0, 200, .inl into_starts_28)), (a_into_lengths, .inl (g 0, 200, .inl into_lengths_29)), (a_into_ranks, .inl (g 0, 100, .inl into_ranks_30))] ++ TPl tp hd (g 0) F_ n_) := hD
    have hw := hw_23
    refine lv_goto (tgt := 81) hx hb dX6_makeRuns_41 (by decide) ?_
    have hP9 := va_P.part (cx := [(a_this, .inr (8, [.ref a_memory, .ref a_runOf, .int held_24])), (a_runOf, .inl (g 0, 50, .inl runOf)), (a_memory, .inl (g 0, 50, .inl memory_25)), (a_book, .inr (2, [.ref a_book_allKeys, .ref a_book_allMarks, .int book_count])), (a_book_allKeys, .inl (g 0, 200, .inl book_allKeys)), (a_with_, .inr (10, [.int with__order, .int with__runWay, .int with__memory, .int with__mergeWay, .int with__ways])), (a_into, .inr (9, [.ref a_into_ranks, .ref a_into_starts, .ref a_into_lengths, .int into_count_26, .int into_filled_27])), (a_into_starts, .inl (g 0, 200, .inl into_starts_28)), (a_into_lengths, .inl (g 0, 200, .inl into_lengths_29)), (a_into_ranks, .inl (g 0, 100, .inl into_ranks_30))]) hP [2, 0, 3, 4, 5, 1, 6, 7, 8, 9] rfl
    have hD9 := va_D.part (cx := [(a_this, .inr (8, [.ref a_memory, .ref a_runOf, .int held_24])), (a_runOf, .inl (g 0, 50, .inl runOf)), (a_memory, .inl (g 0, 50, .inl memory_25)), (a_book, .inr (2, [.ref a_book_allKeys, .ref a_book_allMarks, .int book_count])), (a_book_allKeys, .inl (g 0, 200, .inl book_allKeys)), (a_with_, .inr (10, [.int with__order, .int with__runWay, .int with__memory, .int with__mergeWay, .int with__ways])), (a_into, .inr (9, [.ref a_into_ranks, .ref a_into_starts, .ref a_into_lengths, .int into_count_26, .int into_filled_27])), (a_into_starts, .inl (g 0, 200, .inl into_starts_28)), (a_into_lengths, .inl (g 0, 200, .inl into_lengths_29)), (a_into_ranks, .inl (g 0, 100, .inl into_ranks_30))]) hD [2, 0, 3, 4, 5, 1, 6, 7, 8, 9] (by decide) rfl
    exact W.vret hx hb hr (fun t ht hW => ⟨⟨(held_24, runOf, memory_25, into_count_26, into_filled_27, into_starts_28, into_lengths_29, into_ranks_30, ()), rfl, hw, ⟨P_at ht hP9, hD9⟩⟩, hS.F ht⟩) hS.2.2 dX6_makeRuns_81
theorem dX3_raiseLevel_0 : decode cX3_raiseLevel 0 = .ok (.aload_n 0, 1) := by decide +kernel
theorem dX3_raiseLevel_1 : decode cX3_raiseLevel 1 = .ok (.getfield 15, 3) := by decide +kernel
theorem dX3_raiseLevel_4 : decode cX3_raiseLevel 4 = .ok (.iconst 0, 1) := by decide +kernel
theorem dX3_raiseLevel_5 : decode cX3_raiseLevel 5 = .ok (.iaload, 1) := by decide +kernel
theorem dX3_raiseLevel_6 : decode cX3_raiseLevel 6 = .ok (.istore_n 1, 1) := by decide +kernel
theorem dX3_raiseLevel_7 : decode cX3_raiseLevel 7 = .ok (.iconst 0, 1) := by decide +kernel
theorem dX3_raiseLevel_8 : decode cX3_raiseLevel 8 = .ok (.istore_n 2, 1) := by decide +kernel
theorem dX3_raiseLevel_9 : decode cX3_raiseLevel 9 = .ok (.iconst 0, 1) := by decide +kernel
theorem dX3_raiseLevel_10 : decode cX3_raiseLevel 10 = .ok (.istore_n 3, 1) := by decide +kernel
theorem dX3_raiseLevel_90 : decode cX3_raiseLevel 90 = .ok (.iload_n 2, 1) := by decide +kernel
theorem dX3_raiseLevel_91 : decode cX3_raiseLevel 91 = .ok (.ireturn, 1) := by decide +kernel
theorem dX3_raiseLevel_11 : decode cX3_raiseLevel 11 = .ok (.iload_n 3, 1) := by decide +kernel
theorem dX3_raiseLevel_12 : decode cX3_raiseLevel 12 = .ok (.aload_n 0, 1) := by decide +kernel
theorem dX3_raiseLevel_13 : decode cX3_raiseLevel 13 = .ok (.getfield 22, 3) := by decide +kernel
theorem dX3_raiseLevel_16 : decode cX3_raiseLevel 16 = .ok (.if_icmp .ge 74, 3) := by decide +kernel
theorem dX3_raiseLevel_19 : decode cX3_raiseLevel 19 = .ok (.iload_n 3, 1) := by decide +kernel
theorem dX3_raiseLevel_20 : decode cX3_raiseLevel 20 = .ok (.bipush 6, 2) := by decide +kernel
theorem dX3_raiseLevel_22 : decode cX3_raiseLevel 22 = .ok (.if_icmp .ge 68, 3) := by decide +kernel
theorem dX3_raiseLevel_25 : decode cX3_raiseLevel 25 = .ok (.iload_n 3, 1) := by decide +kernel
theorem dX3_raiseLevel_26 : decode cX3_raiseLevel 26 = .ok (.iconst 1, 1) := by decide +kernel
theorem dX3_raiseLevel_27 : decode cX3_raiseLevel 27 = .ok (.iadd, 1) := by decide +kernel
theorem dX3_raiseLevel_28 : decode cX3_raiseLevel 28 = .ok (.aload_n 0, 1) := by decide +kernel
theorem dX3_raiseLevel_29 : decode cX3_raiseLevel 29 = .ok (.getfield 22, 3) := by decide +kernel
theorem dX3_raiseLevel_48 : decode cX3_raiseLevel 48 = .ok (.istore 4, 2) := by decide +kernel
theorem dX3_raiseLevel_50 : decode cX3_raiseLevel 50 = .ok (.aload_n 0, 1) := by decide +kernel
theorem dX3_raiseLevel_51 : decode cX3_raiseLevel 51 = .ok (.getfield 15, 3) := by decide +kernel
theorem dX3_raiseLevel_54 : decode cX3_raiseLevel 54 = .ok (.iload_n 3, 1) := by decide +kernel
theorem dX3_raiseLevel_55 : decode cX3_raiseLevel 55 = .ok (.iload 4, 2) := by decide +kernel
theorem dX3_raiseLevel_74 : decode cX3_raiseLevel 74 = .ok (.iastore, 1) := by decide +kernel
theorem dX3_raiseLevel_75 : decode cX3_raiseLevel 75 = .ok (.iload_n 2, 1) := by decide +kernel
theorem dX3_raiseLevel_76 : decode cX3_raiseLevel 76 = .ok (.aload_n 0, 1) := by decide +kernel
theorem dX3_raiseLevel_77 : decode cX3_raiseLevel 77 = .ok (.getfield 15, 3) := by decide +kernel
theorem dX3_raiseLevel_80 : decode cX3_raiseLevel 80 = .ok (.iload_n 3, 1) := by decide +kernel
theorem dX3_raiseLevel_81 : decode cX3_raiseLevel 81 = .ok (.iaload, 1) := by decide +kernel
theorem dX3_raiseLevel_82 : decode cX3_raiseLevel 82 = .ok (.iadd, 1) := by decide +kernel
theorem dX3_raiseLevel_83 : decode cX3_raiseLevel 83 = .ok (.istore_n 2, 1) := by decide +kernel
theorem dX3_raiseLevel_84 : decode cX3_raiseLevel 84 = .ok (.iinc 3 1, 3) := by decide +kernel
theorem dX3_raiseLevel_87 : decode cX3_raiseLevel 87 = .ok (.goto (-76), 3) := by decide +kernel
theorem dX3_raiseLevel_57 : decode cX3_raiseLevel 57 = .ok (.ifCond .eq 7, 3) := by decide +kernel
theorem dX3_raiseLevel_64 : decode cX3_raiseLevel 64 = .ok (.iload_n 1, 1) := by decide +kernel
theorem dX3_raiseLevel_65 : decode cX3_raiseLevel 65 = .ok (.aload_n 0, 1) := by decide +kernel
theorem dX3_raiseLevel_66 : decode cX3_raiseLevel 66 = .ok (.getfield 15, 3) := by decide +kernel
theorem dX3_raiseLevel_69 : decode cX3_raiseLevel 69 = .ok (.iload_n 3, 1) := by decide +kernel
theorem dX3_raiseLevel_70 : decode cX3_raiseLevel 70 = .ok (.iconst 1, 1) := by decide +kernel
theorem dX3_raiseLevel_71 : decode cX3_raiseLevel 71 = .ok (.iadd, 1) := by decide +kernel
theorem dX3_raiseLevel_72 : decode cX3_raiseLevel 72 = .ok (.iaload, 1) := by decide +kernel
theorem dX3_raiseLevel_73 : decode cX3_raiseLevel 73 = .ok (.iadd, 1) := by decide +kernel
theorem dX3_raiseLevel_60 : decode cX3_raiseLevel 60 = .ok (.iload_n 1, 1) := by decide +kernel
theorem dX3_raiseLevel_61 : decode cX3_raiseLevel 61 = .ok (.goto 13, 3) := by decide +kernel
theorem dX3_raiseLevel_43 : decode cX3_raiseLevel 43 = .ok (.iconst 1, 1) := by decide +kernel
theorem dX3_raiseLevel_44 : decode cX3_raiseLevel 44 = .ok (.goto 4, 3) := by decide +kernel
theorem dX3_raiseLevel_32 : decode cX3_raiseLevel 32 = .ok (.if_icmp .ge 11, 3) := by decide +kernel
theorem dX3_raiseLevel_35 : decode cX3_raiseLevel 35 = .ok (.iload_n 3, 1) := by decide +kernel
theorem dX3_raiseLevel_36 : decode cX3_raiseLevel 36 = .ok (.iconst 1, 1) := by decide +kernel
theorem dX3_raiseLevel_37 : decode cX3_raiseLevel 37 = .ok (.iadd, 1) := by decide +kernel
theorem dX3_raiseLevel_38 : decode cX3_raiseLevel 38 = .ok (.bipush 6, 2) := by decide +kernel
theorem dX3_raiseLevel_40 : decode cX3_raiseLevel 40 = .ok (.if_icmp .lt 7, 3) := by decide +kernel
theorem dX3_raiseLevel_47 : decode cX3_raiseLevel 47 = .ok (.iconst 0, 1) := by decide +kernel
abbrev Wa_X3_raiseLevel (g : Nat → ClassId) (a_this : Nat) (a_mergeTaking : Nat) (a_rows : Nat) (way : Int32) (ways : Int32) (merges : Int32) (level : Int32) (rows : Nat → Int32) : va_W := [(a_this, .inr (5, [.ref a_mergeTaking, .ref a_rows, .int way, .int ways, .int merges, .int level])), (a_rows, .inl (g 0, 6, .inl rows))]
abbrev Wb_X3_raiseLevel (g : Nat → ClassId) (a_this : Nat) (a_mergeTaking : Nat) (a_rows : Nat) (way : Int32) (ways : Int32) (merges : Int32) (level : Int32) (u : (Nat → Int32) × Unit) : va_W := [(a_this, .inr (5, [.ref a_mergeTaking, .ref a_rows, .int way, .int ways, .int merges, .int level])), (a_rows, .inl (g 0, 6, .inl u.1))]
set_option maxHeartbeats 8000000 in
set_option maxRecDepth 100000 in
theorem c_X3_raiseLevel (l : Launch) (dC : Nat → ClassId) (dI : Nat → Nat → Nat) (g : Nat → ClassId) (a_this : Nat) (a_mergeTaking : Nat) (a_rows : Nat) (way : Int32) (ways : Int32) (merges : Int32) (level : Int32) (rows : Nat → Int32) (Q : Int32 → (Nat → Int32) → Prop) (hw : wp_X3_raiseLevel ways rows Q) (sz : Nat) : Met l yX3_raiseLevel wqX3_raiseLevel ({ frames := 0, cells := 0, slots := 0, locals := 0 }) (va_Pc [.ref a_this] (PG (dC, dI) g (Wa_X3_raiseLevel g a_this a_mergeTaking a_rows way ways merges level rows) sz)) (va_Qi (fun (r : Int32) (u : (Nat → Int32) × Unit) => Q r u.1) (fun (u : (Nat → Int32) × Unit) t9 => va_P (dC, dI) vwCl (Wb_X3_raiseLevel g a_this a_mergeTaking a_rows way ways merges level u) t9.heap ∧ va_D (va_A (Wa_X3_raiseLevel g a_this a_mergeTaking a_rows way ways merges level rows) sz) (Wb_X3_raiseLevel g a_this a_mergeTaking a_rows way ways merges level u)) (va_A (Wa_X3_raiseLevel g a_this a_mergeTaking a_rows way ways merges level rows) sz)) 0 0 (va_A (Wa_X3_raiseLevel g a_this a_mergeTaking a_rows way ways merges level rows) sz) := by
  refine Met.ofW (cc := cX3_raiseLevel) (maxL := 5) (ret := (some .int)) (by decide) rfl ?_
  intro p e s m args below meth c s₁ B hml hv
  obtain ⟨rfl, hsz, hP, hK, hD0, hG⟩ := hv
  have hx := B.exec
  have hb := B.bytes
  have hr := B.returns
  have hts := atoms_spec (ws := wqX3_raiseLevel) B.pre
  have hown : s.vm.findClass RX3 = some m.cls := findClass_of_methodNamed B.named
  have hlocks := B.notSynchronized
  subst hsz
  have hD := hD0.self (sz := s.heap.size)
  generalize hAe : va_A (Wa_X3_raiseLevel g a_this a_mergeTaking a_rows way ways merges level rows) s.heap.size = A at hD hG ⊢
  have hA : ∀ q : Nat, s.heap.size ≤ q → A q := fun q h => by rw [← hAe]; exact Or.inr h
  have hS : va_S A s.heap s.heap [] := va_S.rf
  have hl := lv_entry ([.ref a_this]) (n := 5) (Nat.le_of_ble_eq_true rfl)
  rw [lg_entry_eq]
  generalize (lg_sl ([.ref a_this]) ++ List.replicate (5 - (lg_sl ([.ref a_this])).length) Slot.unset).toArray = ls at hl ⊢
  have hl : lv_has ls 5 [(0, .ref a_this)] := hl
  unfold wp_X3_raiseLevel at hw
  have hf15 := hts (Cond.fieldLink RX3 15 "RunmergeOffice$Pass" "rows" "[I") (aw_l aw_1_175)
  have hiX3 : ∀ w ∈ u_ws RX3 TX3 6, w ∈ wqX3_raiseLevel := fun w h => aw_l (aw_wsX30 w h)
  have hf22 := hts (Cond.fieldLink RX3 22 "RunmergeOffice$Pass" "ways" "I") (aw_l aw_1_177)
  refine lv_aload_n hx hb dX3_raiseLevel_0 rfl (lv_at hl 0 rfl) ?_
  refine va_get (D := (dC, dI)) (ci := 5) (v := .ref a_rows) (C := RX3) (T := TX3) (N := 6) hx hb hts hiX3 hown hK hP 0 rfl rfl 1 (by decide) hf15 (fun _ h9 => h9) rfl dX3_raiseLevel_1 ?_
  refine lv_iconst (v := 0) hx hb dX3_raiseLevel_4 (by decide) ?_
  refine va_iald hx hb hK hP 1 0 rfl rfl (by unfold vp_in; decide) dX3_raiseLevel_5 ?_
  refine lv_topi (fun x_1 ex_1 => ?_)
  have hw := hw x_1 ex_1
  refine lv_istore_n (lv' := [(1, .int x_1), (0, .ref a_this)]) hx hb dX3_raiseLevel_6 rfl hl (by decide) rfl (fun ls hl => ?_)
  refine lv_iconst (v := 0) hx hb dX3_raiseLevel_7 (by decide) ?_
  refine lv_istore_n (lv' := [(2, .int 0), (1, .int x_1), (0, .ref a_this)]) hx hb dX3_raiseLevel_8 rfl hl (by decide) rfl (fun ls hl => ?_)
  refine lv_iconst (v := 0) hx hb dX3_raiseLevel_9 (by decide) ?_
  refine lv_istore_n (lv' := [(3, .int 0), (2, .int 0), (1, .int x_1), (0, .ref a_this)]) hx hb dX3_raiseLevel_10 rfl hl (by decide) rfl (fun ls hl => ?_)
  refine W_abs (fun QM hQM => ?_)
  have EX11_90 : ∀ (v2_5 : Int32) (rows_6 : Nat → Int32) (H : Heap) (locs : List Loc), (wx_X3_raiseLevel_11_90 Q) v2_5 rows_6 → va_P (dC, dI) vwCl [(a_this, .inr (5, [.ref a_mergeTaking, .ref a_rows, .int way, .int ways, .int merges, .int level])), (a_rows, .inl (g 0, 6, .inl rows_6))] H → va_D A [(a_this, .inr (5, [.ref a_mergeTaking, .ref a_rows, .int way, .int ways, .int merges, .int level])), (a_rows, .inl (g 0, 6, .inl rows_6))] → va_S A s.heap H locs → ∀ (ls : Array Slot), lv_has ls 5 [(2, .int v2_5)] → W p l e (headSpec wqX3_raiseLevel ({ frames := 0, cells := 0, slots := 0, locals := 0 })).room s m ([.ref a_this] : List Value).toArray below meth c H locs 0 0 QM (F0 m 90 ls []) := by
    intro v2_5 rows_6 H locs hw hP hD hS ls hl
    refine lv_iload_n hx hb dX3_raiseLevel_90 rfl (lv_at hl 0 rfl) ?_
    subst hQM
    have hP9 := hP.sub (ws' := [(a_this, .inr (5, [.ref a_mergeTaking, .ref a_rows, .int way, .int ways, .int merges, .int level])), (a_rows, .inl (g 0, 6, .inl rows_6))]) [0, 1] rfl
    have hD9 := hD.sub (ws' := [(a_this, .inr (5, [.ref a_mergeTaking, .ref a_rows, .int way, .int ways, .int merges, .int level])), (a_rows, .inl (g 0, 6, .inl rows_6))]) [0, 1] (by decide) rfl
    exact W.iret (v := v2_5) hx hb hr (fun t ht hW => ⟨⟨v2_5, (rows_6, ()), rfl, hw, ⟨P_at ht hP9, hD9⟩⟩, hS.F ht⟩) hS.2.2 dX3_raiseLevel_91
  have LOOP11 : ∀ (n11 : Nat) (v3_2 : Int32) (v2_3 : Int32) (rows_4 : Nat → Int32) (H : Heap) (locs : List Loc), wl_X3_raiseLevel_11 ways x_1 (wx_X3_raiseLevel_11_90 Q) n11 v3_2 v2_3 rows_4 → va_P (dC, dI) vwCl [(a_this, .inr (5, [.ref a_mergeTaking, .ref a_rows, .int way, .int ways, .int merges, .int level])), (a_rows, .inl (g 0, 6, .inl rows_4))] H → va_D A [(a_this, .inr (5, [.ref a_mergeTaking, .ref a_rows, .int way, .int ways, .int merges, .int level])), (a_rows, .inl (g 0, 6, .inl rows_4))] → va_S A s.heap H locs → ∀ (ls : Array Slot), lv_has ls 5 [(0, .ref a_this), (1, .int x_1), (2, .int v2_3), (3, .int v3_2)] → W p l e (headSpec wqX3_raiseLevel ({ frames := 0, cells := 0, slots := 0, locals := 0 })).room s m ([.ref a_this] : List Value).toArray below meth c H locs 0 0 QM (F0 m 11 ls []) := by
    intro n11
    induction n11 with
    | zero =>
      intro v3_2 v2_3 rows_4 H locs hw hP hD hS ls hl
      exact False.elim hw
    | succ n11 ih11 =>
      intro v3_2 v2_3 rows_4 H locs hw hP hD hS ls hl
      rw [wl_X3_raiseLevel_11_s] at hw
      refine lv_iload_n hx hb dX3_raiseLevel_11 rfl (lv_at hl 3 rfl) ?_
      refine lv_aload_n hx hb dX3_raiseLevel_12 rfl (lv_at hl 0 rfl) ?_
      refine va_get (D := (dC, dI)) (ci := 5) (v := .int ways) (C := RX3) (T := TX3) (N := 6) hx hb hts hiX3 hown hK hP 0 rfl rfl 3 (by decide) hf22 (fun _ h9 => h9) rfl dX3_raiseLevel_13 ?_
      refine lv_icmp_ge (tgt := 90) hx hb dX3_raiseLevel_16 (by decide) (fun c_7 => ?_) (fun c_7 => ?_)
      · have hw := hw.1 c_7
        exact EX11_90 v2_3 rows_4 _ _ hw (hP.sub [0, 1] rfl) (hD.sub [0, 1] (by decide) rfl) hS _ (lv_sub hl [2] rfl)
      · have hw := hw.2 c_7
        refine lv_iload_n hx hb dX3_raiseLevel_19 rfl (lv_at hl 3 rfl) ?_
        refine lv_bipush (v := 6) hx hb dX3_raiseLevel_20 (by decide) ?_
        refine lv_icmp_ge (tgt := 90) hx hb dX3_raiseLevel_22 (by decide) (fun c_8 => ?_) (fun c_8 => ?_)
        · have hw := hw.1 c_8
          exact EX11_90 v2_3 rows_4 _ _ hw (hP.sub [0, 1] rfl) (hD.sub [0, 1] (by decide) rfl) hS _ (lv_sub hl [2] rfl)
        · have hw := hw.2 c_8
          refine lv_iload_n hx hb dX3_raiseLevel_25 rfl (lv_at hl 3 rfl) ?_
          refine lv_iconst (v := 1) hx hb dX3_raiseLevel_26 (by decide) ?_
          refine lv_iadd hx hb dX3_raiseLevel_27 ?_
          refine lv_topi (fun x_9 ex_9 => ?_)
          have hw := hw x_9 ex_9
          refine lv_aload_n hx hb dX3_raiseLevel_28 rfl (lv_at hl 0 rfl) ?_
          refine va_get (D := (dC, dI)) (ci := 5) (v := .int ways) (C := RX3) (T := TX3) (N := 6) hx hb hts hiX3 hown hK hP 0 rfl rfl 3 (by decide) hf22 (fun _ h9 => h9) rfl dX3_raiseLevel_29 ?_
          have JN48 : ∀ (sk0_10 : Bool) (H : Heap) (locs : List Loc), (wj_X3_raiseLevel_48 x_1 v3_2 v2_3 rows_4 (wl_X3_raiseLevel_11 ways x_1 (wx_X3_raiseLevel_11_90 Q) n11)) sk0_10 → va_P (dC, dI) vwCl [(a_this, .inr (5, [.ref a_mergeTaking, .ref a_rows, .int way, .int ways, .int merges, .int level])), (a_rows, .inl (g 0, 6, .inl rows_4))] H → va_D A [(a_this, .inr (5, [.ref a_mergeTaking, .ref a_rows, .int way, .int ways, .int merges, .int level])), (a_rows, .inl (g 0, 6, .inl rows_4))] → va_S A s.heap H locs → ∀ (ls : Array Slot), lv_has ls 5 [(0, .ref a_this), (1, .int x_1), (2, .int v2_3), (3, .int v3_2)] → W p l e (headSpec wqX3_raiseLevel ({ frames := 0, cells := 0, slots := 0, locals := 0 })).room s m ([.ref a_this] : List Value).toArray below meth c H locs 0 0 QM (F0 m 48 ls [.int (b2i sk0_10)]) := by
            intro sk0_10 H locs hw hP hD hS ls hl
            refine lv_istore (lv' := [(4, .int (b2i sk0_10)), (0, .ref a_this), (1, .int x_1), (2, .int v2_3), (3, .int v3_2)]) hx hb dX3_raiseLevel_48 hl (by decide) rfl (fun ls hl => ?_)
            refine lv_aload_n hx hb dX3_raiseLevel_50 rfl (lv_at hl 1 rfl) ?_
            refine va_get (D := (dC, dI)) (ci := 5) (v := .ref a_rows) (C := RX3) (T := TX3) (N := 6) hx hb hts hiX3 hown hK hP 0 rfl rfl 1 (by decide) hf15 (fun _ h9 => h9) rfl dX3_raiseLevel_51 ?_
            refine lv_iload_n hx hb dX3_raiseLevel_54 rfl (lv_at hl 4 rfl) ?_
            refine lv_iload hx hb dX3_raiseLevel_55 (lv_at hl 0 rfl) ?_
            have JN74 : ∀ (sk0_11 : Int32) (H : Heap) (locs : List Loc), (wj_X3_raiseLevel_74 v3_2 v2_3 rows_4 (wl_X3_raiseLevel_11 ways x_1 (wx_X3_raiseLevel_11_90 Q) n11)) sk0_11 → va_P (dC, dI) vwCl [(a_this, .inr (5, [.ref a_mergeTaking, .ref a_rows, .int way, .int ways, .int merges, .int level])), (a_rows, .inl (g 0, 6, .inl rows_4))] H → va_D A [(a_this, .inr (5, [.ref a_mergeTaking, .ref a_rows, .int way, .int ways, .int merges, .int level])), (a_rows, .inl (g 0, 6, .inl rows_4))] → va_S A s.heap H locs → ∀ (ls : Array Slot), lv_has ls 5 [(0, .ref a_this), (1, .int x_1), (2, .int v2_3), (3, .int v3_2)] → W p l e (headSpec wqX3_raiseLevel ({ frames := 0, cells := 0, slots := 0, locals := 0 })).room s m ([.ref a_this] : List Value).toArray below meth c H locs 0 0 QM (F0 m 74 ls [.int sk0_11, .int v3_2, .ref a_rows]) := by
              intro sk0_11 H locs hw hP hD hS ls hl
              refine va_iast hx hb hK hP hD hS 1 0 rfl rfl hw.1 dX3_raiseLevel_74 (fun H_12 L_13 hP hD hS => ?_)
              have hw := hw.2
              have hP : va_P (dC, dI) vwCl [(a_this, .inr (5, [.ref a_mergeTaking, .ref a_rows, .int way, .int ways, .int merges, .int level])), (a_rows, .inl (g 0, 6, .inl (upd rows_4 v3_2.toNatClampNeg sk0_11)))] H_12 := hP
              have hD : va_D A [(a_this, .inr (5, [.ref a_mergeTaking, .ref a_rows, .int way, .int ways, .int merges, .int level])), (a_rows, .inl (g 0, 6, .inl (upd rows_4 v3_2.toNatClampNeg sk0_11)))] := hD
              refine lv_iload_n hx hb dX3_raiseLevel_75 rfl (lv_at hl 2 rfl) ?_
              refine lv_aload_n hx hb dX3_raiseLevel_76 rfl (lv_at hl 0 rfl) ?_
              refine va_get (D := (dC, dI)) (ci := 5) (v := .ref a_rows) (C := RX3) (T := TX3) (N := 6) hx hb hts hiX3 hown hK hP 0 rfl rfl 1 (by decide) hf15 (fun _ h9 => h9) rfl dX3_raiseLevel_77 ?_
              refine lv_iload_n hx hb dX3_raiseLevel_80 rfl (lv_at hl 3 rfl) ?_
              refine va_iald hx hb hK hP 1 0 rfl rfl hw.1 dX3_raiseLevel_81 ?_
              have hw := hw.2
              refine lv_topi (fun x_14 ex_14 => ?_)
              have hw := hw x_14 ex_14
              refine lv_iadd hx hb dX3_raiseLevel_82 ?_
              refine lv_topi (fun x_15 ex_15 => ?_)
              have hw := hw x_15 ex_15
              refine lv_istore_n (lv' := [(2, .int x_15), (0, .ref a_this), (1, .int x_1), (3, .int v3_2)]) hx hb dX3_raiseLevel_83 rfl hl (by decide) rfl (fun ls hl => ?_)
              obtain ⟨x_16, ex_16⟩ : ∃ y : Int32, y = v3_2 + 1 := ⟨_, rfl⟩
              have hw := hw x_16 ex_16
              refine lv_iinc (v := x_16) (lv' := [(3, .int x_16), (2, .int x_15), (0, .ref a_this), (1, .int x_1)]) hx hb dX3_raiseLevel_84 hl (k := 3) rfl (by rw [ex_16]; rfl) (by decide) rfl (fun ls hl => ?_)
              refine lv_goto (tgt := 11) hx hb dX3_raiseLevel_87 (by decide) ?_
              exact ih11 x_16 x_15 (upd rows_4 v3_2.toNatClampNeg sk0_11) _ _ hw (hP.sub [0, 1] rfl) (hD.sub [0, 1] (by decide) rfl) hS _ (lv_sub hl [2, 3, 1, 0] rfl)
            refine lv_if_eq (tgt := 64) hx hb dX3_raiseLevel_57 (by decide) (fun c_17 => ?_) (fun c_17 => ?_)
            · have hw := hw.1 (b2i_0 c_17)
              refine lv_iload_n hx hb dX3_raiseLevel_64 rfl (lv_at hl 2 rfl) ?_
              refine lv_aload_n hx hb dX3_raiseLevel_65 rfl (lv_at hl 1 rfl) ?_
              refine va_get (D := (dC, dI)) (ci := 5) (v := .ref a_rows) (C := RX3) (T := TX3) (N := 6) hx hb hts hiX3 hown hK hP 0 rfl rfl 1 (by decide) hf15 (fun _ h9 => h9) rfl dX3_raiseLevel_66 ?_
              refine lv_iload_n hx hb dX3_raiseLevel_69 rfl (lv_at hl 4 rfl) ?_
              refine lv_iconst (v := 1) hx hb dX3_raiseLevel_70 (by decide) ?_
              refine lv_iadd hx hb dX3_raiseLevel_71 ?_
              refine lv_topi (fun x_18 ex_18 => ?_)
              have hw := hw x_18 ex_18
              refine va_iald hx hb hK hP 1 0 rfl rfl hw.1 dX3_raiseLevel_72 ?_
              have hw := hw.2
              refine lv_topi (fun x_19 ex_19 => ?_)
              have hw := hw x_19 ex_19
              refine lv_iadd hx hb dX3_raiseLevel_73 ?_
              refine lv_topi (fun x_20 ex_20 => ?_)
              have hw := hw x_20 ex_20
              exact JN74 x_20 _ _ hw (hP.sub [0, 1] rfl) (hD.sub [0, 1] (by decide) rfl) hS _ (lv_sub hl [1, 2, 3, 4] rfl)
            · have hw := hw.2 (b2i_1 c_17)
              refine lv_iload_n hx hb dX3_raiseLevel_60 rfl (lv_at hl 2 rfl) ?_
              refine lv_goto (tgt := 74) hx hb dX3_raiseLevel_61 (by decide) ?_
              exact JN74 x_1 _ _ hw (hP.sub [0, 1] rfl) (hD.sub [0, 1] (by decide) rfl) hS _ (lv_sub hl [1, 2, 3, 4] rfl)
          have JN43 : ∀  (H : Heap) (locs : List Loc), (wj_X3_raiseLevel_43 x_1 v3_2 v2_3 rows_4 (wl_X3_raiseLevel_11 ways x_1 (wx_X3_raiseLevel_11_90 Q) n11))  → va_P (dC, dI) vwCl [(a_this, .inr (5, [.ref a_mergeTaking, .ref a_rows, .int way, .int ways, .int merges, .int level])), (a_rows, .inl (g 0, 6, .inl rows_4))] H → va_D A [(a_this, .inr (5, [.ref a_mergeTaking, .ref a_rows, .int way, .int ways, .int merges, .int level])), (a_rows, .inl (g 0, 6, .inl rows_4))] → va_S A s.heap H locs → ∀ (ls : Array Slot), lv_has ls 5 [(0, .ref a_this), (1, .int x_1), (2, .int v2_3), (3, .int v3_2)] → W p l e (headSpec wqX3_raiseLevel ({ frames := 0, cells := 0, slots := 0, locals := 0 })).room s m ([.ref a_this] : List Value).toArray below meth c H locs 0 0 QM (F0 m 43 ls []) := by
            intro  H locs hw hP hD hS ls hl
            refine lv_iconst (v := 1) hx hb dX3_raiseLevel_43 (by decide) ?_
            refine lv_goto (tgt := 48) hx hb dX3_raiseLevel_44 (by decide) ?_
            exact JN48 true _ _ hw (hP.sub [0, 1] rfl) (hD.sub [0, 1] (by decide) rfl) hS _ (lv_sub hl [0, 1, 2, 3] rfl)
          refine lv_icmp_ge (tgt := 43) hx hb dX3_raiseLevel_32 (by decide) (fun c_21 => ?_) (fun c_21 => ?_)
          · have hw := hw.1 c_21
            exact JN43  _ _ hw (hP.sub [0, 1] rfl) (hD.sub [0, 1] (by decide) rfl) hS _ (lv_sub hl [0, 1, 2, 3] rfl)
          · have hw := hw.2 c_21
            refine lv_iload_n hx hb dX3_raiseLevel_35 rfl (lv_at hl 3 rfl) ?_
            refine lv_iconst (v := 1) hx hb dX3_raiseLevel_36 (by decide) ?_
            refine lv_iadd hx hb dX3_raiseLevel_37 ?_
            refine lv_topi (fun x_22 ex_22 => ?_)
            have hw := hw x_22 ex_22
            refine lv_bipush (v := 6) hx hb dX3_raiseLevel_38 (by decide) ?_
            refine lv_icmp_lt (tgt := 47) hx hb dX3_raiseLevel_40 (by decide) (fun c_23 => ?_) (fun c_23 => ?_)
            · have hw := hw.1 c_23
              refine lv_iconst (v := 0) hx hb dX3_raiseLevel_47 (by decide) ?_
              exact JN48 false _ _ hw (hP.sub [0, 1] rfl) (hD.sub [0, 1] (by decide) rfl) hS _ (lv_sub hl [0, 1, 2, 3] rfl)
            · have hw := hw.2 c_23
              exact JN43  _ _ hw (hP.sub [0, 1] rfl) (hD.sub [0, 1] (by decide) rfl) hS _ (lv_sub hl [0, 1, 2, 3] rfl)
  obtain ⟨n11, hw⟩ := hw
  exact LOOP11 n11 0 0 rows _ _ hw (hP.sub [0, 1] rfl) (hD.sub [0, 1] (by decide) rfl) hS _ (lv_sub hl [3, 2, 1, 0] rfl)
theorem dX3_arrange_0 : decode cX3_arrange 0 = .ok (.aload_n 0, 1) := by decide +kernel
theorem dX3_arrange_1 : decode cX3_arrange 1 = .ok (.aload_n 1, 1) := by decide +kernel
theorem dX3_arrange_2 : decode cX3_arrange 2 = .ok (.getfield 31, 3) := by decide +kernel
theorem dX3_arrange_5 : decode cX3_arrange 5 = .ok (.putfield 18, 3) := by decide +kernel
theorem dX3_arrange_8 : decode cX3_arrange 8 = .ok (.aload_n 0, 1) := by decide +kernel
theorem dX3_arrange_9 : decode cX3_arrange 9 = .ok (.iconst 2, 1) := by decide +kernel
theorem dX3_arrange_10 : decode cX3_arrange 10 = .ok (.aload_n 1, 1) := by decide +kernel
theorem dX3_arrange_11 : decode cX3_arrange 11 = .ok (.getfield 36, 3) := by decide +kernel
theorem dX3_arrange_14 : decode cX3_arrange 14 = .ok (.bipush 6, 2) := by decide +kernel
theorem dX3_arrange_16 : decode cX3_arrange 16 = .ok (.invokestatic 37, 3) := by decide +kernel
theorem dX3_arrange_19 : decode cX3_arrange 19 = .ok (.invokestatic 43, 3) := by decide +kernel
theorem dX3_arrange_22 : decode cX3_arrange 22 = .ok (.putfield 22, 3) := by decide +kernel
theorem dX3_arrange_25 : decode cX3_arrange 25 = .ok (.aload_n 0, 1) := by decide +kernel
theorem dX3_arrange_26 : decode cX3_arrange 26 = .ok (.iconst 0, 1) := by decide +kernel
theorem dX3_arrange_27 : decode cX3_arrange 27 = .ok (.putfield 28, 3) := by decide +kernel
theorem dX3_arrange_30 : decode cX3_arrange 30 = .ok (.aload_n 0, 1) := by decide +kernel
theorem dX3_arrange_31 : decode cX3_arrange 31 = .ok (.iconst 0, 1) := by decide +kernel
theorem dX3_arrange_32 : decode cX3_arrange 32 = .ok (.putfield 25, 3) := by decide +kernel
theorem dX3_arrange_35 : decode cX3_arrange 35 = .ok (.aload_n 0, 1) := by decide +kernel
theorem dX3_arrange_36 : decode cX3_arrange 36 = .ok (.getfield 18, 3) := by decide +kernel
theorem dX3_arrange_39 : decode cX3_arrange 39 = .ok (.iconst 2, 1) := by decide +kernel
theorem dX3_arrange_40 : decode cX3_arrange 40 = .ok (.if_icmp .ne 7, 3) := by decide +kernel
theorem dX3_arrange_47 : decode cX3_arrange 47 = .ok (.iload_n 2, 1) := by decide +kernel
theorem dX3_arrange_48 : decode cX3_arrange 48 = .ok (.ireturn, 1) := by decide +kernel
theorem dX3_arrange_43 : decode cX3_arrange 43 = .ok (.iload_n 2, 1) := by decide +kernel
theorem dX3_arrange_44 : decode cX3_arrange 44 = .ok (.ifCond .ne 5, 3) := by decide +kernel
theorem dX3_arrange_49 : decode cX3_arrange 49 = .ok (.iconst 0, 1) := by decide +kernel
theorem dX3_arrange_50 : decode cX3_arrange 50 = .ok (.istore_n 3, 1) := by decide +kernel
theorem dX3_arrange_78 : decode cX3_arrange 78 = .ok (.iconst 1, 1) := by decide +kernel
theorem dX3_arrange_79 : decode cX3_arrange 79 = .ok (.istore_n 3, 1) := by decide +kernel
theorem dX3_arrange_113 : decode cX3_arrange 113 = .ok (.iload_n 3, 1) := by decide +kernel
theorem dX3_arrange_114 : decode cX3_arrange 114 = .ok (.ireturn, 1) := by decide +kernel
theorem dX3_arrange_80 : decode cX3_arrange 80 = .ok (.iload_n 3, 1) := by decide +kernel
theorem dX3_arrange_81 : decode cX3_arrange 81 = .ok (.iload_n 2, 1) := by decide +kernel
theorem dX3_arrange_82 : decode cX3_arrange 82 = .ok (.if_icmp .ge 31, 3) := by decide +kernel
theorem dX3_arrange_85 : decode cX3_arrange 85 = .ok (.aload_n 0, 1) := by decide +kernel
theorem dX3_arrange_86 : decode cX3_arrange 86 = .ok (.getfield 28, 3) := by decide +kernel
theorem dX3_arrange_89 : decode cX3_arrange 89 = .ok (.sipush 200, 3) := by decide +kernel
theorem dX3_arrange_92 : decode cX3_arrange 92 = .ok (.if_icmp .ge 21, 3) := by decide +kernel
theorem dX3_arrange_95 : decode cX3_arrange 95 = .ok (.aload_n 0, 1) := by decide +kernel
theorem dX3_arrange_96 : decode cX3_arrange 96 = .ok (.invokevirtual 46, 3) := by decide +kernel
theorem dX3_arrange_99 : decode cX3_arrange 99 = .ok (.istore_n 3, 1) := by decide +kernel
theorem dX3_arrange_100 : decode cX3_arrange 100 = .ok (.aload_n 0, 1) := by decide +kernel
theorem dX3_arrange_101 : decode cX3_arrange 101 = .ok (.dup, 1) := by decide +kernel
theorem dX3_arrange_102 : decode cX3_arrange 102 = .ok (.getfield 28, 3) := by decide +kernel
theorem dX3_arrange_105 : decode cX3_arrange 105 = .ok (.iconst 1, 1) := by decide +kernel
theorem dX3_arrange_106 : decode cX3_arrange 106 = .ok (.iadd, 1) := by decide +kernel
theorem dX3_arrange_107 : decode cX3_arrange 107 = .ok (.putfield 28, 3) := by decide +kernel
theorem dX3_arrange_110 : decode cX3_arrange 110 = .ok (.goto (-30), 3) := by decide +kernel
theorem dX3_arrange_51 : decode cX3_arrange 51 = .ok (.iload_n 3, 1) := by decide +kernel
theorem dX3_arrange_52 : decode cX3_arrange 52 = .ok (.bipush 6, 2) := by decide +kernel
theorem dX3_arrange_54 : decode cX3_arrange 54 = .ok (.if_icmp .ge 24, 3) := by decide +kernel
theorem dX3_arrange_57 : decode cX3_arrange 57 = .ok (.aload_n 0, 1) := by decide +kernel
theorem dX3_arrange_58 : decode cX3_arrange 58 = .ok (.getfield 15, 3) := by decide +kernel
theorem dX3_arrange_61 : decode cX3_arrange 61 = .ok (.iload_n 3, 1) := by decide +kernel
theorem dX3_arrange_62 : decode cX3_arrange 62 = .ok (.iload_n 3, 1) := by decide +kernel
theorem dX3_arrange_63 : decode cX3_arrange 63 = .ok (.ifCond .ne 7, 3) := by decide +kernel
theorem dX3_arrange_70 : decode cX3_arrange 70 = .ok (.iconst 0, 1) := by decide +kernel
theorem dX3_arrange_71 : decode cX3_arrange 71 = .ok (.iastore, 1) := by decide +kernel
theorem dX3_arrange_72 : decode cX3_arrange 72 = .ok (.iinc 3 1, 3) := by decide +kernel
theorem dX3_arrange_75 : decode cX3_arrange 75 = .ok (.goto (-24), 3) := by decide +kernel
theorem dX3_arrange_66 : decode cX3_arrange 66 = .ok (.iconst 1, 1) := by decide +kernel
theorem dX3_arrange_67 : decode cX3_arrange 67 = .ok (.goto 4, 3) := by decide +kernel
abbrev Wa_X3_arrange (g : Nat → ClassId) (a_this : Nat) (a_with_ : Nat) (a_mergeTaking : Nat) (a_rows : Nat) (way : Int32) (ways : Int32) (merges : Int32) (level : Int32) (rows : Nat → Int32) (with__order : Int32) (with__runWay : Int32) (with__memory : Int32) (with__mergeWay : Int32) (with__ways : Int32) : va_W := [(a_this, .inr (5, [.ref a_mergeTaking, .ref a_rows, .int way, .int ways, .int merges, .int level])), (a_rows, .inl (g 0, 6, .inl rows)), (a_with_, .inr (10, [.int with__order, .int with__runWay, .int with__memory, .int with__mergeWay, .int with__ways]))]
abbrev Wb_X3_arrange (g : Nat → ClassId) (a_this : Nat) (a_with_ : Nat) (a_mergeTaking : Nat) (a_rows : Nat) (with__order : Int32) (with__runWay : Int32) (with__memory : Int32) (with__mergeWay : Int32) (with__ways : Int32) (u : Int32 × Int32 × Int32 × Int32 × (Nat → Int32) × Unit) : va_W := [(a_this, .inr (5, [.ref a_mergeTaking, .ref a_rows, .int u.1, .int u.2.1, .int u.2.2.1, .int u.2.2.2.1])), (a_rows, .inl (g 0, 6, .inl u.2.2.2.2.1)), (a_with_, .inr (10, [.int with__order, .int with__runWay, .int with__memory, .int with__mergeWay, .int with__ways]))]
set_option maxHeartbeats 8000000 in
set_option maxRecDepth 100000 in
theorem c_X3_arrange (l : Launch) (dC : Nat → ClassId) (dI : Nat → Nat → Nat) (g : Nat → ClassId) (a_this : Nat) (a_with_ : Nat) (a_mergeTaking : Nat) (a_rows : Nat) (way : Int32) (ways : Int32) (merges : Int32) (level : Int32) (rows : Nat → Int32) (with__order : Int32) (with__runWay : Int32) (with__memory : Int32) (with__mergeWay : Int32) (with__ways : Int32) (runs : Int32) (Q : Int32 → Int32 → Int32 → Int32 → Int32 → (Nat → Int32) → Prop) (hw : wp_X3_arrange rows with__mergeWay with__ways runs Q) (sz : Nat) : Met l yX3_arrange wqX3_arrange ({ frames := 1, cells := 0, slots := 0, locals := 24 }) (va_Pc [.ref a_this, .ref a_with_, .int runs] (PG (dC, dI) g (Wa_X3_arrange g a_this a_with_ a_mergeTaking a_rows way ways merges level rows with__order with__runWay with__memory with__mergeWay with__ways) sz)) (va_Qi (fun (r : Int32) (u : Int32 × Int32 × Int32 × Int32 × (Nat → Int32) × Unit) => Q r u.1 u.2.1 u.2.2.1 u.2.2.2.1 u.2.2.2.2.1) (fun (u : Int32 × Int32 × Int32 × Int32 × (Nat → Int32) × Unit) t9 => va_P (dC, dI) vwCl (Wb_X3_arrange g a_this a_with_ a_mergeTaking a_rows with__order with__runWay with__memory with__mergeWay with__ways u) t9.heap ∧ va_D (va_A (Wa_X3_arrange g a_this a_with_ a_mergeTaking a_rows way ways merges level rows with__order with__runWay with__memory with__mergeWay with__ways) sz) (Wb_X3_arrange g a_this a_with_ a_mergeTaking a_rows with__order with__runWay with__memory with__mergeWay with__ways u)) (va_A (Wa_X3_arrange g a_this a_with_ a_mergeTaking a_rows way ways merges level rows with__order with__runWay with__memory with__mergeWay with__ways) sz)) 0 0 (va_A (Wa_X3_arrange g a_this a_with_ a_mergeTaking a_rows way ways merges level rows with__order with__runWay with__memory with__mergeWay with__ways) sz) := by
  refine Met.ofW (cc := cX3_arrange) (maxL := 4) (ret := (some .int)) (by decide) rfl ?_
  intro p e s m args below meth c s₁ B hml hv
  obtain ⟨rfl, hsz, hP, hK, hD0, hG⟩ := hv
  have hx := B.exec
  have hb := B.bytes
  have hr := B.returns
  have hts := atoms_spec (ws := wqX3_arrange) B.pre
  have hown : s.vm.findClass RX3 = some m.cls := findClass_of_methodNamed B.named
  have hlocks := B.notSynchronized
  subst hsz
  have hD := hD0.self (sz := s.heap.size)
  generalize hAe : va_A (Wa_X3_arrange g a_this a_with_ a_mergeTaking a_rows way ways merges level rows with__order with__runWay with__memory with__mergeWay with__ways) s.heap.size = A at hD hG ⊢
  have hA : ∀ q : Nat, s.heap.size ≤ q → A q := fun q h => by rw [← hAe]; exact Or.inr h
  have hS : va_S A s.heap s.heap [] := va_S.rf
  have hl := lv_entry ([.ref a_this, .ref a_with_, .int runs]) (n := 4) (Nat.le_of_ble_eq_true rfl)
  rw [lg_entry_eq]
  generalize (lg_sl ([.ref a_this, .ref a_with_, .int runs]) ++ List.replicate (4 - (lg_sl ([.ref a_this, .ref a_with_, .int runs])).length) Slot.unset).toArray = ls at hl ⊢
  have hl : lv_has ls 4 [(0, .ref a_this), (1, .ref a_with_), (2, .int runs)] := hl
  unfold wp_X3_arrange at hw
  have hiX8 : ∀ w ∈ u_ws RX8 TX8 5, w ∈ wqX3_arrange := fun w h => aw_l (aw_wsX80 w h)
  have hf18 := hts (Cond.fieldLink RX3 18 "RunmergeOffice$Pass" "way" "I") (aw_l aw_1_176)
  have hiX3 : ∀ w ∈ u_ws RX3 TX3 6, w ∈ wqX3_arrange := fun w h => aw_l (aw_wsX30 w h)
  have hmmin37_0 := hts (Cond.methodLink RX3 37 Lib.Math.min.name) (aw_l aw_4_68)
  have hmmin37_1 := hts (Cond.static Lib.Math.min.name) (aw_l aw_3_141)
  have hmmin37_2 := hts (Cond.initialized "java/lang/Math") (aw_l aw_1_19)
  have hmmin37_3 := hts (Cond.code Lib.Math.min.name Lib.Math.min.code 2 (some .int)) (aw_l aw_3_142)
  have hmmax43_0 := hts (Cond.methodLink RX3 43 Lib.Math.max.name) (aw_l aw_4_69)
  have hmmax43_1 := hts (Cond.static Lib.Math.max.name) (aw_l aw_3_191)
  have hmmax43_2 := hts (Cond.initialized "java/lang/Math") (aw_l aw_1_19)
  have hmmax43_3 := hts (Cond.code Lib.Math.max.name Lib.Math.max.code 2 (some .int)) (aw_l aw_3_192)
  have hf22 := hts (Cond.fieldLink RX3 22 "RunmergeOffice$Pass" "ways" "I") (aw_l aw_1_177)
  have hf28 := hts (Cond.fieldLink RX3 28 "RunmergeOffice$Pass" "level" "I") (aw_l aw_1_181)
  have hf25 := hts (Cond.fieldLink RX3 25 "RunmergeOffice$Pass" "merges" "I") (aw_l aw_1_178)
  have hf15 := hts (Cond.fieldLink RX3 15 "RunmergeOffice$Pass" "rows" "[I") (aw_l aw_1_175)
  refine lv_aload_n hx hb dX3_arrange_0 rfl (lv_at hl 0 rfl) ?_
  refine lv_aload_n hx hb dX3_arrange_1 rfl (lv_at hl 1 rfl) ?_
  refine va_getN (D := (dC, dI)) (ci := 10) (v := .int with__mergeWay) (C := RX8) (T := TX8) (N := 5) hx hb hts hiX8 hown hK hP 2 rfl rfl 3 (by decide) (nf_17 hG) (fun _ h9 => h9) rfl dX3_arrange_2 ?_
  refine va_put (D := (dC, dI)) (ci := 5) (v := .int with__mergeWay) (ty := .int) (C := RX3) (T := TX3) (N := 6) hx hb hts hiX3 tyX3 tyX3_ok nmX3 hown hK hP hD hS 0 rfl rfl 2 (by decide) hf18 (fun _ h9 => h9) rfl (by decide +kernel) rfl rfl (Nat.le_of_ble_eq_true rfl) dX3_arrange_5 (fun H_1 L_2 hP hD hS => ?_)
  have hP : va_P (dC, dI) vwCl [(a_this, .inr (5, [.ref a_mergeTaking, .ref a_rows, .int with__mergeWay, .int ways, .int merges, .int level])), (a_rows, .inl (g 0, 6, .inl rows)), (a_with_, .inr (10, [.int with__order, .int with__runWay, .int with__memory, .int with__mergeWay, .int with__ways]))] H_1 := hP
  have hD : va_D A [(a_this, .inr (5, [.ref a_mergeTaking, .ref a_rows, .int with__mergeWay, .int ways, .int merges, .int level])), (a_rows, .inl (g 0, 6, .inl rows)), (a_with_, .inr (10, [.int with__order, .int with__runWay, .int with__memory, .int with__mergeWay, .int with__ways]))] := hD
  refine lv_aload_n hx hb dX3_arrange_8 rfl (lv_at hl 0 rfl) ?_
  refine lv_iconst (v := 2) hx hb dX3_arrange_9 (by decide) ?_
  refine lv_aload_n hx hb dX3_arrange_10 rfl (lv_at hl 1 rfl) ?_
  refine va_getN (D := (dC, dI)) (ci := 10) (v := .int with__ways) (C := RX8) (T := TX8) (N := 5) hx hb hts hiX8 hown hK hP 2 rfl rfl 4 (by decide) (nf_21 hG) (fun _ h9 => h9) rfl dX3_arrange_11 ?_
  refine lv_bipush (v := 6) hx hb dX3_arrange_14 (by decide) ?_
  refine va_mmin hx hb (hml.trans hl.1.symm) hown hmmin37_0 hmmin37_1 hmmin37_2 hmmin37_3 (Nat.le_of_ble_eq_true rfl) (Nat.le_of_ble_eq_true rfl) (Nat.le_of_ble_eq_true rfl) (Nat.le_of_ble_eq_true rfl) dX3_arrange_16 ?_
  refine lv_topi (fun x_3 ex_3 => ?_)
  have hw := hw x_3 ex_3
  refine va_mmax hx hb (hml.trans hl.1.symm) hown hmmax43_0 hmmax43_1 hmmax43_2 hmmax43_3 (Nat.le_of_ble_eq_true rfl) (Nat.le_of_ble_eq_true rfl) (Nat.le_of_ble_eq_true rfl) (Nat.le_of_ble_eq_true rfl) dX3_arrange_19 ?_
  refine lv_topi (fun x_4 ex_4 => ?_)
  have hw := hw x_4 ex_4
  refine va_put (D := (dC, dI)) (ci := 5) (v := .int x_4) (ty := .int) (C := RX3) (T := TX3) (N := 6) hx hb hts hiX3 tyX3 tyX3_ok nmX3 hown hK hP hD hS 0 rfl rfl 3 (by decide) hf22 (fun _ h9 => h9) rfl (by decide +kernel) rfl rfl (Nat.le_of_ble_eq_true rfl) dX3_arrange_22 (fun H_5 L_6 hP hD hS => ?_)
  have hP : va_P (dC, dI) vwCl [(a_this, .inr (5, [.ref a_mergeTaking, .ref a_rows, .int with__mergeWay, .int x_4, .int merges, .int level])), (a_rows, .inl (g 0, 6, .inl rows)), (a_with_, .inr (10, [.int with__order, .int with__runWay, .int with__memory, .int with__mergeWay, .int with__ways]))] H_5 := hP
  have hD : va_D A [(a_this, .inr (5, [.ref a_mergeTaking, .ref a_rows, .int with__mergeWay, .int x_4, .int merges, .int level])), (a_rows, .inl (g 0, 6, .inl rows)), (a_with_, .inr (10, [.int with__order, .int with__runWay, .int with__memory, .int with__mergeWay, .int with__ways]))] := hD
  refine lv_aload_n hx hb dX3_arrange_25 rfl (lv_at hl 0 rfl) ?_
  refine lv_iconst (v := 0) hx hb dX3_arrange_26 (by decide) ?_
  refine va_put (D := (dC, dI)) (ci := 5) (v := .int 0) (ty := .int) (C := RX3) (T := TX3) (N := 6) hx hb hts hiX3 tyX3 tyX3_ok nmX3 hown hK hP hD hS 0 rfl rfl 5 (by decide) hf28 (fun _ h9 => h9) rfl (by decide +kernel) rfl rfl (Nat.le_of_ble_eq_true rfl) dX3_arrange_27 (fun H_7 L_8 hP hD hS => ?_)
  have hP : va_P (dC, dI) vwCl [(a_this, .inr (5, [.ref a_mergeTaking, .ref a_rows, .int with__mergeWay, .int x_4, .int merges, .int 0])), (a_rows, .inl (g 0, 6, .inl rows)), (a_with_, .inr (10, [.int with__order, .int with__runWay, .int with__memory, .int with__mergeWay, .int with__ways]))] H_7 := hP
  have hD : va_D A [(a_this, .inr (5, [.ref a_mergeTaking, .ref a_rows, .int with__mergeWay, .int x_4, .int merges, .int 0])), (a_rows, .inl (g 0, 6, .inl rows)), (a_with_, .inr (10, [.int with__order, .int with__runWay, .int with__memory, .int with__mergeWay, .int with__ways]))] := hD
  refine lv_aload_n hx hb dX3_arrange_30 rfl (lv_at hl 0 rfl) ?_
  refine lv_iconst (v := 0) hx hb dX3_arrange_31 (by decide) ?_
  refine va_put (D := (dC, dI)) (ci := 5) (v := .int 0) (ty := .int) (C := RX3) (T := TX3) (N := 6) hx hb hts hiX3 tyX3 tyX3_ok nmX3 hown hK hP hD hS 0 rfl rfl 4 (by decide) hf25 (fun _ h9 => h9) rfl (by decide +kernel) rfl rfl (Nat.le_of_ble_eq_true rfl) dX3_arrange_32 (fun H_9 L_10 hP hD hS => ?_)
  have hP : va_P (dC, dI) vwCl [(a_this, .inr (5, [.ref a_mergeTaking, .ref a_rows, .int with__mergeWay, .int x_4, .int 0, .int 0])), (a_rows, .inl (g 0, 6, .inl rows)), (a_with_, .inr (10, [.int with__order, .int with__runWay, .int with__memory, .int with__mergeWay, .int with__ways]))] H_9 := hP
  have hD : va_D A [(a_this, .inr (5, [.ref a_mergeTaking, .ref a_rows, .int with__mergeWay, .int x_4, .int 0, .int 0])), (a_rows, .inl (g 0, 6, .inl rows)), (a_with_, .inr (10, [.int with__order, .int with__runWay, .int with__memory, .int with__mergeWay, .int with__ways]))] := hD
  refine lv_aload_n hx hb dX3_arrange_35 rfl (lv_at hl 0 rfl) ?_
  refine va_get (D := (dC, dI)) (ci := 5) (v := .int with__mergeWay) (C := RX3) (T := TX3) (N := 6) hx hb hts hiX3 hown hK hP 0 rfl rfl 2 (by decide) hf18 (fun _ h9 => h9) rfl dX3_arrange_36 ?_
  refine lv_iconst (v := 2) hx hb dX3_arrange_39 (by decide) ?_
  refine lv_icmp_ne (tgt := 47) hx hb dX3_arrange_40 (by decide) (fun c_11 => ?_) (fun c_11 => ?_)
  · have hw := hw.2 c_11
    refine lv_iload_n hx hb dX3_arrange_47 rfl (lv_at hl 2 rfl) ?_
    have hP9 := hP.sub (ws' := [(a_this, .inr (5, [.ref a_mergeTaking, .ref a_rows, .int with__mergeWay, .int x_4, .int 0, .int 0])), (a_rows, .inl (g 0, 6, .inl rows)), (a_with_, .inr (10, [.int with__order, .int with__runWay, .int with__memory, .int with__mergeWay, .int with__ways]))]) [0, 1, 2] rfl
    have hD9 := hD.sub (ws' := [(a_this, .inr (5, [.ref a_mergeTaking, .ref a_rows, .int with__mergeWay, .int x_4, .int 0, .int 0])), (a_rows, .inl (g 0, 6, .inl rows)), (a_with_, .inr (10, [.int with__order, .int with__runWay, .int with__memory, .int with__mergeWay, .int with__ways]))]) [0, 1, 2] (by decide) rfl
    exact W.iret (v := runs) hx hb hr (fun t ht hW => ⟨⟨runs, (with__mergeWay, x_4, 0, 0, rows, ()), rfl, hw, ⟨P_at ht hP9, hD9⟩⟩, hS.F ht⟩) hS.2.2 dX3_arrange_48
  · have hw := hw.1 c_11
    refine lv_iload_n hx hb dX3_arrange_43 rfl (lv_at hl 2 rfl) ?_
    refine lv_if_ne (tgt := 49) hx hb dX3_arrange_44 (by decide) (fun c_12 => ?_) (fun c_12 => ?_)
    · have hw := hw.2 c_12
      refine lv_iconst (v := 0) hx hb dX3_arrange_49 (by decide) ?_
      refine lv_istore_n (lv' := [(3, .int 0), (0, .ref a_this), (1, .ref a_with_), (2, .int runs)]) hx hb dX3_arrange_50 rfl hl (by decide) rfl (fun ls hl => ?_)
      refine W_abs (fun QM hQM => ?_)
      have EX51_78 : ∀ (rows_15 : Nat → Int32) (H : Heap) (locs : List Loc), (wx_X3_arrange_51_78 with__mergeWay runs Q x_4) rows_15 → va_P (dC, dI) vwCl [(a_this, .inr (5, [.ref a_mergeTaking, .ref a_rows, .int with__mergeWay, .int x_4, .int 0, .int 0])), (a_rows, .inl (g 0, 6, .inl rows_15)), (a_with_, .inr (10, [.int with__order, .int with__runWay, .int with__memory, .int with__mergeWay, .int with__ways]))] H → va_D A [(a_this, .inr (5, [.ref a_mergeTaking, .ref a_rows, .int with__mergeWay, .int x_4, .int 0, .int 0])), (a_rows, .inl (g 0, 6, .inl rows_15)), (a_with_, .inr (10, [.int with__order, .int with__runWay, .int with__memory, .int with__mergeWay, .int with__ways]))] → va_S A s.heap H locs → ∀ (ls : Array Slot), lv_has ls 4 [(0, .ref a_this), (2, .int runs)] → W p l e (headSpec wqX3_arrange ({ frames := 1, cells := 0, slots := 0, locals := 24 })).room s m ([.ref a_this, .ref a_with_, .int runs] : List Value).toArray below meth c H locs 0 0 QM (F0 m 78 ls []) := by
        intro rows_15 H locs hw hP hD hS ls hl
        refine lv_iconst (v := 1) hx hb dX3_arrange_78 (by decide) ?_
        refine lv_istore_n (lv' := [(3, .int 1), (0, .ref a_this), (2, .int runs)]) hx hb dX3_arrange_79 rfl hl (by decide) rfl (fun ls hl => ?_)
        have EX80_113 : ∀ (v3_19 : Int32) (level_20 : Int32) (rows_21 : Nat → Int32) (H : Heap) (locs : List Loc), (wx_X3_arrange_80_113 with__mergeWay Q x_4) v3_19 level_20 rows_21 → va_P (dC, dI) vwCl [(a_this, .inr (5, [.ref a_mergeTaking, .ref a_rows, .int with__mergeWay, .int x_4, .int 0, .int level_20])), (a_rows, .inl (g 0, 6, .inl rows_21)), (a_with_, .inr (10, [.int with__order, .int with__runWay, .int with__memory, .int with__mergeWay, .int with__ways]))] H → va_D A [(a_this, .inr (5, [.ref a_mergeTaking, .ref a_rows, .int with__mergeWay, .int x_4, .int 0, .int level_20])), (a_rows, .inl (g 0, 6, .inl rows_21)), (a_with_, .inr (10, [.int with__order, .int with__runWay, .int with__memory, .int with__mergeWay, .int with__ways]))] → va_S A s.heap H locs → ∀ (ls : Array Slot), lv_has ls 4 [(3, .int v3_19)] → W p l e (headSpec wqX3_arrange ({ frames := 1, cells := 0, slots := 0, locals := 24 })).room s m ([.ref a_this, .ref a_with_, .int runs] : List Value).toArray below meth c H locs 0 0 QM (F0 m 113 ls []) := by
          intro v3_19 level_20 rows_21 H locs hw hP hD hS ls hl
          refine lv_iload_n hx hb dX3_arrange_113 rfl (lv_at hl 0 rfl) ?_
          subst hQM
          have hP9 := hP.sub (ws' := [(a_this, .inr (5, [.ref a_mergeTaking, .ref a_rows, .int with__mergeWay, .int x_4, .int 0, .int level_20])), (a_rows, .inl (g 0, 6, .inl rows_21)), (a_with_, .inr (10, [.int with__order, .int with__runWay, .int with__memory, .int with__mergeWay, .int with__ways]))]) [0, 1, 2] rfl
          have hD9 := hD.sub (ws' := [(a_this, .inr (5, [.ref a_mergeTaking, .ref a_rows, .int with__mergeWay, .int x_4, .int 0, .int level_20])), (a_rows, .inl (g 0, 6, .inl rows_21)), (a_with_, .inr (10, [.int with__order, .int with__runWay, .int with__memory, .int with__mergeWay, .int with__ways]))]) [0, 1, 2] (by decide) rfl
          exact W.iret (v := v3_19) hx hb hr (fun t ht hW => ⟨⟨v3_19, (with__mergeWay, x_4, 0, level_20, rows_21, ()), rfl, hw, ⟨P_at ht hP9, hD9⟩⟩, hS.F ht⟩) hS.2.2 dX3_arrange_114
        have LOOP80 : ∀ (n80 : Nat) (v3_16 : Int32) (level_17 : Int32) (rows_18 : Nat → Int32) (H : Heap) (locs : List Loc), wl_X3_arrange_80 runs x_4 (wx_X3_arrange_80_113 with__mergeWay Q x_4) n80 v3_16 level_17 rows_18 → va_P (dC, dI) vwCl [(a_this, .inr (5, [.ref a_mergeTaking, .ref a_rows, .int with__mergeWay, .int x_4, .int 0, .int level_17])), (a_rows, .inl (g 0, 6, .inl rows_18)), (a_with_, .inr (10, [.int with__order, .int with__runWay, .int with__memory, .int with__mergeWay, .int with__ways]))] H → va_D A [(a_this, .inr (5, [.ref a_mergeTaking, .ref a_rows, .int with__mergeWay, .int x_4, .int 0, .int level_17])), (a_rows, .inl (g 0, 6, .inl rows_18)), (a_with_, .inr (10, [.int with__order, .int with__runWay, .int with__memory, .int with__mergeWay, .int with__ways]))] → va_S A s.heap H locs → ∀ (ls : Array Slot), lv_has ls 4 [(0, .ref a_this), (2, .int runs), (3, .int v3_16)] → W p l e (headSpec wqX3_arrange ({ frames := 1, cells := 0, slots := 0, locals := 24 })).room s m ([.ref a_this, .ref a_with_, .int runs] : List Value).toArray below meth c H locs 0 0 QM (F0 m 80 ls []) := by
          intro n80
          induction n80 with
          | zero =>
            intro v3_16 level_17 rows_18 H locs hw hP hD hS ls hl
            exact False.elim hw
          | succ n80 ih80 =>
            intro v3_16 level_17 rows_18 H locs hw hP hD hS ls hl
            rw [wl_X3_arrange_80_s] at hw
            refine lv_iload_n hx hb dX3_arrange_80 rfl (lv_at hl 2 rfl) ?_
            refine lv_iload_n hx hb dX3_arrange_81 rfl (lv_at hl 1 rfl) ?_
            refine lv_icmp_ge (tgt := 113) hx hb dX3_arrange_82 (by decide) (fun c_22 => ?_) (fun c_22 => ?_)
            · have hw := hw.1 c_22
              exact EX80_113 v3_16 level_17 rows_18 _ _ hw (hP.sub [0, 1, 2] rfl) (hD.sub [0, 1, 2] (by decide) rfl) hS _ (lv_sub hl [2] rfl)
            · have hw := hw.2 c_22
              refine lv_aload_n hx hb dX3_arrange_85 rfl (lv_at hl 0 rfl) ?_
              refine va_get (D := (dC, dI)) (ci := 5) (v := .int level_17) (C := RX3) (T := TX3) (N := 6) hx hb hts hiX3 hown hK hP 0 rfl rfl 5 (by decide) hf28 (fun _ h9 => h9) rfl dX3_arrange_86 ?_
              refine lv_sipush (v := 200) hx hb dX3_arrange_89 (by decide) ?_
              refine lv_icmp_ge (tgt := 113) hx hb dX3_arrange_92 (by decide) (fun c_23 => ?_) (fun c_23 => ?_)
              · have hw := hw.1 c_23
                exact EX80_113 v3_16 level_17 rows_18 _ _ hw (hP.sub [0, 1, 2] rfl) (hD.sub [0, 1, 2] (by decide) rfl) hS _ (lv_sub hl [2] rfl)
              · have hw := hw.2 c_23
                refine lv_aload_n hx hb dX3_arrange_95 rfl (lv_at hl 0 rfl) ?_
                have hPc := hP.sub (ws' := [(a_this, .inr (5, [.ref a_mergeTaking, .ref a_rows, .int with__mergeWay, .int x_4, .int 0, .int level_17])), (a_rows, .inl (g 0, 6, .inl rows_18))]) [0, 1] rfl
                have hDc := hD.sub (ws' := [(a_this, .inr (5, [.ref a_mergeTaking, .ref a_rows, .int with__mergeWay, .int x_4, .int 0, .int level_17])), (a_rows, .inl (g 0, 6, .inl rows_18))]) [0, 1] (by decide) rfl
                have hFc := va_free (wc := [(a_this, .inr (5, [.ref a_mergeTaking, .ref a_rows, .int with__mergeWay, .int x_4, .int 0, .int level_17])), (a_rows, .inl (g 0, 6, .inl rows_18))]) hD hS hA [0, 1] rfl
                refine va_calli (va_runV (As := []) (rest := []) ⟨hx, hb, hml, hown, hts⟩ (c_X3_raiseLevel l dC dI g (a_this := a_this) (a_mergeTaking := a_mergeTaking) (a_rows := a_rows) (way := with__mergeWay) (ways := x_4) (merges := 0) (level := level_17) (rows := rows_18) (hw := hw) (sz := H.size)) (cwV 0 hts (gqV aw_4_70 aw_4_72 aw_0_13 aw_1_8 aw_4_73) rfl rfl rfl (by decide +kernel) ⟨Nat.le_of_ble_eq_true rfl, Nat.le_of_ble_eq_true rfl⟩) ⟨PG_blind, va_recv hK hP (ci := 5) (q0 := 0) rfl rfl, PG_call hK hG hS hPc hDc hFc⟩ rfl rfl hl.1 rfl (lv_room (Nat.le_of_ble_eq_true rfl)) dX3_arrange_96 ⟨Nat.le_of_ble_eq_true rfl, Nat.le_of_ble_eq_true rfl⟩) hS (fun q _ h => hFc q h) hFc (fun r_24 u_24 t_24 H_24 L_24 ht_24 hvm_24 hw_24 hB_24 hz_24 hk_24 hS => ?_)
                obtain ⟨rows_25, u_24⟩ := u_24
                obtain ⟨hP1, hD1⟩ := hB_24
                rw [ht_24] at hP1
                obtain ⟨hP, hD⟩ := va_join (wr := [(a_with_, .inr (10, [.int with__order, .int with__runWay, .int with__memory, .int with__mergeWay, .int with__ways]))]) (w1 := [(a_this, .inr (5, [.ref a_mergeTaking, .ref a_rows, .int with__mergeWay, .int x_4, .int 0, .int level_17])), (a_rows, .inl (g 0, 6, .inl rows_25))]) hP hD [0, 1] [2] rfl rfl (by decide) (by decide) hk_24 hFc hP1 hD1
                have hP : va_P (dC, dI) vwCl [(a_with_, .inr (10, [.int with__order, .int with__runWay, .int with__memory, .int with__mergeWay, .int with__ways])), (a_this, .inr (5, [.ref a_mergeTaking, .ref a_rows, .int with__mergeWay, .int x_4, .int 0, .int level_17])), (a_rows, .inl (g 0, 6, .inl rows_25))] H_24 := hP
                have hD : va_D A [(a_with_, .inr (10, [.int with__order, .int with__runWay, .int with__memory, .int with__mergeWay, .int with__ways])), (a_this, .inr (5, [.ref a_mergeTaking, .ref a_rows, .int with__mergeWay, .int x_4, .int 0, .int level_17])), (a_rows, .inl (g 0, 6, .inl rows_25))] := hD
                have hw := hw_24
                refine lv_istore_n (lv' := [(3, .int r_24), (0, .ref a_this), (2, .int runs)]) hx hb dX3_arrange_99 rfl hl (by decide) rfl (fun ls hl => ?_)
                refine lv_aload_n hx hb dX3_arrange_100 rfl (lv_at hl 1 rfl) ?_
                refine lv_dup hx hb dX3_arrange_101 rfl ?_
                refine va_get (D := (dC, dI)) (ci := 5) (v := .int level_17) (C := RX3) (T := TX3) (N := 6) hx hb hts hiX3 hown hK hP 1 rfl rfl 5 (by decide) hf28 (fun _ h9 => h9) rfl dX3_arrange_102 ?_
                refine lv_iconst (v := 1) hx hb dX3_arrange_105 (by decide) ?_
                refine lv_iadd hx hb dX3_arrange_106 ?_
                refine lv_topi (fun x_26 ex_26 => ?_)
                have hw := hw x_26 ex_26
                refine va_put (D := (dC, dI)) (ci := 5) (v := .int x_26) (ty := .int) (C := RX3) (T := TX3) (N := 6) hx hb hts hiX3 tyX3 tyX3_ok nmX3 hown hK hP hD hS 1 rfl rfl 5 (by decide) hf28 (fun _ h9 => h9) rfl (by decide +kernel) rfl rfl (Nat.le_of_ble_eq_true rfl) dX3_arrange_107 (fun H_27 L_28 hP hD hS => ?_)
                have hP : va_P (dC, dI) vwCl [(a_with_, .inr (10, [.int with__order, .int with__runWay, .int with__memory, .int with__mergeWay, .int with__ways])), (a_this, .inr (5, [.ref a_mergeTaking, .ref a_rows, .int with__mergeWay, .int x_4, .int 0, .int x_26])), (a_rows, .inl (g 0, 6, .inl rows_25))] H_27 := hP
                have hD : va_D A [(a_with_, .inr (10, [.int with__order, .int with__runWay, .int with__memory, .int with__mergeWay, .int with__ways])), (a_this, .inr (5, [.ref a_mergeTaking, .ref a_rows, .int with__mergeWay, .int x_4, .int 0, .int x_26])), (a_rows, .inl (g 0, 6, .inl rows_25))] := hD
                refine lv_goto (tgt := 80) hx hb dX3_arrange_110 (by decide) ?_
                exact ih80 r_24 x_26 rows_25 _ _ hw (hP.sub [1, 2, 0] rfl) (hD.sub [1, 2, 0] (by decide) rfl) hS _ (lv_sub hl [1, 2, 0] rfl)
        obtain ⟨n80, hw⟩ := hw
        exact LOOP80 n80 1 0 rows_15 _ _ hw (hP.sub [0, 1, 2] rfl) (hD.sub [0, 1, 2] (by decide) rfl) hS _ (lv_sub hl [1, 2, 0] rfl)
      have LOOP51 : ∀ (n51 : Nat) (v3_13 : Int32) (rows_14 : Nat → Int32) (H : Heap) (locs : List Loc), wl_X3_arrange_51 (wx_X3_arrange_51_78 with__mergeWay runs Q x_4) n51 v3_13 rows_14 → va_P (dC, dI) vwCl [(a_this, .inr (5, [.ref a_mergeTaking, .ref a_rows, .int with__mergeWay, .int x_4, .int 0, .int 0])), (a_rows, .inl (g 0, 6, .inl rows_14)), (a_with_, .inr (10, [.int with__order, .int with__runWay, .int with__memory, .int with__mergeWay, .int with__ways]))] H → va_D A [(a_this, .inr (5, [.ref a_mergeTaking, .ref a_rows, .int with__mergeWay, .int x_4, .int 0, .int 0])), (a_rows, .inl (g 0, 6, .inl rows_14)), (a_with_, .inr (10, [.int with__order, .int with__runWay, .int with__memory, .int with__mergeWay, .int with__ways]))] → va_S A s.heap H locs → ∀ (ls : Array Slot), lv_has ls 4 [(0, .ref a_this), (2, .int runs), (3, .int v3_13)] → W p l e (headSpec wqX3_arrange ({ frames := 1, cells := 0, slots := 0, locals := 24 })).room s m ([.ref a_this, .ref a_with_, .int runs] : List Value).toArray below meth c H locs 0 0 QM (F0 m 51 ls []) := by
        intro n51
        induction n51 with
        | zero =>
          intro v3_13 rows_14 H locs hw hP hD hS ls hl
          exact False.elim hw
        | succ n51 ih51 =>
          intro v3_13 rows_14 H locs hw hP hD hS ls hl
          rw [wl_X3_arrange_51_s] at hw
          refine lv_iload_n hx hb dX3_arrange_51 rfl (lv_at hl 2 rfl) ?_
          refine lv_bipush (v := 6) hx hb dX3_arrange_52 (by decide) ?_
          refine lv_icmp_ge (tgt := 78) hx hb dX3_arrange_54 (by decide) (fun c_29 => ?_) (fun c_29 => ?_)
          · have hw := hw.1 c_29
            exact EX51_78 rows_14 _ _ hw (hP.sub [0, 1, 2] rfl) (hD.sub [0, 1, 2] (by decide) rfl) hS _ (lv_sub hl [0, 1] rfl)
          · have hw := hw.2 c_29
            refine lv_aload_n hx hb dX3_arrange_57 rfl (lv_at hl 0 rfl) ?_
            refine va_get (D := (dC, dI)) (ci := 5) (v := .ref a_rows) (C := RX3) (T := TX3) (N := 6) hx hb hts hiX3 hown hK hP 0 rfl rfl 1 (by decide) hf15 (fun _ h9 => h9) rfl dX3_arrange_58 ?_
            refine lv_iload_n hx hb dX3_arrange_61 rfl (lv_at hl 2 rfl) ?_
            refine lv_iload_n hx hb dX3_arrange_62 rfl (lv_at hl 2 rfl) ?_
            refine lv_if_ne (tgt := 70) hx hb dX3_arrange_63 (by decide) (fun c_30 => ?_) (fun c_30 => ?_)
            · have hw := hw.2 c_30
              refine lv_iconst (v := 0) hx hb dX3_arrange_70 (by decide) ?_
              refine va_iast hx hb hK hP hD hS 1 0 rfl rfl hw.1 dX3_arrange_71 (fun H_31 L_32 hP hD hS => ?_)
              have hw := hw.2
              have hP : va_P (dC, dI) vwCl [(a_this, .inr (5, [.ref a_mergeTaking, .ref a_rows, .int with__mergeWay, .int x_4, .int 0, .int 0])), (a_rows, .inl (g 0, 6, .inl (upd rows_14 v3_13.toNatClampNeg 0))), (a_with_, .inr (10, [.int with__order, .int with__runWay, .int with__memory, .int with__mergeWay, .int with__ways]))] H_31 := hP
              have hD : va_D A [(a_this, .inr (5, [.ref a_mergeTaking, .ref a_rows, .int with__mergeWay, .int x_4, .int 0, .int 0])), (a_rows, .inl (g 0, 6, .inl (upd rows_14 v3_13.toNatClampNeg 0))), (a_with_, .inr (10, [.int with__order, .int with__runWay, .int with__memory, .int with__mergeWay, .int with__ways]))] := hD
              obtain ⟨x_33, ex_33⟩ : ∃ y : Int32, y = v3_13 + 1 := ⟨_, rfl⟩
              have hw := hw x_33 ex_33
              refine lv_iinc (v := x_33) (lv' := [(3, .int x_33), (0, .ref a_this), (2, .int runs)]) hx hb dX3_arrange_72 hl (k := 2) rfl (by rw [ex_33]; rfl) (by decide) rfl (fun ls hl => ?_)
              refine lv_goto (tgt := 51) hx hb dX3_arrange_75 (by decide) ?_
              exact ih51 x_33 (upd rows_14 v3_13.toNatClampNeg 0) _ _ hw (hP.sub [0, 1, 2] rfl) (hD.sub [0, 1, 2] (by decide) rfl) hS _ (lv_sub hl [1, 2, 0] rfl)
            · have hw := hw.1 c_30
              refine lv_iconst (v := 1) hx hb dX3_arrange_66 (by decide) ?_
              refine lv_goto (tgt := 71) hx hb dX3_arrange_67 (by decide) ?_
              refine va_iast hx hb hK hP hD hS 1 0 rfl rfl hw.1 dX3_arrange_71 (fun H_34 L_35 hP hD hS => ?_)
              have hw := hw.2
              have hP : va_P (dC, dI) vwCl [(a_this, .inr (5, [.ref a_mergeTaking, .ref a_rows, .int with__mergeWay, .int x_4, .int 0, .int 0])), (a_rows, .inl (g 0, 6, .inl (upd rows_14 v3_13.toNatClampNeg 1))), (a_with_, .inr (10, [.int with__order, .int with__runWay, .int with__memory, .int with__mergeWay, .int with__ways]))] H_34 := hP
              have hD : va_D A [(a_this, .inr (5, [.ref a_mergeTaking, .ref a_rows, .int with__mergeWay, .int x_4, .int 0, .int 0])), (a_rows, .inl (g 0, 6, .inl (upd rows_14 v3_13.toNatClampNeg 1))), (a_with_, .inr (10, [.int with__order, .int with__runWay, .int with__memory, .int with__mergeWay, .int with__ways]))] := hD
              obtain ⟨x_36, ex_36⟩ : ∃ y : Int32, y = v3_13 + 1 := ⟨_, rfl⟩
              have hw := hw x_36 ex_36
              refine lv_iinc (v := x_36) (lv' := [(3, .int x_36), (0, .ref a_this), (2, .int runs)]) hx hb dX3_arrange_72 hl (k := 2) rfl (by rw [ex_36]; rfl) (by decide) rfl (fun ls hl => ?_)
              refine lv_goto (tgt := 51) hx hb dX3_arrange_75 (by decide) ?_
              exact ih51 x_36 (upd rows_14 v3_13.toNatClampNeg 1) _ _ hw (hP.sub [0, 1, 2] rfl) (hD.sub [0, 1, 2] (by decide) rfl) hS _ (lv_sub hl [1, 2, 0] rfl)
      obtain ⟨n51, hw⟩ := hw
      exact LOOP51 n51 0 rows _ _ hw (hP.sub [0, 1, 2] rfl) (hD.sub [0, 1, 2] (by decide) rfl) hS _ (lv_sub hl [1, 3, 0] rfl)
    · have hw := hw.1 c_12
      refine lv_iload_n hx hb dX3_arrange_47 rfl (lv_at hl 2 rfl) ?_
      have hP9 := hP.sub (ws' := [(a_this, .inr (5, [.ref a_mergeTaking, .ref a_rows, .int with__mergeWay, .int x_4, .int 0, .int 0])), (a_rows, .inl (g 0, 6, .inl rows)), (a_with_, .inr (10, [.int with__order, .int with__runWay, .int with__memory, .int with__mergeWay, .int with__ways]))]) [0, 1, 2] rfl
      have hD9 := hD.sub (ws' := [(a_this, .inr (5, [.ref a_mergeTaking, .ref a_rows, .int with__mergeWay, .int x_4, .int 0, .int 0])), (a_rows, .inl (g 0, 6, .inl rows)), (a_with_, .inr (10, [.int with__order, .int with__runWay, .int with__memory, .int with__mergeWay, .int with__ways]))]) [0, 1, 2] (by decide) rfl
      exact W.iret (v := runs) hx hb hr (fun t ht hW => ⟨⟨runs, (with__mergeWay, x_4, 0, 0, rows, ()), rfl, hw, ⟨P_at ht hP9, hD9⟩⟩, hS.F ht⟩) hS.2.2 dX3_arrange_48
theorem dX3_chooseGroups_0 : decode cX3_chooseGroups 0 = .ok (.aload_n 0, 1) := by decide +kernel
theorem dX3_chooseGroups_1 : decode cX3_chooseGroups 1 = .ok (.getfield 22, 3) := by decide +kernel
theorem dX3_chooseGroups_4 : decode cX3_chooseGroups 4 = .ok (.iconst 2, 1) := by decide +kernel
theorem dX3_chooseGroups_5 : decode cX3_chooseGroups 5 = .ok (.if_icmp .ge 4, 3) := by decide +kernel
theorem dX3_chooseGroups_9 : decode cX3_chooseGroups 9 = .ok (.aload_n 0, 1) := by decide +kernel
theorem dX3_chooseGroups_10 : decode cX3_chooseGroups 10 = .ok (.iload_n 1, 1) := by decide +kernel
theorem dX3_chooseGroups_11 : decode cX3_chooseGroups 11 = .ok (.aload_n 0, 1) := by decide +kernel
theorem dX3_chooseGroups_12 : decode cX3_chooseGroups 12 = .ok (.getfield 22, 3) := by decide +kernel
theorem dX3_chooseGroups_15 : decode cX3_chooseGroups 15 = .ok (.iadd, 1) := by decide +kernel
theorem dX3_chooseGroups_16 : decode cX3_chooseGroups 16 = .ok (.iconst 2, 1) := by decide +kernel
theorem dX3_chooseGroups_17 : decode cX3_chooseGroups 17 = .ok (.isub, 1) := by decide +kernel
theorem dX3_chooseGroups_18 : decode cX3_chooseGroups 18 = .ok (.aload_n 0, 1) := by decide +kernel
theorem dX3_chooseGroups_19 : decode cX3_chooseGroups 19 = .ok (.getfield 22, 3) := by decide +kernel
theorem dX3_chooseGroups_22 : decode cX3_chooseGroups 22 = .ok (.idiv, 1) := by decide +kernel
theorem dX3_chooseGroups_23 : decode cX3_chooseGroups 23 = .ok (.putfield 25, 3) := by decide +kernel
theorem dX3_chooseGroups_26 : decode cX3_chooseGroups 26 = .ok (.iconst 0, 1) := by decide +kernel
theorem dX3_chooseGroups_27 : decode cX3_chooseGroups 27 = .ok (.istore_n 2, 1) := by decide +kernel
theorem dX3_chooseGroups_72 : decode cX3_chooseGroups 72 = .ok (.return_, 1) := by decide +kernel
theorem dX3_chooseGroups_28 : decode cX3_chooseGroups 28 = .ok (.iload_n 2, 1) := by decide +kernel
theorem dX3_chooseGroups_29 : decode cX3_chooseGroups 29 = .ok (.iload_n 1, 1) := by decide +kernel
theorem dX3_chooseGroups_30 : decode cX3_chooseGroups 30 = .ok (.if_icmp .ge 42, 3) := by decide +kernel
theorem dX3_chooseGroups_33 : decode cX3_chooseGroups 33 = .ok (.iload_n 2, 1) := by decide +kernel
theorem dX3_chooseGroups_34 : decode cX3_chooseGroups 34 = .ok (.sipush 200, 3) := by decide +kernel
theorem dX3_chooseGroups_37 : decode cX3_chooseGroups 37 = .ok (.if_icmp .ge 35, 3) := by decide +kernel
theorem dX3_chooseGroups_40 : decode cX3_chooseGroups 40 = .ok (.iload_n 2, 1) := by decide +kernel
theorem dX3_chooseGroups_41 : decode cX3_chooseGroups 41 = .ok (.aload_n 0, 1) := by decide +kernel
theorem dX3_chooseGroups_42 : decode cX3_chooseGroups 42 = .ok (.getfield 22, 3) := by decide +kernel
theorem dX3_chooseGroups_45 : decode cX3_chooseGroups 45 = .ok (.idiv, 1) := by decide +kernel
theorem dX3_chooseGroups_46 : decode cX3_chooseGroups 46 = .ok (.istore_n 3, 1) := by decide +kernel
theorem dX3_chooseGroups_47 : decode cX3_chooseGroups 47 = .ok (.aload_n 0, 1) := by decide +kernel
theorem dX3_chooseGroups_48 : decode cX3_chooseGroups 48 = .ok (.getfield 9, 3) := by decide +kernel
theorem dX3_chooseGroups_51 : decode cX3_chooseGroups 51 = .ok (.iload_n 2, 1) := by decide +kernel
theorem dX3_chooseGroups_52 : decode cX3_chooseGroups 52 = .ok (.iload_n 3, 1) := by decide +kernel
theorem dX3_chooseGroups_53 : decode cX3_chooseGroups 53 = .ok (.aload_n 0, 1) := by decide +kernel
theorem dX3_chooseGroups_54 : decode cX3_chooseGroups 54 = .ok (.getfield 25, 3) := by decide +kernel
theorem dX3_chooseGroups_57 : decode cX3_chooseGroups 57 = .ok (.if_icmp .ge 7, 3) := by decide +kernel
theorem dX3_chooseGroups_64 : decode cX3_chooseGroups 64 = .ok (.iconst (-1), 1) := by decide +kernel
theorem dX3_chooseGroups_65 : decode cX3_chooseGroups 65 = .ok (.iastore, 1) := by decide +kernel
theorem dX3_chooseGroups_66 : decode cX3_chooseGroups 66 = .ok (.iinc 2 1, 3) := by decide +kernel
theorem dX3_chooseGroups_69 : decode cX3_chooseGroups 69 = .ok (.goto (-41), 3) := by decide +kernel
theorem dX3_chooseGroups_60 : decode cX3_chooseGroups 60 = .ok (.iload_n 3, 1) := by decide +kernel
theorem dX3_chooseGroups_61 : decode cX3_chooseGroups 61 = .ok (.goto 4, 3) := by decide +kernel
theorem dX3_chooseGroups_8 : decode cX3_chooseGroups 8 = .ok (.return_, 1) := by decide +kernel
abbrev Wa_X3_chooseGroups (g : Nat → ClassId) (a_this : Nat) (a_mergeTaking : Nat) (a_rows : Nat) (way : Int32) (ways : Int32) (merges : Int32) (level : Int32) (mergeTaking : Nat → Int32) : va_W := [(a_this, .inr (5, [.ref a_mergeTaking, .ref a_rows, .int way, .int ways, .int merges, .int level])), (a_mergeTaking, .inl (g 0, 200, .inl mergeTaking))]
abbrev Wb_X3_chooseGroups (g : Nat → ClassId) (a_this : Nat) (a_mergeTaking : Nat) (a_rows : Nat) (way : Int32) (ways : Int32) (level : Int32) (u : Int32 × (Nat → Int32) × Unit) : va_W := [(a_this, .inr (5, [.ref a_mergeTaking, .ref a_rows, .int way, .int ways, .int u.1, .int level])), (a_mergeTaking, .inl (g 0, 200, .inl u.2.1))]
set_option maxHeartbeats 8000000 in
set_option maxRecDepth 100000 in
theorem c_X3_chooseGroups (l : Launch) (dC : Nat → ClassId) (dI : Nat → Nat → Nat) (g : Nat → ClassId) (a_this : Nat) (a_mergeTaking : Nat) (a_rows : Nat) (way : Int32) (ways : Int32) (merges : Int32) (level : Int32) (mergeTaking : Nat → Int32) (runs : Int32) (Q : Int32 → (Nat → Int32) → Prop) (hw : wp_X3_chooseGroups ways merges mergeTaking runs Q) (sz : Nat) : Met l yX3_chooseGroups wqX3_chooseGroups ({ frames := 0, cells := 0, slots := 0, locals := 0 }) (va_Pc [.ref a_this, .int runs] (PG (dC, dI) g (Wa_X3_chooseGroups g a_this a_mergeTaking a_rows way ways merges level mergeTaking) sz)) (va_Qv (fun (u : Int32 × (Nat → Int32) × Unit) => Q u.1 u.2.1) (fun (u : Int32 × (Nat → Int32) × Unit) t9 => va_P (dC, dI) vwCl (Wb_X3_chooseGroups g a_this a_mergeTaking a_rows way ways level u) t9.heap ∧ va_D (va_A (Wa_X3_chooseGroups g a_this a_mergeTaking a_rows way ways merges level mergeTaking) sz) (Wb_X3_chooseGroups g a_this a_mergeTaking a_rows way ways level u)) (va_A (Wa_X3_chooseGroups g a_this a_mergeTaking a_rows way ways merges level mergeTaking) sz)) 0 0 (va_A (Wa_X3_chooseGroups g a_this a_mergeTaking a_rows way ways merges level mergeTaking) sz) := by
  refine Met.ofW (cc := cX3_chooseGroups) (maxL := 4) (ret := none) (by decide) rfl ?_
  intro p e s m args below meth c s₁ B hml hv
  obtain ⟨rfl, hsz, hP, hK, hD0, hG⟩ := hv
  have hx := B.exec
  have hb := B.bytes
  have hr := B.returns
  have hts := atoms_spec (ws := wqX3_chooseGroups) B.pre
  have hown : s.vm.findClass RX3 = some m.cls := findClass_of_methodNamed B.named
  have hlocks := B.notSynchronized
  subst hsz
  have hD := hD0.self (sz := s.heap.size)
  generalize hAe : va_A (Wa_X3_chooseGroups g a_this a_mergeTaking a_rows way ways merges level mergeTaking) s.heap.size = A at hD hG ⊢
  have hA : ∀ q : Nat, s.heap.size ≤ q → A q := fun q h => by rw [← hAe]; exact Or.inr h
  have hS : va_S A s.heap s.heap [] := va_S.rf
  have hl := lv_entry ([.ref a_this, .int runs]) (n := 4) (Nat.le_of_ble_eq_true rfl)
  rw [lg_entry_eq]
  generalize (lg_sl ([.ref a_this, .int runs]) ++ List.replicate (4 - (lg_sl ([.ref a_this, .int runs])).length) Slot.unset).toArray = ls at hl ⊢
  have hl : lv_has ls 4 [(0, .ref a_this), (1, .int runs)] := hl
  unfold wp_X3_chooseGroups at hw
  have hf22 := hts (Cond.fieldLink RX3 22 "RunmergeOffice$Pass" "ways" "I") (aw_l aw_1_177)
  have hiX3 : ∀ w ∈ u_ws RX3 TX3 6, w ∈ wqX3_chooseGroups := fun w h => aw_l (aw_wsX30 w h)
  have hf25 := hts (Cond.fieldLink RX3 25 "RunmergeOffice$Pass" "merges" "I") (aw_l aw_1_178)
  have hf9 := hts (Cond.fieldLink RX3 9 "RunmergeOffice$Pass" "mergeTaking" "[I") (aw_l aw_1_174)
  refine lv_aload_n hx hb dX3_chooseGroups_0 rfl (lv_at hl 0 rfl) ?_
  refine va_get (D := (dC, dI)) (ci := 5) (v := .int ways) (C := RX3) (T := TX3) (N := 6) hx hb hts hiX3 hown hK hP 0 rfl rfl 3 (by decide) hf22 (fun _ h9 => h9) rfl dX3_chooseGroups_1 ?_
  refine lv_iconst (v := 2) hx hb dX3_chooseGroups_4 (by decide) ?_
  refine lv_icmp_ge (tgt := 9) hx hb dX3_chooseGroups_5 (by decide) (fun c_1 => ?_) (fun c_1 => ?_)
  · have hw := hw.1 c_1
    refine lv_aload_n hx hb dX3_chooseGroups_9 rfl (lv_at hl 0 rfl) ?_
    refine lv_iload_n hx hb dX3_chooseGroups_10 rfl (lv_at hl 1 rfl) ?_
    refine lv_aload_n hx hb dX3_chooseGroups_11 rfl (lv_at hl 0 rfl) ?_
    refine va_get (D := (dC, dI)) (ci := 5) (v := .int ways) (C := RX3) (T := TX3) (N := 6) hx hb hts hiX3 hown hK hP 0 rfl rfl 3 (by decide) hf22 (fun _ h9 => h9) rfl dX3_chooseGroups_12 ?_
    refine lv_iadd hx hb dX3_chooseGroups_15 ?_
    refine lv_topi (fun x_2 ex_2 => ?_)
    have hw := hw x_2 ex_2
    refine lv_iconst (v := 2) hx hb dX3_chooseGroups_16 (by decide) ?_
    refine lv_isub hx hb dX3_chooseGroups_17 ?_
    refine lv_topi (fun x_3 ex_3 => ?_)
    have hw := hw x_3 ex_3
    refine lv_aload_n hx hb dX3_chooseGroups_18 rfl (lv_at hl 0 rfl) ?_
    refine va_get (D := (dC, dI)) (ci := 5) (v := .int ways) (C := RX3) (T := TX3) (N := 6) hx hb hts hiX3 hown hK hP 0 rfl rfl 3 (by decide) hf22 (fun _ h9 => h9) rfl dX3_chooseGroups_19 ?_
    refine lv_idiv hx hb dX3_chooseGroups_22 hw.1 ?_
    have hw := hw.2
    refine lv_topi (fun x_4 ex_4 => ?_)
    have hw := hw x_4 ex_4
    refine va_put (D := (dC, dI)) (ci := 5) (v := .int x_4) (ty := .int) (C := RX3) (T := TX3) (N := 6) hx hb hts hiX3 tyX3 tyX3_ok nmX3 hown hK hP hD hS 0 rfl rfl 4 (by decide) hf25 (fun _ h9 => h9) rfl (by decide +kernel) rfl rfl (Nat.le_of_ble_eq_true rfl) dX3_chooseGroups_23 (fun H_5 L_6 hP hD hS => ?_)
    have hP : va_P (dC, dI) vwCl [(a_this, .inr (5, [.ref a_mergeTaking, .ref a_rows, .int way, .int ways, .int x_4, .int level])), (a_mergeTaking, .inl (g 0, 200, .inl mergeTaking))] H_5 := hP
    have hD : va_D A [(a_this, .inr (5, [.ref a_mergeTaking, .ref a_rows, .int way, .int ways, .int x_4, .int level])), (a_mergeTaking, .inl (g 0, 200, .inl mergeTaking))] := hD
    refine lv_iconst (v := 0) hx hb dX3_chooseGroups_26 (by decide) ?_
    refine lv_istore_n (lv' := [(2, .int 0), (0, .ref a_this), (1, .int runs)]) hx hb dX3_chooseGroups_27 rfl hl (by decide) rfl (fun ls hl => ?_)
    refine W_abs (fun QM hQM => ?_)
    have EX28_72 : ∀ (mergeTaking_9 : Nat → Int32) (H : Heap) (locs : List Loc), (wx_X3_chooseGroups_28_72 Q x_4) mergeTaking_9 → va_P (dC, dI) vwCl [(a_this, .inr (5, [.ref a_mergeTaking, .ref a_rows, .int way, .int ways, .int x_4, .int level])), (a_mergeTaking, .inl (g 0, 200, .inl mergeTaking_9))] H → va_D A [(a_this, .inr (5, [.ref a_mergeTaking, .ref a_rows, .int way, .int ways, .int x_4, .int level])), (a_mergeTaking, .inl (g 0, 200, .inl mergeTaking_9))] → va_S A s.heap H locs → ∀ (ls : Array Slot), lv_has ls 4 [] → W p l e (headSpec wqX3_chooseGroups ({ frames := 0, cells := 0, slots := 0, locals := 0 })).room s m ([.ref a_this, .int runs] : List Value).toArray below meth c H locs 0 0 QM (F0 m 72 ls []) := by
      intro mergeTaking_9 H locs hw hP hD hS ls hl
      subst hQM
      have hP9 := hP.sub (ws' := [(a_this, .inr (5, [.ref a_mergeTaking, .ref a_rows, .int way, .int ways, .int x_4, .int level])), (a_mergeTaking, .inl (g 0, 200, .inl mergeTaking_9))]) [0, 1] rfl
      have hD9 := hD.sub (ws' := [(a_this, .inr (5, [.ref a_mergeTaking, .ref a_rows, .int way, .int ways, .int x_4, .int level])), (a_mergeTaking, .inl (g 0, 200, .inl mergeTaking_9))]) [0, 1] (by decide) rfl
      exact W.vret hx hb hr (fun t ht hW => ⟨⟨(x_4, mergeTaking_9, ()), rfl, hw, ⟨P_at ht hP9, hD9⟩⟩, hS.F ht⟩) hS.2.2 dX3_chooseGroups_72
    have LOOP28 : ∀ (n28 : Nat) (v2_7 : Int32) (mergeTaking_8 : Nat → Int32) (H : Heap) (locs : List Loc), wl_X3_chooseGroups_28 ways runs x_4 (wx_X3_chooseGroups_28_72 Q x_4) n28 v2_7 mergeTaking_8 → va_P (dC, dI) vwCl [(a_this, .inr (5, [.ref a_mergeTaking, .ref a_rows, .int way, .int ways, .int x_4, .int level])), (a_mergeTaking, .inl (g 0, 200, .inl mergeTaking_8))] H → va_D A [(a_this, .inr (5, [.ref a_mergeTaking, .ref a_rows, .int way, .int ways, .int x_4, .int level])), (a_mergeTaking, .inl (g 0, 200, .inl mergeTaking_8))] → va_S A s.heap H locs → ∀ (ls : Array Slot), lv_has ls 4 [(0, .ref a_this), (1, .int runs), (2, .int v2_7)] → W p l e (headSpec wqX3_chooseGroups ({ frames := 0, cells := 0, slots := 0, locals := 0 })).room s m ([.ref a_this, .int runs] : List Value).toArray below meth c H locs 0 0 QM (F0 m 28 ls []) := by
      intro n28
      induction n28 with
      | zero =>
        intro v2_7 mergeTaking_8 H locs hw hP hD hS ls hl
        exact False.elim hw
      | succ n28 ih28 =>
        intro v2_7 mergeTaking_8 H locs hw hP hD hS ls hl
        rw [wl_X3_chooseGroups_28_s] at hw
        refine lv_iload_n hx hb dX3_chooseGroups_28 rfl (lv_at hl 2 rfl) ?_
        refine lv_iload_n hx hb dX3_chooseGroups_29 rfl (lv_at hl 1 rfl) ?_
        refine lv_icmp_ge (tgt := 72) hx hb dX3_chooseGroups_30 (by decide) (fun c_10 => ?_) (fun c_10 => ?_)
        · have hw := hw.1 c_10
          exact EX28_72 mergeTaking_8 _ _ hw (hP.sub [0, 1] rfl) (hD.sub [0, 1] (by decide) rfl) hS _ (lv_sub hl [] rfl)
        · have hw := hw.2 c_10
          refine lv_iload_n hx hb dX3_chooseGroups_33 rfl (lv_at hl 2 rfl) ?_
          refine lv_sipush (v := 200) hx hb dX3_chooseGroups_34 (by decide) ?_
          refine lv_icmp_ge (tgt := 72) hx hb dX3_chooseGroups_37 (by decide) (fun c_11 => ?_) (fun c_11 => ?_)
          · have hw := hw.1 c_11
            exact EX28_72 mergeTaking_8 _ _ hw (hP.sub [0, 1] rfl) (hD.sub [0, 1] (by decide) rfl) hS _ (lv_sub hl [] rfl)
          · have hw := hw.2 c_11
            refine lv_iload_n hx hb dX3_chooseGroups_40 rfl (lv_at hl 2 rfl) ?_
            refine lv_aload_n hx hb dX3_chooseGroups_41 rfl (lv_at hl 0 rfl) ?_
            refine va_get (D := (dC, dI)) (ci := 5) (v := .int ways) (C := RX3) (T := TX3) (N := 6) hx hb hts hiX3 hown hK hP 0 rfl rfl 3 (by decide) hf22 (fun _ h9 => h9) rfl dX3_chooseGroups_42 ?_
            refine lv_idiv hx hb dX3_chooseGroups_45 hw.1 ?_
            have hw := hw.2
            refine lv_topi (fun x_12 ex_12 => ?_)
            have hw := hw x_12 ex_12
            refine lv_istore_n (lv' := [(3, .int x_12), (0, .ref a_this), (1, .int runs), (2, .int v2_7)]) hx hb dX3_chooseGroups_46 rfl hl (by decide) rfl (fun ls hl => ?_)
            refine lv_aload_n hx hb dX3_chooseGroups_47 rfl (lv_at hl 1 rfl) ?_
            refine va_get (D := (dC, dI)) (ci := 5) (v := .ref a_mergeTaking) (C := RX3) (T := TX3) (N := 6) hx hb hts hiX3 hown hK hP 0 rfl rfl 0 (by decide) hf9 (fun _ h9 => h9) rfl dX3_chooseGroups_48 ?_
            refine lv_iload_n hx hb dX3_chooseGroups_51 rfl (lv_at hl 3 rfl) ?_
            refine lv_iload_n hx hb dX3_chooseGroups_52 rfl (lv_at hl 0 rfl) ?_
            refine lv_aload_n hx hb dX3_chooseGroups_53 rfl (lv_at hl 1 rfl) ?_
            refine va_get (D := (dC, dI)) (ci := 5) (v := .int x_4) (C := RX3) (T := TX3) (N := 6) hx hb hts hiX3 hown hK hP 0 rfl rfl 4 (by decide) hf25 (fun _ h9 => h9) rfl dX3_chooseGroups_54 ?_
            refine lv_icmp_ge (tgt := 64) hx hb dX3_chooseGroups_57 (by decide) (fun c_13 => ?_) (fun c_13 => ?_)
            · have hw := hw.1 c_13
              refine lv_iconst (v := (-1)) hx hb dX3_chooseGroups_64 (by decide) ?_
              refine va_iast hx hb hK hP hD hS 1 0 rfl rfl hw.1 dX3_chooseGroups_65 (fun H_14 L_15 hP hD hS => ?_)
              have hw := hw.2
              have hP : va_P (dC, dI) vwCl [(a_this, .inr (5, [.ref a_mergeTaking, .ref a_rows, .int way, .int ways, .int x_4, .int level])), (a_mergeTaking, .inl (g 0, 200, .inl (upd mergeTaking_8 v2_7.toNatClampNeg (-1))))] H_14 := hP
              have hD : va_D A [(a_this, .inr (5, [.ref a_mergeTaking, .ref a_rows, .int way, .int ways, .int x_4, .int level])), (a_mergeTaking, .inl (g 0, 200, .inl (upd mergeTaking_8 v2_7.toNatClampNeg (-1))))] := hD
              obtain ⟨x_16, ex_16⟩ : ∃ y : Int32, y = v2_7 + 1 := ⟨_, rfl⟩
              have hw := hw x_16 ex_16
              refine lv_iinc (v := x_16) (lv' := [(2, .int x_16), (3, .int x_12), (0, .ref a_this), (1, .int runs)]) hx hb dX3_chooseGroups_66 hl (k := 3) rfl (by rw [ex_16]; rfl) (by decide) rfl (fun ls hl => ?_)
              refine lv_goto (tgt := 28) hx hb dX3_chooseGroups_69 (by decide) ?_
              exact ih28 x_16 (upd mergeTaking_8 v2_7.toNatClampNeg (-1)) _ _ hw (hP.sub [0, 1] rfl) (hD.sub [0, 1] (by decide) rfl) hS _ (lv_sub hl [2, 3, 0] rfl)
            · have hw := hw.2 c_13
              refine lv_iload_n hx hb dX3_chooseGroups_60 rfl (lv_at hl 0 rfl) ?_
              refine lv_goto (tgt := 65) hx hb dX3_chooseGroups_61 (by decide) ?_
              refine va_iast hx hb hK hP hD hS 1 0 rfl rfl hw.1 dX3_chooseGroups_65 (fun H_17 L_18 hP hD hS => ?_)
              have hw := hw.2
              have hP : va_P (dC, dI) vwCl [(a_this, .inr (5, [.ref a_mergeTaking, .ref a_rows, .int way, .int ways, .int x_4, .int level])), (a_mergeTaking, .inl (g 0, 200, .inl (upd mergeTaking_8 v2_7.toNatClampNeg x_12)))] H_17 := hP
              have hD : va_D A [(a_this, .inr (5, [.ref a_mergeTaking, .ref a_rows, .int way, .int ways, .int x_4, .int level])), (a_mergeTaking, .inl (g 0, 200, .inl (upd mergeTaking_8 v2_7.toNatClampNeg x_12)))] := hD
              obtain ⟨x_19, ex_19⟩ : ∃ y : Int32, y = v2_7 + 1 := ⟨_, rfl⟩
              have hw := hw x_19 ex_19
              refine lv_iinc (v := x_19) (lv' := [(2, .int x_19), (3, .int x_12), (0, .ref a_this), (1, .int runs)]) hx hb dX3_chooseGroups_66 hl (k := 3) rfl (by rw [ex_19]; rfl) (by decide) rfl (fun ls hl => ?_)
              refine lv_goto (tgt := 28) hx hb dX3_chooseGroups_69 (by decide) ?_
              exact ih28 x_19 (upd mergeTaking_8 v2_7.toNatClampNeg x_12) _ _ hw (hP.sub [0, 1] rfl) (hD.sub [0, 1] (by decide) rfl) hS _ (lv_sub hl [2, 3, 0] rfl)
    obtain ⟨n28, hw⟩ := hw
    exact LOOP28 n28 0 mergeTaking _ _ hw (hP.sub [0, 1] rfl) (hD.sub [0, 1] (by decide) rfl) hS _ (lv_sub hl [1, 2, 0] rfl)
  · have hw := hw.2 c_1
    have hP9 := hP.sub (ws' := [(a_this, .inr (5, [.ref a_mergeTaking, .ref a_rows, .int way, .int ways, .int merges, .int level])), (a_mergeTaking, .inl (g 0, 200, .inl mergeTaking))]) [0, 1] rfl
    have hD9 := hD.sub (ws' := [(a_this, .inr (5, [.ref a_mergeTaking, .ref a_rows, .int way, .int ways, .int merges, .int level])), (a_mergeTaking, .inl (g 0, 200, .inl mergeTaking))]) [0, 1] (by decide) rfl
    exact W.vret hx hb hr (fun t ht hW => ⟨⟨(merges, mergeTaking, ()), rfl, hw, ⟨P_at ht hP9, hD9⟩⟩, hS.F ht⟩) hS.2.2 dX3_chooseGroups_8
theorem dX3_chooseShortest_0 : decode cX3_chooseShortest 0 = .ok (.aload_n 0, 1) := by decide +kernel
theorem dX3_chooseShortest_1 : decode cX3_chooseShortest 1 = .ok (.iconst 1, 1) := by decide +kernel
theorem dX3_chooseShortest_2 : decode cX3_chooseShortest 2 = .ok (.putfield 25, 3) := by decide +kernel
theorem dX3_chooseShortest_5 : decode cX3_chooseShortest 5 = .ok (.iconst 0, 1) := by decide +kernel
theorem dX3_chooseShortest_6 : decode cX3_chooseShortest 6 = .ok (.istore_n 3, 1) := by decide +kernel
theorem dX3_chooseShortest_96 : decode cX3_chooseShortest 96 = .ok (.return_, 1) := by decide +kernel
theorem dX3_chooseShortest_7 : decode cX3_chooseShortest 7 = .ok (.iload_n 3, 1) := by decide +kernel
theorem dX3_chooseShortest_8 : decode cX3_chooseShortest 8 = .ok (.iconst 2, 1) := by decide +kernel
theorem dX3_chooseShortest_9 : decode cX3_chooseShortest 9 = .ok (.if_icmp .ge 87, 3) := by decide +kernel
theorem dX3_chooseShortest_12 : decode cX3_chooseShortest 12 = .ok (.iconst (-1), 1) := by decide +kernel
theorem dX3_chooseShortest_13 : decode cX3_chooseShortest 13 = .ok (.istore 4, 2) := by decide +kernel
theorem dX3_chooseShortest_15 : decode cX3_chooseShortest 15 = .ok (.iconst 0, 1) := by decide +kernel
theorem dX3_chooseShortest_16 : decode cX3_chooseShortest 16 = .ok (.istore 5, 2) := by decide +kernel
theorem dX3_chooseShortest_77 : decode cX3_chooseShortest 77 = .ok (.iload 4, 2) := by decide +kernel
theorem dX3_chooseShortest_79 : decode cX3_chooseShortest 79 = .ok (.ifCond .lt 11, 3) := by decide +kernel
theorem dX3_chooseShortest_90 : decode cX3_chooseShortest 90 = .ok (.iinc 3 1, 3) := by decide +kernel
theorem dX3_chooseShortest_93 : decode cX3_chooseShortest 93 = .ok (.goto (-86), 3) := by decide +kernel
theorem dX3_chooseShortest_82 : decode cX3_chooseShortest 82 = .ok (.aload_n 0, 1) := by decide +kernel
theorem dX3_chooseShortest_83 : decode cX3_chooseShortest 83 = .ok (.getfield 9, 3) := by decide +kernel
theorem dX3_chooseShortest_86 : decode cX3_chooseShortest 86 = .ok (.iload 4, 2) := by decide +kernel
theorem dX3_chooseShortest_88 : decode cX3_chooseShortest 88 = .ok (.iconst 0, 1) := by decide +kernel
theorem dX3_chooseShortest_89 : decode cX3_chooseShortest 89 = .ok (.iastore, 1) := by decide +kernel
theorem dX3_chooseShortest_18 : decode cX3_chooseShortest 18 = .ok (.iload 5, 2) := by decide +kernel
theorem dX3_chooseShortest_20 : decode cX3_chooseShortest 20 = .ok (.iload_n 2, 1) := by decide +kernel
theorem dX3_chooseShortest_21 : decode cX3_chooseShortest 21 = .ok (.if_icmp .ge 56, 3) := by decide +kernel
theorem dX3_chooseShortest_24 : decode cX3_chooseShortest 24 = .ok (.iload 5, 2) := by decide +kernel
theorem dX3_chooseShortest_26 : decode cX3_chooseShortest 26 = .ok (.sipush 200, 3) := by decide +kernel
theorem dX3_chooseShortest_29 : decode cX3_chooseShortest 29 = .ok (.if_icmp .ge 48, 3) := by decide +kernel
theorem dX3_chooseShortest_32 : decode cX3_chooseShortest 32 = .ok (.iload 5, 2) := by decide +kernel
theorem dX3_chooseShortest_34 : decode cX3_chooseShortest 34 = .ok (.aload_n 1, 1) := by decide +kernel
theorem dX3_chooseShortest_35 : decode cX3_chooseShortest 35 = .ok (.arraylength, 1) := by decide +kernel
theorem dX3_chooseShortest_36 : decode cX3_chooseShortest 36 = .ok (.if_icmp .ge 41, 3) := by decide +kernel
theorem dX3_chooseShortest_39 : decode cX3_chooseShortest 39 = .ok (.aload_n 0, 1) := by decide +kernel
theorem dX3_chooseShortest_40 : decode cX3_chooseShortest 40 = .ok (.getfield 9, 3) := by decide +kernel
theorem dX3_chooseShortest_43 : decode cX3_chooseShortest 43 = .ok (.iload 5, 2) := by decide +kernel
theorem dX3_chooseShortest_45 : decode cX3_chooseShortest 45 = .ok (.iaload, 1) := by decide +kernel
theorem dX3_chooseShortest_46 : decode cX3_chooseShortest 46 = .ok (.iconst (-1), 1) := by decide +kernel
theorem dX3_chooseShortest_47 : decode cX3_chooseShortest 47 = .ok (.if_icmp .ne 24, 3) := by decide +kernel
theorem dX3_chooseShortest_71 : decode cX3_chooseShortest 71 = .ok (.iinc 5 1, 3) := by decide +kernel
theorem dX3_chooseShortest_74 : decode cX3_chooseShortest 74 = .ok (.goto (-56), 3) := by decide +kernel
theorem dX3_chooseShortest_50 : decode cX3_chooseShortest 50 = .ok (.iload 4, 2) := by decide +kernel
theorem dX3_chooseShortest_52 : decode cX3_chooseShortest 52 = .ok (.iconst (-1), 1) := by decide +kernel
theorem dX3_chooseShortest_53 : decode cX3_chooseShortest 53 = .ok (.if_icmp .eq 14, 3) := by decide +kernel
theorem dX3_chooseShortest_67 : decode cX3_chooseShortest 67 = .ok (.iload 5, 2) := by decide +kernel
theorem dX3_chooseShortest_69 : decode cX3_chooseShortest 69 = .ok (.istore 4, 2) := by decide +kernel
theorem dX3_chooseShortest_56 : decode cX3_chooseShortest 56 = .ok (.aload_n 1, 1) := by decide +kernel
theorem dX3_chooseShortest_57 : decode cX3_chooseShortest 57 = .ok (.iload 5, 2) := by decide +kernel
theorem dX3_chooseShortest_59 : decode cX3_chooseShortest 59 = .ok (.iaload, 1) := by decide +kernel
theorem dX3_chooseShortest_60 : decode cX3_chooseShortest 60 = .ok (.aload_n 1, 1) := by decide +kernel
theorem dX3_chooseShortest_61 : decode cX3_chooseShortest 61 = .ok (.iload 4, 2) := by decide +kernel
theorem dX3_chooseShortest_63 : decode cX3_chooseShortest 63 = .ok (.iaload, 1) := by decide +kernel
theorem dX3_chooseShortest_64 : decode cX3_chooseShortest 64 = .ok (.if_icmp .ge 7, 3) := by decide +kernel
abbrev Wa_X3_chooseShortest (g : Nat → ClassId) (a_this : Nat) (a_lengths : Nat) (a_mergeTaking : Nat) (a_rows : Nat) (way : Int32) (ways : Int32) (merges : Int32) (level : Int32) (mergeTaking : Nat → Int32) (lengths : Nat → Int32) : va_W := [(a_this, .inr (5, [.ref a_mergeTaking, .ref a_rows, .int way, .int ways, .int merges, .int level])), (a_mergeTaking, .inl (g 0, 200, .inl mergeTaking)), (a_lengths, .inl (g 0, 200, .inl lengths))]
abbrev Wb_X3_chooseShortest (g : Nat → ClassId) (a_this : Nat) (a_lengths : Nat) (a_mergeTaking : Nat) (a_rows : Nat) (way : Int32) (ways : Int32) (level : Int32) (lengths : Nat → Int32) (u : Int32 × (Nat → Int32) × Unit) : va_W := [(a_this, .inr (5, [.ref a_mergeTaking, .ref a_rows, .int way, .int ways, .int u.1, .int level])), (a_mergeTaking, .inl (g 0, 200, .inl u.2.1)), (a_lengths, .inl (g 0, 200, .inl lengths))]
set_option maxHeartbeats 8000000 in
set_option maxRecDepth 100000 in
theorem c_X3_chooseShortest (l : Launch) (dC : Nat → ClassId) (dI : Nat → Nat → Nat) (g : Nat → ClassId) (a_this : Nat) (a_lengths : Nat) (a_mergeTaking : Nat) (a_rows : Nat) (way : Int32) (ways : Int32) (merges : Int32) (level : Int32) (mergeTaking : Nat → Int32) (lengths : Nat → Int32) (runs : Int32) (Q : Int32 → (Nat → Int32) → Prop) (hw : wp_X3_chooseShortest mergeTaking lengths runs Q) (sz : Nat) : Met l yX3_chooseShortest wqX3_chooseShortest ({ frames := 0, cells := 0, slots := 0, locals := 0 }) (va_Pc [.ref a_this, .ref a_lengths, .int runs] (PG (dC, dI) g (Wa_X3_chooseShortest g a_this a_lengths a_mergeTaking a_rows way ways merges level mergeTaking lengths) sz)) (va_Qv (fun (u : Int32 × (Nat → Int32) × Unit) => Q u.1 u.2.1) (fun (u : Int32 × (Nat → Int32) × Unit) t9 => va_P (dC, dI) vwCl (Wb_X3_chooseShortest g a_this a_lengths a_mergeTaking a_rows way ways level lengths u) t9.heap ∧ va_D (va_A (Wa_X3_chooseShortest g a_this a_lengths a_mergeTaking a_rows way ways merges level mergeTaking lengths) sz) (Wb_X3_chooseShortest g a_this a_lengths a_mergeTaking a_rows way ways level lengths u)) (va_A (Wa_X3_chooseShortest g a_this a_lengths a_mergeTaking a_rows way ways merges level mergeTaking lengths) sz)) 0 0 (va_A (Wa_X3_chooseShortest g a_this a_lengths a_mergeTaking a_rows way ways merges level mergeTaking lengths) sz) := by
  refine Met.ofW (cc := cX3_chooseShortest) (maxL := 6) (ret := none) (by decide) rfl ?_
  intro p e s m args below meth c s₁ B hml hv
  obtain ⟨rfl, hsz, hP, hK, hD0, hG⟩ := hv
  have hx := B.exec
  have hb := B.bytes
  have hr := B.returns
  have hts := atoms_spec (ws := wqX3_chooseShortest) B.pre
  have hown : s.vm.findClass RX3 = some m.cls := findClass_of_methodNamed B.named
  have hlocks := B.notSynchronized
  subst hsz
  have hD := hD0.self (sz := s.heap.size)
  generalize hAe : va_A (Wa_X3_chooseShortest g a_this a_lengths a_mergeTaking a_rows way ways merges level mergeTaking lengths) s.heap.size = A at hD hG ⊢
  have hA : ∀ q : Nat, s.heap.size ≤ q → A q := fun q h => by rw [← hAe]; exact Or.inr h
  have hS : va_S A s.heap s.heap [] := va_S.rf
  have hl := lv_entry ([.ref a_this, .ref a_lengths, .int runs]) (n := 6) (Nat.le_of_ble_eq_true rfl)
  rw [lg_entry_eq]
  generalize (lg_sl ([.ref a_this, .ref a_lengths, .int runs]) ++ List.replicate (6 - (lg_sl ([.ref a_this, .ref a_lengths, .int runs])).length) Slot.unset).toArray = ls at hl ⊢
  have hl : lv_has ls 6 [(0, .ref a_this), (1, .ref a_lengths), (2, .int runs)] := hl
  unfold wp_X3_chooseShortest at hw
  have hf25 := hts (Cond.fieldLink RX3 25 "RunmergeOffice$Pass" "merges" "I") (aw_l aw_1_178)
  have hiX3 : ∀ w ∈ u_ws RX3 TX3 6, w ∈ wqX3_chooseShortest := fun w h => aw_l (aw_wsX30 w h)
  have hf9 := hts (Cond.fieldLink RX3 9 "RunmergeOffice$Pass" "mergeTaking" "[I") (aw_l aw_1_174)
  refine lv_aload_n hx hb dX3_chooseShortest_0 rfl (lv_at hl 0 rfl) ?_
  refine lv_iconst (v := 1) hx hb dX3_chooseShortest_1 (by decide) ?_
  refine va_put (D := (dC, dI)) (ci := 5) (v := .int 1) (ty := .int) (C := RX3) (T := TX3) (N := 6) hx hb hts hiX3 tyX3 tyX3_ok nmX3 hown hK hP hD hS 0 rfl rfl 4 (by decide) hf25 (fun _ h9 => h9) rfl (by decide +kernel) rfl rfl (Nat.le_of_ble_eq_true rfl) dX3_chooseShortest_2 (fun H_1 L_2 hP hD hS => ?_)
  have hP : va_P (dC, dI) vwCl [(a_this, .inr (5, [.ref a_mergeTaking, .ref a_rows, .int way, .int ways, .int 1, .int level])), (a_mergeTaking, .inl (g 0, 200, .inl mergeTaking)), (a_lengths, .inl (g 0, 200, .inl lengths))] H_1 := hP
  have hD : va_D A [(a_this, .inr (5, [.ref a_mergeTaking, .ref a_rows, .int way, .int ways, .int 1, .int level])), (a_mergeTaking, .inl (g 0, 200, .inl mergeTaking)), (a_lengths, .inl (g 0, 200, .inl lengths))] := hD
  refine lv_iconst (v := 0) hx hb dX3_chooseShortest_5 (by decide) ?_
  refine lv_istore_n (lv' := [(3, .int 0), (0, .ref a_this), (1, .ref a_lengths), (2, .int runs)]) hx hb dX3_chooseShortest_6 rfl hl (by decide) rfl (fun ls hl => ?_)
  refine W_abs (fun QM hQM => ?_)
  have EX7_96 : ∀ (mergeTaking_5 : Nat → Int32) (H : Heap) (locs : List Loc), (wx_X3_chooseShortest_7_96 Q) mergeTaking_5 → va_P (dC, dI) vwCl [(a_this, .inr (5, [.ref a_mergeTaking, .ref a_rows, .int way, .int ways, .int 1, .int level])), (a_mergeTaking, .inl (g 0, 200, .inl mergeTaking_5)), (a_lengths, .inl (g 0, 200, .inl lengths))] H → va_D A [(a_this, .inr (5, [.ref a_mergeTaking, .ref a_rows, .int way, .int ways, .int 1, .int level])), (a_mergeTaking, .inl (g 0, 200, .inl mergeTaking_5)), (a_lengths, .inl (g 0, 200, .inl lengths))] → va_S A s.heap H locs → ∀ (ls : Array Slot), lv_has ls 6 [] → W p l e (headSpec wqX3_chooseShortest ({ frames := 0, cells := 0, slots := 0, locals := 0 })).room s m ([.ref a_this, .ref a_lengths, .int runs] : List Value).toArray below meth c H locs 0 0 QM (F0 m 96 ls []) := by
    intro mergeTaking_5 H locs hw hP hD hS ls hl
    subst hQM
    have hP9 := hP.sub (ws' := [(a_this, .inr (5, [.ref a_mergeTaking, .ref a_rows, .int way, .int ways, .int 1, .int level])), (a_mergeTaking, .inl (g 0, 200, .inl mergeTaking_5)), (a_lengths, .inl (g 0, 200, .inl lengths))]) [0, 1, 2] rfl
    have hD9 := hD.sub (ws' := [(a_this, .inr (5, [.ref a_mergeTaking, .ref a_rows, .int way, .int ways, .int 1, .int level])), (a_mergeTaking, .inl (g 0, 200, .inl mergeTaking_5)), (a_lengths, .inl (g 0, 200, .inl lengths))]) [0, 1, 2] (by decide) rfl
    exact W.vret hx hb hr (fun t ht hW => ⟨⟨(1, mergeTaking_5, ()), rfl, hw, ⟨P_at ht hP9, hD9⟩⟩, hS.F ht⟩) hS.2.2 dX3_chooseShortest_96
  have LOOP7 : ∀ (n7 : Nat) (v3_3 : Int32) (mergeTaking_4 : Nat → Int32) (H : Heap) (locs : List Loc), wl_X3_chooseShortest_7 lengths runs (wx_X3_chooseShortest_7_96 Q) n7 v3_3 mergeTaking_4 → va_P (dC, dI) vwCl [(a_this, .inr (5, [.ref a_mergeTaking, .ref a_rows, .int way, .int ways, .int 1, .int level])), (a_mergeTaking, .inl (g 0, 200, .inl mergeTaking_4)), (a_lengths, .inl (g 0, 200, .inl lengths))] H → va_D A [(a_this, .inr (5, [.ref a_mergeTaking, .ref a_rows, .int way, .int ways, .int 1, .int level])), (a_mergeTaking, .inl (g 0, 200, .inl mergeTaking_4)), (a_lengths, .inl (g 0, 200, .inl lengths))] → va_S A s.heap H locs → ∀ (ls : Array Slot), lv_has ls 6 [(0, .ref a_this), (1, .ref a_lengths), (2, .int runs), (3, .int v3_3)] → W p l e (headSpec wqX3_chooseShortest ({ frames := 0, cells := 0, slots := 0, locals := 0 })).room s m ([.ref a_this, .ref a_lengths, .int runs] : List Value).toArray below meth c H locs 0 0 QM (F0 m 7 ls []) := by
    intro n7
    induction n7 with
    | zero =>
      intro v3_3 mergeTaking_4 H locs hw hP hD hS ls hl
      exact False.elim hw
    | succ n7 ih7 =>
      intro v3_3 mergeTaking_4 H locs hw hP hD hS ls hl
      rw [wl_X3_chooseShortest_7_s] at hw
      refine lv_iload_n hx hb dX3_chooseShortest_7 rfl (lv_at hl 3 rfl) ?_
      refine lv_iconst (v := 2) hx hb dX3_chooseShortest_8 (by decide) ?_
      refine lv_icmp_ge (tgt := 96) hx hb dX3_chooseShortest_9 (by decide) (fun c_6 => ?_) (fun c_6 => ?_)
      · have hw := hw.1 c_6
        exact EX7_96 mergeTaking_4 _ _ hw (hP.sub [0, 1, 2] rfl) (hD.sub [0, 1, 2] (by decide) rfl) hS _ (lv_sub hl [] rfl)
      · have hw := hw.2 c_6
        refine lv_iconst (v := (-1)) hx hb dX3_chooseShortest_12 (by decide) ?_
        refine lv_istore (lv' := [(4, .int (-1)), (0, .ref a_this), (1, .ref a_lengths), (2, .int runs), (3, .int v3_3)]) hx hb dX3_chooseShortest_13 hl (by decide) rfl (fun ls hl => ?_)
        refine lv_iconst (v := 0) hx hb dX3_chooseShortest_15 (by decide) ?_
        refine lv_istore (lv' := [(5, .int 0), (4, .int (-1)), (0, .ref a_this), (1, .ref a_lengths), (2, .int runs), (3, .int v3_3)]) hx hb dX3_chooseShortest_16 hl (by decide) rfl (fun ls hl => ?_)
        have EX18_77 : ∀ (v4_9 : Int32) (H : Heap) (locs : List Loc), (wx_X3_chooseShortest_18_77 v3_3 mergeTaking_4 (wl_X3_chooseShortest_7 lengths runs (wx_X3_chooseShortest_7_96 Q) n7)) v4_9 → va_P (dC, dI) vwCl [(a_this, .inr (5, [.ref a_mergeTaking, .ref a_rows, .int way, .int ways, .int 1, .int level])), (a_mergeTaking, .inl (g 0, 200, .inl mergeTaking_4)), (a_lengths, .inl (g 0, 200, .inl lengths))] H → va_D A [(a_this, .inr (5, [.ref a_mergeTaking, .ref a_rows, .int way, .int ways, .int 1, .int level])), (a_mergeTaking, .inl (g 0, 200, .inl mergeTaking_4)), (a_lengths, .inl (g 0, 200, .inl lengths))] → va_S A s.heap H locs → ∀ (ls : Array Slot), lv_has ls 6 [(0, .ref a_this), (1, .ref a_lengths), (2, .int runs), (3, .int v3_3), (4, .int v4_9)] → W p l e (headSpec wqX3_chooseShortest ({ frames := 0, cells := 0, slots := 0, locals := 0 })).room s m ([.ref a_this, .ref a_lengths, .int runs] : List Value).toArray below meth c H locs 0 0 QM (F0 m 77 ls []) := by
          intro v4_9 H locs hw hP hD hS ls hl
          refine lv_iload hx hb dX3_chooseShortest_77 (lv_at hl 4 rfl) ?_
          refine lv_if_lt (tgt := 90) hx hb dX3_chooseShortest_79 (by decide) (fun c_10 => ?_) (fun c_10 => ?_)
          · have hw := hw.1 c_10
            obtain ⟨x_11, ex_11⟩ : ∃ y : Int32, y = v3_3 + 1 := ⟨_, rfl⟩
            have hw := hw x_11 ex_11
            refine lv_iinc (v := x_11) (lv' := [(3, .int x_11), (0, .ref a_this), (1, .ref a_lengths), (2, .int runs), (4, .int v4_9)]) hx hb dX3_chooseShortest_90 hl (k := 3) rfl (by rw [ex_11]; rfl) (by decide) rfl (fun ls hl => ?_)
            refine lv_goto (tgt := 7) hx hb dX3_chooseShortest_93 (by decide) ?_
            exact ih7 x_11 mergeTaking_4 _ _ hw (hP.sub [0, 1, 2] rfl) (hD.sub [0, 1, 2] (by decide) rfl) hS _ (lv_sub hl [1, 2, 3, 0] rfl)
          · have hw := hw.2 c_10
            refine lv_aload_n hx hb dX3_chooseShortest_82 rfl (lv_at hl 0 rfl) ?_
            refine va_get (D := (dC, dI)) (ci := 5) (v := .ref a_mergeTaking) (C := RX3) (T := TX3) (N := 6) hx hb hts hiX3 hown hK hP 0 rfl rfl 0 (by decide) hf9 (fun _ h9 => h9) rfl dX3_chooseShortest_83 ?_
            refine lv_iload hx hb dX3_chooseShortest_86 (lv_at hl 4 rfl) ?_
            refine lv_iconst (v := 0) hx hb dX3_chooseShortest_88 (by decide) ?_
            refine va_iast hx hb hK hP hD hS 1 0 rfl rfl hw.1 dX3_chooseShortest_89 (fun H_12 L_13 hP hD hS => ?_)
            have hw := hw.2
            have hP : va_P (dC, dI) vwCl [(a_this, .inr (5, [.ref a_mergeTaking, .ref a_rows, .int way, .int ways, .int 1, .int level])), (a_mergeTaking, .inl (g 0, 200, .inl (upd mergeTaking_4 v4_9.toNatClampNeg 0))), (a_lengths, .inl (g 0, 200, .inl lengths))] H_12 := hP
            have hD : va_D A [(a_this, .inr (5, [.ref a_mergeTaking, .ref a_rows, .int way, .int ways, .int 1, .int level])), (a_mergeTaking, .inl (g 0, 200, .inl (upd mergeTaking_4 v4_9.toNatClampNeg 0))), (a_lengths, .inl (g 0, 200, .inl lengths))] := hD
            obtain ⟨x_14, ex_14⟩ : ∃ y : Int32, y = v3_3 + 1 := ⟨_, rfl⟩
            have hw := hw x_14 ex_14
            refine lv_iinc (v := x_14) (lv' := [(3, .int x_14), (0, .ref a_this), (1, .ref a_lengths), (2, .int runs), (4, .int v4_9)]) hx hb dX3_chooseShortest_90 hl (k := 3) rfl (by rw [ex_14]; rfl) (by decide) rfl (fun ls hl => ?_)
            refine lv_goto (tgt := 7) hx hb dX3_chooseShortest_93 (by decide) ?_
            exact ih7 x_14 (upd mergeTaking_4 v4_9.toNatClampNeg 0) _ _ hw (hP.sub [0, 1, 2] rfl) (hD.sub [0, 1, 2] (by decide) rfl) hS _ (lv_sub hl [1, 2, 3, 0] rfl)
        have LOOP18 : ∀ (n18 : Nat) (v5_7 : Int32) (v4_8 : Int32) (H : Heap) (locs : List Loc), wl_X3_chooseShortest_18 lengths runs mergeTaking_4 (wx_X3_chooseShortest_18_77 v3_3 mergeTaking_4 (wl_X3_chooseShortest_7 lengths runs (wx_X3_chooseShortest_7_96 Q) n7)) n18 v5_7 v4_8 → va_P (dC, dI) vwCl [(a_this, .inr (5, [.ref a_mergeTaking, .ref a_rows, .int way, .int ways, .int 1, .int level])), (a_mergeTaking, .inl (g 0, 200, .inl mergeTaking_4)), (a_lengths, .inl (g 0, 200, .inl lengths))] H → va_D A [(a_this, .inr (5, [.ref a_mergeTaking, .ref a_rows, .int way, .int ways, .int 1, .int level])), (a_mergeTaking, .inl (g 0, 200, .inl mergeTaking_4)), (a_lengths, .inl (g 0, 200, .inl lengths))] → va_S A s.heap H locs → ∀ (ls : Array Slot), lv_has ls 6 [(0, .ref a_this), (1, .ref a_lengths), (2, .int runs), (3, .int v3_3), (4, .int v4_8), (5, .int v5_7)] → W p l e (headSpec wqX3_chooseShortest ({ frames := 0, cells := 0, slots := 0, locals := 0 })).room s m ([.ref a_this, .ref a_lengths, .int runs] : List Value).toArray below meth c H locs 0 0 QM (F0 m 18 ls []) := by
          intro n18
          induction n18 with
          | zero =>
            intro v5_7 v4_8 H locs hw hP hD hS ls hl
            exact False.elim hw
          | succ n18 ih18 =>
            intro v5_7 v4_8 H locs hw hP hD hS ls hl
            rw [wl_X3_chooseShortest_18_s] at hw
            refine lv_iload hx hb dX3_chooseShortest_18 (lv_at hl 5 rfl) ?_
            refine lv_iload_n hx hb dX3_chooseShortest_20 rfl (lv_at hl 2 rfl) ?_
            refine lv_icmp_ge (tgt := 77) hx hb dX3_chooseShortest_21 (by decide) (fun c_15 => ?_) (fun c_15 => ?_)
            · have hw := hw.1 c_15
              exact EX18_77 v4_8 _ _ hw (hP.sub [0, 1, 2] rfl) (hD.sub [0, 1, 2] (by decide) rfl) hS _ (lv_sub hl [0, 1, 2, 3, 4] rfl)
            · have hw := hw.2 c_15
              refine lv_iload hx hb dX3_chooseShortest_24 (lv_at hl 5 rfl) ?_
              refine lv_sipush (v := 200) hx hb dX3_chooseShortest_26 (by decide) ?_
              refine lv_icmp_ge (tgt := 77) hx hb dX3_chooseShortest_29 (by decide) (fun c_16 => ?_) (fun c_16 => ?_)
              · have hw := hw.1 c_16
                exact EX18_77 v4_8 _ _ hw (hP.sub [0, 1, 2] rfl) (hD.sub [0, 1, 2] (by decide) rfl) hS _ (lv_sub hl [0, 1, 2, 3, 4] rfl)
              · have hw := hw.2 c_16
                refine lv_iload hx hb dX3_chooseShortest_32 (lv_at hl 5 rfl) ?_
                refine lv_aload_n hx hb dX3_chooseShortest_34 rfl (lv_at hl 1 rfl) ?_
                refine va_alen hx hb hK hP 2 0 rfl rfl (v := 200) rfl dX3_chooseShortest_35 ?_
                refine lv_icmp_ge (tgt := 77) hx hb dX3_chooseShortest_36 (by decide) (fun c_17 => ?_) (fun c_17 => ?_)
                · have hw := hw.1 c_17
                  exact EX18_77 v4_8 _ _ hw (hP.sub [0, 1, 2] rfl) (hD.sub [0, 1, 2] (by decide) rfl) hS _ (lv_sub hl [0, 1, 2, 3, 4] rfl)
                · have hw := hw.2 c_17
                  refine lv_aload_n hx hb dX3_chooseShortest_39 rfl (lv_at hl 0 rfl) ?_
                  refine va_get (D := (dC, dI)) (ci := 5) (v := .ref a_mergeTaking) (C := RX3) (T := TX3) (N := 6) hx hb hts hiX3 hown hK hP 0 rfl rfl 0 (by decide) hf9 (fun _ h9 => h9) rfl dX3_chooseShortest_40 ?_
                  refine lv_iload hx hb dX3_chooseShortest_43 (lv_at hl 5 rfl) ?_
                  refine va_iald hx hb hK hP 1 0 rfl rfl hw.1 dX3_chooseShortest_45 ?_
                  have hw := hw.2
                  refine lv_topi (fun x_18 ex_18 => ?_)
                  have hw := hw x_18 ex_18
                  refine lv_iconst (v := (-1)) hx hb dX3_chooseShortest_46 (by decide) ?_
                  refine lv_icmp_ne (tgt := 71) hx hb dX3_chooseShortest_47 (by decide) (fun c_19 => ?_) (fun c_19 => ?_)
                  · have hw := hw.2 c_19
                    obtain ⟨x_20, ex_20⟩ : ∃ y : Int32, y = v5_7 + 1 := ⟨_, rfl⟩
                    have hw := hw x_20 ex_20
                    refine lv_iinc (v := x_20) (lv' := [(5, .int x_20), (0, .ref a_this), (1, .ref a_lengths), (2, .int runs), (3, .int v3_3), (4, .int v4_8)]) hx hb dX3_chooseShortest_71 hl (k := 5) rfl (by rw [ex_20]; rfl) (by decide) rfl (fun ls hl => ?_)
                    refine lv_goto (tgt := 18) hx hb dX3_chooseShortest_74 (by decide) ?_
                    exact ih18 x_20 v4_8 _ _ hw (hP.sub [0, 1, 2] rfl) (hD.sub [0, 1, 2] (by decide) rfl) hS _ (lv_sub hl [1, 2, 3, 4, 5, 0] rfl)
                  · have hw := hw.1 c_19
                    refine lv_iload hx hb dX3_chooseShortest_50 (lv_at hl 4 rfl) ?_
                    refine lv_iconst (v := (-1)) hx hb dX3_chooseShortest_52 (by decide) ?_
                    refine lv_icmp_eq (tgt := 67) hx hb dX3_chooseShortest_53 (by decide) (fun c_21 => ?_) (fun c_21 => ?_)
                    · have hw := hw.1 c_21
                      refine lv_iload hx hb dX3_chooseShortest_67 (lv_at hl 5 rfl) ?_
                      refine lv_istore (lv' := [(4, .int v5_7), (0, .ref a_this), (1, .ref a_lengths), (2, .int runs), (3, .int v3_3), (5, .int v5_7)]) hx hb dX3_chooseShortest_69 hl (by decide) rfl (fun ls hl => ?_)
                      obtain ⟨x_22, ex_22⟩ : ∃ y : Int32, y = v5_7 + 1 := ⟨_, rfl⟩
                      have hw := hw x_22 ex_22
                      refine lv_iinc (v := x_22) (lv' := [(5, .int x_22), (4, .int v5_7), (0, .ref a_this), (1, .ref a_lengths), (2, .int runs), (3, .int v3_3)]) hx hb dX3_chooseShortest_71 hl (k := 5) rfl (by rw [ex_22]; rfl) (by decide) rfl (fun ls hl => ?_)
                      refine lv_goto (tgt := 18) hx hb dX3_chooseShortest_74 (by decide) ?_
                      exact ih18 x_22 v5_7 _ _ hw (hP.sub [0, 1, 2] rfl) (hD.sub [0, 1, 2] (by decide) rfl) hS _ (lv_sub hl [2, 3, 4, 5, 1, 0] rfl)
                    · have hw := hw.2 c_21
                      refine lv_aload_n hx hb dX3_chooseShortest_56 rfl (lv_at hl 1 rfl) ?_
                      refine lv_iload hx hb dX3_chooseShortest_57 (lv_at hl 5 rfl) ?_
                      refine va_iald hx hb hK hP 2 0 rfl rfl hw.1 dX3_chooseShortest_59 ?_
                      have hw := hw.2
                      refine lv_topi (fun x_23 ex_23 => ?_)
                      have hw := hw x_23 ex_23
                      refine lv_aload_n hx hb dX3_chooseShortest_60 rfl (lv_at hl 1 rfl) ?_
                      refine lv_iload hx hb dX3_chooseShortest_61 (lv_at hl 4 rfl) ?_
                      refine va_iald hx hb hK hP 2 0 rfl rfl hw.1 dX3_chooseShortest_63 ?_
                      have hw := hw.2
                      refine lv_topi (fun x_24 ex_24 => ?_)
                      have hw := hw x_24 ex_24
                      refine lv_icmp_ge (tgt := 71) hx hb dX3_chooseShortest_64 (by decide) (fun c_25 => ?_) (fun c_25 => ?_)
                      · have hw := hw.1 c_25
                        obtain ⟨x_26, ex_26⟩ : ∃ y : Int32, y = v5_7 + 1 := ⟨_, rfl⟩
                        have hw := hw x_26 ex_26
                        refine lv_iinc (v := x_26) (lv' := [(5, .int x_26), (0, .ref a_this), (1, .ref a_lengths), (2, .int runs), (3, .int v3_3), (4, .int v4_8)]) hx hb dX3_chooseShortest_71 hl (k := 5) rfl (by rw [ex_26]; rfl) (by decide) rfl (fun ls hl => ?_)
                        refine lv_goto (tgt := 18) hx hb dX3_chooseShortest_74 (by decide) ?_
                        exact ih18 x_26 v4_8 _ _ hw (hP.sub [0, 1, 2] rfl) (hD.sub [0, 1, 2] (by decide) rfl) hS _ (lv_sub hl [1, 2, 3, 4, 5, 0] rfl)
                      · have hw := hw.2 c_25
                        refine lv_iload hx hb dX3_chooseShortest_67 (lv_at hl 5 rfl) ?_
                        refine lv_istore (lv' := [(4, .int v5_7), (0, .ref a_this), (1, .ref a_lengths), (2, .int runs), (3, .int v3_3), (5, .int v5_7)]) hx hb dX3_chooseShortest_69 hl (by decide) rfl (fun ls hl => ?_)
                        obtain ⟨x_27, ex_27⟩ : ∃ y : Int32, y = v5_7 + 1 := ⟨_, rfl⟩
                        have hw := hw x_27 ex_27
                        refine lv_iinc (v := x_27) (lv' := [(5, .int x_27), (4, .int v5_7), (0, .ref a_this), (1, .ref a_lengths), (2, .int runs), (3, .int v3_3)]) hx hb dX3_chooseShortest_71 hl (k := 5) rfl (by rw [ex_27]; rfl) (by decide) rfl (fun ls hl => ?_)
                        refine lv_goto (tgt := 18) hx hb dX3_chooseShortest_74 (by decide) ?_
                        exact ih18 x_27 v5_7 _ _ hw (hP.sub [0, 1, 2] rfl) (hD.sub [0, 1, 2] (by decide) rfl) hS _ (lv_sub hl [2, 3, 4, 5, 1, 0] rfl)
        obtain ⟨n18, hw⟩ := hw
        exact LOOP18 n18 0 (-1) _ _ hw (hP.sub [0, 1, 2] rfl) (hD.sub [0, 1, 2] (by decide) rfl) hS _ (lv_sub hl [2, 3, 4, 5, 1, 0] rfl)
  obtain ⟨n7, hw⟩ := hw
  exact LOOP7 n7 0 mergeTaking _ _ hw (hP.sub [0, 1, 2] rfl) (hD.sub [0, 1, 2] (by decide) rfl) hS _ (lv_sub hl [1, 2, 3, 0] rfl)
theorem dX3_chooseHeads_0 : decode cX3_chooseHeads 0 = .ok (.aload_n 0, 1) := by decide +kernel
theorem dX3_chooseHeads_1 : decode cX3_chooseHeads 1 = .ok (.getfield 22, 3) := by decide +kernel
theorem dX3_chooseHeads_4 : decode cX3_chooseHeads 4 = .ok (.iconst 1, 1) := by decide +kernel
theorem dX3_chooseHeads_5 : decode cX3_chooseHeads 5 = .ok (.isub, 1) := by decide +kernel
theorem dX3_chooseHeads_6 : decode cX3_chooseHeads 6 = .ok (.istore_n 2, 1) := by decide +kernel
theorem dX3_chooseHeads_7 : decode cX3_chooseHeads 7 = .ok (.aload_n 0, 1) := by decide +kernel
theorem dX3_chooseHeads_8 : decode cX3_chooseHeads 8 = .ok (.iload_n 2, 1) := by decide +kernel
theorem dX3_chooseHeads_28 : decode cX3_chooseHeads 28 = .ok (.putfield 25, 3) := by decide +kernel
theorem dX3_chooseHeads_31 : decode cX3_chooseHeads 31 = .ok (.iconst 0, 1) := by decide +kernel
theorem dX3_chooseHeads_32 : decode cX3_chooseHeads 32 = .ok (.istore_n 3, 1) := by decide +kernel
theorem dX3_chooseHeads_33 : decode cX3_chooseHeads 33 = .ok (.iconst 0, 1) := by decide +kernel
theorem dX3_chooseHeads_34 : decode cX3_chooseHeads 34 = .ok (.istore 4, 2) := by decide +kernel
theorem dX3_chooseHeads_115 : decode cX3_chooseHeads 115 = .ok (.return_, 1) := by decide +kernel
theorem dX3_chooseHeads_36 : decode cX3_chooseHeads 36 = .ok (.iload 4, 2) := by decide +kernel
theorem dX3_chooseHeads_38 : decode cX3_chooseHeads 38 = .ok (.aload_n 0, 1) := by decide +kernel
theorem dX3_chooseHeads_39 : decode cX3_chooseHeads 39 = .ok (.getfield 22, 3) := by decide +kernel
theorem dX3_chooseHeads_42 : decode cX3_chooseHeads 42 = .ok (.if_icmp .ge 73, 3) := by decide +kernel
theorem dX3_chooseHeads_45 : decode cX3_chooseHeads 45 = .ok (.iload 4, 2) := by decide +kernel
theorem dX3_chooseHeads_47 : decode cX3_chooseHeads 47 = .ok (.bipush 6, 2) := by decide +kernel
theorem dX3_chooseHeads_49 : decode cX3_chooseHeads 49 = .ok (.if_icmp .ge 66, 3) := by decide +kernel
theorem dX3_chooseHeads_52 : decode cX3_chooseHeads 52 = .ok (.iconst 0, 1) := by decide +kernel
theorem dX3_chooseHeads_53 : decode cX3_chooseHeads 53 = .ok (.istore 5, 2) := by decide +kernel
theorem dX3_chooseHeads_109 : decode cX3_chooseHeads 109 = .ok (.iinc 4 1, 3) := by decide +kernel
theorem dX3_chooseHeads_112 : decode cX3_chooseHeads 112 = .ok (.goto (-76), 3) := by decide +kernel
theorem dX3_chooseHeads_55 : decode cX3_chooseHeads 55 = .ok (.iload 5, 2) := by decide +kernel
theorem dX3_chooseHeads_57 : decode cX3_chooseHeads 57 = .ok (.aload_n 0, 1) := by decide +kernel
theorem dX3_chooseHeads_58 : decode cX3_chooseHeads 58 = .ok (.getfield 15, 3) := by decide +kernel
theorem dX3_chooseHeads_61 : decode cX3_chooseHeads 61 = .ok (.iload 4, 2) := by decide +kernel
theorem dX3_chooseHeads_63 : decode cX3_chooseHeads 63 = .ok (.iaload, 1) := by decide +kernel
theorem dX3_chooseHeads_64 : decode cX3_chooseHeads 64 = .ok (.if_icmp .ge 45, 3) := by decide +kernel
theorem dX3_chooseHeads_67 : decode cX3_chooseHeads 67 = .ok (.iload_n 3, 1) := by decide +kernel
theorem dX3_chooseHeads_68 : decode cX3_chooseHeads 68 = .ok (.iload_n 1, 1) := by decide +kernel
theorem dX3_chooseHeads_69 : decode cX3_chooseHeads 69 = .ok (.if_icmp .ge 40, 3) := by decide +kernel
theorem dX3_chooseHeads_72 : decode cX3_chooseHeads 72 = .ok (.iload_n 3, 1) := by decide +kernel
theorem dX3_chooseHeads_73 : decode cX3_chooseHeads 73 = .ok (.sipush 200, 3) := by decide +kernel
theorem dX3_chooseHeads_76 : decode cX3_chooseHeads 76 = .ok (.if_icmp .ge 33, 3) := by decide +kernel
theorem dX3_chooseHeads_79 : decode cX3_chooseHeads 79 = .ok (.aload_n 0, 1) := by decide +kernel
theorem dX3_chooseHeads_80 : decode cX3_chooseHeads 80 = .ok (.getfield 9, 3) := by decide +kernel
theorem dX3_chooseHeads_83 : decode cX3_chooseHeads 83 = .ok (.iload_n 3, 1) := by decide +kernel
theorem dX3_chooseHeads_84 : decode cX3_chooseHeads 84 = .ok (.iload 5, 2) := by decide +kernel
theorem dX3_chooseHeads_86 : decode cX3_chooseHeads 86 = .ok (.aload_n 0, 1) := by decide +kernel
theorem dX3_chooseHeads_87 : decode cX3_chooseHeads 87 = .ok (.getfield 25, 3) := by decide +kernel
theorem dX3_chooseHeads_90 : decode cX3_chooseHeads 90 = .ok (.if_icmp .ge 8, 3) := by decide +kernel
theorem dX3_chooseHeads_98 : decode cX3_chooseHeads 98 = .ok (.iconst (-1), 1) := by decide +kernel
theorem dX3_chooseHeads_99 : decode cX3_chooseHeads 99 = .ok (.iastore, 1) := by decide +kernel
theorem dX3_chooseHeads_100 : decode cX3_chooseHeads 100 = .ok (.iinc 3 1, 3) := by decide +kernel
theorem dX3_chooseHeads_103 : decode cX3_chooseHeads 103 = .ok (.iinc 5 1, 3) := by decide +kernel
theorem dX3_chooseHeads_106 : decode cX3_chooseHeads 106 = .ok (.goto (-51), 3) := by decide +kernel
theorem dX3_chooseHeads_93 : decode cX3_chooseHeads 93 = .ok (.iload 5, 2) := by decide +kernel
theorem dX3_chooseHeads_95 : decode cX3_chooseHeads 95 = .ok (.goto 4, 3) := by decide +kernel
theorem dX3_chooseHeads_27 : decode cX3_chooseHeads 27 = .ok (.iconst 0, 1) := by decide +kernel
theorem dX3_chooseHeads_9 : decode cX3_chooseHeads 9 = .ok (.ifCond .lt 18, 3) := by decide +kernel
theorem dX3_chooseHeads_12 : decode cX3_chooseHeads 12 = .ok (.iload_n 2, 1) := by decide +kernel
theorem dX3_chooseHeads_13 : decode cX3_chooseHeads 13 = .ok (.bipush 6, 2) := by decide +kernel
theorem dX3_chooseHeads_15 : decode cX3_chooseHeads 15 = .ok (.if_icmp .ge 12, 3) := by decide +kernel
theorem dX3_chooseHeads_18 : decode cX3_chooseHeads 18 = .ok (.aload_n 0, 1) := by decide +kernel
theorem dX3_chooseHeads_19 : decode cX3_chooseHeads 19 = .ok (.getfield 15, 3) := by decide +kernel
theorem dX3_chooseHeads_22 : decode cX3_chooseHeads 22 = .ok (.iload_n 2, 1) := by decide +kernel
theorem dX3_chooseHeads_23 : decode cX3_chooseHeads 23 = .ok (.iaload, 1) := by decide +kernel
theorem dX3_chooseHeads_24 : decode cX3_chooseHeads 24 = .ok (.goto 4, 3) := by decide +kernel
abbrev Wa_X3_chooseHeads (g : Nat → ClassId) (a_this : Nat) (a_mergeTaking : Nat) (a_rows : Nat) (way : Int32) (ways : Int32) (merges : Int32) (level : Int32) (rows : Nat → Int32) (mergeTaking : Nat → Int32) : va_W := [(a_this, .inr (5, [.ref a_mergeTaking, .ref a_rows, .int way, .int ways, .int merges, .int level])), (a_rows, .inl (g 0, 6, .inl rows)), (a_mergeTaking, .inl (g 0, 200, .inl mergeTaking))]
abbrev Wb_X3_chooseHeads (g : Nat → ClassId) (a_this : Nat) (a_mergeTaking : Nat) (a_rows : Nat) (way : Int32) (ways : Int32) (level : Int32) (rows : Nat → Int32) (u : Int32 × (Nat → Int32) × Unit) : va_W := [(a_this, .inr (5, [.ref a_mergeTaking, .ref a_rows, .int way, .int ways, .int u.1, .int level])), (a_rows, .inl (g 0, 6, .inl rows)), (a_mergeTaking, .inl (g 0, 200, .inl u.2.1))]
set_option maxHeartbeats 8000000 in
set_option maxRecDepth 100000 in
theorem c_X3_chooseHeads (l : Launch) (dC : Nat → ClassId) (dI : Nat → Nat → Nat) (g : Nat → ClassId) (a_this : Nat) (a_mergeTaking : Nat) (a_rows : Nat) (way : Int32) (ways : Int32) (merges : Int32) (level : Int32) (rows : Nat → Int32) (mergeTaking : Nat → Int32) (runs : Int32) (Q : Int32 → (Nat → Int32) → Prop) (hw : wp_X3_chooseHeads ways rows mergeTaking runs Q) (sz : Nat) : Met l yX3_chooseHeads wqX3_chooseHeads ({ frames := 0, cells := 0, slots := 0, locals := 0 }) (va_Pc [.ref a_this, .int runs] (PG (dC, dI) g (Wa_X3_chooseHeads g a_this a_mergeTaking a_rows way ways merges level rows mergeTaking) sz)) (va_Qv (fun (u : Int32 × (Nat → Int32) × Unit) => Q u.1 u.2.1) (fun (u : Int32 × (Nat → Int32) × Unit) t9 => va_P (dC, dI) vwCl (Wb_X3_chooseHeads g a_this a_mergeTaking a_rows way ways level rows u) t9.heap ∧ va_D (va_A (Wa_X3_chooseHeads g a_this a_mergeTaking a_rows way ways merges level rows mergeTaking) sz) (Wb_X3_chooseHeads g a_this a_mergeTaking a_rows way ways level rows u)) (va_A (Wa_X3_chooseHeads g a_this a_mergeTaking a_rows way ways merges level rows mergeTaking) sz)) 0 0 (va_A (Wa_X3_chooseHeads g a_this a_mergeTaking a_rows way ways merges level rows mergeTaking) sz) := by
  refine Met.ofW (cc := cX3_chooseHeads) (maxL := 6) (ret := none) (by decide) rfl ?_
  intro p e s m args below meth c s₁ B hml hv
  obtain ⟨rfl, hsz, hP, hK, hD0, hG⟩ := hv
  have hx := B.exec
  have hb := B.bytes
  have hr := B.returns
  have hts := atoms_spec (ws := wqX3_chooseHeads) B.pre
  have hown : s.vm.findClass RX3 = some m.cls := findClass_of_methodNamed B.named
  have hlocks := B.notSynchronized
  subst hsz
  have hD := hD0.self (sz := s.heap.size)
  generalize hAe : va_A (Wa_X3_chooseHeads g a_this a_mergeTaking a_rows way ways merges level rows mergeTaking) s.heap.size = A at hD hG ⊢
  have hA : ∀ q : Nat, s.heap.size ≤ q → A q := fun q h => by rw [← hAe]; exact Or.inr h
  have hS : va_S A s.heap s.heap [] := va_S.rf
  have hl := lv_entry ([.ref a_this, .int runs]) (n := 6) (Nat.le_of_ble_eq_true rfl)
  rw [lg_entry_eq]
  generalize (lg_sl ([.ref a_this, .int runs]) ++ List.replicate (6 - (lg_sl ([.ref a_this, .int runs])).length) Slot.unset).toArray = ls at hl ⊢
  have hl : lv_has ls 6 [(0, .ref a_this), (1, .int runs)] := hl
  unfold wp_X3_chooseHeads at hw
  have hf22 := hts (Cond.fieldLink RX3 22 "RunmergeOffice$Pass" "ways" "I") (aw_l aw_1_177)
  have hiX3 : ∀ w ∈ u_ws RX3 TX3 6, w ∈ wqX3_chooseHeads := fun w h => aw_l (aw_wsX30 w h)
  have hf25 := hts (Cond.fieldLink RX3 25 "RunmergeOffice$Pass" "merges" "I") (aw_l aw_1_178)
  have hf15 := hts (Cond.fieldLink RX3 15 "RunmergeOffice$Pass" "rows" "[I") (aw_l aw_1_175)
  have hf9 := hts (Cond.fieldLink RX3 9 "RunmergeOffice$Pass" "mergeTaking" "[I") (aw_l aw_1_174)
  refine lv_aload_n hx hb dX3_chooseHeads_0 rfl (lv_at hl 0 rfl) ?_
  refine va_get (D := (dC, dI)) (ci := 5) (v := .int ways) (C := RX3) (T := TX3) (N := 6) hx hb hts hiX3 hown hK hP 0 rfl rfl 3 (by decide) hf22 (fun _ h9 => h9) rfl dX3_chooseHeads_1 ?_
  refine lv_iconst (v := 1) hx hb dX3_chooseHeads_4 (by decide) ?_
  refine lv_isub hx hb dX3_chooseHeads_5 ?_
  refine lv_topi (fun x_1 ex_1 => ?_)
  have hw := hw x_1 ex_1
  refine lv_istore_n (lv' := [(2, .int x_1), (0, .ref a_this), (1, .int runs)]) hx hb dX3_chooseHeads_6 rfl hl (by decide) rfl (fun ls hl => ?_)
  refine lv_aload_n hx hb dX3_chooseHeads_7 rfl (lv_at hl 1 rfl) ?_
  refine lv_iload_n hx hb dX3_chooseHeads_8 rfl (lv_at hl 0 rfl) ?_
  refine W_abs (fun QM hQM => ?_)
  have JN28 : ∀ (sk0_2 : Int32) (H : Heap) (locs : List Loc), (wj_X3_chooseHeads_28 ways rows mergeTaking runs Q) sk0_2 → va_P (dC, dI) vwCl [(a_this, .inr (5, [.ref a_mergeTaking, .ref a_rows, .int way, .int ways, .int merges, .int level])), (a_rows, .inl (g 0, 6, .inl rows)), (a_mergeTaking, .inl (g 0, 200, .inl mergeTaking))] H → va_D A [(a_this, .inr (5, [.ref a_mergeTaking, .ref a_rows, .int way, .int ways, .int merges, .int level])), (a_rows, .inl (g 0, 6, .inl rows)), (a_mergeTaking, .inl (g 0, 200, .inl mergeTaking))] → va_S A s.heap H locs → ∀ (ls : Array Slot), lv_has ls 6 [(0, .ref a_this), (1, .int runs)] → W p l e (headSpec wqX3_chooseHeads ({ frames := 0, cells := 0, slots := 0, locals := 0 })).room s m ([.ref a_this, .int runs] : List Value).toArray below meth c H locs 0 0 QM (F0 m 28 ls [.int sk0_2, .ref a_this]) := by
    intro sk0_2 H locs hw hP hD hS ls hl
    refine va_put (D := (dC, dI)) (ci := 5) (v := .int sk0_2) (ty := .int) (C := RX3) (T := TX3) (N := 6) hx hb hts hiX3 tyX3 tyX3_ok nmX3 hown hK hP hD hS 0 rfl rfl 4 (by decide) hf25 (fun _ h9 => h9) rfl (by decide +kernel) rfl rfl (Nat.le_of_ble_eq_true rfl) dX3_chooseHeads_28 (fun H_3 L_4 hP hD hS => ?_)
    have hP : va_P (dC, dI) vwCl [(a_this, .inr (5, [.ref a_mergeTaking, .ref a_rows, .int way, .int ways, .int sk0_2, .int level])), (a_rows, .inl (g 0, 6, .inl rows)), (a_mergeTaking, .inl (g 0, 200, .inl mergeTaking))] H_3 := hP
    have hD : va_D A [(a_this, .inr (5, [.ref a_mergeTaking, .ref a_rows, .int way, .int ways, .int sk0_2, .int level])), (a_rows, .inl (g 0, 6, .inl rows)), (a_mergeTaking, .inl (g 0, 200, .inl mergeTaking))] := hD
    refine lv_iconst (v := 0) hx hb dX3_chooseHeads_31 (by decide) ?_
    refine lv_istore_n (lv' := [(3, .int 0), (0, .ref a_this), (1, .int runs)]) hx hb dX3_chooseHeads_32 rfl hl (by decide) rfl (fun ls hl => ?_)
    refine lv_iconst (v := 0) hx hb dX3_chooseHeads_33 (by decide) ?_
    refine lv_istore (lv' := [(4, .int 0), (3, .int 0), (0, .ref a_this), (1, .int runs)]) hx hb dX3_chooseHeads_34 hl (by decide) rfl (fun ls hl => ?_)
    have EX36_115 : ∀ (mergeTaking_8 : Nat → Int32) (H : Heap) (locs : List Loc), (wx_X3_chooseHeads_36_115 Q sk0_2) mergeTaking_8 → va_P (dC, dI) vwCl [(a_this, .inr (5, [.ref a_mergeTaking, .ref a_rows, .int way, .int ways, .int sk0_2, .int level])), (a_rows, .inl (g 0, 6, .inl rows)), (a_mergeTaking, .inl (g 0, 200, .inl mergeTaking_8))] H → va_D A [(a_this, .inr (5, [.ref a_mergeTaking, .ref a_rows, .int way, .int ways, .int sk0_2, .int level])), (a_rows, .inl (g 0, 6, .inl rows)), (a_mergeTaking, .inl (g 0, 200, .inl mergeTaking_8))] → va_S A s.heap H locs → ∀ (ls : Array Slot), lv_has ls 6 [] → W p l e (headSpec wqX3_chooseHeads ({ frames := 0, cells := 0, slots := 0, locals := 0 })).room s m ([.ref a_this, .int runs] : List Value).toArray below meth c H locs 0 0 QM (F0 m 115 ls []) := by
      intro mergeTaking_8 H locs hw hP hD hS ls hl
      subst hQM
      have hP9 := hP.sub (ws' := [(a_this, .inr (5, [.ref a_mergeTaking, .ref a_rows, .int way, .int ways, .int sk0_2, .int level])), (a_rows, .inl (g 0, 6, .inl rows)), (a_mergeTaking, .inl (g 0, 200, .inl mergeTaking_8))]) [0, 1, 2] rfl
      have hD9 := hD.sub (ws' := [(a_this, .inr (5, [.ref a_mergeTaking, .ref a_rows, .int way, .int ways, .int sk0_2, .int level])), (a_rows, .inl (g 0, 6, .inl rows)), (a_mergeTaking, .inl (g 0, 200, .inl mergeTaking_8))]) [0, 1, 2] (by decide) rfl
      exact W.vret hx hb hr (fun t ht hW => ⟨⟨(sk0_2, mergeTaking_8, ()), rfl, hw, ⟨P_at ht hP9, hD9⟩⟩, hS.F ht⟩) hS.2.2 dX3_chooseHeads_115
    have LOOP36 : ∀ (n36 : Nat) (v4_5 : Int32) (v3_6 : Int32) (mergeTaking_7 : Nat → Int32) (H : Heap) (locs : List Loc), wl_X3_chooseHeads_36 ways rows runs sk0_2 (wx_X3_chooseHeads_36_115 Q sk0_2) n36 v4_5 v3_6 mergeTaking_7 → va_P (dC, dI) vwCl [(a_this, .inr (5, [.ref a_mergeTaking, .ref a_rows, .int way, .int ways, .int sk0_2, .int level])), (a_rows, .inl (g 0, 6, .inl rows)), (a_mergeTaking, .inl (g 0, 200, .inl mergeTaking_7))] H → va_D A [(a_this, .inr (5, [.ref a_mergeTaking, .ref a_rows, .int way, .int ways, .int sk0_2, .int level])), (a_rows, .inl (g 0, 6, .inl rows)), (a_mergeTaking, .inl (g 0, 200, .inl mergeTaking_7))] → va_S A s.heap H locs → ∀ (ls : Array Slot), lv_has ls 6 [(0, .ref a_this), (1, .int runs), (3, .int v3_6), (4, .int v4_5)] → W p l e (headSpec wqX3_chooseHeads ({ frames := 0, cells := 0, slots := 0, locals := 0 })).room s m ([.ref a_this, .int runs] : List Value).toArray below meth c H locs 0 0 QM (F0 m 36 ls []) := by
      intro n36
      induction n36 with
      | zero =>
        intro v4_5 v3_6 mergeTaking_7 H locs hw hP hD hS ls hl
        exact False.elim hw
      | succ n36 ih36 =>
        intro v4_5 v3_6 mergeTaking_7 H locs hw hP hD hS ls hl
        rw [wl_X3_chooseHeads_36_s] at hw
        refine lv_iload hx hb dX3_chooseHeads_36 (lv_at hl 3 rfl) ?_
        refine lv_aload_n hx hb dX3_chooseHeads_38 rfl (lv_at hl 0 rfl) ?_
        refine va_get (D := (dC, dI)) (ci := 5) (v := .int ways) (C := RX3) (T := TX3) (N := 6) hx hb hts hiX3 hown hK hP 0 rfl rfl 3 (by decide) hf22 (fun _ h9 => h9) rfl dX3_chooseHeads_39 ?_
        refine lv_icmp_ge (tgt := 115) hx hb dX3_chooseHeads_42 (by decide) (fun c_9 => ?_) (fun c_9 => ?_)
        · have hw := hw.1 c_9
          exact EX36_115 mergeTaking_7 _ _ hw (hP.sub [0, 1, 2] rfl) (hD.sub [0, 1, 2] (by decide) rfl) hS _ (lv_sub hl [] rfl)
        · have hw := hw.2 c_9
          refine lv_iload hx hb dX3_chooseHeads_45 (lv_at hl 3 rfl) ?_
          refine lv_bipush (v := 6) hx hb dX3_chooseHeads_47 (by decide) ?_
          refine lv_icmp_ge (tgt := 115) hx hb dX3_chooseHeads_49 (by decide) (fun c_10 => ?_) (fun c_10 => ?_)
          · have hw := hw.1 c_10
            exact EX36_115 mergeTaking_7 _ _ hw (hP.sub [0, 1, 2] rfl) (hD.sub [0, 1, 2] (by decide) rfl) hS _ (lv_sub hl [] rfl)
          · have hw := hw.2 c_10
            refine lv_iconst (v := 0) hx hb dX3_chooseHeads_52 (by decide) ?_
            refine lv_istore (lv' := [(5, .int 0), (0, .ref a_this), (1, .int runs), (3, .int v3_6), (4, .int v4_5)]) hx hb dX3_chooseHeads_53 hl (by decide) rfl (fun ls hl => ?_)
            have EX55_109 : ∀ (v3_14 : Int32) (mergeTaking_15 : Nat → Int32) (H : Heap) (locs : List Loc), (wx_X3_chooseHeads_55_109 v4_5 (wl_X3_chooseHeads_36 ways rows runs sk0_2 (wx_X3_chooseHeads_36_115 Q sk0_2) n36)) v3_14 mergeTaking_15 → va_P (dC, dI) vwCl [(a_this, .inr (5, [.ref a_mergeTaking, .ref a_rows, .int way, .int ways, .int sk0_2, .int level])), (a_rows, .inl (g 0, 6, .inl rows)), (a_mergeTaking, .inl (g 0, 200, .inl mergeTaking_15))] H → va_D A [(a_this, .inr (5, [.ref a_mergeTaking, .ref a_rows, .int way, .int ways, .int sk0_2, .int level])), (a_rows, .inl (g 0, 6, .inl rows)), (a_mergeTaking, .inl (g 0, 200, .inl mergeTaking_15))] → va_S A s.heap H locs → ∀ (ls : Array Slot), lv_has ls 6 [(0, .ref a_this), (1, .int runs), (3, .int v3_14), (4, .int v4_5)] → W p l e (headSpec wqX3_chooseHeads ({ frames := 0, cells := 0, slots := 0, locals := 0 })).room s m ([.ref a_this, .int runs] : List Value).toArray below meth c H locs 0 0 QM (F0 m 109 ls []) := by
              intro v3_14 mergeTaking_15 H locs hw hP hD hS ls hl
              obtain ⟨x_16, ex_16⟩ : ∃ y : Int32, y = v4_5 + 1 := ⟨_, rfl⟩
              have hw := hw x_16 ex_16
              refine lv_iinc (v := x_16) (lv' := [(4, .int x_16), (0, .ref a_this), (1, .int runs), (3, .int v3_14)]) hx hb dX3_chooseHeads_109 hl (k := 3) rfl (by rw [ex_16]; rfl) (by decide) rfl (fun ls hl => ?_)
              refine lv_goto (tgt := 36) hx hb dX3_chooseHeads_112 (by decide) ?_
              exact ih36 x_16 v3_14 mergeTaking_15 _ _ hw (hP.sub [0, 1, 2] rfl) (hD.sub [0, 1, 2] (by decide) rfl) hS _ (lv_sub hl [1, 2, 3, 0] rfl)
            have LOOP55 : ∀ (n55 : Nat) (v5_11 : Int32) (v3_12 : Int32) (mergeTaking_13 : Nat → Int32) (H : Heap) (locs : List Loc), wl_X3_chooseHeads_55 rows runs sk0_2 v4_5 (wx_X3_chooseHeads_55_109 v4_5 (wl_X3_chooseHeads_36 ways rows runs sk0_2 (wx_X3_chooseHeads_36_115 Q sk0_2) n36)) n55 v5_11 v3_12 mergeTaking_13 → va_P (dC, dI) vwCl [(a_this, .inr (5, [.ref a_mergeTaking, .ref a_rows, .int way, .int ways, .int sk0_2, .int level])), (a_rows, .inl (g 0, 6, .inl rows)), (a_mergeTaking, .inl (g 0, 200, .inl mergeTaking_13))] H → va_D A [(a_this, .inr (5, [.ref a_mergeTaking, .ref a_rows, .int way, .int ways, .int sk0_2, .int level])), (a_rows, .inl (g 0, 6, .inl rows)), (a_mergeTaking, .inl (g 0, 200, .inl mergeTaking_13))] → va_S A s.heap H locs → ∀ (ls : Array Slot), lv_has ls 6 [(0, .ref a_this), (1, .int runs), (3, .int v3_12), (4, .int v4_5), (5, .int v5_11)] → W p l e (headSpec wqX3_chooseHeads ({ frames := 0, cells := 0, slots := 0, locals := 0 })).room s m ([.ref a_this, .int runs] : List Value).toArray below meth c H locs 0 0 QM (F0 m 55 ls []) := by
              intro n55
              induction n55 with
              | zero =>
                intro v5_11 v3_12 mergeTaking_13 H locs hw hP hD hS ls hl
                exact False.elim hw
              | succ n55 ih55 =>
                intro v5_11 v3_12 mergeTaking_13 H locs hw hP hD hS ls hl
                rw [wl_X3_chooseHeads_55_s] at hw
                refine lv_iload hx hb dX3_chooseHeads_55 (lv_at hl 4 rfl) ?_
                refine lv_aload_n hx hb dX3_chooseHeads_57 rfl (lv_at hl 0 rfl) ?_
                refine va_get (D := (dC, dI)) (ci := 5) (v := .ref a_rows) (C := RX3) (T := TX3) (N := 6) hx hb hts hiX3 hown hK hP 0 rfl rfl 1 (by decide) hf15 (fun _ h9 => h9) rfl dX3_chooseHeads_58 ?_
                refine lv_iload hx hb dX3_chooseHeads_61 (lv_at hl 3 rfl) ?_
                refine va_iald hx hb hK hP 1 0 rfl rfl hw.1 dX3_chooseHeads_63 ?_
                have hw := hw.2
                refine lv_topi (fun x_17 ex_17 => ?_)
                have hw := hw x_17 ex_17
                refine lv_icmp_ge (tgt := 109) hx hb dX3_chooseHeads_64 (by decide) (fun c_18 => ?_) (fun c_18 => ?_)
                · have hw := hw.1 c_18
                  exact EX55_109 v3_12 mergeTaking_13 _ _ hw (hP.sub [0, 1, 2] rfl) (hD.sub [0, 1, 2] (by decide) rfl) hS _ (lv_sub hl [0, 1, 2, 3] rfl)
                · have hw := hw.2 c_18
                  refine lv_iload_n hx hb dX3_chooseHeads_67 rfl (lv_at hl 2 rfl) ?_
                  refine lv_iload_n hx hb dX3_chooseHeads_68 rfl (lv_at hl 1 rfl) ?_
                  refine lv_icmp_ge (tgt := 109) hx hb dX3_chooseHeads_69 (by decide) (fun c_19 => ?_) (fun c_19 => ?_)
                  · have hw := hw.1 c_19
                    exact EX55_109 v3_12 mergeTaking_13 _ _ hw (hP.sub [0, 1, 2] rfl) (hD.sub [0, 1, 2] (by decide) rfl) hS _ (lv_sub hl [0, 1, 2, 3] rfl)
                  · have hw := hw.2 c_19
                    refine lv_iload_n hx hb dX3_chooseHeads_72 rfl (lv_at hl 2 rfl) ?_
                    refine lv_sipush (v := 200) hx hb dX3_chooseHeads_73 (by decide) ?_
                    refine lv_icmp_ge (tgt := 109) hx hb dX3_chooseHeads_76 (by decide) (fun c_20 => ?_) (fun c_20 => ?_)
                    · have hw := hw.1 c_20
                      exact EX55_109 v3_12 mergeTaking_13 _ _ hw (hP.sub [0, 1, 2] rfl) (hD.sub [0, 1, 2] (by decide) rfl) hS _ (lv_sub hl [0, 1, 2, 3] rfl)
                    · have hw := hw.2 c_20
                      refine lv_aload_n hx hb dX3_chooseHeads_79 rfl (lv_at hl 0 rfl) ?_
                      refine va_get (D := (dC, dI)) (ci := 5) (v := .ref a_mergeTaking) (C := RX3) (T := TX3) (N := 6) hx hb hts hiX3 hown hK hP 0 rfl rfl 0 (by decide) hf9 (fun _ h9 => h9) rfl dX3_chooseHeads_80 ?_
                      refine lv_iload_n hx hb dX3_chooseHeads_83 rfl (lv_at hl 2 rfl) ?_
                      refine lv_iload hx hb dX3_chooseHeads_84 (lv_at hl 4 rfl) ?_
                      refine lv_aload_n hx hb dX3_chooseHeads_86 rfl (lv_at hl 0 rfl) ?_
                      refine va_get (D := (dC, dI)) (ci := 5) (v := .int sk0_2) (C := RX3) (T := TX3) (N := 6) hx hb hts hiX3 hown hK hP 0 rfl rfl 4 (by decide) hf25 (fun _ h9 => h9) rfl dX3_chooseHeads_87 ?_
                      refine lv_icmp_ge (tgt := 98) hx hb dX3_chooseHeads_90 (by decide) (fun c_21 => ?_) (fun c_21 => ?_)
                      · have hw := hw.1 c_21
                        refine lv_iconst (v := (-1)) hx hb dX3_chooseHeads_98 (by decide) ?_
                        refine va_iast hx hb hK hP hD hS 2 0 rfl rfl hw.1 dX3_chooseHeads_99 (fun H_22 L_23 hP hD hS => ?_)
                        have hw := hw.2
                        have hP : va_P (dC, dI) vwCl [(a_this, .inr (5, [.ref a_mergeTaking, .ref a_rows, .int way, .int ways, .int sk0_2, .int level])), (a_rows, .inl (g 0, 6, .inl rows)), (a_mergeTaking, .inl (g 0, 200, .inl (upd mergeTaking_13 v3_12.toNatClampNeg (-1))))] H_22 := hP
                        have hD : va_D A [(a_this, .inr (5, [.ref a_mergeTaking, .ref a_rows, .int way, .int ways, .int sk0_2, .int level])), (a_rows, .inl (g 0, 6, .inl rows)), (a_mergeTaking, .inl (g 0, 200, .inl (upd mergeTaking_13 v3_12.toNatClampNeg (-1))))] := hD
                        obtain ⟨x_24, ex_24⟩ : ∃ y : Int32, y = v3_12 + 1 := ⟨_, rfl⟩
                        have hw := hw x_24 ex_24
                        refine lv_iinc (v := x_24) (lv' := [(3, .int x_24), (0, .ref a_this), (1, .int runs), (4, .int v4_5), (5, .int v5_11)]) hx hb dX3_chooseHeads_100 hl (k := 2) rfl (by rw [ex_24]; rfl) (by decide) rfl (fun ls hl => ?_)
                        obtain ⟨x_25, ex_25⟩ : ∃ y : Int32, y = v5_11 + 1 := ⟨_, rfl⟩
                        have hw := hw x_25 ex_25
                        refine lv_iinc (v := x_25) (lv' := [(5, .int x_25), (3, .int x_24), (0, .ref a_this), (1, .int runs), (4, .int v4_5)]) hx hb dX3_chooseHeads_103 hl (k := 4) rfl (by rw [ex_25]; rfl) (by decide) rfl (fun ls hl => ?_)
                        refine lv_goto (tgt := 55) hx hb dX3_chooseHeads_106 (by decide) ?_
                        exact ih55 x_25 x_24 (upd mergeTaking_13 v3_12.toNatClampNeg (-1)) _ _ hw (hP.sub [0, 1, 2] rfl) (hD.sub [0, 1, 2] (by decide) rfl) hS _ (lv_sub hl [2, 3, 1, 4, 0] rfl)
                      · have hw := hw.2 c_21
                        refine lv_iload hx hb dX3_chooseHeads_93 (lv_at hl 4 rfl) ?_
                        refine lv_goto (tgt := 99) hx hb dX3_chooseHeads_95 (by decide) ?_
                        refine va_iast hx hb hK hP hD hS 2 0 rfl rfl hw.1 dX3_chooseHeads_99 (fun H_26 L_27 hP hD hS => ?_)
                        have hw := hw.2
                        have hP : va_P (dC, dI) vwCl [(a_this, .inr (5, [.ref a_mergeTaking, .ref a_rows, .int way, .int ways, .int sk0_2, .int level])), (a_rows, .inl (g 0, 6, .inl rows)), (a_mergeTaking, .inl (g 0, 200, .inl (upd mergeTaking_13 v3_12.toNatClampNeg v5_11)))] H_26 := hP
                        have hD : va_D A [(a_this, .inr (5, [.ref a_mergeTaking, .ref a_rows, .int way, .int ways, .int sk0_2, .int level])), (a_rows, .inl (g 0, 6, .inl rows)), (a_mergeTaking, .inl (g 0, 200, .inl (upd mergeTaking_13 v3_12.toNatClampNeg v5_11)))] := hD
                        obtain ⟨x_28, ex_28⟩ : ∃ y : Int32, y = v3_12 + 1 := ⟨_, rfl⟩
                        have hw := hw x_28 ex_28
                        refine lv_iinc (v := x_28) (lv' := [(3, .int x_28), (0, .ref a_this), (1, .int runs), (4, .int v4_5), (5, .int v5_11)]) hx hb dX3_chooseHeads_100 hl (k := 2) rfl (by rw [ex_28]; rfl) (by decide) rfl (fun ls hl => ?_)
                        obtain ⟨x_29, ex_29⟩ : ∃ y : Int32, y = v5_11 + 1 := ⟨_, rfl⟩
                        have hw := hw x_29 ex_29
                        refine lv_iinc (v := x_29) (lv' := [(5, .int x_29), (3, .int x_28), (0, .ref a_this), (1, .int runs), (4, .int v4_5)]) hx hb dX3_chooseHeads_103 hl (k := 4) rfl (by rw [ex_29]; rfl) (by decide) rfl (fun ls hl => ?_)
                        refine lv_goto (tgt := 55) hx hb dX3_chooseHeads_106 (by decide) ?_
                        exact ih55 x_29 x_28 (upd mergeTaking_13 v3_12.toNatClampNeg v5_11) _ _ hw (hP.sub [0, 1, 2] rfl) (hD.sub [0, 1, 2] (by decide) rfl) hS _ (lv_sub hl [2, 3, 1, 4, 0] rfl)
            obtain ⟨n55, hw⟩ := hw
            exact LOOP55 n55 0 v3_6 mergeTaking_7 _ _ hw (hP.sub [0, 1, 2] rfl) (hD.sub [0, 1, 2] (by decide) rfl) hS _ (lv_sub hl [1, 2, 3, 4, 0] rfl)
    obtain ⟨n36, hw⟩ := hw
    exact LOOP36 n36 0 0 mergeTaking _ _ hw (hP.sub [0, 1, 2] rfl) (hD.sub [0, 1, 2] (by decide) rfl) hS _ (lv_sub hl [2, 3, 1, 0] rfl)
  have JN27 : ∀  (H : Heap) (locs : List Loc), (wj_X3_chooseHeads_27 ways rows mergeTaking runs Q)  → va_P (dC, dI) vwCl [(a_this, .inr (5, [.ref a_mergeTaking, .ref a_rows, .int way, .int ways, .int merges, .int level])), (a_rows, .inl (g 0, 6, .inl rows)), (a_mergeTaking, .inl (g 0, 200, .inl mergeTaking))] H → va_D A [(a_this, .inr (5, [.ref a_mergeTaking, .ref a_rows, .int way, .int ways, .int merges, .int level])), (a_rows, .inl (g 0, 6, .inl rows)), (a_mergeTaking, .inl (g 0, 200, .inl mergeTaking))] → va_S A s.heap H locs → ∀ (ls : Array Slot), lv_has ls 6 [(0, .ref a_this), (1, .int runs)] → W p l e (headSpec wqX3_chooseHeads ({ frames := 0, cells := 0, slots := 0, locals := 0 })).room s m ([.ref a_this, .int runs] : List Value).toArray below meth c H locs 0 0 QM (F0 m 27 ls [.ref a_this]) := by
    intro  H locs hw hP hD hS ls hl
    refine lv_iconst (v := 0) hx hb dX3_chooseHeads_27 (by decide) ?_
    exact JN28 0 _ _ hw (hP.sub [0, 1, 2] rfl) (hD.sub [0, 1, 2] (by decide) rfl) hS _ (lv_sub hl [0, 1] rfl)
  refine lv_if_lt (tgt := 27) hx hb dX3_chooseHeads_9 (by decide) (fun c_30 => ?_) (fun c_30 => ?_)
  · have hw := hw.1 c_30
    exact JN27  _ _ hw (hP.sub [0, 1, 2] rfl) (hD.sub [0, 1, 2] (by decide) rfl) hS _ (lv_sub hl [1, 2] rfl)
  · have hw := hw.2 c_30
    refine lv_iload_n hx hb dX3_chooseHeads_12 rfl (lv_at hl 0 rfl) ?_
    refine lv_bipush (v := 6) hx hb dX3_chooseHeads_13 (by decide) ?_
    refine lv_icmp_ge (tgt := 27) hx hb dX3_chooseHeads_15 (by decide) (fun c_31 => ?_) (fun c_31 => ?_)
    · have hw := hw.1 c_31
      exact JN27  _ _ hw (hP.sub [0, 1, 2] rfl) (hD.sub [0, 1, 2] (by decide) rfl) hS _ (lv_sub hl [1, 2] rfl)
    · have hw := hw.2 c_31
      refine lv_aload_n hx hb dX3_chooseHeads_18 rfl (lv_at hl 1 rfl) ?_
      refine va_get (D := (dC, dI)) (ci := 5) (v := .ref a_rows) (C := RX3) (T := TX3) (N := 6) hx hb hts hiX3 hown hK hP 0 rfl rfl 1 (by decide) hf15 (fun _ h9 => h9) rfl dX3_chooseHeads_19 ?_
      refine lv_iload_n hx hb dX3_chooseHeads_22 rfl (lv_at hl 0 rfl) ?_
      refine va_iald hx hb hK hP 1 0 rfl rfl hw.1 dX3_chooseHeads_23 ?_
      have hw := hw.2
      refine lv_topi (fun x_32 ex_32 => ?_)
      have hw := hw x_32 ex_32
      refine lv_goto (tgt := 28) hx hb dX3_chooseHeads_24 (by decide) ?_
      exact JN28 x_32 _ _ hw (hP.sub [0, 1, 2] rfl) (hD.sub [0, 1, 2] (by decide) rfl) hS _ (lv_sub hl [1, 2] rfl)
theorem dX3_choose_0 : decode cX3_choose 0 = .ok (.iconst 0, 1) := by decide +kernel
theorem dX3_choose_1 : decode cX3_choose 1 = .ok (.istore_n 3, 1) := by decide +kernel
theorem dX3_choose_22 : decode cX3_choose 22 = .ok (.iload_n 2, 1) := by decide +kernel
theorem dX3_choose_23 : decode cX3_choose 23 = .ok (.sipush 200, 3) := by decide +kernel
theorem dX3_choose_26 : decode cX3_choose 26 = .ok (.aload_n 1, 1) := by decide +kernel
theorem dX3_choose_27 : decode cX3_choose 27 = .ok (.arraylength, 1) := by decide +kernel
theorem dX3_choose_28 : decode cX3_choose 28 = .ok (.invokestatic 37, 3) := by decide +kernel
theorem dX3_choose_31 : decode cX3_choose 31 = .ok (.invokestatic 37, 3) := by decide +kernel
theorem dX3_choose_34 : decode cX3_choose 34 = .ok (.istore_n 3, 1) := by decide +kernel
theorem dX3_choose_35 : decode cX3_choose 35 = .ok (.aload_n 0, 1) := by decide +kernel
theorem dX3_choose_36 : decode cX3_choose 36 = .ok (.getfield 18, 3) := by decide +kernel
theorem dX3_choose_39 : decode cX3_choose 39 = .ok (.ifCond .ne 11, 3) := by decide +kernel
theorem dX3_choose_50 : decode cX3_choose 50 = .ok (.aload_n 0, 1) := by decide +kernel
theorem dX3_choose_51 : decode cX3_choose 51 = .ok (.getfield 18, 3) := by decide +kernel
theorem dX3_choose_54 : decode cX3_choose 54 = .ok (.iconst 1, 1) := by decide +kernel
theorem dX3_choose_55 : decode cX3_choose 55 = .ok (.if_icmp .ne 12, 3) := by decide +kernel
theorem dX3_choose_67 : decode cX3_choose 67 = .ok (.aload_n 0, 1) := by decide +kernel
theorem dX3_choose_68 : decode cX3_choose 68 = .ok (.iload_n 3, 1) := by decide +kernel
theorem dX3_choose_69 : decode cX3_choose 69 = .ok (.invokevirtual 58, 3) := by decide +kernel
theorem dX3_choose_72 : decode cX3_choose 72 = .ok (.return_, 1) := by decide +kernel
theorem dX3_choose_58 : decode cX3_choose 58 = .ok (.aload_n 0, 1) := by decide +kernel
theorem dX3_choose_59 : decode cX3_choose 59 = .ok (.aload_n 1, 1) := by decide +kernel
theorem dX3_choose_60 : decode cX3_choose 60 = .ok (.iload_n 3, 1) := by decide +kernel
theorem dX3_choose_61 : decode cX3_choose 61 = .ok (.invokevirtual 54, 3) := by decide +kernel
theorem dX3_choose_64 : decode cX3_choose 64 = .ok (.goto 8, 3) := by decide +kernel
theorem dX3_choose_42 : decode cX3_choose 42 = .ok (.aload_n 0, 1) := by decide +kernel
theorem dX3_choose_43 : decode cX3_choose 43 = .ok (.iload_n 3, 1) := by decide +kernel
theorem dX3_choose_44 : decode cX3_choose 44 = .ok (.invokevirtual 50, 3) := by decide +kernel
theorem dX3_choose_47 : decode cX3_choose 47 = .ok (.goto 25, 3) := by decide +kernel
theorem dX3_choose_2 : decode cX3_choose 2 = .ok (.iload_n 3, 1) := by decide +kernel
theorem dX3_choose_3 : decode cX3_choose 3 = .ok (.sipush 200, 3) := by decide +kernel
theorem dX3_choose_6 : decode cX3_choose 6 = .ok (.if_icmp .ge 16, 3) := by decide +kernel
theorem dX3_choose_9 : decode cX3_choose 9 = .ok (.aload_n 0, 1) := by decide +kernel
theorem dX3_choose_10 : decode cX3_choose 10 = .ok (.getfield 9, 3) := by decide +kernel
theorem dX3_choose_13 : decode cX3_choose 13 = .ok (.iload_n 3, 1) := by decide +kernel
theorem dX3_choose_14 : decode cX3_choose 14 = .ok (.iconst (-1), 1) := by decide +kernel
theorem dX3_choose_15 : decode cX3_choose 15 = .ok (.iastore, 1) := by decide +kernel
theorem dX3_choose_16 : decode cX3_choose 16 = .ok (.iinc 3 1, 3) := by decide +kernel
theorem dX3_choose_19 : decode cX3_choose 19 = .ok (.goto (-17), 3) := by decide +kernel
abbrev Wa_X3_choose (g : Nat → ClassId) (a_this : Nat) (a_lengths : Nat) (a_mergeTaking : Nat) (a_rows : Nat) (way : Int32) (ways : Int32) (merges : Int32) (level : Int32) (rows : Nat → Int32) (mergeTaking : Nat → Int32) (lengths : Nat → Int32) : va_W := [(a_this, .inr (5, [.ref a_mergeTaking, .ref a_rows, .int way, .int ways, .int merges, .int level])), (a_rows, .inl (g 0, 6, .inl rows)), (a_mergeTaking, .inl (g 0, 200, .inl mergeTaking)), (a_lengths, .inl (g 0, 200, .inl lengths))]
abbrev Wb_X3_choose (g : Nat → ClassId) (a_this : Nat) (a_lengths : Nat) (a_mergeTaking : Nat) (a_rows : Nat) (way : Int32) (ways : Int32) (level : Int32) (rows : Nat → Int32) (lengths : Nat → Int32) (u : Int32 × (Nat → Int32) × Unit) : va_W := [(a_this, .inr (5, [.ref a_mergeTaking, .ref a_rows, .int way, .int ways, .int u.1, .int level])), (a_rows, .inl (g 0, 6, .inl rows)), (a_mergeTaking, .inl (g 0, 200, .inl u.2.1)), (a_lengths, .inl (g 0, 200, .inl lengths))]
set_option maxHeartbeats 8000000 in
set_option maxRecDepth 100000 in
theorem c_X3_choose (l : Launch) (dC : Nat → ClassId) (dI : Nat → Nat → Nat) (g : Nat → ClassId) (a_this : Nat) (a_lengths : Nat) (a_mergeTaking : Nat) (a_rows : Nat) (way : Int32) (ways : Int32) (merges : Int32) (level : Int32) (rows : Nat → Int32) (mergeTaking : Nat → Int32) (lengths : Nat → Int32) (count : Int32) (Q : Int32 → (Nat → Int32) → Prop) (hw : wp_X3_choose way ways merges rows mergeTaking lengths count Q) (sz : Nat) : Met l yX3_choose wqX3_choose ({ frames := 1, cells := 0, slots := 0, locals := 25 }) (va_Pc [.ref a_this, .ref a_lengths, .int count] (PG (dC, dI) g (Wa_X3_choose g a_this a_lengths a_mergeTaking a_rows way ways merges level rows mergeTaking lengths) sz)) (va_Qv (fun (u : Int32 × (Nat → Int32) × Unit) => Q u.1 u.2.1) (fun (u : Int32 × (Nat → Int32) × Unit) t9 => va_P (dC, dI) vwCl (Wb_X3_choose g a_this a_lengths a_mergeTaking a_rows way ways level rows lengths u) t9.heap ∧ va_D (va_A (Wa_X3_choose g a_this a_lengths a_mergeTaking a_rows way ways merges level rows mergeTaking lengths) sz) (Wb_X3_choose g a_this a_lengths a_mergeTaking a_rows way ways level rows lengths u)) (va_A (Wa_X3_choose g a_this a_lengths a_mergeTaking a_rows way ways merges level rows mergeTaking lengths) sz)) 0 0 (va_A (Wa_X3_choose g a_this a_lengths a_mergeTaking a_rows way ways merges level rows mergeTaking lengths) sz) := by
  refine Met.ofW (cc := cX3_choose) (maxL := 4) (ret := none) (by decide) rfl ?_
  intro p e s m args below meth c s₁ B hml hv
  obtain ⟨rfl, hsz, hP, hK, hD0, hG⟩ := hv
  have hx := B.exec
  have hb := B.bytes
  have hr := B.returns
  have hts := atoms_spec (ws := wqX3_choose) B.pre
  have hown : s.vm.findClass RX3 = some m.cls := findClass_of_methodNamed B.named
  have hlocks := B.notSynchronized
  subst hsz
  have hD := hD0.self (sz := s.heap.size)
  generalize hAe : va_A (Wa_X3_choose g a_this a_lengths a_mergeTaking a_rows way ways merges level rows mergeTaking lengths) s.heap.size = A at hD hG ⊢
  have hA : ∀ q : Nat, s.heap.size ≤ q → A q := fun q h => by rw [← hAe]; exact Or.inr h
  have hS : va_S A s.heap s.heap [] := va_S.rf
  have hl := lv_entry ([.ref a_this, .ref a_lengths, .int count]) (n := 4) (Nat.le_of_ble_eq_true rfl)
  rw [lg_entry_eq]
  generalize (lg_sl ([.ref a_this, .ref a_lengths, .int count]) ++ List.replicate (4 - (lg_sl ([.ref a_this, .ref a_lengths, .int count])).length) Slot.unset).toArray = ls at hl ⊢
  have hl : lv_has ls 4 [(0, .ref a_this), (1, .ref a_lengths), (2, .int count)] := hl
  unfold wp_X3_choose at hw
  have hmmin37_0 := hts (Cond.methodLink RX3 37 Lib.Math.min.name) (aw_l aw_4_68)
  have hmmin37_1 := hts (Cond.static Lib.Math.min.name) (aw_l aw_3_141)
  have hmmin37_2 := hts (Cond.initialized "java/lang/Math") (aw_l aw_1_19)
  have hmmin37_3 := hts (Cond.code Lib.Math.min.name Lib.Math.min.code 2 (some .int)) (aw_l aw_3_142)
  have hf18 := hts (Cond.fieldLink RX3 18 "RunmergeOffice$Pass" "way" "I") (aw_l aw_1_176)
  have hiX3 : ∀ w ∈ u_ws RX3 TX3 6, w ∈ wqX3_choose := fun w h => aw_l (aw_wsX30 w h)
  have hf9 := hts (Cond.fieldLink RX3 9 "RunmergeOffice$Pass" "mergeTaking" "[I") (aw_l aw_1_174)
  refine lv_iconst (v := 0) hx hb dX3_choose_0 (by decide) ?_
  refine lv_istore_n (lv' := [(3, .int 0), (0, .ref a_this), (1, .ref a_lengths), (2, .int count)]) hx hb dX3_choose_1 rfl hl (by decide) rfl (fun ls hl => ?_)
  refine W_abs (fun QM hQM => ?_)
  have EX2_22 : ∀ (mergeTaking_3 : Nat → Int32) (H : Heap) (locs : List Loc), (wx_X3_choose_2_22 way ways merges rows lengths count Q) mergeTaking_3 → va_P (dC, dI) vwCl [(a_this, .inr (5, [.ref a_mergeTaking, .ref a_rows, .int way, .int ways, .int merges, .int level])), (a_rows, .inl (g 0, 6, .inl rows)), (a_mergeTaking, .inl (g 0, 200, .inl mergeTaking_3)), (a_lengths, .inl (g 0, 200, .inl lengths))] H → va_D A [(a_this, .inr (5, [.ref a_mergeTaking, .ref a_rows, .int way, .int ways, .int merges, .int level])), (a_rows, .inl (g 0, 6, .inl rows)), (a_mergeTaking, .inl (g 0, 200, .inl mergeTaking_3)), (a_lengths, .inl (g 0, 200, .inl lengths))] → va_S A s.heap H locs → ∀ (ls : Array Slot), lv_has ls 4 [(0, .ref a_this), (1, .ref a_lengths), (2, .int count)] → W p l e (headSpec wqX3_choose ({ frames := 1, cells := 0, slots := 0, locals := 25 })).room s m ([.ref a_this, .ref a_lengths, .int count] : List Value).toArray below meth c H locs 0 0 QM (F0 m 22 ls []) := by
    intro mergeTaking_3 H locs hw hP hD hS ls hl
    refine lv_iload_n hx hb dX3_choose_22 rfl (lv_at hl 2 rfl) ?_
    refine lv_sipush (v := 200) hx hb dX3_choose_23 (by decide) ?_
    refine lv_aload_n hx hb dX3_choose_26 rfl (lv_at hl 1 rfl) ?_
    refine va_alen hx hb hK hP 3 0 rfl rfl (v := 200) rfl dX3_choose_27 ?_
    refine va_mmin hx hb (hml.trans hl.1.symm) hown hmmin37_0 hmmin37_1 hmmin37_2 hmmin37_3 (Nat.le_of_ble_eq_true rfl) (Nat.le_of_ble_eq_true rfl) (Nat.le_of_ble_eq_true rfl) (Nat.le_of_ble_eq_true rfl) dX3_choose_28 ?_
    refine lv_topi (fun x_4 ex_4 => ?_)
    obtain rfl : x_4 = 200 := ex_4.trans (by decide)
    refine va_mmin hx hb (hml.trans hl.1.symm) hown hmmin37_0 hmmin37_1 hmmin37_2 hmmin37_3 (Nat.le_of_ble_eq_true rfl) (Nat.le_of_ble_eq_true rfl) (Nat.le_of_ble_eq_true rfl) (Nat.le_of_ble_eq_true rfl) dX3_choose_31 ?_
    refine lv_topi (fun x_5 ex_5 => ?_)
    have hw := hw x_5 ex_5
    refine lv_istore_n (lv' := [(3, .int x_5), (0, .ref a_this), (1, .ref a_lengths), (2, .int count)]) hx hb dX3_choose_34 rfl hl (by decide) rfl (fun ls hl => ?_)
    refine lv_aload_n hx hb dX3_choose_35 rfl (lv_at hl 1 rfl) ?_
    refine va_get (D := (dC, dI)) (ci := 5) (v := .int way) (C := RX3) (T := TX3) (N := 6) hx hb hts hiX3 hown hK hP 0 rfl rfl 2 (by decide) hf18 (fun _ h9 => h9) rfl dX3_choose_36 ?_
    refine lv_if_ne (tgt := 50) hx hb dX3_choose_39 (by decide) (fun c_6 => ?_) (fun c_6 => ?_)
    · have hw := hw.2 c_6
      refine lv_aload_n hx hb dX3_choose_50 rfl (lv_at hl 1 rfl) ?_
      refine va_get (D := (dC, dI)) (ci := 5) (v := .int way) (C := RX3) (T := TX3) (N := 6) hx hb hts hiX3 hown hK hP 0 rfl rfl 2 (by decide) hf18 (fun _ h9 => h9) rfl dX3_choose_51 ?_
      refine lv_iconst (v := 1) hx hb dX3_choose_54 (by decide) ?_
      refine lv_icmp_ne (tgt := 67) hx hb dX3_choose_55 (by decide) (fun c_7 => ?_) (fun c_7 => ?_)
      · have hw := hw.2 c_7
        refine lv_aload_n hx hb dX3_choose_67 rfl (lv_at hl 1 rfl) ?_
        refine lv_iload_n hx hb dX3_choose_68 rfl (lv_at hl 0 rfl) ?_
        have hPc := hP.sub (ws' := [(a_this, .inr (5, [.ref a_mergeTaking, .ref a_rows, .int way, .int ways, .int merges, .int level])), (a_rows, .inl (g 0, 6, .inl rows)), (a_mergeTaking, .inl (g 0, 200, .inl mergeTaking_3))]) [0, 1, 2] rfl
        have hDc := hD.sub (ws' := [(a_this, .inr (5, [.ref a_mergeTaking, .ref a_rows, .int way, .int ways, .int merges, .int level])), (a_rows, .inl (g 0, 6, .inl rows)), (a_mergeTaking, .inl (g 0, 200, .inl mergeTaking_3))]) [0, 1, 2] (by decide) rfl
        have hFc := va_free (wc := [(a_this, .inr (5, [.ref a_mergeTaking, .ref a_rows, .int way, .int ways, .int merges, .int level])), (a_rows, .inl (g 0, 6, .inl rows)), (a_mergeTaking, .inl (g 0, 200, .inl mergeTaking_3))]) hD hS hA [0, 1, 2] rfl
        refine va_callv (va_runV (As := [.int x_5]) (rest := []) ⟨hx, hb, hml, hown, hts⟩ (c_X3_chooseHeads l dC dI g (a_this := a_this) (a_mergeTaking := a_mergeTaking) (a_rows := a_rows) (way := way) (ways := ways) (merges := merges) (level := level) (rows := rows) (mergeTaking := mergeTaking_3) (runs := x_5) (hw := hw) (sz := H.size)) (cwV 1 hts (gqV aw_4_96 aw_4_98 aw_0_18 aw_1_8 aw_4_99) rfl rfl rfl (by decide +kernel) ⟨Nat.le_of_ble_eq_true rfl, Nat.le_of_ble_eq_true rfl⟩) ⟨PG_blind, va_recv hK hP (ci := 5) (q0 := 0) rfl rfl, PG_call hK hG hS hPc hDc hFc⟩ rfl rfl hl.1 rfl (lv_room (Nat.le_of_ble_eq_true rfl)) dX3_choose_69 ⟨Nat.le_of_ble_eq_true rfl, Nat.le_of_ble_eq_true rfl⟩) hS (fun q _ h => hFc q h) hFc (fun u_8 t_8 H_8 L_8 ht_8 hvm_8 hw_8 hB_8 hz_8 hk_8 hS => ?_)
        obtain ⟨merges_9, mergeTaking_10, u_8⟩ := u_8
        obtain ⟨hP1, hD1⟩ := hB_8
        rw [ht_8] at hP1
        obtain ⟨hP, hD⟩ := va_join (wr := [(a_lengths, .inl (g 0, 200, .inl lengths))]) (w1 := [(a_this, .inr (5, [.ref a_mergeTaking, .ref a_rows, .int way, .int ways, .int merges_9, .int level])), (a_rows, .inl (g 0, 6, .inl rows)), (a_mergeTaking, .inl (g 0, 200, .inl mergeTaking_10))]) hP hD [0, 1, 2] [3] rfl rfl (by decide) (by decide) hk_8 hFc hP1 hD1
        have hP : va_P (dC, dI) vwCl [(a_lengths, .inl (g 0, 200, .inl lengths)), (a_this, .inr (5, [.ref a_mergeTaking, .ref a_rows, .int way, .int ways, .int merges_9, .int level])), (a_rows, .inl (g 0, 6, .inl rows)), (a_mergeTaking, .inl (g 0, 200, .inl mergeTaking_10))] H_8 := hP
        have hD : va_D A [(a_lengths, .inl (g 0, 200, .inl lengths)), (a_this, .inr (5, [.ref a_mergeTaking, .ref a_rows, .int way, .int ways, .int merges_9, .int level])), (a_rows, .inl (g 0, 6, .inl rows)), (a_mergeTaking, .inl (g 0, 200, .inl mergeTaking_10))] := hD
        have hw := hw_8
        subst hQM
        have hP9 := hP.sub (ws' := [(a_this, .inr (5, [.ref a_mergeTaking, .ref a_rows, .int way, .int ways, .int merges_9, .int level])), (a_rows, .inl (g 0, 6, .inl rows)), (a_mergeTaking, .inl (g 0, 200, .inl mergeTaking_10)), (a_lengths, .inl (g 0, 200, .inl lengths))]) [1, 2, 3, 0] rfl
        have hD9 := hD.sub (ws' := [(a_this, .inr (5, [.ref a_mergeTaking, .ref a_rows, .int way, .int ways, .int merges_9, .int level])), (a_rows, .inl (g 0, 6, .inl rows)), (a_mergeTaking, .inl (g 0, 200, .inl mergeTaking_10)), (a_lengths, .inl (g 0, 200, .inl lengths))]) [1, 2, 3, 0] (by decide) rfl
        exact W.vret hx hb hr (fun t ht hW => ⟨⟨(merges_9, mergeTaking_10, ()), rfl, hw, ⟨P_at ht hP9, hD9⟩⟩, hS.F ht⟩) hS.2.2 dX3_choose_72
      · have hw := hw.1 c_7
        refine lv_aload_n hx hb dX3_choose_58 rfl (lv_at hl 1 rfl) ?_
        refine lv_aload_n hx hb dX3_choose_59 rfl (lv_at hl 2 rfl) ?_
        refine lv_iload_n hx hb dX3_choose_60 rfl (lv_at hl 0 rfl) ?_
        have hPc := hP.sub (ws' := [(a_this, .inr (5, [.ref a_mergeTaking, .ref a_rows, .int way, .int ways, .int merges, .int level])), (a_mergeTaking, .inl (g 0, 200, .inl mergeTaking_3)), (a_lengths, .inl (g 0, 200, .inl lengths))]) [0, 2, 3] rfl
        have hDc := hD.sub (ws' := [(a_this, .inr (5, [.ref a_mergeTaking, .ref a_rows, .int way, .int ways, .int merges, .int level])), (a_mergeTaking, .inl (g 0, 200, .inl mergeTaking_3)), (a_lengths, .inl (g 0, 200, .inl lengths))]) [0, 2, 3] (by decide) rfl
        have hFc := va_free (wc := [(a_this, .inr (5, [.ref a_mergeTaking, .ref a_rows, .int way, .int ways, .int merges, .int level])), (a_mergeTaking, .inl (g 0, 200, .inl mergeTaking_3)), (a_lengths, .inl (g 0, 200, .inl lengths))]) hD hS hA [0, 2, 3] rfl
        refine va_callv (va_runV (As := [.ref a_lengths, .int x_5]) (rest := []) ⟨hx, hb, hml, hown, hts⟩ (c_X3_chooseShortest l dC dI g (a_this := a_this) (a_lengths := a_lengths) (a_mergeTaking := a_mergeTaking) (a_rows := a_rows) (way := way) (ways := ways) (merges := merges) (level := level) (mergeTaking := mergeTaking_3) (lengths := lengths) (runs := x_5) (hw := hw) (sz := H.size)) (cwV 2 hts (gqV aw_4_92 aw_4_94 aw_0_17 aw_1_8 aw_4_95) rfl rfl rfl (by decide +kernel) ⟨Nat.le_of_ble_eq_true rfl, Nat.le_of_ble_eq_true rfl⟩) ⟨PG_blind, va_recv hK hP (ci := 5) (q0 := 0) rfl rfl, PG_call hK hG hS hPc hDc hFc⟩ rfl rfl hl.1 rfl (lv_room (Nat.le_of_ble_eq_true rfl)) dX3_choose_61 ⟨Nat.le_of_ble_eq_true rfl, Nat.le_of_ble_eq_true rfl⟩) hS (fun q _ h => hFc q h) hFc (fun u_11 t_11 H_11 L_11 ht_11 hvm_11 hw_11 hB_11 hz_11 hk_11 hS => ?_)
        obtain ⟨merges_12, mergeTaking_13, u_11⟩ := u_11
        obtain ⟨hP1, hD1⟩ := hB_11
        rw [ht_11] at hP1
        obtain ⟨hP, hD⟩ := va_join (wr := [(a_rows, .inl (g 0, 6, .inl rows))]) (w1 := [(a_this, .inr (5, [.ref a_mergeTaking, .ref a_rows, .int way, .int ways, .int merges_12, .int level])), (a_mergeTaking, .inl (g 0, 200, .inl mergeTaking_13)), (a_lengths, .inl (g 0, 200, .inl lengths))]) hP hD [0, 2, 3] [1] rfl rfl (by decide) (by decide) hk_11 hFc hP1 hD1
        have hP : va_P (dC, dI) vwCl [(a_rows, .inl (g 0, 6, .inl rows)), (a_this, .inr (5, [.ref a_mergeTaking, .ref a_rows, .int way, .int ways, .int merges_12, .int level])), (a_mergeTaking, .inl (g 0, 200, .inl mergeTaking_13)), (a_lengths, .inl (g 0, 200, .inl lengths))] H_11 := hP
        have hD : va_D A [(a_rows, .inl (g 0, 6, .inl rows)), (a_this, .inr (5, [.ref a_mergeTaking, .ref a_rows, .int way, .int ways, .int merges_12, .int level])), (a_mergeTaking, .inl (g 0, 200, .inl mergeTaking_13)), (a_lengths, .inl (g 0, 200, .inl lengths))] := hD
        have hw := hw_11
        refine lv_goto (tgt := 72) hx hb dX3_choose_64 (by decide) ?_
        subst hQM
        have hP9 := hP.sub (ws' := [(a_this, .inr (5, [.ref a_mergeTaking, .ref a_rows, .int way, .int ways, .int merges_12, .int level])), (a_rows, .inl (g 0, 6, .inl rows)), (a_mergeTaking, .inl (g 0, 200, .inl mergeTaking_13)), (a_lengths, .inl (g 0, 200, .inl lengths))]) [1, 0, 2, 3] rfl
        have hD9 := hD.sub (ws' := [(a_this, .inr (5, [.ref a_mergeTaking, .ref a_rows, .int way, .int ways, .int merges_12, .int level])), (a_rows, .inl (g 0, 6, .inl rows)), (a_mergeTaking, .inl (g 0, 200, .inl mergeTaking_13)), (a_lengths, .inl (g 0, 200, .inl lengths))]) [1, 0, 2, 3] (by decide) rfl
        exact W.vret hx hb hr (fun t ht hW => ⟨⟨(merges_12, mergeTaking_13, ()), rfl, hw, ⟨P_at ht hP9, hD9⟩⟩, hS.F ht⟩) hS.2.2 dX3_choose_72
    · have hw := hw.1 c_6
      refine lv_aload_n hx hb dX3_choose_42 rfl (lv_at hl 1 rfl) ?_
      refine lv_iload_n hx hb dX3_choose_43 rfl (lv_at hl 0 rfl) ?_
      have hPc := hP.sub (ws' := [(a_this, .inr (5, [.ref a_mergeTaking, .ref a_rows, .int way, .int ways, .int merges, .int level])), (a_mergeTaking, .inl (g 0, 200, .inl mergeTaking_3))]) [0, 2] rfl
      have hDc := hD.sub (ws' := [(a_this, .inr (5, [.ref a_mergeTaking, .ref a_rows, .int way, .int ways, .int merges, .int level])), (a_mergeTaking, .inl (g 0, 200, .inl mergeTaking_3))]) [0, 2] (by decide) rfl
      have hFc := va_free (wc := [(a_this, .inr (5, [.ref a_mergeTaking, .ref a_rows, .int way, .int ways, .int merges, .int level])), (a_mergeTaking, .inl (g 0, 200, .inl mergeTaking_3))]) hD hS hA [0, 2] rfl
      refine va_callv (va_runV (As := [.int x_5]) (rest := []) ⟨hx, hb, hml, hown, hts⟩ (c_X3_chooseGroups l dC dI g (a_this := a_this) (a_mergeTaking := a_mergeTaking) (a_rows := a_rows) (way := way) (ways := ways) (merges := merges) (level := level) (mergeTaking := mergeTaking_3) (runs := x_5) (hw := hw) (sz := H.size)) (cwV 1 hts (gqV aw_4_88 aw_4_90 aw_0_16 aw_1_8 aw_4_91) rfl rfl rfl (by decide +kernel) ⟨Nat.le_of_ble_eq_true rfl, Nat.le_of_ble_eq_true rfl⟩) ⟨PG_blind, va_recv hK hP (ci := 5) (q0 := 0) rfl rfl, PG_call hK hG hS hPc hDc hFc⟩ rfl rfl hl.1 rfl (lv_room (Nat.le_of_ble_eq_true rfl)) dX3_choose_44 ⟨Nat.le_of_ble_eq_true rfl, Nat.le_of_ble_eq_true rfl⟩) hS (fun q _ h => hFc q h) hFc (fun u_14 t_14 H_14 L_14 ht_14 hvm_14 hw_14 hB_14 hz_14 hk_14 hS => ?_)
      obtain ⟨merges_15, mergeTaking_16, u_14⟩ := u_14
      obtain ⟨hP1, hD1⟩ := hB_14
      rw [ht_14] at hP1
      obtain ⟨hP, hD⟩ := va_join (wr := [(a_rows, .inl (g 0, 6, .inl rows)), (a_lengths, .inl (g 0, 200, .inl lengths))]) (w1 := [(a_this, .inr (5, [.ref a_mergeTaking, .ref a_rows, .int way, .int ways, .int merges_15, .int level])), (a_mergeTaking, .inl (g 0, 200, .inl mergeTaking_16))]) hP hD [0, 2] [1, 3] rfl rfl (by decide) (by decide) hk_14 hFc hP1 hD1
      have hP : va_P (dC, dI) vwCl [(a_rows, .inl (g 0, 6, .inl rows)), (a_lengths, .inl (g 0, 200, .inl lengths)), (a_this, .inr (5, [.ref a_mergeTaking, .ref a_rows, .int way, .int ways, .int merges_15, .int level])), (a_mergeTaking, .inl (g 0, 200, .inl mergeTaking_16))] H_14 := hP
      have hD : va_D A [(a_rows, .inl (g 0, 6, .inl rows)), (a_lengths, .inl (g 0, 200, .inl lengths)), (a_this, .inr (5, [.ref a_mergeTaking, .ref a_rows, .int way, .int ways, .int merges_15, .int level])), (a_mergeTaking, .inl (g 0, 200, .inl mergeTaking_16))] := hD
      have hw := hw_14
      refine lv_goto (tgt := 72) hx hb dX3_choose_47 (by decide) ?_
      subst hQM
      have hP9 := hP.sub (ws' := [(a_this, .inr (5, [.ref a_mergeTaking, .ref a_rows, .int way, .int ways, .int merges_15, .int level])), (a_rows, .inl (g 0, 6, .inl rows)), (a_mergeTaking, .inl (g 0, 200, .inl mergeTaking_16)), (a_lengths, .inl (g 0, 200, .inl lengths))]) [2, 0, 3, 1] rfl
      have hD9 := hD.sub (ws' := [(a_this, .inr (5, [.ref a_mergeTaking, .ref a_rows, .int way, .int ways, .int merges_15, .int level])), (a_rows, .inl (g 0, 6, .inl rows)), (a_mergeTaking, .inl (g 0, 200, .inl mergeTaking_16)), (a_lengths, .inl (g 0, 200, .inl lengths))]) [2, 0, 3, 1] (by decide) rfl
      exact W.vret hx hb hr (fun t ht hW => ⟨⟨(merges_15, mergeTaking_16, ()), rfl, hw, ⟨P_at ht hP9, hD9⟩⟩, hS.F ht⟩) hS.2.2 dX3_choose_72
  have LOOP2 : ∀ (n2 : Nat) (v3_1 : Int32) (mergeTaking_2 : Nat → Int32) (H : Heap) (locs : List Loc), wl_X3_choose_2 (wx_X3_choose_2_22 way ways merges rows lengths count Q) n2 v3_1 mergeTaking_2 → va_P (dC, dI) vwCl [(a_this, .inr (5, [.ref a_mergeTaking, .ref a_rows, .int way, .int ways, .int merges, .int level])), (a_rows, .inl (g 0, 6, .inl rows)), (a_mergeTaking, .inl (g 0, 200, .inl mergeTaking_2)), (a_lengths, .inl (g 0, 200, .inl lengths))] H → va_D A [(a_this, .inr (5, [.ref a_mergeTaking, .ref a_rows, .int way, .int ways, .int merges, .int level])), (a_rows, .inl (g 0, 6, .inl rows)), (a_mergeTaking, .inl (g 0, 200, .inl mergeTaking_2)), (a_lengths, .inl (g 0, 200, .inl lengths))] → va_S A s.heap H locs → ∀ (ls : Array Slot), lv_has ls 4 [(0, .ref a_this), (1, .ref a_lengths), (2, .int count), (3, .int v3_1)] → W p l e (headSpec wqX3_choose ({ frames := 1, cells := 0, slots := 0, locals := 25 })).room s m ([.ref a_this, .ref a_lengths, .int count] : List Value).toArray below meth c H locs 0 0 QM (F0 m 2 ls []) := by
    intro n2
    induction n2 with
    | zero =>
      intro v3_1 mergeTaking_2 H locs hw hP hD hS ls hl
      exact False.elim hw
    | succ n2 ih2 =>
      intro v3_1 mergeTaking_2 H locs hw hP hD hS ls hl
      rw [wl_X3_choose_2_s] at hw
      refine lv_iload_n hx hb dX3_choose_2 rfl (lv_at hl 3 rfl) ?_
      refine lv_sipush (v := 200) hx hb dX3_choose_3 (by decide) ?_
      refine lv_icmp_ge (tgt := 22) hx hb dX3_choose_6 (by decide) (fun c_17 => ?_) (fun c_17 => ?_)
      · have hw := hw.1 c_17
        exact EX2_22 mergeTaking_2 _ _ hw (hP.sub [0, 1, 2, 3] rfl) (hD.sub [0, 1, 2, 3] (by decide) rfl) hS _ (lv_sub hl [0, 1, 2] rfl)
      · have hw := hw.2 c_17
        refine lv_aload_n hx hb dX3_choose_9 rfl (lv_at hl 0 rfl) ?_
        refine va_get (D := (dC, dI)) (ci := 5) (v := .ref a_mergeTaking) (C := RX3) (T := TX3) (N := 6) hx hb hts hiX3 hown hK hP 0 rfl rfl 0 (by decide) hf9 (fun _ h9 => h9) rfl dX3_choose_10 ?_
        refine lv_iload_n hx hb dX3_choose_13 rfl (lv_at hl 3 rfl) ?_
        refine lv_iconst (v := (-1)) hx hb dX3_choose_14 (by decide) ?_
        refine va_iast hx hb hK hP hD hS 2 0 rfl rfl hw.1 dX3_choose_15 (fun H_18 L_19 hP hD hS => ?_)
        have hw := hw.2
        have hP : va_P (dC, dI) vwCl [(a_this, .inr (5, [.ref a_mergeTaking, .ref a_rows, .int way, .int ways, .int merges, .int level])), (a_rows, .inl (g 0, 6, .inl rows)), (a_mergeTaking, .inl (g 0, 200, .inl (upd mergeTaking_2 v3_1.toNatClampNeg (-1)))), (a_lengths, .inl (g 0, 200, .inl lengths))] H_18 := hP
        have hD : va_D A [(a_this, .inr (5, [.ref a_mergeTaking, .ref a_rows, .int way, .int ways, .int merges, .int level])), (a_rows, .inl (g 0, 6, .inl rows)), (a_mergeTaking, .inl (g 0, 200, .inl (upd mergeTaking_2 v3_1.toNatClampNeg (-1)))), (a_lengths, .inl (g 0, 200, .inl lengths))] := hD
        obtain ⟨x_20, ex_20⟩ : ∃ y : Int32, y = v3_1 + 1 := ⟨_, rfl⟩
        have hw := hw x_20 ex_20
        refine lv_iinc (v := x_20) (lv' := [(3, .int x_20), (0, .ref a_this), (1, .ref a_lengths), (2, .int count)]) hx hb dX3_choose_16 hl (k := 3) rfl (by rw [ex_20]; rfl) (by decide) rfl (fun ls hl => ?_)
        refine lv_goto (tgt := 2) hx hb dX3_choose_19 (by decide) ?_
        exact ih2 x_20 (upd mergeTaking_2 v3_1.toNatClampNeg (-1)) _ _ hw (hP.sub [0, 1, 2, 3] rfl) (hD.sub [0, 1, 2, 3] (by decide) rfl) hS _ (lv_sub hl [1, 2, 3, 0] rfl)
  obtain ⟨n2, hw⟩ := hw
  exact LOOP2 n2 0 mergeTaking _ _ hw (hP.sub [0, 1, 2, 3] rfl) (hD.sub [0, 1, 2, 3] (by decide) rfl) hS _ (lv_sub hl [1, 2, 3, 0] rfl)
theorem dX3_close_0 : decode cX3_close 0 = .ok (.aload_n 0, 1) := by decide +kernel
theorem dX3_close_1 : decode cX3_close 1 = .ok (.getfield 22, 3) := by decide +kernel
theorem dX3_close_4 : decode cX3_close 4 = .ok (.bipush 6, 2) := by decide +kernel
theorem dX3_close_6 : decode cX3_close 6 = .ok (.invokestatic 37, 3) := by decide +kernel
theorem dX3_close_9 : decode cX3_close 9 = .ok (.iconst 1, 1) := by decide +kernel
theorem dX3_close_10 : decode cX3_close 10 = .ok (.isub, 1) := by decide +kernel
theorem dX3_close_11 : decode cX3_close 11 = .ok (.istore_n 1, 1) := by decide +kernel
theorem dX3_close_41 : decode cX3_close 41 = .ok (.aload_n 0, 1) := by decide +kernel
theorem dX3_close_42 : decode cX3_close 42 = .ok (.getfield 15, 3) := by decide +kernel
theorem dX3_close_45 : decode cX3_close 45 = .ok (.iconst 0, 1) := by decide +kernel
theorem dX3_close_46 : decode cX3_close 46 = .ok (.aload_n 0, 1) := by decide +kernel
theorem dX3_close_47 : decode cX3_close 47 = .ok (.getfield 25, 3) := by decide +kernel
theorem dX3_close_50 : decode cX3_close 50 = .ok (.iastore, 1) := by decide +kernel
theorem dX3_close_51 : decode cX3_close 51 = .ok (.return_, 1) := by decide +kernel
theorem dX3_close_12 : decode cX3_close 12 = .ok (.iload_n 1, 1) := by decide +kernel
theorem dX3_close_13 : decode cX3_close 13 = .ok (.ifCond .le 28, 3) := by decide +kernel
theorem dX3_close_16 : decode cX3_close 16 = .ok (.aload_n 0, 1) := by decide +kernel
theorem dX3_close_17 : decode cX3_close 17 = .ok (.getfield 15, 3) := by decide +kernel
theorem dX3_close_20 : decode cX3_close 20 = .ok (.iload_n 1, 1) := by decide +kernel
theorem dX3_close_21 : decode cX3_close 21 = .ok (.aload_n 0, 1) := by decide +kernel
theorem dX3_close_22 : decode cX3_close 22 = .ok (.getfield 15, 3) := by decide +kernel
theorem dX3_close_25 : decode cX3_close 25 = .ok (.iload_n 1, 1) := by decide +kernel
theorem dX3_close_26 : decode cX3_close 26 = .ok (.iconst 1, 1) := by decide +kernel
theorem dX3_close_27 : decode cX3_close 27 = .ok (.isub, 1) := by decide +kernel
theorem dX3_close_28 : decode cX3_close 28 = .ok (.iaload, 1) := by decide +kernel
theorem dX3_close_29 : decode cX3_close 29 = .ok (.aload_n 0, 1) := by decide +kernel
theorem dX3_close_30 : decode cX3_close 30 = .ok (.getfield 25, 3) := by decide +kernel
theorem dX3_close_33 : decode cX3_close 33 = .ok (.isub, 1) := by decide +kernel
theorem dX3_close_34 : decode cX3_close 34 = .ok (.iastore, 1) := by decide +kernel
theorem dX3_close_35 : decode cX3_close 35 = .ok (.iinc 1 (-1), 3) := by decide +kernel
theorem dX3_close_38 : decode cX3_close 38 = .ok (.goto (-26), 3) := by decide +kernel
abbrev Wa_X3_close (g : Nat → ClassId) (a_this : Nat) (a_mergeTaking : Nat) (a_rows : Nat) (way : Int32) (ways : Int32) (merges : Int32) (level : Int32) (rows : Nat → Int32) : va_W := [(a_this, .inr (5, [.ref a_mergeTaking, .ref a_rows, .int way, .int ways, .int merges, .int level])), (a_rows, .inl (g 0, 6, .inl rows))]
abbrev Wb_X3_close (g : Nat → ClassId) (a_this : Nat) (a_mergeTaking : Nat) (a_rows : Nat) (way : Int32) (ways : Int32) (merges : Int32) (level : Int32) (u : (Nat → Int32) × Unit) : va_W := [(a_this, .inr (5, [.ref a_mergeTaking, .ref a_rows, .int way, .int ways, .int merges, .int level])), (a_rows, .inl (g 0, 6, .inl u.1))]
set_option maxHeartbeats 8000000 in
set_option maxRecDepth 100000 in
theorem c_X3_close (l : Launch) (dC : Nat → ClassId) (dI : Nat → Nat → Nat) (g : Nat → ClassId) (a_this : Nat) (a_mergeTaking : Nat) (a_rows : Nat) (way : Int32) (ways : Int32) (merges : Int32) (level : Int32) (rows : Nat → Int32) (Q : (Nat → Int32) → Prop) (hw : wp_X3_close ways merges rows Q) (sz : Nat) : Met l yX3_close wqX3_close ({ frames := 1, cells := 0, slots := 0, locals := 13 }) (va_Pc [.ref a_this] (PG (dC, dI) g (Wa_X3_close g a_this a_mergeTaking a_rows way ways merges level rows) sz)) (va_Qv (fun (u : (Nat → Int32) × Unit) => Q u.1) (fun (u : (Nat → Int32) × Unit) t9 => va_P (dC, dI) vwCl (Wb_X3_close g a_this a_mergeTaking a_rows way ways merges level u) t9.heap ∧ va_D (va_A (Wa_X3_close g a_this a_mergeTaking a_rows way ways merges level rows) sz) (Wb_X3_close g a_this a_mergeTaking a_rows way ways merges level u)) (va_A (Wa_X3_close g a_this a_mergeTaking a_rows way ways merges level rows) sz)) 0 0 (va_A (Wa_X3_close g a_this a_mergeTaking a_rows way ways merges level rows) sz) := by
  refine Met.ofW (cc := cX3_close) (maxL := 2) (ret := none) (by decide) rfl ?_
  intro p e s m args below meth c s₁ B hml hv
  obtain ⟨rfl, hsz, hP, hK, hD0, hG⟩ := hv
  have hx := B.exec
  have hb := B.bytes
  have hr := B.returns
  have hts := atoms_spec (ws := wqX3_close) B.pre
  have hown : s.vm.findClass RX3 = some m.cls := findClass_of_methodNamed B.named
  have hlocks := B.notSynchronized
  subst hsz
  have hD := hD0.self (sz := s.heap.size)
  generalize hAe : va_A (Wa_X3_close g a_this a_mergeTaking a_rows way ways merges level rows) s.heap.size = A at hD hG ⊢
  have hA : ∀ q : Nat, s.heap.size ≤ q → A q := fun q h => by rw [← hAe]; exact Or.inr h
  have hS : va_S A s.heap s.heap [] := va_S.rf
  have hl := lv_entry ([.ref a_this]) (n := 2) (Nat.le_of_ble_eq_true rfl)
  rw [lg_entry_eq]
  generalize (lg_sl ([.ref a_this]) ++ List.replicate (2 - (lg_sl ([.ref a_this])).length) Slot.unset).toArray = ls at hl ⊢
  have hl : lv_has ls 2 [(0, .ref a_this)] := hl
  unfold wp_X3_close at hw
  have hf22 := hts (Cond.fieldLink RX3 22 "RunmergeOffice$Pass" "ways" "I") (aw_l aw_1_177)
  have hiX3 : ∀ w ∈ u_ws RX3 TX3 6, w ∈ wqX3_close := fun w h => aw_l (aw_wsX30 w h)
  have hmmin37_0 := hts (Cond.methodLink RX3 37 Lib.Math.min.name) (aw_l aw_4_68)
  have hmmin37_1 := hts (Cond.static Lib.Math.min.name) (aw_l aw_3_141)
  have hmmin37_2 := hts (Cond.initialized "java/lang/Math") (aw_l aw_1_19)
  have hmmin37_3 := hts (Cond.code Lib.Math.min.name Lib.Math.min.code 2 (some .int)) (aw_l aw_3_142)
  have hf15 := hts (Cond.fieldLink RX3 15 "RunmergeOffice$Pass" "rows" "[I") (aw_l aw_1_175)
  have hf25 := hts (Cond.fieldLink RX3 25 "RunmergeOffice$Pass" "merges" "I") (aw_l aw_1_178)
  refine lv_aload_n hx hb dX3_close_0 rfl (lv_at hl 0 rfl) ?_
  refine va_get (D := (dC, dI)) (ci := 5) (v := .int ways) (C := RX3) (T := TX3) (N := 6) hx hb hts hiX3 hown hK hP 0 rfl rfl 3 (by decide) hf22 (fun _ h9 => h9) rfl dX3_close_1 ?_
  refine lv_bipush (v := 6) hx hb dX3_close_4 (by decide) ?_
  refine va_mmin hx hb (hml.trans hl.1.symm) hown hmmin37_0 hmmin37_1 hmmin37_2 hmmin37_3 (Nat.le_of_ble_eq_true rfl) (Nat.le_of_ble_eq_true rfl) (Nat.le_of_ble_eq_true rfl) (Nat.le_of_ble_eq_true rfl) dX3_close_6 ?_
  refine lv_topi (fun x_1 ex_1 => ?_)
  have hw := hw x_1 ex_1
  refine lv_iconst (v := 1) hx hb dX3_close_9 (by decide) ?_
  refine lv_isub hx hb dX3_close_10 ?_
  refine lv_topi (fun x_2 ex_2 => ?_)
  have hw := hw x_2 ex_2
  refine lv_istore_n (lv' := [(1, .int x_2), (0, .ref a_this)]) hx hb dX3_close_11 rfl hl (by decide) rfl (fun ls hl => ?_)
  refine W_abs (fun QM hQM => ?_)
  have EX12_41 : ∀ (rows_5 : Nat → Int32) (H : Heap) (locs : List Loc), (wx_X3_close_12_41 merges Q) rows_5 → va_P (dC, dI) vwCl [(a_this, .inr (5, [.ref a_mergeTaking, .ref a_rows, .int way, .int ways, .int merges, .int level])), (a_rows, .inl (g 0, 6, .inl rows_5))] H → va_D A [(a_this, .inr (5, [.ref a_mergeTaking, .ref a_rows, .int way, .int ways, .int merges, .int level])), (a_rows, .inl (g 0, 6, .inl rows_5))] → va_S A s.heap H locs → ∀ (ls : Array Slot), lv_has ls 2 [(0, .ref a_this)] → W p l e (headSpec wqX3_close ({ frames := 1, cells := 0, slots := 0, locals := 13 })).room s m ([.ref a_this] : List Value).toArray below meth c H locs 0 0 QM (F0 m 41 ls []) := by
    intro rows_5 H locs hw hP hD hS ls hl
    refine lv_aload_n hx hb dX3_close_41 rfl (lv_at hl 0 rfl) ?_
    refine va_get (D := (dC, dI)) (ci := 5) (v := .ref a_rows) (C := RX3) (T := TX3) (N := 6) hx hb hts hiX3 hown hK hP 0 rfl rfl 1 (by decide) hf15 (fun _ h9 => h9) rfl dX3_close_42 ?_
    refine lv_iconst (v := 0) hx hb dX3_close_45 (by decide) ?_
    refine lv_aload_n hx hb dX3_close_46 rfl (lv_at hl 0 rfl) ?_
    refine va_get (D := (dC, dI)) (ci := 5) (v := .int merges) (C := RX3) (T := TX3) (N := 6) hx hb hts hiX3 hown hK hP 0 rfl rfl 4 (by decide) hf25 (fun _ h9 => h9) rfl dX3_close_47 ?_
    refine va_iast hx hb hK hP hD hS 1 0 rfl rfl (by unfold vp_in; decide) dX3_close_50 (fun H_6 L_7 hP hD hS => ?_)
    have hP : va_P (dC, dI) vwCl [(a_this, .inr (5, [.ref a_mergeTaking, .ref a_rows, .int way, .int ways, .int merges, .int level])), (a_rows, .inl (g 0, 6, .inl (upd rows_5 (0 : Int32).toNatClampNeg merges)))] H_6 := hP
    have hD : va_D A [(a_this, .inr (5, [.ref a_mergeTaking, .ref a_rows, .int way, .int ways, .int merges, .int level])), (a_rows, .inl (g 0, 6, .inl (upd rows_5 (0 : Int32).toNatClampNeg merges)))] := hD
    subst hQM
    have hP9 := hP.sub (ws' := [(a_this, .inr (5, [.ref a_mergeTaking, .ref a_rows, .int way, .int ways, .int merges, .int level])), (a_rows, .inl (g 0, 6, .inl (upd rows_5 (0 : Int32).toNatClampNeg merges)))]) [0, 1] rfl
    have hD9 := hD.sub (ws' := [(a_this, .inr (5, [.ref a_mergeTaking, .ref a_rows, .int way, .int ways, .int merges, .int level])), (a_rows, .inl (g 0, 6, .inl (upd rows_5 (0 : Int32).toNatClampNeg merges)))]) [0, 1] (by decide) rfl
    exact W.vret hx hb hr (fun t ht hW => ⟨⟨((upd rows_5 (0 : Int32).toNatClampNeg merges), ()), rfl, hw, ⟨P_at ht hP9, hD9⟩⟩, hS.F ht⟩) hS.2.2 dX3_close_51
  have LOOP12 : ∀ (n12 : Nat) (v1_3 : Int32) (rows_4 : Nat → Int32) (H : Heap) (locs : List Loc), wl_X3_close_12 merges (wx_X3_close_12_41 merges Q) n12 v1_3 rows_4 → va_P (dC, dI) vwCl [(a_this, .inr (5, [.ref a_mergeTaking, .ref a_rows, .int way, .int ways, .int merges, .int level])), (a_rows, .inl (g 0, 6, .inl rows_4))] H → va_D A [(a_this, .inr (5, [.ref a_mergeTaking, .ref a_rows, .int way, .int ways, .int merges, .int level])), (a_rows, .inl (g 0, 6, .inl rows_4))] → va_S A s.heap H locs → ∀ (ls : Array Slot), lv_has ls 2 [(0, .ref a_this), (1, .int v1_3)] → W p l e (headSpec wqX3_close ({ frames := 1, cells := 0, slots := 0, locals := 13 })).room s m ([.ref a_this] : List Value).toArray below meth c H locs 0 0 QM (F0 m 12 ls []) := by
    intro n12
    induction n12 with
    | zero =>
      intro v1_3 rows_4 H locs hw hP hD hS ls hl
      exact False.elim hw
    | succ n12 ih12 =>
      intro v1_3 rows_4 H locs hw hP hD hS ls hl
      rw [wl_X3_close_12_s] at hw
      refine lv_iload_n hx hb dX3_close_12 rfl (lv_at hl 1 rfl) ?_
      refine lv_if_le (tgt := 41) hx hb dX3_close_13 (by decide) (fun c_8 => ?_) (fun c_8 => ?_)
      · have hw := hw.1 c_8
        exact EX12_41 rows_4 _ _ hw (hP.sub [0, 1] rfl) (hD.sub [0, 1] (by decide) rfl) hS _ (lv_sub hl [0] rfl)
      · have hw := hw.2 c_8
        refine lv_aload_n hx hb dX3_close_16 rfl (lv_at hl 0 rfl) ?_
        refine va_get (D := (dC, dI)) (ci := 5) (v := .ref a_rows) (C := RX3) (T := TX3) (N := 6) hx hb hts hiX3 hown hK hP 0 rfl rfl 1 (by decide) hf15 (fun _ h9 => h9) rfl dX3_close_17 ?_
        refine lv_iload_n hx hb dX3_close_20 rfl (lv_at hl 1 rfl) ?_
        refine lv_aload_n hx hb dX3_close_21 rfl (lv_at hl 0 rfl) ?_
        refine va_get (D := (dC, dI)) (ci := 5) (v := .ref a_rows) (C := RX3) (T := TX3) (N := 6) hx hb hts hiX3 hown hK hP 0 rfl rfl 1 (by decide) hf15 (fun _ h9 => h9) rfl dX3_close_22 ?_
        refine lv_iload_n hx hb dX3_close_25 rfl (lv_at hl 1 rfl) ?_
        refine lv_iconst (v := 1) hx hb dX3_close_26 (by decide) ?_
        refine lv_isub hx hb dX3_close_27 ?_
        refine lv_topi (fun x_9 ex_9 => ?_)
        have hw := hw x_9 ex_9
        refine va_iald hx hb hK hP 1 0 rfl rfl hw.1 dX3_close_28 ?_
        have hw := hw.2
        refine lv_topi (fun x_10 ex_10 => ?_)
        have hw := hw x_10 ex_10
        refine lv_aload_n hx hb dX3_close_29 rfl (lv_at hl 0 rfl) ?_
        refine va_get (D := (dC, dI)) (ci := 5) (v := .int merges) (C := RX3) (T := TX3) (N := 6) hx hb hts hiX3 hown hK hP 0 rfl rfl 4 (by decide) hf25 (fun _ h9 => h9) rfl dX3_close_30 ?_
        refine lv_isub hx hb dX3_close_33 ?_
        refine lv_topi (fun x_11 ex_11 => ?_)
        have hw := hw x_11 ex_11
        refine va_iast hx hb hK hP hD hS 1 0 rfl rfl hw.1 dX3_close_34 (fun H_12 L_13 hP hD hS => ?_)
        have hw := hw.2
        have hP : va_P (dC, dI) vwCl [(a_this, .inr (5, [.ref a_mergeTaking, .ref a_rows, .int way, .int ways, .int merges, .int level])), (a_rows, .inl (g 0, 6, .inl (upd rows_4 v1_3.toNatClampNeg x_11)))] H_12 := hP
        have hD : va_D A [(a_this, .inr (5, [.ref a_mergeTaking, .ref a_rows, .int way, .int ways, .int merges, .int level])), (a_rows, .inl (g 0, 6, .inl (upd rows_4 v1_3.toNatClampNeg x_11)))] := hD
        obtain ⟨x_14, ex_14⟩ : ∃ y : Int32, y = v1_3 + (-1) := ⟨_, rfl⟩
        have hw := hw x_14 ex_14
        refine lv_iinc (v := x_14) (lv' := [(1, .int x_14), (0, .ref a_this)]) hx hb dX3_close_35 hl (k := 1) rfl (by rw [ex_14]; rfl) (by decide) rfl (fun ls hl => ?_)
        refine lv_goto (tgt := 12) hx hb dX3_close_38 (by decide) ?_
        exact ih12 x_14 (upd rows_4 v1_3.toNatClampNeg x_11) _ _ hw (hP.sub [0, 1] rfl) (hD.sub [0, 1] (by decide) rfl) hS _ (lv_sub hl [1, 0] rfl)
  obtain ⟨n12, hw⟩ := hw
  exact LOOP12 n12 x_2 rows _ _ hw (hP.sub [0, 1] rfl) (hD.sub [0, 1] (by decide) rfl) hS _ (lv_sub hl [1, 0] rfl)
theorem dX3_mergeOf_0 : decode cX3_mergeOf 0 = .ok (.iload_n 1, 1) := by decide +kernel
theorem dX3_mergeOf_1 : decode cX3_mergeOf 1 = .ok (.ifCond .lt 19, 3) := by decide +kernel
theorem dX3_mergeOf_20 : decode cX3_mergeOf 20 = .ok (.iconst (-1), 1) := by decide +kernel
theorem dX3_mergeOf_21 : decode cX3_mergeOf 21 = .ok (.ireturn, 1) := by decide +kernel
theorem dX3_mergeOf_4 : decode cX3_mergeOf 4 = .ok (.iload_n 1, 1) := by decide +kernel
theorem dX3_mergeOf_5 : decode cX3_mergeOf 5 = .ok (.sipush 200, 3) := by decide +kernel
theorem dX3_mergeOf_8 : decode cX3_mergeOf 8 = .ok (.if_icmp .ge 12, 3) := by decide +kernel
theorem dX3_mergeOf_11 : decode cX3_mergeOf 11 = .ok (.aload_n 0, 1) := by decide +kernel
theorem dX3_mergeOf_12 : decode cX3_mergeOf 12 = .ok (.getfield 9, 3) := by decide +kernel
theorem dX3_mergeOf_15 : decode cX3_mergeOf 15 = .ok (.iload_n 1, 1) := by decide +kernel
theorem dX3_mergeOf_16 : decode cX3_mergeOf 16 = .ok (.iaload, 1) := by decide +kernel
theorem dX3_mergeOf_17 : decode cX3_mergeOf 17 = .ok (.goto 4, 3) := by decide +kernel

set_option maxHeartbeats 8000000 in
set_option maxRecDepth 100000 in
theorem c_X3_mergeOf (l : Launch) (dC : Nat → ClassId) (dI : Nat → Nat → Nat) (g : Nat → ClassId) (Wd : va_W) (a_this : Nat) (a_mergeTaking : Nat) (a_rows : Nat) (way : Int32) (ways : Int32) (merges : Int32) (level : Int32) (mergeTaking : Nat → Int32) (run : Int32) (k_this : Nat) (w_this : Wd[k_this]? = some (a_this, .inr (5, [.ref a_mergeTaking, .ref a_rows, .int way, .int ways, .int merges, .int level]))) (k_mergeTaking : Nat) (w_mergeTaking : Wd[k_mergeTaking]? = some (a_mergeTaking, .inl (g 0, 200, .inl mergeTaking))) (Q : Int32 → Prop) (hw : wp_X3_mergeOf mergeTaking run Q) (sz : Nat) : Met l yX3_mergeOf wqX3_mergeOf ({ frames := 0, cells := 0, slots := 0, locals := 0 }) (va_Pc [.ref a_this, .int run] (PG (dC, dI) g Wd sz)) (va_Qi (fun (r : Int32) (u : Unit) => Q r) (fun (u : Unit) t9 => va_P (dC, dI) vwCl Wd t9.heap) (va_A Wd sz)) 0 0 (va_A Wd sz) := by
  refine Met.ofW (cc := cX3_mergeOf) (maxL := 2) (ret := (some .int)) (by decide) rfl ?_
  intro p e s m args below meth c s₁ B hml hv
  obtain ⟨rfl, hsz, hP, hK, hD0, hG⟩ := hv
  have hx := B.exec
  have hb := B.bytes
  have hr := B.returns
  have hts := atoms_spec (ws := wqX3_mergeOf) B.pre
  have hown : s.vm.findClass RX3 = some m.cls := findClass_of_methodNamed B.named
  have hlocks := B.notSynchronized
  subst hsz
  have hD := hD0.self (sz := s.heap.size)
  generalize hAe : va_A Wd s.heap.size = A at hD hG ⊢
  have hA : ∀ q : Nat, s.heap.size ≤ q → A q := fun q h => by rw [← hAe]; exact Or.inr h
  have hS : va_S A s.heap s.heap [] := va_S.rf
  have hl := lv_entry ([.ref a_this, .int run]) (n := 2) (Nat.le_of_ble_eq_true rfl)
  rw [lg_entry_eq]
  generalize (lg_sl ([.ref a_this, .int run]) ++ List.replicate (2 - (lg_sl ([.ref a_this, .int run])).length) Slot.unset).toArray = ls at hl ⊢
  have hl : lv_has ls 2 [(0, .ref a_this), (1, .int run)] := hl
  unfold wp_X3_mergeOf at hw
  have hf9 := hts (Cond.fieldLink RX3 9 "RunmergeOffice$Pass" "mergeTaking" "[I") (aw_l aw_1_174)
  have hiX3 : ∀ w ∈ u_ws RX3 TX3 6, w ∈ wqX3_mergeOf := fun w h => aw_l (aw_wsX30 w h)
  refine lv_iload_n hx hb dX3_mergeOf_0 rfl (lv_at hl 1 rfl) ?_
  refine lv_if_lt (tgt := 20) hx hb dX3_mergeOf_1 (by decide) (fun c_1 => ?_) (fun c_1 => ?_)
  · have hw := hw.1 c_1
    refine lv_iconst (v := (-1)) hx hb dX3_mergeOf_20 (by decide) ?_
    exact W.iret (v := (-1)) hx hb hr (fun t ht hW => ⟨⟨(-1), (), rfl, hw, P_at ht hP⟩, hS.F ht⟩) hS.2.2 dX3_mergeOf_21
  · have hw := hw.2 c_1
    refine lv_iload_n hx hb dX3_mergeOf_4 rfl (lv_at hl 1 rfl) ?_
    refine lv_sipush (v := 200) hx hb dX3_mergeOf_5 (by decide) ?_
    refine lv_icmp_ge (tgt := 20) hx hb dX3_mergeOf_8 (by decide) (fun c_2 => ?_) (fun c_2 => ?_)
    · have hw := hw.1 c_2
      refine lv_iconst (v := (-1)) hx hb dX3_mergeOf_20 (by decide) ?_
      exact W.iret (v := (-1)) hx hb hr (fun t ht hW => ⟨⟨(-1), (), rfl, hw, P_at ht hP⟩, hS.F ht⟩) hS.2.2 dX3_mergeOf_21
    · have hw := hw.2 c_2
      refine lv_aload_n hx hb dX3_mergeOf_11 rfl (lv_at hl 0 rfl) ?_
      refine va_get (D := (dC, dI)) (ci := 5) (v := .ref a_mergeTaking) (C := RX3) (T := TX3) (N := 6) hx hb hts hiX3 hown hK hP k_this w_this rfl 0 (by decide) hf9 (fun _ h9 => h9) rfl dX3_mergeOf_12 ?_
      refine lv_iload_n hx hb dX3_mergeOf_15 rfl (lv_at hl 1 rfl) ?_
      refine va_iald hx hb hK hP k_mergeTaking 0 w_mergeTaking rfl hw.1 dX3_mergeOf_16 ?_
      have hw := hw.2
      refine lv_topi (fun x_3 ex_3 => ?_)
      have hw := hw x_3 ex_3
      refine lv_goto (tgt := 21) hx hb dX3_mergeOf_17 (by decide) ?_
      exact W.iret (v := x_3) hx hb hr (fun t ht hW => ⟨⟨x_3, (), rfl, hw, P_at ht hP⟩, hS.F ht⟩) hS.2.2 dX3_mergeOf_21
theorem dX3_putsNewRunsFirst_0 : decode cX3_putsNewRunsFirst 0 = .ok (.aload_n 0, 1) := by decide +kernel
theorem dX3_putsNewRunsFirst_1 : decode cX3_putsNewRunsFirst 1 = .ok (.getfield 18, 3) := by decide +kernel
theorem dX3_putsNewRunsFirst_4 : decode cX3_putsNewRunsFirst 4 = .ok (.iconst 1, 1) := by decide +kernel
theorem dX3_putsNewRunsFirst_5 : decode cX3_putsNewRunsFirst 5 = .ok (.if_icmp .eq 7, 3) := by decide +kernel
theorem dX3_putsNewRunsFirst_12 : decode cX3_putsNewRunsFirst 12 = .ok (.iconst 0, 1) := by decide +kernel
theorem dX3_putsNewRunsFirst_13 : decode cX3_putsNewRunsFirst 13 = .ok (.ireturn, 1) := by decide +kernel
theorem dX3_putsNewRunsFirst_8 : decode cX3_putsNewRunsFirst 8 = .ok (.iconst 1, 1) := by decide +kernel
theorem dX3_putsNewRunsFirst_9 : decode cX3_putsNewRunsFirst 9 = .ok (.goto 4, 3) := by decide +kernel

set_option maxHeartbeats 8000000 in
set_option maxRecDepth 100000 in
theorem c_X3_putsNewRunsFirst (l : Launch) (dC : Nat → ClassId) (dI : Nat → Nat → Nat) (g : Nat → ClassId) (Wd : va_W) (a_this : Nat) (a_mergeTaking : Nat) (a_rows : Nat) (way : Int32) (ways : Int32) (merges : Int32) (level : Int32) (k_this : Nat) (w_this : Wd[k_this]? = some (a_this, .inr (5, [.ref a_mergeTaking, .ref a_rows, .int way, .int ways, .int merges, .int level]))) (Q : Bool → Prop) (hw : wp_X3_putsNewRunsFirst way Q) (sz : Nat) : Met l yX3_putsNewRunsFirst wqX3_putsNewRunsFirst ({ frames := 0, cells := 0, slots := 0, locals := 0 }) (va_Pc [.ref a_this] (PG (dC, dI) g Wd sz)) (va_Qi (fun (r : Int32) (u : Unit) => ∃ b : Bool, r = b2i b ∧ Q b) (fun (u : Unit) t9 => va_P (dC, dI) vwCl Wd t9.heap) (va_A Wd sz)) 0 0 (va_A Wd sz) := by
  refine Met.ofW (cc := cX3_putsNewRunsFirst) (maxL := 1) (ret := (some .boolean)) (by decide) rfl ?_
  intro p e s m args below meth c s₁ B hml hv
  obtain ⟨rfl, hsz, hP, hK, hD0, hG⟩ := hv
  have hx := B.exec
  have hb := B.bytes
  have hr := B.returns
  have hts := atoms_spec (ws := wqX3_putsNewRunsFirst) B.pre
  have hown : s.vm.findClass RX3 = some m.cls := findClass_of_methodNamed B.named
  have hlocks := B.notSynchronized
  subst hsz
  have hD := hD0.self (sz := s.heap.size)
  generalize hAe : va_A Wd s.heap.size = A at hD hG ⊢
  have hA : ∀ q : Nat, s.heap.size ≤ q → A q := fun q h => by rw [← hAe]; exact Or.inr h
  have hS : va_S A s.heap s.heap [] := va_S.rf
  have hl := lv_entry ([.ref a_this]) (n := 1) (Nat.le_of_ble_eq_true rfl)
  rw [lg_entry_eq]
  generalize (lg_sl ([.ref a_this]) ++ List.replicate (1 - (lg_sl ([.ref a_this])).length) Slot.unset).toArray = ls at hl ⊢
  have hl : lv_has ls 1 [(0, .ref a_this)] := hl
  unfold wp_X3_putsNewRunsFirst at hw
  have hf18 := hts (Cond.fieldLink RX3 18 "RunmergeOffice$Pass" "way" "I") (aw_l aw_1_176)
  have hiX3 : ∀ w ∈ u_ws RX3 TX3 6, w ∈ wqX3_putsNewRunsFirst := fun w h => aw_l (aw_wsX30 w h)
  refine lv_aload_n hx hb dX3_putsNewRunsFirst_0 rfl (lv_at hl 0 rfl) ?_
  refine va_get (D := (dC, dI)) (ci := 5) (v := .int way) (C := RX3) (T := TX3) (N := 6) hx hb hts hiX3 hown hK hP k_this w_this rfl 2 (by decide) hf18 (fun _ h9 => h9) rfl dX3_putsNewRunsFirst_1 ?_
  refine lv_iconst (v := 1) hx hb dX3_putsNewRunsFirst_4 (by decide) ?_
  refine lv_icmp_eq (tgt := 12) hx hb dX3_putsNewRunsFirst_5 (by decide) (fun c_1 => ?_) (fun c_1 => ?_)
  · have hw := hw.1 c_1
    refine lv_iconst (v := 0) hx hb dX3_putsNewRunsFirst_12 (by decide) ?_
    exact W.zret (v := 0) hx hb hr rfl (fun t ht hW => ⟨⟨_, (), rfl, ⟨false, rfl, hw⟩, P_at ht hP⟩, hS.F ht⟩) hS.2.2 dX3_putsNewRunsFirst_13
  · have hw := hw.2 c_1
    refine lv_iconst (v := 1) hx hb dX3_putsNewRunsFirst_8 (by decide) ?_
    refine lv_goto (tgt := 13) hx hb dX3_putsNewRunsFirst_9 (by decide) ?_
    exact W.zret (v := 1) hx hb hr rfl (fun t ht hW => ⟨⟨_, (), rfl, ⟨true, rfl, hw⟩, P_at ht hP⟩, hS.F ht⟩) hS.2.2 dX3_putsNewRunsFirst_13
theorem dX4_takeLengths_0 : decode cX4_takeLengths 0 = .ok (.aload_n 0, 1) := by decide +kernel
theorem dX4_takeLengths_1 : decode cX4_takeLengths 1 = .ok (.iload_n 2, 1) := by decide +kernel
theorem dX4_takeLengths_2 : decode cX4_takeLengths 2 = .ok (.sipush 200, 3) := by decide +kernel
theorem dX4_takeLengths_5 : decode cX4_takeLengths 5 = .ok (.invokestatic 55, 3) := by decide +kernel
theorem dX4_takeLengths_8 : decode cX4_takeLengths 8 = .ok (.putfield 25, 3) := by decide +kernel
theorem dX4_takeLengths_11 : decode cX4_takeLengths 11 = .ok (.iconst 0, 1) := by decide +kernel
theorem dX4_takeLengths_12 : decode cX4_takeLengths 12 = .ok (.istore_n 3, 1) := by decide +kernel
theorem dX4_takeLengths_38 : decode cX4_takeLengths 38 = .ok (.return_, 1) := by decide +kernel
theorem dX4_takeLengths_13 : decode cX4_takeLengths 13 = .ok (.iload_n 3, 1) := by decide +kernel
theorem dX4_takeLengths_14 : decode cX4_takeLengths 14 = .ok (.aload_n 0, 1) := by decide +kernel
theorem dX4_takeLengths_15 : decode cX4_takeLengths 15 = .ok (.getfield 25, 3) := by decide +kernel
theorem dX4_takeLengths_18 : decode cX4_takeLengths 18 = .ok (.if_icmp .ge 20, 3) := by decide +kernel
theorem dX4_takeLengths_21 : decode cX4_takeLengths 21 = .ok (.aload_n 0, 1) := by decide +kernel
theorem dX4_takeLengths_22 : decode cX4_takeLengths 22 = .ok (.getfield 18, 3) := by decide +kernel
theorem dX4_takeLengths_25 : decode cX4_takeLengths 25 = .ok (.iload_n 3, 1) := by decide +kernel
theorem dX4_takeLengths_26 : decode cX4_takeLengths 26 = .ok (.aload_n 1, 1) := by decide +kernel
theorem dX4_takeLengths_27 : decode cX4_takeLengths 27 = .ok (.iload_n 3, 1) := by decide +kernel
theorem dX4_takeLengths_28 : decode cX4_takeLengths 28 = .ok (.invokevirtual 61, 3) := by decide +kernel
theorem dX4_takeLengths_31 : decode cX4_takeLengths 31 = .ok (.iastore, 1) := by decide +kernel
theorem dX4_takeLengths_32 : decode cX4_takeLengths 32 = .ok (.iinc 3 1, 3) := by decide +kernel
theorem dX4_takeLengths_35 : decode cX4_takeLengths 35 = .ok (.goto (-22), 3) := by decide +kernel
abbrev Wa_X4_takeLengths (g : Nat → ClassId) (a_this : Nat) (a_runs : Nat) (a_pass : Nat) (a_lengths : Nat) (a_newLengths : Nat) (count : Int32) (newCount : Int32) (passes : Int32) (moves : Int32) (merges : Int32) (lengths : Nat → Int32) (a_runs_ranks : Nat) (a_runs_starts : Nat) (a_runs_lengths : Nat) (runs_count : Int32) (runs_filled : Int32) (runs_lengths : Nat → Int32) : va_W := [(a_this, .inr (6, [.ref a_pass, .ref a_lengths, .ref a_newLengths, .int count, .int newCount, .int passes, .int moves, .int merges])), (a_lengths, .inl (g 0, 200, .inl lengths)), (a_runs, .inr (9, [.ref a_runs_ranks, .ref a_runs_starts, .ref a_runs_lengths, .int runs_count, .int runs_filled])), (a_runs_lengths, .inl (g 0, 200, .inl runs_lengths))]
abbrev Wb_X4_takeLengths (g : Nat → ClassId) (a_this : Nat) (a_runs : Nat) (a_pass : Nat) (a_lengths : Nat) (a_newLengths : Nat) (newCount : Int32) (passes : Int32) (moves : Int32) (merges : Int32) (a_runs_ranks : Nat) (a_runs_starts : Nat) (a_runs_lengths : Nat) (runs_count : Int32) (runs_filled : Int32) (runs_lengths : Nat → Int32) (u : Int32 × (Nat → Int32) × Unit) : va_W := [(a_this, .inr (6, [.ref a_pass, .ref a_lengths, .ref a_newLengths, .int u.1, .int newCount, .int passes, .int moves, .int merges])), (a_lengths, .inl (g 0, 200, .inl u.2.1)), (a_runs, .inr (9, [.ref a_runs_ranks, .ref a_runs_starts, .ref a_runs_lengths, .int runs_count, .int runs_filled])), (a_runs_lengths, .inl (g 0, 200, .inl runs_lengths))]
set_option maxHeartbeats 8000000 in
set_option maxRecDepth 100000 in
theorem c_X4_takeLengths (l : Launch) (dC : Nat → ClassId) (dI : Nat → Nat → Nat) (g : Nat → ClassId) (a_this : Nat) (a_runs : Nat) (a_pass : Nat) (a_lengths : Nat) (a_newLengths : Nat) (count : Int32) (newCount : Int32) (passes : Int32) (moves : Int32) (merges : Int32) (lengths : Nat → Int32) (a_runs_ranks : Nat) (a_runs_starts : Nat) (a_runs_lengths : Nat) (runs_count : Int32) (runs_filled : Int32) (runs_lengths : Nat → Int32) (many : Int32) (Q : Int32 → (Nat → Int32) → Prop) (hw : wp_X4_takeLengths lengths runs_count runs_lengths many Q) (sz : Nat) : Met l yX4_takeLengths wqX4_takeLengths ({ frames := 1, cells := 0, slots := 0, locals := 21 }) (va_Pc [.ref a_this, .ref a_runs, .int many] (PG (dC, dI) g (Wa_X4_takeLengths g a_this a_runs a_pass a_lengths a_newLengths count newCount passes moves merges lengths a_runs_ranks a_runs_starts a_runs_lengths runs_count runs_filled runs_lengths) sz)) (va_Qv (fun (u : Int32 × (Nat → Int32) × Unit) => Q u.1 u.2.1) (fun (u : Int32 × (Nat → Int32) × Unit) t9 => va_P (dC, dI) vwCl (Wb_X4_takeLengths g a_this a_runs a_pass a_lengths a_newLengths newCount passes moves merges a_runs_ranks a_runs_starts a_runs_lengths runs_count runs_filled runs_lengths u) t9.heap ∧ va_D (va_A (Wa_X4_takeLengths g a_this a_runs a_pass a_lengths a_newLengths count newCount passes moves merges lengths a_runs_ranks a_runs_starts a_runs_lengths runs_count runs_filled runs_lengths) sz) (Wb_X4_takeLengths g a_this a_runs a_pass a_lengths a_newLengths newCount passes moves merges a_runs_ranks a_runs_starts a_runs_lengths runs_count runs_filled runs_lengths u)) (va_A (Wa_X4_takeLengths g a_this a_runs a_pass a_lengths a_newLengths count newCount passes moves merges lengths a_runs_ranks a_runs_starts a_runs_lengths runs_count runs_filled runs_lengths) sz)) 0 0 (va_A (Wa_X4_takeLengths g a_this a_runs a_pass a_lengths a_newLengths count newCount passes moves merges lengths a_runs_ranks a_runs_starts a_runs_lengths runs_count runs_filled runs_lengths) sz) := by
  refine Met.ofW (cc := cX4_takeLengths) (maxL := 4) (ret := none) (by decide) rfl ?_
  intro p e s m args below meth c s₁ B hml hv
  obtain ⟨rfl, hsz, hP, hK, hD0, hG⟩ := hv
  have hx := B.exec
  have hb := B.bytes
  have hr := B.returns
  have hts := atoms_spec (ws := wqX4_takeLengths) B.pre
  have hown : s.vm.findClass RX4 = some m.cls := findClass_of_methodNamed B.named
  have hlocks := B.notSynchronized
  subst hsz
  have hD := hD0.self (sz := s.heap.size)
  generalize hAe : va_A (Wa_X4_takeLengths g a_this a_runs a_pass a_lengths a_newLengths count newCount passes moves merges lengths a_runs_ranks a_runs_starts a_runs_lengths runs_count runs_filled runs_lengths) s.heap.size = A at hD hG ⊢
  have hA : ∀ q : Nat, s.heap.size ≤ q → A q := fun q h => by rw [← hAe]; exact Or.inr h
  have hS : va_S A s.heap s.heap [] := va_S.rf
  have hl := lv_entry ([.ref a_this, .ref a_runs, .int many]) (n := 4) (Nat.le_of_ble_eq_true rfl)
  rw [lg_entry_eq]
  generalize (lg_sl ([.ref a_this, .ref a_runs, .int many]) ++ List.replicate (4 - (lg_sl ([.ref a_this, .ref a_runs, .int many])).length) Slot.unset).toArray = ls at hl ⊢
  have hl : lv_has ls 4 [(0, .ref a_this), (1, .ref a_runs), (2, .int many)] := hl
  unfold wp_X4_takeLengths at hw
  have hmmin55_0 := hts (Cond.methodLink RX4 55 Lib.Math.min.name) (aw_l aw_4_78)
  have hmmin55_1 := hts (Cond.static Lib.Math.min.name) (aw_l aw_3_141)
  have hmmin55_2 := hts (Cond.initialized "java/lang/Math") (aw_l aw_1_19)
  have hmmin55_3 := hts (Cond.code Lib.Math.min.name Lib.Math.min.code 2 (some .int)) (aw_l aw_3_142)
  have hf25 := hts (Cond.fieldLink RX4 25 "RunmergeOffice$Plan" "count" "I") (aw_l aw_1_200)
  have hiX4 : ∀ w ∈ u_ws RX4 TX4 8, w ∈ wqX4_takeLengths := fun w h => aw_l (aw_wsX40 w h)
  have hf18 := hts (Cond.fieldLink RX4 18 "RunmergeOffice$Plan" "lengths" "[I") (aw_l aw_1_198)
  refine lv_aload_n hx hb dX4_takeLengths_0 rfl (lv_at hl 0 rfl) ?_
  refine lv_iload_n hx hb dX4_takeLengths_1 rfl (lv_at hl 2 rfl) ?_
  refine lv_sipush (v := 200) hx hb dX4_takeLengths_2 (by decide) ?_
  refine va_mmin hx hb (hml.trans hl.1.symm) hown hmmin55_0 hmmin55_1 hmmin55_2 hmmin55_3 (Nat.le_of_ble_eq_true rfl) (Nat.le_of_ble_eq_true rfl) (Nat.le_of_ble_eq_true rfl) (Nat.le_of_ble_eq_true rfl) dX4_takeLengths_5 ?_
  refine lv_topi (fun x_1 ex_1 => ?_)
  have hw := hw x_1 ex_1
  refine va_put (D := (dC, dI)) (ci := 6) (v := .int x_1) (ty := .int) (C := RX4) (T := TX4) (N := 8) hx hb hts hiX4 tyX4 tyX4_ok nmX4 hown hK hP hD hS 0 rfl rfl 3 (by decide) hf25 (fun _ h9 => h9) rfl (by decide +kernel) rfl rfl (Nat.le_of_ble_eq_true rfl) dX4_takeLengths_8 (fun H_2 L_3 hP hD hS => ?_)
  have hP : va_P (dC, dI) vwCl [(a_this, .inr (6, [.ref a_pass, .ref a_lengths, .ref a_newLengths, .int x_1, .int newCount, .int passes, .int moves, .int merges])), (a_lengths, .inl (g 0, 200, .inl lengths)), (a_runs, .inr (9, [.ref a_runs_ranks, .ref a_runs_starts, .ref a_runs_lengths, .int runs_count, .int runs_filled])), (a_runs_lengths, .inl (g 0, 200, .inl runs_lengths))] H_2 := hP
  have hD : va_D A [(a_this, .inr (6, [.ref a_pass, .ref a_lengths, .ref a_newLengths, .int x_1, .int newCount, .int passes, .int moves, .int merges])), (a_lengths, .inl (g 0, 200, .inl lengths)), (a_runs, .inr (9, [.ref a_runs_ranks, .ref a_runs_starts, .ref a_runs_lengths, .int runs_count, .int runs_filled])), (a_runs_lengths, .inl (g 0, 200, .inl runs_lengths))] := hD
  refine lv_iconst (v := 0) hx hb dX4_takeLengths_11 (by decide) ?_
  refine lv_istore_n (lv' := [(3, .int 0), (0, .ref a_this), (1, .ref a_runs), (2, .int many)]) hx hb dX4_takeLengths_12 rfl hl (by decide) rfl (fun ls hl => ?_)
  refine W_abs (fun QM hQM => ?_)
  have EX13_38 : ∀ (lengths_6 : Nat → Int32) (H : Heap) (locs : List Loc), (wx_X4_takeLengths_13_38 Q x_1) lengths_6 → va_P (dC, dI) vwCl [(a_this, .inr (6, [.ref a_pass, .ref a_lengths, .ref a_newLengths, .int x_1, .int newCount, .int passes, .int moves, .int merges])), (a_lengths, .inl (g 0, 200, .inl lengths_6)), (a_runs, .inr (9, [.ref a_runs_ranks, .ref a_runs_starts, .ref a_runs_lengths, .int runs_count, .int runs_filled])), (a_runs_lengths, .inl (g 0, 200, .inl runs_lengths))] H → va_D A [(a_this, .inr (6, [.ref a_pass, .ref a_lengths, .ref a_newLengths, .int x_1, .int newCount, .int passes, .int moves, .int merges])), (a_lengths, .inl (g 0, 200, .inl lengths_6)), (a_runs, .inr (9, [.ref a_runs_ranks, .ref a_runs_starts, .ref a_runs_lengths, .int runs_count, .int runs_filled])), (a_runs_lengths, .inl (g 0, 200, .inl runs_lengths))] → va_S A s.heap H locs → ∀ (ls : Array Slot), lv_has ls 4 [] → W p l e (headSpec wqX4_takeLengths ({ frames := 1, cells := 0, slots := 0, locals := 21 })).room s m ([.ref a_this, .ref a_runs, .int many] : List Value).toArray below meth c H locs 0 0 QM (F0 m 38 ls []) := by
    intro lengths_6 H locs hw hP hD hS ls hl
    subst hQM
    have hP9 := hP.sub (ws' := [(a_this, .inr (6, [.ref a_pass, .ref a_lengths, .ref a_newLengths, .int x_1, .int newCount, .int passes, .int moves, .int merges])), (a_lengths, .inl (g 0, 200, .inl lengths_6)), (a_runs, .inr (9, [.ref a_runs_ranks, .ref a_runs_starts, .ref a_runs_lengths, .int runs_count, .int runs_filled])), (a_runs_lengths, .inl (g 0, 200, .inl runs_lengths))]) [0, 1, 2, 3] rfl
    have hD9 := hD.sub (ws' := [(a_this, .inr (6, [.ref a_pass, .ref a_lengths, .ref a_newLengths, .int x_1, .int newCount, .int passes, .int moves, .int merges])), (a_lengths, .inl (g 0, 200, .inl lengths_6)), (a_runs, .inr (9, [.ref a_runs_ranks, .ref a_runs_starts, .ref a_runs_lengths, .int runs_count, .int runs_filled])), (a_runs_lengths, .inl (g 0, 200, .inl runs_lengths))]) [0, 1, 2, 3] (by decide) rfl
    exact W.vret hx hb hr (fun t ht hW => ⟨⟨(x_1, lengths_6, ()), rfl, hw, ⟨P_at ht hP9, hD9⟩⟩, hS.F ht⟩) hS.2.2 dX4_takeLengths_38
  have LOOP13 : ∀ (n13 : Nat) (v3_4 : Int32) (lengths_5 : Nat → Int32) (H : Heap) (locs : List Loc), wl_X4_takeLengths_13 runs_count runs_lengths x_1 (wx_X4_takeLengths_13_38 Q x_1) n13 v3_4 lengths_5 → va_P (dC, dI) vwCl [(a_this, .inr (6, [.ref a_pass, .ref a_lengths, .ref a_newLengths, .int x_1, .int newCount, .int passes, .int moves, .int merges])), (a_lengths, .inl (g 0, 200, .inl lengths_5)), (a_runs, .inr (9, [.ref a_runs_ranks, .ref a_runs_starts, .ref a_runs_lengths, .int runs_count, .int runs_filled])), (a_runs_lengths, .inl (g 0, 200, .inl runs_lengths))] H → va_D A [(a_this, .inr (6, [.ref a_pass, .ref a_lengths, .ref a_newLengths, .int x_1, .int newCount, .int passes, .int moves, .int merges])), (a_lengths, .inl (g 0, 200, .inl lengths_5)), (a_runs, .inr (9, [.ref a_runs_ranks, .ref a_runs_starts, .ref a_runs_lengths, .int runs_count, .int runs_filled])), (a_runs_lengths, .inl (g 0, 200, .inl runs_lengths))] → va_S A s.heap H locs → ∀ (ls : Array Slot), lv_has ls 4 [(0, .ref a_this), (1, .ref a_runs), (3, .int v3_4)] → W p l e (headSpec wqX4_takeLengths ({ frames := 1, cells := 0, slots := 0, locals := 21 })).room s m ([.ref a_this, .ref a_runs, .int many] : List Value).toArray below meth c H locs 0 0 QM (F0 m 13 ls []) := by
    intro n13
    induction n13 with
    | zero =>
      intro v3_4 lengths_5 H locs hw hP hD hS ls hl
      exact False.elim hw
    | succ n13 ih13 =>
      intro v3_4 lengths_5 H locs hw hP hD hS ls hl
      rw [wl_X4_takeLengths_13_s] at hw
      refine lv_iload_n hx hb dX4_takeLengths_13 rfl (lv_at hl 2 rfl) ?_
      refine lv_aload_n hx hb dX4_takeLengths_14 rfl (lv_at hl 0 rfl) ?_
      refine va_get (D := (dC, dI)) (ci := 6) (v := .int x_1) (C := RX4) (T := TX4) (N := 8) hx hb hts hiX4 hown hK hP 0 rfl rfl 3 (by decide) hf25 (fun _ h9 => h9) rfl dX4_takeLengths_15 ?_
      refine lv_icmp_ge (tgt := 38) hx hb dX4_takeLengths_18 (by decide) (fun c_7 => ?_) (fun c_7 => ?_)
      · have hw := hw.1 c_7
        exact EX13_38 lengths_5 _ _ hw (hP.sub [0, 1, 2, 3] rfl) (hD.sub [0, 1, 2, 3] (by decide) rfl) hS _ (lv_sub hl [] rfl)
      · have hw := hw.2 c_7
        refine lv_aload_n hx hb dX4_takeLengths_21 rfl (lv_at hl 0 rfl) ?_
        refine va_get (D := (dC, dI)) (ci := 6) (v := .ref a_lengths) (C := RX4) (T := TX4) (N := 8) hx hb hts hiX4 hown hK hP 0 rfl rfl 1 (by decide) hf18 (fun _ h9 => h9) rfl dX4_takeLengths_22 ?_
        refine lv_iload_n hx hb dX4_takeLengths_25 rfl (lv_at hl 2 rfl) ?_
        refine lv_aload_n hx hb dX4_takeLengths_26 rfl (lv_at hl 1 rfl) ?_
        refine lv_iload_n hx hb dX4_takeLengths_27 rfl (lv_at hl 2 rfl) ?_
        refine va_calli (va_runV (As := [.int v3_4]) (rest := [.int v3_4, .ref a_lengths]) ⟨hx, hb, hml, hown, hts⟩ (c_X7_lengthOf l dC dI g (Wd := [(a_this, .inr (6, [.ref a_pass, .ref a_lengths, .ref a_newLengths, .int x_1, .int newCount, .int passes, .int moves, .int merges])), (a_lengths, .inl (g 0, 200, .inl lengths_5)), (a_runs, .inr (9, [.ref a_runs_ranks, .ref a_runs_starts, .ref a_runs_lengths, .int runs_count, .int runs_filled])), (a_runs_lengths, .inl (g 0, 200, .inl runs_lengths))]) (a_this := a_runs) (a_ranks := a_runs_ranks) (a_starts := a_runs_starts) (a_lengths := a_runs_lengths) (count := runs_count) (filled := runs_filled) (lengths := runs_lengths) (run := v3_4) (k_this := 2) (w_this := rfl) (k_lengths := 3) (w_lengths := rfl) (hw := hw) (sz := H.size)) (cwV 1 hts (gqV aw_4_79 aw_4_4 aw_4_5 aw_1_6 aw_4_6) rfl rfl rfl (by decide +kernel) ⟨Nat.le_of_ble_eq_true rfl, Nat.le_of_ble_eq_true rfl⟩) ⟨PG_blind, va_recv hK hP (ci := 9) (q0 := 2) rfl rfl, PG_call hK hG hS hP hD (A_all hD hA hS.1)⟩ rfl rfl hl.1 rfl (lv_room (Nat.le_of_ble_eq_true rfl)) dX4_takeLengths_28 ⟨Nat.le_of_ble_eq_true rfl, Nat.le_of_ble_eq_true rfl⟩) hS (fun q _ h => (A_all hD hA hS.1) q h) (A_all hD hA hS.1) (fun r_8 u_8 t_8 H_8 L_8 ht_8 hvm_8 hw_8 hB_8 hz_8 hk_8 hS => ?_)
        rw [ht_8] at hB_8
        have hP : va_P (dC, dI) vwCl [(a_this, .inr (6, [.ref a_pass, .ref a_lengths, .ref a_newLengths, .int x_1, .int newCount, .int passes, .int moves, .int merges])), (a_lengths, .inl (g 0, 200, .inl lengths_5)), (a_runs, .inr (9, [.ref a_runs_ranks, .ref a_runs_starts, .ref a_runs_lengths, .int runs_count, .int runs_filled])), (a_runs_lengths, .inl (g 0, 200, .inl runs_lengths))] H_8 := hB_8
        have hw := hw_8
        refine va_iast hx hb hK hP hD hS 1 0 rfl rfl hw.1 dX4_takeLengths_31 (fun H_9 L_10 hP hD hS => ?_)
        have hw := hw.2
        have hP : va_P (dC, dI) vwCl [(a_this, .inr (6, [.ref a_pass, .ref a_lengths, .ref a_newLengths, .int x_1, .int newCount, .int passes, .int moves, .int merges])), (a_lengths, .inl (g 0, 200, .inl (upd lengths_5 v3_4.toNatClampNeg r_8))), (a_runs, .inr (9, [.ref a_runs_ranks, .ref a_runs_starts, .ref a_runs_lengths, .int runs_count, .int runs_filled])), (a_runs_lengths, .inl (g 0, 200, .inl runs_lengths))] H_9 := hP
        have hD : va_D A [(a_this, .inr (6, [.ref a_pass, .ref a_lengths, .ref a_newLengths, .int x_1, .int newCount, .int passes, .int moves, .int merges])), (a_lengths, .inl (g 0, 200, .inl (upd lengths_5 v3_4.toNatClampNeg r_8))), (a_runs, .inr (9, [.ref a_runs_ranks, .ref a_runs_starts, .ref a_runs_lengths, .int runs_count, .int runs_filled])), (a_runs_lengths, .inl (g 0, 200, .inl runs_lengths))] := hD
        obtain ⟨x_11, ex_11⟩ : ∃ y : Int32, y = v3_4 + 1 := ⟨_, rfl⟩
        have hw := hw x_11 ex_11
        refine lv_iinc (v := x_11) (lv' := [(3, .int x_11), (0, .ref a_this), (1, .ref a_runs)]) hx hb dX4_takeLengths_32 hl (k := 2) rfl (by rw [ex_11]; rfl) (by decide) rfl (fun ls hl => ?_)
        refine lv_goto (tgt := 13) hx hb dX4_takeLengths_35 (by decide) ?_
        exact ih13 x_11 (upd lengths_5 v3_4.toNatClampNeg r_8) _ _ hw (hP.sub [0, 1, 2, 3] rfl) (hD.sub [0, 1, 2, 3] (by decide) rfl) hS _ (lv_sub hl [1, 2, 0] rfl)
  obtain ⟨n13, hw⟩ := hw
  exact LOOP13 n13 0 lengths _ _ hw (hP.sub [0, 1, 2, 3] rfl) (hD.sub [0, 1, 2, 3] (by decide) rfl) hS _ (lv_sub hl [1, 2, 0] rfl)
theorem dX4_addLength_0 : decode cX4_addLength 0 = .ok (.aload_n 0, 1) := by decide +kernel
theorem dX4_addLength_1 : decode cX4_addLength 1 = .ok (.getfield 29, 3) := by decide +kernel
theorem dX4_addLength_4 : decode cX4_addLength 4 = .ok (.ifCond .lt 33, 3) := by decide +kernel
theorem dX4_addLength_37 : decode cX4_addLength 37 = .ok (.return_, 1) := by decide +kernel
theorem dX4_addLength_7 : decode cX4_addLength 7 = .ok (.aload_n 0, 1) := by decide +kernel
theorem dX4_addLength_8 : decode cX4_addLength 8 = .ok (.getfield 29, 3) := by decide +kernel
theorem dX4_addLength_11 : decode cX4_addLength 11 = .ok (.sipush 200, 3) := by decide +kernel
theorem dX4_addLength_14 : decode cX4_addLength 14 = .ok (.if_icmp .ge 23, 3) := by decide +kernel
theorem dX4_addLength_17 : decode cX4_addLength 17 = .ok (.aload_n 0, 1) := by decide +kernel
theorem dX4_addLength_18 : decode cX4_addLength 18 = .ok (.getfield 22, 3) := by decide +kernel
theorem dX4_addLength_21 : decode cX4_addLength 21 = .ok (.aload_n 0, 1) := by decide +kernel
theorem dX4_addLength_22 : decode cX4_addLength 22 = .ok (.getfield 29, 3) := by decide +kernel
theorem dX4_addLength_25 : decode cX4_addLength 25 = .ok (.iload_n 1, 1) := by decide +kernel
theorem dX4_addLength_26 : decode cX4_addLength 26 = .ok (.iastore, 1) := by decide +kernel
theorem dX4_addLength_27 : decode cX4_addLength 27 = .ok (.aload_n 0, 1) := by decide +kernel
theorem dX4_addLength_28 : decode cX4_addLength 28 = .ok (.dup, 1) := by decide +kernel
theorem dX4_addLength_29 : decode cX4_addLength 29 = .ok (.getfield 29, 3) := by decide +kernel
theorem dX4_addLength_32 : decode cX4_addLength 32 = .ok (.iconst 1, 1) := by decide +kernel
theorem dX4_addLength_33 : decode cX4_addLength 33 = .ok (.iadd, 1) := by decide +kernel
theorem dX4_addLength_34 : decode cX4_addLength 34 = .ok (.putfield 29, 3) := by decide +kernel
abbrev Wa_X4_addLength (g : Nat → ClassId) (a_this : Nat) (a_pass : Nat) (a_lengths : Nat) (a_newLengths : Nat) (count : Int32) (newCount : Int32) (passes : Int32) (moves : Int32) (merges : Int32) (newLengths : Nat → Int32) : va_W := [(a_this, .inr (6, [.ref a_pass, .ref a_lengths, .ref a_newLengths, .int count, .int newCount, .int passes, .int moves, .int merges])), (a_newLengths, .inl (g 0, 200, .inl newLengths))]
abbrev Wb_X4_addLength (g : Nat → ClassId) (a_this : Nat) (a_pass : Nat) (a_lengths : Nat) (a_newLengths : Nat) (count : Int32) (passes : Int32) (moves : Int32) (merges : Int32) (u : Int32 × (Nat → Int32) × Unit) : va_W := [(a_this, .inr (6, [.ref a_pass, .ref a_lengths, .ref a_newLengths, .int count, .int u.1, .int passes, .int moves, .int merges])), (a_newLengths, .inl (g 0, 200, .inl u.2.1))]
set_option maxHeartbeats 8000000 in
set_option maxRecDepth 100000 in
theorem c_X4_addLength (l : Launch) (dC : Nat → ClassId) (dI : Nat → Nat → Nat) (g : Nat → ClassId) (a_this : Nat) (a_pass : Nat) (a_lengths : Nat) (a_newLengths : Nat) (count : Int32) (newCount : Int32) (passes : Int32) (moves : Int32) (merges : Int32) (newLengths : Nat → Int32) (length : Int32) (Q : Int32 → (Nat → Int32) → Prop) (hw : wp_X4_addLength newCount newLengths length Q) (sz : Nat) : Met l yX4_addLength wqX4_addLength ({ frames := 0, cells := 0, slots := 0, locals := 0 }) (va_Pc [.ref a_this, .int length] (PG (dC, dI) g (Wa_X4_addLength g a_this a_pass a_lengths a_newLengths count newCount passes moves merges newLengths) sz)) (va_Qv (fun (u : Int32 × (Nat → Int32) × Unit) => Q u.1 u.2.1) (fun (u : Int32 × (Nat → Int32) × Unit) t9 => va_P (dC, dI) vwCl (Wb_X4_addLength g a_this a_pass a_lengths a_newLengths count passes moves merges u) t9.heap ∧ va_D (va_A (Wa_X4_addLength g a_this a_pass a_lengths a_newLengths count newCount passes moves merges newLengths) sz) (Wb_X4_addLength g a_this a_pass a_lengths a_newLengths count passes moves merges u)) (va_A (Wa_X4_addLength g a_this a_pass a_lengths a_newLengths count newCount passes moves merges newLengths) sz)) 0 0 (va_A (Wa_X4_addLength g a_this a_pass a_lengths a_newLengths count newCount passes moves merges newLengths) sz) := by
  refine Met.ofW (cc := cX4_addLength) (maxL := 2) (ret := none) (by decide) rfl ?_
  intro p e s m args below meth c s₁ B hml hv
  obtain ⟨rfl, hsz, hP, hK, hD0, hG⟩ := hv
  have hx := B.exec
  have hb := B.bytes
  have hr := B.returns
  have hts := atoms_spec (ws := wqX4_addLength) B.pre
  have hown : s.vm.findClass RX4 = some m.cls := findClass_of_methodNamed B.named
  have hlocks := B.notSynchronized
  subst hsz
  have hD := hD0.self (sz := s.heap.size)
  generalize hAe : va_A (Wa_X4_addLength g a_this a_pass a_lengths a_newLengths count newCount passes moves merges newLengths) s.heap.size = A at hD hG ⊢
  have hA : ∀ q : Nat, s.heap.size ≤ q → A q := fun q h => by rw [← hAe]; exact Or.inr h
  have hS : va_S A s.heap s.heap [] := va_S.rf
  have hl := lv_entry ([.ref a_this, .int length]) (n := 2) (Nat.le_of_ble_eq_true rfl)
  rw [lg_entry_eq]
  generalize (lg_sl ([.ref a_this, .int length]) ++ List.replicate (2 - (lg_sl ([.ref a_this, .int length])).length) Slot.unset).toArray = ls at hl ⊢
  have hl : lv_has ls 2 [(0, .ref a_this), (1, .int length)] := hl
  unfold wp_X4_addLength at hw
  have hf29 := hts (Cond.fieldLink RX4 29 "RunmergeOffice$Plan" "newCount" "I") (aw_l aw_1_201)
  have hiX4 : ∀ w ∈ u_ws RX4 TX4 8, w ∈ wqX4_addLength := fun w h => aw_l (aw_wsX40 w h)
  have hf22 := hts (Cond.fieldLink RX4 22 "RunmergeOffice$Plan" "newLengths" "[I") (aw_l aw_1_199)
  refine lv_aload_n hx hb dX4_addLength_0 rfl (lv_at hl 0 rfl) ?_
  refine va_get (D := (dC, dI)) (ci := 6) (v := .int newCount) (C := RX4) (T := TX4) (N := 8) hx hb hts hiX4 hown hK hP 0 rfl rfl 4 (by decide) hf29 (fun _ h9 => h9) rfl dX4_addLength_1 ?_
  refine lv_if_lt (tgt := 37) hx hb dX4_addLength_4 (by decide) (fun c_1 => ?_) (fun c_1 => ?_)
  · have hw := hw.1 c_1
    have hP9 := hP.sub (ws' := [(a_this, .inr (6, [.ref a_pass, .ref a_lengths, .ref a_newLengths, .int count, .int newCount, .int passes, .int moves, .int merges])), (a_newLengths, .inl (g 0, 200, .inl newLengths))]) [0, 1] rfl
    have hD9 := hD.sub (ws' := [(a_this, .inr (6, [.ref a_pass, .ref a_lengths, .ref a_newLengths, .int count, .int newCount, .int passes, .int moves, .int merges])), (a_newLengths, .inl (g 0, 200, .inl newLengths))]) [0, 1] (by decide) rfl
    exact W.vret hx hb hr (fun t ht hW => ⟨⟨(newCount, newLengths, ()), rfl, hw, ⟨P_at ht hP9, hD9⟩⟩, hS.F ht⟩) hS.2.2 dX4_addLength_37
  · have hw := hw.2 c_1
    refine lv_aload_n hx hb dX4_addLength_7 rfl (lv_at hl 0 rfl) ?_
    refine va_get (D := (dC, dI)) (ci := 6) (v := .int newCount) (C := RX4) (T := TX4) (N := 8) hx hb hts hiX4 hown hK hP 0 rfl rfl 4 (by decide) hf29 (fun _ h9 => h9) rfl dX4_addLength_8 ?_
    refine lv_sipush (v := 200) hx hb dX4_addLength_11 (by decide) ?_
    refine lv_icmp_ge (tgt := 37) hx hb dX4_addLength_14 (by decide) (fun c_2 => ?_) (fun c_2 => ?_)
    · have hw := hw.1 c_2
      have hP9 := hP.sub (ws' := [(a_this, .inr (6, [.ref a_pass, .ref a_lengths, .ref a_newLengths, .int count, .int newCount, .int passes, .int moves, .int merges])), (a_newLengths, .inl (g 0, 200, .inl newLengths))]) [0, 1] rfl
      have hD9 := hD.sub (ws' := [(a_this, .inr (6, [.ref a_pass, .ref a_lengths, .ref a_newLengths, .int count, .int newCount, .int passes, .int moves, .int merges])), (a_newLengths, .inl (g 0, 200, .inl newLengths))]) [0, 1] (by decide) rfl
      exact W.vret hx hb hr (fun t ht hW => ⟨⟨(newCount, newLengths, ()), rfl, hw, ⟨P_at ht hP9, hD9⟩⟩, hS.F ht⟩) hS.2.2 dX4_addLength_37
    · have hw := hw.2 c_2
      refine lv_aload_n hx hb dX4_addLength_17 rfl (lv_at hl 0 rfl) ?_
      refine va_get (D := (dC, dI)) (ci := 6) (v := .ref a_newLengths) (C := RX4) (T := TX4) (N := 8) hx hb hts hiX4 hown hK hP 0 rfl rfl 2 (by decide) hf22 (fun _ h9 => h9) rfl dX4_addLength_18 ?_
      refine lv_aload_n hx hb dX4_addLength_21 rfl (lv_at hl 0 rfl) ?_
      refine va_get (D := (dC, dI)) (ci := 6) (v := .int newCount) (C := RX4) (T := TX4) (N := 8) hx hb hts hiX4 hown hK hP 0 rfl rfl 4 (by decide) hf29 (fun _ h9 => h9) rfl dX4_addLength_22 ?_
      refine lv_iload_n hx hb dX4_addLength_25 rfl (lv_at hl 1 rfl) ?_
      refine va_iast hx hb hK hP hD hS 1 0 rfl rfl hw.1 dX4_addLength_26 (fun H_3 L_4 hP hD hS => ?_)
      have hw := hw.2
      have hP : va_P (dC, dI) vwCl [(a_this, .inr (6, [.ref a_pass, .ref a_lengths, .ref a_newLengths, .int count, .int newCount, .int passes, .int moves, .int merges])), (a_newLengths, .inl (g 0, 200, .inl (upd newLengths newCount.toNatClampNeg length)))] H_3 := hP
      have hD : va_D A [(a_this, .inr (6, [.ref a_pass, .ref a_lengths, .ref a_newLengths, .int count, .int newCount, .int passes, .int moves, .int merges])), (a_newLengths, .inl (g 0, 200, .inl (upd newLengths newCount.toNatClampNeg length)))] := hD
      refine lv_aload_n hx hb dX4_addLength_27 rfl (lv_at hl 0 rfl) ?_
      refine lv_dup hx hb dX4_addLength_28 rfl ?_
      refine va_get (D := (dC, dI)) (ci := 6) (v := .int newCount) (C := RX4) (T := TX4) (N := 8) hx hb hts hiX4 hown hK hP 0 rfl rfl 4 (by decide) hf29 (fun _ h9 => h9) rfl dX4_addLength_29 ?_
      refine lv_iconst (v := 1) hx hb dX4_addLength_32 (by decide) ?_
      refine lv_iadd hx hb dX4_addLength_33 ?_
      refine lv_topi (fun x_5 ex_5 => ?_)
      have hw := hw x_5 ex_5
      refine va_put (D := (dC, dI)) (ci := 6) (v := .int x_5) (ty := .int) (C := RX4) (T := TX4) (N := 8) hx hb hts hiX4 tyX4 tyX4_ok nmX4 hown hK hP hD hS 0 rfl rfl 4 (by decide) hf29 (fun _ h9 => h9) rfl (by decide +kernel) rfl rfl (Nat.le_of_ble_eq_true rfl) dX4_addLength_34 (fun H_6 L_7 hP hD hS => ?_)
      have hP : va_P (dC, dI) vwCl [(a_this, .inr (6, [.ref a_pass, .ref a_lengths, .ref a_newLengths, .int count, .int x_5, .int passes, .int moves, .int merges])), (a_newLengths, .inl (g 0, 200, .inl (upd newLengths newCount.toNatClampNeg length)))] H_6 := hP
      have hD : va_D A [(a_this, .inr (6, [.ref a_pass, .ref a_lengths, .ref a_newLengths, .int count, .int x_5, .int passes, .int moves, .int merges])), (a_newLengths, .inl (g 0, 200, .inl (upd newLengths newCount.toNatClampNeg length)))] := hD
      have hP9 := hP.sub (ws' := [(a_this, .inr (6, [.ref a_pass, .ref a_lengths, .ref a_newLengths, .int count, .int x_5, .int passes, .int moves, .int merges])), (a_newLengths, .inl (g 0, 200, .inl (upd newLengths newCount.toNatClampNeg length)))]) [0, 1] rfl
      have hD9 := hD.sub (ws' := [(a_this, .inr (6, [.ref a_pass, .ref a_lengths, .ref a_newLengths, .int count, .int x_5, .int passes, .int moves, .int merges])), (a_newLengths, .inl (g 0, 200, .inl (upd newLengths newCount.toNatClampNeg length)))]) [0, 1] (by decide) rfl
      exact W.vret hx hb hr (fun t ht hW => ⟨⟨(x_5, (upd newLengths newCount.toNatClampNeg length), ()), rfl, hw, ⟨P_at ht hP9, hD9⟩⟩, hS.F ht⟩) hS.2.2 dX4_addLength_37
theorem dX4_planMerges_0 : decode cX4_planMerges 0 = .ok (.iconst 0, 1) := by decide +kernel
theorem dX4_planMerges_1 : decode cX4_planMerges 1 = .ok (.istore_n 1, 1) := by decide +kernel
theorem dX4_planMerges_94 : decode cX4_planMerges 94 = .ok (.return_, 1) := by decide +kernel
theorem dX4_planMerges_2 : decode cX4_planMerges 2 = .ok (.iload_n 1, 1) := by decide +kernel
theorem dX4_planMerges_3 : decode cX4_planMerges 3 = .ok (.aload_n 0, 1) := by decide +kernel
theorem dX4_planMerges_4 : decode cX4_planMerges 4 = .ok (.getfield 12, 3) := by decide +kernel
theorem dX4_planMerges_7 : decode cX4_planMerges 7 = .ok (.getfield 82, 3) := by decide +kernel
theorem dX4_planMerges_10 : decode cX4_planMerges 10 = .ok (.if_icmp .ge 84, 3) := by decide +kernel
theorem dX4_planMerges_13 : decode cX4_planMerges 13 = .ok (.iconst 0, 1) := by decide +kernel
theorem dX4_planMerges_14 : decode cX4_planMerges 14 = .ok (.istore_n 2, 1) := by decide +kernel
theorem dX4_planMerges_15 : decode cX4_planMerges 15 = .ok (.iconst 0, 1) := by decide +kernel
theorem dX4_planMerges_16 : decode cX4_planMerges 16 = .ok (.istore_n 3, 1) := by decide +kernel
theorem dX4_planMerges_63 : decode cX4_planMerges 63 = .ok (.aload_n 0, 1) := by decide +kernel
theorem dX4_planMerges_64 : decode cX4_planMerges 64 = .ok (.iload_n 2, 1) := by decide +kernel
theorem dX4_planMerges_65 : decode cX4_planMerges 65 = .ok (.invokevirtual 86, 3) := by decide +kernel
theorem dX4_planMerges_68 : decode cX4_planMerges 68 = .ok (.aload_n 0, 1) := by decide +kernel
theorem dX4_planMerges_69 : decode cX4_planMerges 69 = .ok (.dup, 1) := by decide +kernel
theorem dX4_planMerges_70 : decode cX4_planMerges 70 = .ok (.getfield 35, 3) := by decide +kernel
theorem dX4_planMerges_73 : decode cX4_planMerges 73 = .ok (.iload_n 2, 1) := by decide +kernel
theorem dX4_planMerges_74 : decode cX4_planMerges 74 = .ok (.iadd, 1) := by decide +kernel
theorem dX4_planMerges_75 : decode cX4_planMerges 75 = .ok (.putfield 35, 3) := by decide +kernel
theorem dX4_planMerges_78 : decode cX4_planMerges 78 = .ok (.aload_n 0, 1) := by decide +kernel
theorem dX4_planMerges_79 : decode cX4_planMerges 79 = .ok (.dup, 1) := by decide +kernel
theorem dX4_planMerges_80 : decode cX4_planMerges 80 = .ok (.getfield 38, 3) := by decide +kernel
theorem dX4_planMerges_83 : decode cX4_planMerges 83 = .ok (.iconst 1, 1) := by decide +kernel
theorem dX4_planMerges_84 : decode cX4_planMerges 84 = .ok (.iadd, 1) := by decide +kernel
theorem dX4_planMerges_85 : decode cX4_planMerges 85 = .ok (.putfield 38, 3) := by decide +kernel
theorem dX4_planMerges_88 : decode cX4_planMerges 88 = .ok (.iinc 1 1, 3) := by decide +kernel
theorem dX4_planMerges_91 : decode cX4_planMerges 91 = .ok (.goto (-89), 3) := by decide +kernel
theorem dX4_planMerges_17 : decode cX4_planMerges 17 = .ok (.iload_n 3, 1) := by decide +kernel
theorem dX4_planMerges_18 : decode cX4_planMerges 18 = .ok (.aload_n 0, 1) := by decide +kernel
theorem dX4_planMerges_19 : decode cX4_planMerges 19 = .ok (.getfield 25, 3) := by decide +kernel
theorem dX4_planMerges_22 : decode cX4_planMerges 22 = .ok (.if_icmp .ge 41, 3) := by decide +kernel
theorem dX4_planMerges_25 : decode cX4_planMerges 25 = .ok (.iload_n 3, 1) := by decide +kernel
theorem dX4_planMerges_26 : decode cX4_planMerges 26 = .ok (.sipush 200, 3) := by decide +kernel
theorem dX4_planMerges_29 : decode cX4_planMerges 29 = .ok (.if_icmp .ge 34, 3) := by decide +kernel
theorem dX4_planMerges_32 : decode cX4_planMerges 32 = .ok (.iload_n 2, 1) := by decide +kernel
theorem dX4_planMerges_33 : decode cX4_planMerges 33 = .ok (.aload_n 0, 1) := by decide +kernel
theorem dX4_planMerges_34 : decode cX4_planMerges 34 = .ok (.getfield 12, 3) := by decide +kernel
theorem dX4_planMerges_37 : decode cX4_planMerges 37 = .ok (.iload_n 3, 1) := by decide +kernel
theorem dX4_planMerges_38 : decode cX4_planMerges 38 = .ok (.invokevirtual 83, 3) := by decide +kernel
theorem dX4_planMerges_41 : decode cX4_planMerges 41 = .ok (.iload_n 1, 1) := by decide +kernel
theorem dX4_planMerges_42 : decode cX4_planMerges 42 = .ok (.if_icmp .ne 12, 3) := by decide +kernel
theorem dX4_planMerges_54 : decode cX4_planMerges 54 = .ok (.iconst 0, 1) := by decide +kernel
theorem dX4_planMerges_55 : decode cX4_planMerges 55 = .ok (.iadd, 1) := by decide +kernel
theorem dX4_planMerges_56 : decode cX4_planMerges 56 = .ok (.istore_n 2, 1) := by decide +kernel
theorem dX4_planMerges_57 : decode cX4_planMerges 57 = .ok (.iinc 3 1, 3) := by decide +kernel
theorem dX4_planMerges_60 : decode cX4_planMerges 60 = .ok (.goto (-43), 3) := by decide +kernel
theorem dX4_planMerges_45 : decode cX4_planMerges 45 = .ok (.aload_n 0, 1) := by decide +kernel
theorem dX4_planMerges_46 : decode cX4_planMerges 46 = .ok (.getfield 18, 3) := by decide +kernel
theorem dX4_planMerges_49 : decode cX4_planMerges 49 = .ok (.iload_n 3, 1) := by decide +kernel
theorem dX4_planMerges_50 : decode cX4_planMerges 50 = .ok (.iaload, 1) := by decide +kernel
theorem dX4_planMerges_51 : decode cX4_planMerges 51 = .ok (.goto 4, 3) := by decide +kernel
abbrev Wa_X4_planMerges (g : Nat → ClassId) (a_this : Nat) (a_pass : Nat) (a_lengths : Nat) (a_newLengths : Nat) (count : Int32) (newCount : Int32) (passes : Int32) (moves : Int32) (merges : Int32) (a_pass_mergeTaking : Nat) (a_pass_rows : Nat) (pass_way : Int32) (pass_ways : Int32) (pass_merges : Int32) (pass_level : Int32) (newLengths : Nat → Int32) (lengths : Nat → Int32) (pass_mergeTaking : Nat → Int32) : va_W := [(a_this, .inr (6, [.ref a_pass, .ref a_lengths, .ref a_newLengths, .int count, .int newCount, .int passes, .int moves, .int merges])), (a_pass, .inr (5, [.ref a_pass_mergeTaking, .ref a_pass_rows, .int pass_way, .int pass_ways, .int pass_merges, .int pass_level])), (a_newLengths, .inl (g 0, 200, .inl newLengths)), (a_lengths, .inl (g 0, 200, .inl lengths)), (a_pass_mergeTaking, .inl (g 0, 200, .inl pass_mergeTaking))]
abbrev Wb_X4_planMerges (g : Nat → ClassId) (a_this : Nat) (a_pass : Nat) (a_lengths : Nat) (a_newLengths : Nat) (count : Int32) (passes : Int32) (a_pass_mergeTaking : Nat) (a_pass_rows : Nat) (pass_way : Int32) (pass_ways : Int32) (pass_merges : Int32) (pass_level : Int32) (lengths : Nat → Int32) (pass_mergeTaking : Nat → Int32) (u : Int32 × Int32 × Int32 × (Nat → Int32) × Unit) : va_W := [(a_this, .inr (6, [.ref a_pass, .ref a_lengths, .ref a_newLengths, .int count, .int u.1, .int passes, .int u.2.1, .int u.2.2.1])), (a_pass, .inr (5, [.ref a_pass_mergeTaking, .ref a_pass_rows, .int pass_way, .int pass_ways, .int pass_merges, .int pass_level])), (a_newLengths, .inl (g 0, 200, .inl u.2.2.2.1)), (a_lengths, .inl (g 0, 200, .inl lengths)), (a_pass_mergeTaking, .inl (g 0, 200, .inl pass_mergeTaking))]
set_option maxHeartbeats 8000000 in
set_option maxRecDepth 100000 in
theorem c_X4_planMerges (l : Launch) (dC : Nat → ClassId) (dI : Nat → Nat → Nat) (g : Nat → ClassId) (a_this : Nat) (a_pass : Nat) (a_lengths : Nat) (a_newLengths : Nat) (count : Int32) (newCount : Int32) (passes : Int32) (moves : Int32) (merges : Int32) (a_pass_mergeTaking : Nat) (a_pass_rows : Nat) (pass_way : Int32) (pass_ways : Int32) (pass_merges : Int32) (pass_level : Int32) (newLengths : Nat → Int32) (lengths : Nat → Int32) (pass_mergeTaking : Nat → Int32) (Q : Int32 → Int32 → Int32 → (Nat → Int32) → Prop) (hw : wp_X4_planMerges count newCount moves merges pass_merges newLengths lengths pass_mergeTaking Q) (sz : Nat) : Met l yX4_planMerges wqX4_planMerges ({ frames := 1, cells := 0, slots := 0, locals := 21 }) (va_Pc [.ref a_this] (PG (dC, dI) g (Wa_X4_planMerges g a_this a_pass a_lengths a_newLengths count newCount passes moves merges a_pass_mergeTaking a_pass_rows pass_way pass_ways pass_merges pass_level newLengths lengths pass_mergeTaking) sz)) (va_Qv (fun (u : Int32 × Int32 × Int32 × (Nat → Int32) × Unit) => Q u.1 u.2.1 u.2.2.1 u.2.2.2.1) (fun (u : Int32 × Int32 × Int32 × (Nat → Int32) × Unit) t9 => va_P (dC, dI) vwCl (Wb_X4_planMerges g a_this a_pass a_lengths a_newLengths count passes a_pass_mergeTaking a_pass_rows pass_way pass_ways pass_merges pass_level lengths pass_mergeTaking u) t9.heap ∧ va_D (va_A (Wa_X4_planMerges g a_this a_pass a_lengths a_newLengths count newCount passes moves merges a_pass_mergeTaking a_pass_rows pass_way pass_ways pass_merges pass_level newLengths lengths pass_mergeTaking) sz) (Wb_X4_planMerges g a_this a_pass a_lengths a_newLengths count passes a_pass_mergeTaking a_pass_rows pass_way pass_ways pass_merges pass_level lengths pass_mergeTaking u)) (va_A (Wa_X4_planMerges g a_this a_pass a_lengths a_newLengths count newCount passes moves merges a_pass_mergeTaking a_pass_rows pass_way pass_ways pass_merges pass_level newLengths lengths pass_mergeTaking) sz)) 0 0 (va_A (Wa_X4_planMerges g a_this a_pass a_lengths a_newLengths count newCount passes moves merges a_pass_mergeTaking a_pass_rows pass_way pass_ways pass_merges pass_level newLengths lengths pass_mergeTaking) sz) := by
  refine Met.ofW (cc := cX4_planMerges) (maxL := 4) (ret := none) (by decide) rfl ?_
  intro p e s m args below meth c s₁ B hml hv
  obtain ⟨rfl, hsz, hP, hK, hD0, hG⟩ := hv
  have hx := B.exec
  have hb := B.bytes
  have hr := B.returns
  have hts := atoms_spec (ws := wqX4_planMerges) B.pre
  have hown : s.vm.findClass RX4 = some m.cls := findClass_of_methodNamed B.named
  have hlocks := B.notSynchronized
  subst hsz
  have hD := hD0.self (sz := s.heap.size)
  generalize hAe : va_A (Wa_X4_planMerges g a_this a_pass a_lengths a_newLengths count newCount passes moves merges a_pass_mergeTaking a_pass_rows pass_way pass_ways pass_merges pass_level newLengths lengths pass_mergeTaking) s.heap.size = A at hD hG ⊢
  have hA : ∀ q : Nat, s.heap.size ≤ q → A q := fun q h => by rw [← hAe]; exact Or.inr h
  have hS : va_S A s.heap s.heap [] := va_S.rf
  have hl := lv_entry ([.ref a_this]) (n := 4) (Nat.le_of_ble_eq_true rfl)
  rw [lg_entry_eq]
  generalize (lg_sl ([.ref a_this]) ++ List.replicate (4 - (lg_sl ([.ref a_this])).length) Slot.unset).toArray = ls at hl ⊢
  have hl : lv_has ls 4 [(0, .ref a_this)] := hl
  unfold wp_X4_planMerges at hw
  have hf12 := hts (Cond.fieldLink RX4 12 "RunmergeOffice$Plan" "pass" "LRunmergeOffice$Pass;") (aw_l aw_1_196)
  have hiX4 : ∀ w ∈ u_ws RX4 TX4 8, w ∈ wqX4_planMerges := fun w h => aw_l (aw_wsX40 w h)
  have hiX3 : ∀ w ∈ u_ws RX3 TX3 6, w ∈ wqX4_planMerges := fun w h => aw_l (aw_wsX30 w h)
  have hf35 := hts (Cond.fieldLink RX4 35 "RunmergeOffice$Plan" "moves" "I") (aw_l aw_1_205)
  have hf38 := hts (Cond.fieldLink RX4 38 "RunmergeOffice$Plan" "merges" "I") (aw_l aw_1_208)
  have hf25 := hts (Cond.fieldLink RX4 25 "RunmergeOffice$Plan" "count" "I") (aw_l aw_1_200)
  have hf18 := hts (Cond.fieldLink RX4 18 "RunmergeOffice$Plan" "lengths" "[I") (aw_l aw_1_198)
  refine lv_iconst (v := 0) hx hb dX4_planMerges_0 (by decide) ?_
  refine lv_istore_n (lv' := [(1, .int 0), (0, .ref a_this)]) hx hb dX4_planMerges_1 rfl hl (by decide) rfl (fun ls hl => ?_)
  refine W_abs (fun QM hQM => ?_)
  have EX2_94 : ∀ (newCount_6 : Int32) (moves_7 : Int32) (merges_8 : Int32) (newLengths_9 : Nat → Int32) (H : Heap) (locs : List Loc), (wx_X4_planMerges_2_94 Q) newCount_6 moves_7 merges_8 newLengths_9 → va_P (dC, dI) vwCl [(a_this, .inr (6, [.ref a_pass, .ref a_lengths, .ref a_newLengths, .int count, .int newCount_6, .int passes, .int moves_7, .int merges_8])), (a_pass, .inr (5, [.ref a_pass_mergeTaking, .ref a_pass_rows, .int pass_way, .int pass_ways, .int pass_merges, .int pass_level])), (a_newLengths, .inl (g 0, 200, .inl newLengths_9)), (a_lengths, .inl (g 0, 200, .inl lengths)), (a_pass_mergeTaking, .inl (g 0, 200, .inl pass_mergeTaking))] H → va_D A [(a_this, .inr (6, [.ref a_pass, .ref a_lengths, .ref a_newLengths, .int count, .int newCount_6, .int passes, .int moves_7, .int merges_8])), (a_pass, .inr (5, [.ref a_pass_mergeTaking, .ref a_pass_rows, .int pass_way, .int pass_ways, .int pass_merges, .int pass_level])), (a_newLengths, .inl (g 0, 200, .inl newLengths_9)), (a_lengths, .inl (g 0, 200, .inl lengths)), (a_pass_mergeTaking, .inl (g 0, 200, .inl pass_mergeTaking))] → va_S A s.heap H locs → ∀ (ls : Array Slot), lv_has ls 4 [] → W p l e (headSpec wqX4_planMerges ({ frames := 1, cells := 0, slots := 0, locals := 21 })).room s m ([.ref a_this] : List Value).toArray below meth c H locs 0 0 QM (F0 m 94 ls []) := by
    intro newCount_6 moves_7 merges_8 newLengths_9 H locs hw hP hD hS ls hl
    subst hQM
    have hP9 := hP.sub (ws' := [(a_this, .inr (6, [.ref a_pass, .ref a_lengths, .ref a_newLengths, .int count, .int newCount_6, .int passes, .int moves_7, .int merges_8])), (a_pass, .inr (5, [.ref a_pass_mergeTaking, .ref a_pass_rows, .int pass_way, .int pass_ways, .int pass_merges, .int pass_level])), (a_newLengths, .inl (g 0, 200, .inl newLengths_9)), (a_lengths, .inl (g 0, 200, .inl lengths)), (a_pass_mergeTaking, .inl (g 0, 200, .inl pass_mergeTaking))]) [0, 1, 2, 3, 4] rfl
    have hD9 := hD.sub (ws' := [(a_this, .inr (6, [.ref a_pass, .ref a_lengths, .ref a_newLengths, .int count, .int newCount_6, .int passes, .int moves_7, .int merges_8])), (a_pass, .inr (5, [.ref a_pass_mergeTaking, .ref a_pass_rows, .int pass_way, .int pass_ways, .int pass_merges, .int pass_level])), (a_newLengths, .inl (g 0, 200, .inl newLengths_9)), (a_lengths, .inl (g 0, 200, .inl lengths)), (a_pass_mergeTaking, .inl (g 0, 200, .inl pass_mergeTaking))]) [0, 1, 2, 3, 4] (by decide) rfl
    exact W.vret hx hb hr (fun t ht hW => ⟨⟨(newCount_6, moves_7, merges_8, newLengths_9, ()), rfl, hw, ⟨P_at ht hP9, hD9⟩⟩, hS.F ht⟩) hS.2.2 dX4_planMerges_94
  have LOOP2 : ∀ (n2 : Nat) (v1_1 : Int32) (newCount_2 : Int32) (moves_3 : Int32) (merges_4 : Int32) (newLengths_5 : Nat → Int32) (H : Heap) (locs : List Loc), wl_X4_planMerges_2 count pass_merges lengths pass_mergeTaking (wx_X4_planMerges_2_94 Q) n2 v1_1 newCount_2 moves_3 merges_4 newLengths_5 → va_P (dC, dI) vwCl [(a_this, .inr (6, [.ref a_pass, .ref a_lengths, .ref a_newLengths, .int count, .int newCount_2, .int passes, .int moves_3, .int merges_4])), (a_pass, .inr (5, [.ref a_pass_mergeTaking, .ref a_pass_rows, .int pass_way, .int pass_ways, .int pass_merges, .int pass_level])), (a_newLengths, .inl (g 0, 200, .inl newLengths_5)), (a_lengths, .inl (g 0, 200, .inl lengths)), (a_pass_mergeTaking, .inl (g 0, 200, .inl pass_mergeTaking))] H → va_D A [(a_this, .inr (6, [.ref a_pass, .ref a_lengths, .ref a_newLengths, .int count, .int newCount_2, .int passes, .int moves_3, .int merges_4])), (a_pass, .inr (5, [.ref a_pass_mergeTaking, .ref a_pass_rows, .int pass_way, .int pass_ways, .int pass_merges, .int pass_level])), (a_newLengths, .inl (g 0, 200, .inl newLengths_5)), (a_lengths, .inl (g 0, 200, .inl lengths)), (a_pass_mergeTaking, .inl (g 0, 200, .inl pass_mergeTaking))] → va_S A s.heap H locs → ∀ (ls : Array Slot), lv_has ls 4 [(0, .ref a_this), (1, .int v1_1)] → W p l e (headSpec wqX4_planMerges ({ frames := 1, cells := 0, slots := 0, locals := 21 })).room s m ([.ref a_this] : List Value).toArray below meth c H locs 0 0 QM (F0 m 2 ls []) := by
    intro n2
    induction n2 with
    | zero =>
      intro v1_1 newCount_2 moves_3 merges_4 newLengths_5 H locs hw hP hD hS ls hl
      exact False.elim hw
    | succ n2 ih2 =>
      intro v1_1 newCount_2 moves_3 merges_4 newLengths_5 H locs hw hP hD hS ls hl
      rw [wl_X4_planMerges_2_s] at hw
      refine lv_iload_n hx hb dX4_planMerges_2 rfl (lv_at hl 1 rfl) ?_
      refine lv_aload_n hx hb dX4_planMerges_3 rfl (lv_at hl 0 rfl) ?_
      refine va_get (D := (dC, dI)) (ci := 6) (v := .ref a_pass) (C := RX4) (T := TX4) (N := 8) hx hb hts hiX4 hown hK hP 0 rfl rfl 0 (by decide) hf12 (fun _ h9 => h9) rfl dX4_planMerges_4 ?_
      refine va_getN (D := (dC, dI)) (ci := 5) (v := .int pass_merges) (C := RX3) (T := TX3) (N := 6) hx hb hts hiX3 hown hK hP 1 rfl rfl 4 (by decide) (nf_32 hG) (fun _ h9 => h9) rfl dX4_planMerges_7 ?_
      refine lv_icmp_ge (tgt := 94) hx hb dX4_planMerges_10 (by decide) (fun c_10 => ?_) (fun c_10 => ?_)
      · have hw := hw.1 c_10
        exact EX2_94 newCount_2 moves_3 merges_4 newLengths_5 _ _ hw (hP.sub [0, 1, 2, 3, 4] rfl) (hD.sub [0, 1, 2, 3, 4] (by decide) rfl) hS _ (lv_sub hl [] rfl)
      · have hw := hw.2 c_10
        refine lv_iconst (v := 0) hx hb dX4_planMerges_13 (by decide) ?_
        refine lv_istore_n (lv' := [(2, .int 0), (0, .ref a_this), (1, .int v1_1)]) hx hb dX4_planMerges_14 rfl hl (by decide) rfl (fun ls hl => ?_)
        refine lv_iconst (v := 0) hx hb dX4_planMerges_15 (by decide) ?_
        refine lv_istore_n (lv' := [(3, .int 0), (2, .int 0), (0, .ref a_this), (1, .int v1_1)]) hx hb dX4_planMerges_16 rfl hl (by decide) rfl (fun ls hl => ?_)
        have EX17_63 : ∀ (v2_13 : Int32) (H : Heap) (locs : List Loc), (wx_X4_planMerges_17_63 v1_1 newCount_2 moves_3 merges_4 newLengths_5 (wl_X4_planMerges_2 count pass_merges lengths pass_mergeTaking (wx_X4_planMerges_2_94 Q) n2)) v2_13 → va_P (dC, dI) vwCl [(a_this, .inr (6, [.ref a_pass, .ref a_lengths, .ref a_newLengths, .int count, .int newCount_2, .int passes, .int moves_3, .int merges_4])), (a_pass, .inr (5, [.ref a_pass_mergeTaking, .ref a_pass_rows, .int pass_way, .int pass_ways, .int pass_merges, .int pass_level])), (a_newLengths, .inl (g 0, 200, .inl newLengths_5)), (a_lengths, .inl (g 0, 200, .inl lengths)), (a_pass_mergeTaking, .inl (g 0, 200, .inl pass_mergeTaking))] H → va_D A [(a_this, .inr (6, [.ref a_pass, .ref a_lengths, .ref a_newLengths, .int count, .int newCount_2, .int passes, .int moves_3, .int merges_4])), (a_pass, .inr (5, [.ref a_pass_mergeTaking, .ref a_pass_rows, .int pass_way, .int pass_ways, .int pass_merges, .int pass_level])), (a_newLengths, .inl (g 0, 200, .inl newLengths_5)), (a_lengths, .inl (g 0, 200, .inl lengths)), (a_pass_mergeTaking, .inl (g 0, 200, .inl pass_mergeTaking))] → va_S A s.heap H locs → ∀ (ls : Array Slot), lv_has ls 4 [(0, .ref a_this), (1, .int v1_1), (2, .int v2_13)] → W p l e (headSpec wqX4_planMerges ({ frames := 1, cells := 0, slots := 0, locals := 21 })).room s m ([.ref a_this] : List Value).toArray below meth c H locs 0 0 QM (F0 m 63 ls []) := by
          intro v2_13 H locs hw hP hD hS ls hl
          refine lv_aload_n hx hb dX4_planMerges_63 rfl (lv_at hl 0 rfl) ?_
          refine lv_iload_n hx hb dX4_planMerges_64 rfl (lv_at hl 2 rfl) ?_
          have hPc := hP.sub (ws' := [(a_this, .inr (6, [.ref a_pass, .ref a_lengths, .ref a_newLengths, .int count, .int newCount_2, .int passes, .int moves_3, .int merges_4])), (a_newLengths, .inl (g 0, 200, .inl newLengths_5))]) [0, 2] rfl
          have hDc := hD.sub (ws' := [(a_this, .inr (6, [.ref a_pass, .ref a_lengths, .ref a_newLengths, .int count, .int newCount_2, .int passes, .int moves_3, .int merges_4])), (a_newLengths, .inl (g 0, 200, .inl newLengths_5))]) [0, 2] (by decide) rfl
          have hFc := va_free (wc := [(a_this, .inr (6, [.ref a_pass, .ref a_lengths, .ref a_newLengths, .int count, .int newCount_2, .int passes, .int moves_3, .int merges_4])), (a_newLengths, .inl (g 0, 200, .inl newLengths_5))]) hD hS hA [0, 2] rfl
          refine va_callv (va_runV (As := [.int v2_13]) (rest := []) ⟨hx, hb, hml, hown, hts⟩ (c_X4_addLength l dC dI g (a_this := a_this) (a_pass := a_pass) (a_lengths := a_lengths) (a_newLengths := a_newLengths) (count := count) (newCount := newCount_2) (passes := passes) (moves := moves_3) (merges := merges_4) (newLengths := newLengths_5) (length := v2_13) (hw := hw) (sz := H.size)) (cwV 1 hts (gqV aw_4_112 aw_4_114 aw_0_20 aw_1_7 aw_4_115) rfl rfl rfl (by decide +kernel) ⟨Nat.le_of_ble_eq_true rfl, Nat.le_of_ble_eq_true rfl⟩) ⟨PG_blind, va_recv hK hP (ci := 6) (q0 := 0) rfl rfl, PG_call hK hG hS hPc hDc hFc⟩ rfl rfl hl.1 rfl (lv_room (Nat.le_of_ble_eq_true rfl)) dX4_planMerges_65 ⟨Nat.le_of_ble_eq_true rfl, Nat.le_of_ble_eq_true rfl⟩) hS (fun q _ h => hFc q h) hFc (fun u_14 t_14 H_14 L_14 ht_14 hvm_14 hw_14 hB_14 hz_14 hk_14 hS => ?_)
          obtain ⟨newCount_15, newLengths_16, u_14⟩ := u_14
          obtain ⟨hP1, hD1⟩ := hB_14
          rw [ht_14] at hP1
          obtain ⟨hP, hD⟩ := va_join (wr := [(a_pass, .inr (5, [.ref a_pass_mergeTaking, .ref a_pass_rows, .int pass_way, .int pass_ways, .int pass_merges, .int pass_level])), (a_lengths, .inl (g 0, 200, .inl lengths)), (a_pass_mergeTaking, .inl (g 0, 200, .inl pass_mergeTaking))]) (w1 := [(a_this, .inr (6, [.ref a_pass, .ref a_lengths, .ref a_newLengths, .int count, .int newCount_15, .int passes, .int moves_3, .int merges_4])), (a_newLengths, .inl (g 0, 200, .inl newLengths_16))]) hP hD [0, 2] [1, 3, 4] rfl rfl (by decide) (by decide) hk_14 hFc hP1 hD1
          have hP : va_P (dC, dI) vwCl [(a_pass, .inr (5, [.ref a_pass_mergeTaking, .ref a_pass_rows, .int pass_way, .int pass_ways, .int pass_merges, .int pass_level])), (a_lengths, .inl (g 0, 200, .inl lengths)), (a_pass_mergeTaking, .inl (g 0, 200, .inl pass_mergeTaking)), (a_this, .inr (6, [.ref a_pass, .ref a_lengths, .ref a_newLengths, .int count, .int newCount_15, .int passes, .int moves_3, .int merges_4])), (a_newLengths, .inl (g 0, 200, .inl newLengths_16))] H_14 := hP
          have hD : va_D A [(a_pass, .inr (5, [.ref a_pass_mergeTaking, .ref a_pass_rows, .int pass_way, .int pass_ways, .int pass_merges, .int pass_level])), (a_lengths, .inl (g 0, 200, .inl lengths)), (a_pass_mergeTaking, .inl (g 0, 200, .inl pass_mergeTaking)), (a_this, .inr (6, [.ref a_pass, .ref a_lengths, .ref a_newLengths, .int count, .int newCount_15, .int passes, .int moves_3, .int merges_4])), (a_newLengths, .inl (g 0, 200, .inl newLengths_16))] := hD
          have hw := hw_14
          refine lv_aload_n hx hb dX4_planMerges_68 rfl (lv_at hl 0 rfl) ?_
          refine lv_dup hx hb dX4_planMerges_69 rfl ?_
          refine va_get (D := (dC, dI)) (ci := 6) (v := .int moves_3) (C := RX4) (T := TX4) (N := 8) hx hb hts hiX4 hown hK hP 3 rfl rfl 6 (by decide) hf35 (fun _ h9 => h9) rfl dX4_planMerges_70 ?_
          refine lv_iload_n hx hb dX4_planMerges_73 rfl (lv_at hl 2 rfl) ?_
          refine lv_iadd hx hb dX4_planMerges_74 ?_
          refine lv_topi (fun x_17 ex_17 => ?_)
          have hw := hw x_17 ex_17
          refine va_put (D := (dC, dI)) (ci := 6) (v := .int x_17) (ty := .int) (C := RX4) (T := TX4) (N := 8) hx hb hts hiX4 tyX4 tyX4_ok nmX4 hown hK hP hD hS 3 rfl rfl 6 (by decide) hf35 (fun _ h9 => h9) rfl (by decide +kernel) rfl rfl (Nat.le_of_ble_eq_true rfl) dX4_planMerges_75 (fun H_18 L_19 hP hD hS => ?_)
          have hP : va_P (dC, dI) vwCl [(a_pass, .inr (5, [.ref a_pass_mergeTaking, .ref a_pass_rows, .int pass_way, .int pass_ways, .int pass_merges, .int pass_level])), (a_lengths, .inl (g 0, 200, .inl lengths)), (a_pass_mergeTaking, .inl (g 0, 200, .inl pass_mergeTaking)), (a_this, .inr (6, [.ref a_pass, .ref a_lengths, .ref a_newLengths, .int count, .int newCount_15, .int passes, .int x_17, .int merges_4])), (a_newLengths, .inl (g 0, 200, .inl newLengths_16))] H_18 := hP
          have hD : va_D A [(a_pass, .inr (5, [.ref a_pass_mergeTaking, .ref a_pass_rows, .int pass_way, .int pass_ways, .int pass_merges, .int pass_level])), (a_lengths, .inl (g 0, 200, .inl lengths)), (a_pass_mergeTaking, .inl (g 0, 200, .inl pass_mergeTaking)), (a_this, .inr (6, [.ref a_pass, .ref a_lengths, .ref a_newLengths, .int count, .int newCount_15, .int passes, .int x_17, .int merges_4])), (a_newLengths, .inl (g 0, 200, .inl newLengths_16))] := hD
          refine lv_aload_n hx hb dX4_planMerges_78 rfl (lv_at hl 0 rfl) ?_
          refine lv_dup hx hb dX4_planMerges_79 rfl ?_
          refine va_get (D := (dC, dI)) (ci := 6) (v := .int merges_4) (C := RX4) (T := TX4) (N := 8) hx hb hts hiX4 hown hK hP 3 rfl rfl 7 (by decide) hf38 (fun _ h9 => h9) rfl dX4_planMerges_80 ?_
          refine lv_iconst (v := 1) hx hb dX4_planMerges_83 (by decide) ?_
          refine lv_iadd hx hb dX4_planMerges_84 ?_
          refine lv_topi (fun x_20 ex_20 => ?_)
          have hw := hw x_20 ex_20
          refine va_put (D := (dC, dI)) (ci := 6) (v := .int x_20) (ty := .int) (C := RX4) (T := TX4) (N := 8) hx hb hts hiX4 tyX4 tyX4_ok nmX4 hown hK hP hD hS 3 rfl rfl 7 (by decide) hf38 (fun _ h9 => h9) rfl (by decide +kernel) rfl rfl (Nat.le_of_ble_eq_true rfl) dX4_planMerges_85 (fun H_21 L_22 hP hD hS => ?_)
          have hP : va_P (dC, dI) vwCl [(a_pass, .inr (5, [.ref a_pass_mergeTaking, .ref a_pass_rows, .int pass_way, .int pass_ways, .int pass_merges, .int pass_level])), (a_lengths, .inl (g 0, 200, .inl lengths)), (a_pass_mergeTaking, .inl (g 0, 200, .inl pass_mergeTaking)), (a_this, .inr (6, [.ref a_pass, .ref a_lengths, .ref a_newLengths, .int count, .int newCount_15, .int passes, .int x_17, .int x_20])), (a_newLengths, .inl (g 0, 200, .inl newLengths_16))] H_21 := hP
          have hD : va_D A [(a_pass, .inr (5, [.ref a_pass_mergeTaking, .ref a_pass_rows, .int pass_way, .int pass_ways, .int pass_merges, .int pass_level])), (a_lengths, .inl (g 0, 200, .inl lengths)), (a_pass_mergeTaking, .inl (g 0, 200, .inl pass_mergeTaking)), (a_this, .inr (6, [.ref a_pass, .ref a_lengths, .ref a_newLengths, .int count, .int newCount_15, .int passes, .int x_17, .int x_20])), (a_newLengths, .inl (g 0, 200, .inl newLengths_16))] := hD
          obtain ⟨x_23, ex_23⟩ : ∃ y : Int32, y = v1_1 + 1 := ⟨_, rfl⟩
          have hw := hw x_23 ex_23
          refine lv_iinc (v := x_23) (lv' := [(1, .int x_23), (0, .ref a_this), (2, .int v2_13)]) hx hb dX4_planMerges_88 hl (k := 1) rfl (by rw [ex_23]; rfl) (by decide) rfl (fun ls hl => ?_)
          refine lv_goto (tgt := 2) hx hb dX4_planMerges_91 (by decide) ?_
          exact ih2 x_23 newCount_15 x_17 x_20 newLengths_16 _ _ hw (hP.sub [3, 0, 4, 1, 2] rfl) (hD.sub [3, 0, 4, 1, 2] (by decide) rfl) hS _ (lv_sub hl [1, 0] rfl)
        have LOOP17 : ∀ (n17 : Nat) (v3_11 : Int32) (v2_12 : Int32) (H : Heap) (locs : List Loc), wl_X4_planMerges_17 count lengths pass_mergeTaking v1_1 (wx_X4_planMerges_17_63 v1_1 newCount_2 moves_3 merges_4 newLengths_5 (wl_X4_planMerges_2 count pass_merges lengths pass_mergeTaking (wx_X4_planMerges_2_94 Q) n2)) n17 v3_11 v2_12 → va_P (dC, dI) vwCl [(a_this, .inr (6, [.ref a_pass, .ref a_lengths, .ref a_newLengths, .int count, .int newCount_2, .int passes, .int moves_3, .int merges_4])), (a_pass, .inr (5, [.ref a_pass_mergeTaking, .ref a_pass_rows, .int pass_way, .int pass_ways, .int pass_merges, .int pass_level])), (a_newLengths, .inl (g 0, 200, .inl newLengths_5)), (a_lengths, .inl (g 0, 200, .inl lengths)), (a_pass_mergeTaking, .inl (g 0, 200, .inl pass_mergeTaking))] H → va_D A [(a_this, .inr (6, [.ref a_pass, .ref a_lengths, .ref a_newLengths, .int count, .int newCount_2, .int passes, .int moves_3, .int merges_4])), (a_pass, .inr (5, [.ref a_pass_mergeTaking, .ref a_pass_rows, .int pass_way, .int pass_ways, .int pass_merges, .int pass_level])), (a_newLengths, .inl (g 0, 200, .inl newLengths_5)), (a_lengths, .inl (g 0, 200, .inl lengths)), (a_pass_mergeTaking, .inl (g 0, 200, .inl pass_mergeTaking))] → va_S A s.heap H locs → ∀ (ls : Array Slot), lv_has ls 4 [(0, .ref a_this), (1, .int v1_1), (2, .int v2_12), (3, .int v3_11)] → W p l e (headSpec wqX4_planMerges ({ frames := 1, cells := 0, slots := 0, locals := 21 })).room s m ([.ref a_this] : List Value).toArray below meth c H locs 0 0 QM (F0 m 17 ls []) := by
          intro n17
          induction n17 with
          | zero =>
            intro v3_11 v2_12 H locs hw hP hD hS ls hl
            exact False.elim hw
          | succ n17 ih17 =>
            intro v3_11 v2_12 H locs hw hP hD hS ls hl
            rw [wl_X4_planMerges_17_s] at hw
            refine lv_iload_n hx hb dX4_planMerges_17 rfl (lv_at hl 3 rfl) ?_
            refine lv_aload_n hx hb dX4_planMerges_18 rfl (lv_at hl 0 rfl) ?_
            refine va_get (D := (dC, dI)) (ci := 6) (v := .int count) (C := RX4) (T := TX4) (N := 8) hx hb hts hiX4 hown hK hP 0 rfl rfl 3 (by decide) hf25 (fun _ h9 => h9) rfl dX4_planMerges_19 ?_
            refine lv_icmp_ge (tgt := 63) hx hb dX4_planMerges_22 (by decide) (fun c_24 => ?_) (fun c_24 => ?_)
            · have hw := hw.1 c_24
              exact EX17_63 v2_12 _ _ hw (hP.sub [0, 1, 2, 3, 4] rfl) (hD.sub [0, 1, 2, 3, 4] (by decide) rfl) hS _ (lv_sub hl [0, 1, 2] rfl)
            · have hw := hw.2 c_24
              refine lv_iload_n hx hb dX4_planMerges_25 rfl (lv_at hl 3 rfl) ?_
              refine lv_sipush (v := 200) hx hb dX4_planMerges_26 (by decide) ?_
              refine lv_icmp_ge (tgt := 63) hx hb dX4_planMerges_29 (by decide) (fun c_25 => ?_) (fun c_25 => ?_)
              · have hw := hw.1 c_25
                exact EX17_63 v2_12 _ _ hw (hP.sub [0, 1, 2, 3, 4] rfl) (hD.sub [0, 1, 2, 3, 4] (by decide) rfl) hS _ (lv_sub hl [0, 1, 2] rfl)
              · have hw := hw.2 c_25
                refine lv_iload_n hx hb dX4_planMerges_32 rfl (lv_at hl 2 rfl) ?_
                refine lv_aload_n hx hb dX4_planMerges_33 rfl (lv_at hl 0 rfl) ?_
                refine va_get (D := (dC, dI)) (ci := 6) (v := .ref a_pass) (C := RX4) (T := TX4) (N := 8) hx hb hts hiX4 hown hK hP 0 rfl rfl 0 (by decide) hf12 (fun _ h9 => h9) rfl dX4_planMerges_34 ?_
                refine lv_iload_n hx hb dX4_planMerges_37 rfl (lv_at hl 3 rfl) ?_
                refine va_calli (va_runV (As := [.int v3_11]) (rest := [.int v2_12]) ⟨hx, hb, hml, hown, hts⟩ (c_X3_mergeOf l dC dI g (Wd := [(a_this, .inr (6, [.ref a_pass, .ref a_lengths, .ref a_newLengths, .int count, .int newCount_2, .int passes, .int moves_3, .int merges_4])), (a_pass, .inr (5, [.ref a_pass_mergeTaking, .ref a_pass_rows, .int pass_way, .int pass_ways, .int pass_merges, .int pass_level])), (a_newLengths, .inl (g 0, 200, .inl newLengths_5)), (a_lengths, .inl (g 0, 200, .inl lengths)), (a_pass_mergeTaking, .inl (g 0, 200, .inl pass_mergeTaking))]) (a_this := a_pass) (a_mergeTaking := a_pass_mergeTaking) (a_rows := a_pass_rows) (way := pass_way) (ways := pass_ways) (merges := pass_merges) (level := pass_level) (mergeTaking := pass_mergeTaking) (run := v3_11) (k_this := 1) (w_this := rfl) (k_mergeTaking := 4) (w_mergeTaking := rfl) (hw := hw) (sz := H.size)) (cwV 1 hts (gqV aw_4_108 aw_4_109 aw_4_110 aw_1_8 aw_4_111) rfl rfl rfl (by decide +kernel) ⟨Nat.le_of_ble_eq_true rfl, Nat.le_of_ble_eq_true rfl⟩) ⟨PG_blind, va_recv hK hP (ci := 5) (q0 := 1) rfl rfl, PG_call hK hG hS hP hD (A_all hD hA hS.1)⟩ rfl rfl hl.1 rfl (lv_room (Nat.le_of_ble_eq_true rfl)) dX4_planMerges_38 ⟨Nat.le_of_ble_eq_true rfl, Nat.le_of_ble_eq_true rfl⟩) hS (fun q _ h => (A_all hD hA hS.1) q h) (A_all hD hA hS.1) (fun r_26 u_26 t_26 H_26 L_26 ht_26 hvm_26 hw_26 hB_26 hz_26 hk_26 hS => ?_)
                rw [ht_26] at hB_26
                have hP : va_P (dC, dI) vwCl [(a_this, .inr (6, [.ref a_pass, .ref a_lengths, .ref a_newLengths, .int count, .int newCount_2, .int passes, .int moves_3, .int merges_4])), (a_pass, .inr (5, [.ref a_pass_mergeTaking, .ref a_pass_rows, .int pass_way, .int pass_ways, .int pass_merges, .int pass_level])), (a_newLengths, .inl (g 0, 200, .inl newLengths_5)), (a_lengths, .inl (g 0, 200, .inl lengths)), (a_pass_mergeTaking, .inl (g 0, 200, .inl pass_mergeTaking))] H_26 := hB_26
                have hw := hw_26
                refine lv_iload_n hx hb dX4_planMerges_41 rfl (lv_at hl 1 rfl) ?_
                refine lv_icmp_ne (tgt := 54) hx hb dX4_planMerges_42 (by decide) (fun c_27 => ?_) (fun c_27 => ?_)
                · have hw := hw.2 c_27
                  refine lv_iconst (v := 0) hx hb dX4_planMerges_54 (by decide) ?_
                  refine lv_iadd hx hb dX4_planMerges_55 ?_
                  refine lv_topi (fun x_28 ex_28 => ?_)
                  have hw := hw x_28 ex_28
                  refine lv_istore_n (lv' := [(2, .int x_28), (0, .ref a_this), (1, .int v1_1), (3, .int v3_11)]) hx hb dX4_planMerges_56 rfl hl (by decide) rfl (fun ls hl => ?_)
                  obtain ⟨x_29, ex_29⟩ : ∃ y : Int32, y = v3_11 + 1 := ⟨_, rfl⟩
                  have hw := hw x_29 ex_29
                  refine lv_iinc (v := x_29) (lv' := [(3, .int x_29), (2, .int x_28), (0, .ref a_this), (1, .int v1_1)]) hx hb dX4_planMerges_57 hl (k := 3) rfl (by rw [ex_29]; rfl) (by decide) rfl (fun ls hl => ?_)
                  refine lv_goto (tgt := 17) hx hb dX4_planMerges_60 (by decide) ?_
                  exact ih17 x_29 x_28 _ _ hw (hP.sub [0, 1, 2, 3, 4] rfl) (hD.sub [0, 1, 2, 3, 4] (by decide) rfl) hS _ (lv_sub hl [2, 3, 1, 0] rfl)
                · have hw := hw.1 c_27
                  refine lv_aload_n hx hb dX4_planMerges_45 rfl (lv_at hl 0 rfl) ?_
                  refine va_get (D := (dC, dI)) (ci := 6) (v := .ref a_lengths) (C := RX4) (T := TX4) (N := 8) hx hb hts hiX4 hown hK hP 0 rfl rfl 1 (by decide) hf18 (fun _ h9 => h9) rfl dX4_planMerges_46 ?_
                  refine lv_iload_n hx hb dX4_planMerges_49 rfl (lv_at hl 3 rfl) ?_
                  refine va_iald hx hb hK hP 3 0 rfl rfl hw.1 dX4_planMerges_50 ?_
                  have hw := hw.2
                  refine lv_topi (fun x_30 ex_30 => ?_)
                  have hw := hw x_30 ex_30
                  refine lv_goto (tgt := 55) hx hb dX4_planMerges_51 (by decide) ?_
                  refine lv_iadd hx hb dX4_planMerges_55 ?_
                  refine lv_topi (fun x_31 ex_31 => ?_)
                  have hw := hw x_31 ex_31
                  refine lv_istore_n (lv' := [(2, .int x_31), (0, .ref a_this), (1, .int v1_1), (3, .int v3_11)]) hx hb dX4_planMerges_56 rfl hl (by decide) rfl (fun ls hl => ?_)
                  obtain ⟨x_32, ex_32⟩ : ∃ y : Int32, y = v3_11 + 1 := ⟨_, rfl⟩
                  have hw := hw x_32 ex_32
                  refine lv_iinc (v := x_32) (lv' := [(3, .int x_32), (2, .int x_31), (0, .ref a_this), (1, .int v1_1)]) hx hb dX4_planMerges_57 hl (k := 3) rfl (by rw [ex_32]; rfl) (by decide) rfl (fun ls hl => ?_)
                  refine lv_goto (tgt := 17) hx hb dX4_planMerges_60 (by decide) ?_
                  exact ih17 x_32 x_31 _ _ hw (hP.sub [0, 1, 2, 3, 4] rfl) (hD.sub [0, 1, 2, 3, 4] (by decide) rfl) hS _ (lv_sub hl [2, 3, 1, 0] rfl)
        obtain ⟨n17, hw⟩ := hw
        exact LOOP17 n17 0 0 _ _ hw (hP.sub [0, 1, 2, 3, 4] rfl) (hD.sub [0, 1, 2, 3, 4] (by decide) rfl) hS _ (lv_sub hl [2, 3, 1, 0] rfl)
  obtain ⟨n2, hw⟩ := hw
  exact LOOP2 n2 0 newCount moves merges newLengths _ _ hw (hP.sub [0, 1, 2, 3, 4] rfl) (hD.sub [0, 1, 2, 3, 4] (by decide) rfl) hS _ (lv_sub hl [1, 0] rfl)
theorem dX4_keepOthers_0 : decode cX4_keepOthers 0 = .ok (.iconst 0, 1) := by decide +kernel
theorem dX4_keepOthers_1 : decode cX4_keepOthers 1 = .ok (.istore_n 1, 1) := by decide +kernel
theorem dX4_keepOthers_45 : decode cX4_keepOthers 45 = .ok (.return_, 1) := by decide +kernel
theorem dX4_keepOthers_2 : decode cX4_keepOthers 2 = .ok (.iload_n 1, 1) := by decide +kernel
theorem dX4_keepOthers_3 : decode cX4_keepOthers 3 = .ok (.aload_n 0, 1) := by decide +kernel
theorem dX4_keepOthers_4 : decode cX4_keepOthers 4 = .ok (.getfield 25, 3) := by decide +kernel
theorem dX4_keepOthers_7 : decode cX4_keepOthers 7 = .ok (.if_icmp .ge 38, 3) := by decide +kernel
theorem dX4_keepOthers_10 : decode cX4_keepOthers 10 = .ok (.iload_n 1, 1) := by decide +kernel
theorem dX4_keepOthers_11 : decode cX4_keepOthers 11 = .ok (.sipush 200, 3) := by decide +kernel
theorem dX4_keepOthers_14 : decode cX4_keepOthers 14 = .ok (.if_icmp .ge 31, 3) := by decide +kernel
theorem dX4_keepOthers_17 : decode cX4_keepOthers 17 = .ok (.aload_n 0, 1) := by decide +kernel
theorem dX4_keepOthers_18 : decode cX4_keepOthers 18 = .ok (.getfield 12, 3) := by decide +kernel
theorem dX4_keepOthers_21 : decode cX4_keepOthers 21 = .ok (.iload_n 1, 1) := by decide +kernel
theorem dX4_keepOthers_22 : decode cX4_keepOthers 22 = .ok (.invokevirtual 83, 3) := by decide +kernel
theorem dX4_keepOthers_25 : decode cX4_keepOthers 25 = .ok (.iconst (-1), 1) := by decide +kernel
theorem dX4_keepOthers_26 : decode cX4_keepOthers 26 = .ok (.if_icmp .ne 13, 3) := by decide +kernel
theorem dX4_keepOthers_39 : decode cX4_keepOthers 39 = .ok (.iinc 1 1, 3) := by decide +kernel
theorem dX4_keepOthers_42 : decode cX4_keepOthers 42 = .ok (.goto (-40), 3) := by decide +kernel
theorem dX4_keepOthers_29 : decode cX4_keepOthers 29 = .ok (.aload_n 0, 1) := by decide +kernel
theorem dX4_keepOthers_30 : decode cX4_keepOthers 30 = .ok (.aload_n 0, 1) := by decide +kernel
theorem dX4_keepOthers_31 : decode cX4_keepOthers 31 = .ok (.getfield 18, 3) := by decide +kernel
theorem dX4_keepOthers_34 : decode cX4_keepOthers 34 = .ok (.iload_n 1, 1) := by decide +kernel
theorem dX4_keepOthers_35 : decode cX4_keepOthers 35 = .ok (.iaload, 1) := by decide +kernel
theorem dX4_keepOthers_36 : decode cX4_keepOthers 36 = .ok (.invokevirtual 86, 3) := by decide +kernel
abbrev Wa_X4_keepOthers (g : Nat → ClassId) (a_this : Nat) (a_pass : Nat) (a_lengths : Nat) (a_newLengths : Nat) (count : Int32) (newCount : Int32) (passes : Int32) (moves : Int32) (merges : Int32) (a_pass_mergeTaking : Nat) (a_pass_rows : Nat) (pass_way : Int32) (pass_ways : Int32) (pass_merges : Int32) (pass_level : Int32) (lengths : Nat → Int32) (newLengths : Nat → Int32) (pass_mergeTaking : Nat → Int32) : va_W := [(a_this, .inr (6, [.ref a_pass, .ref a_lengths, .ref a_newLengths, .int count, .int newCount, .int passes, .int moves, .int merges])), (a_pass, .inr (5, [.ref a_pass_mergeTaking, .ref a_pass_rows, .int pass_way, .int pass_ways, .int pass_merges, .int pass_level])), (a_lengths, .inl (g 0, 200, .inl lengths)), (a_newLengths, .inl (g 0, 200, .inl newLengths)), (a_pass_mergeTaking, .inl (g 0, 200, .inl pass_mergeTaking))]
abbrev Wb_X4_keepOthers (g : Nat → ClassId) (a_this : Nat) (a_pass : Nat) (a_lengths : Nat) (a_newLengths : Nat) (count : Int32) (passes : Int32) (moves : Int32) (merges : Int32) (a_pass_mergeTaking : Nat) (a_pass_rows : Nat) (pass_way : Int32) (pass_ways : Int32) (pass_merges : Int32) (pass_level : Int32) (lengths : Nat → Int32) (pass_mergeTaking : Nat → Int32) (u : Int32 × (Nat → Int32) × Unit) : va_W := [(a_this, .inr (6, [.ref a_pass, .ref a_lengths, .ref a_newLengths, .int count, .int u.1, .int passes, .int moves, .int merges])), (a_pass, .inr (5, [.ref a_pass_mergeTaking, .ref a_pass_rows, .int pass_way, .int pass_ways, .int pass_merges, .int pass_level])), (a_lengths, .inl (g 0, 200, .inl lengths)), (a_newLengths, .inl (g 0, 200, .inl u.2.1)), (a_pass_mergeTaking, .inl (g 0, 200, .inl pass_mergeTaking))]
set_option maxHeartbeats 8000000 in
set_option maxRecDepth 100000 in
theorem c_X4_keepOthers (l : Launch) (dC : Nat → ClassId) (dI : Nat → Nat → Nat) (g : Nat → ClassId) (a_this : Nat) (a_pass : Nat) (a_lengths : Nat) (a_newLengths : Nat) (count : Int32) (newCount : Int32) (passes : Int32) (moves : Int32) (merges : Int32) (a_pass_mergeTaking : Nat) (a_pass_rows : Nat) (pass_way : Int32) (pass_ways : Int32) (pass_merges : Int32) (pass_level : Int32) (lengths : Nat → Int32) (newLengths : Nat → Int32) (pass_mergeTaking : Nat → Int32) (Q : Int32 → (Nat → Int32) → Prop) (hw : wp_X4_keepOthers count newCount lengths newLengths pass_mergeTaking Q) (sz : Nat) : Met l yX4_keepOthers wqX4_keepOthers ({ frames := 1, cells := 0, slots := 0, locals := 21 }) (va_Pc [.ref a_this] (PG (dC, dI) g (Wa_X4_keepOthers g a_this a_pass a_lengths a_newLengths count newCount passes moves merges a_pass_mergeTaking a_pass_rows pass_way pass_ways pass_merges pass_level lengths newLengths pass_mergeTaking) sz)) (va_Qv (fun (u : Int32 × (Nat → Int32) × Unit) => Q u.1 u.2.1) (fun (u : Int32 × (Nat → Int32) × Unit) t9 => va_P (dC, dI) vwCl (Wb_X4_keepOthers g a_this a_pass a_lengths a_newLengths count passes moves merges a_pass_mergeTaking a_pass_rows pass_way pass_ways pass_merges pass_level lengths pass_mergeTaking u) t9.heap ∧ va_D (va_A (Wa_X4_keepOthers g a_this a_pass a_lengths a_newLengths count newCount passes moves merges a_pass_mergeTaking a_pass_rows pass_way pass_ways pass_merges pass_level lengths newLengths pass_mergeTaking) sz) (Wb_X4_keepOthers g a_this a_pass a_lengths a_newLengths count passes moves merges a_pass_mergeTaking a_pass_rows pass_way pass_ways pass_merges pass_level lengths pass_mergeTaking u)) (va_A (Wa_X4_keepOthers g a_this a_pass a_lengths a_newLengths count newCount passes moves merges a_pass_mergeTaking a_pass_rows pass_way pass_ways pass_merges pass_level lengths newLengths pass_mergeTaking) sz)) 0 0 (va_A (Wa_X4_keepOthers g a_this a_pass a_lengths a_newLengths count newCount passes moves merges a_pass_mergeTaking a_pass_rows pass_way pass_ways pass_merges pass_level lengths newLengths pass_mergeTaking) sz) := by
  refine Met.ofW (cc := cX4_keepOthers) (maxL := 2) (ret := none) (by decide) rfl ?_
  intro p e s m args below meth c s₁ B hml hv
  obtain ⟨rfl, hsz, hP, hK, hD0, hG⟩ := hv
  have hx := B.exec
  have hb := B.bytes
  have hr := B.returns
  have hts := atoms_spec (ws := wqX4_keepOthers) B.pre
  have hown : s.vm.findClass RX4 = some m.cls := findClass_of_methodNamed B.named
  have hlocks := B.notSynchronized
  subst hsz
  have hD := hD0.self (sz := s.heap.size)
  generalize hAe : va_A (Wa_X4_keepOthers g a_this a_pass a_lengths a_newLengths count newCount passes moves merges a_pass_mergeTaking a_pass_rows pass_way pass_ways pass_merges pass_level lengths newLengths pass_mergeTaking) s.heap.size = A at hD hG ⊢
  have hA : ∀ q : Nat, s.heap.size ≤ q → A q := fun q h => by rw [← hAe]; exact Or.inr h
  have hS : va_S A s.heap s.heap [] := va_S.rf
  have hl := lv_entry ([.ref a_this]) (n := 2) (Nat.le_of_ble_eq_true rfl)
  rw [lg_entry_eq]
  generalize (lg_sl ([.ref a_this]) ++ List.replicate (2 - (lg_sl ([.ref a_this])).length) Slot.unset).toArray = ls at hl ⊢
  have hl : lv_has ls 2 [(0, .ref a_this)] := hl
  unfold wp_X4_keepOthers at hw
  have hf25 := hts (Cond.fieldLink RX4 25 "RunmergeOffice$Plan" "count" "I") (aw_l aw_1_200)
  have hiX4 : ∀ w ∈ u_ws RX4 TX4 8, w ∈ wqX4_keepOthers := fun w h => aw_l (aw_wsX40 w h)
  have hf12 := hts (Cond.fieldLink RX4 12 "RunmergeOffice$Plan" "pass" "LRunmergeOffice$Pass;") (aw_l aw_1_196)
  have hf18 := hts (Cond.fieldLink RX4 18 "RunmergeOffice$Plan" "lengths" "[I") (aw_l aw_1_198)
  refine lv_iconst (v := 0) hx hb dX4_keepOthers_0 (by decide) ?_
  refine lv_istore_n (lv' := [(1, .int 0), (0, .ref a_this)]) hx hb dX4_keepOthers_1 rfl hl (by decide) rfl (fun ls hl => ?_)
  refine W_abs (fun QM hQM => ?_)
  have EX2_45 : ∀ (newCount_4 : Int32) (newLengths_5 : Nat → Int32) (H : Heap) (locs : List Loc), (wx_X4_keepOthers_2_45 Q) newCount_4 newLengths_5 → va_P (dC, dI) vwCl [(a_this, .inr (6, [.ref a_pass, .ref a_lengths, .ref a_newLengths, .int count, .int newCount_4, .int passes, .int moves, .int merges])), (a_pass, .inr (5, [.ref a_pass_mergeTaking, .ref a_pass_rows, .int pass_way, .int pass_ways, .int pass_merges, .int pass_level])), (a_lengths, .inl (g 0, 200, .inl lengths)), (a_newLengths, .inl (g 0, 200, .inl newLengths_5)), (a_pass_mergeTaking, .inl (g 0, 200, .inl pass_mergeTaking))] H → va_D A [(a_this, .inr (6, [.ref a_pass, .ref a_lengths, .ref a_newLengths, .int count, .int newCount_4, .int passes, .int moves, .int merges])), (a_pass, .inr (5, [.ref a_pass_mergeTaking, .ref a_pass_rows, .int pass_way, .int pass_ways, .int pass_merges, .int pass_level])), (a_lengths, .inl (g 0, 200, .inl lengths)), (a_newLengths, .inl (g 0, 200, .inl newLengths_5)), (a_pass_mergeTaking, .inl (g 0, 200, .inl pass_mergeTaking))] → va_S A s.heap H locs → ∀ (ls : Array Slot), lv_has ls 2 [] → W p l e (headSpec wqX4_keepOthers ({ frames := 1, cells := 0, slots := 0, locals := 21 })).room s m ([.ref a_this] : List Value).toArray below meth c H locs 0 0 QM (F0 m 45 ls []) := by
    intro newCount_4 newLengths_5 H locs hw hP hD hS ls hl
    subst hQM
    have hP9 := hP.sub (ws' := [(a_this, .inr (6, [.ref a_pass, .ref a_lengths, .ref a_newLengths, .int count, .int newCount_4, .int passes, .int moves, .int merges])), (a_pass, .inr (5, [.ref a_pass_mergeTaking, .ref a_pass_rows, .int pass_way, .int pass_ways, .int pass_merges, .int pass_level])), (a_lengths, .inl (g 0, 200, .inl lengths)), (a_newLengths, .inl (g 0, 200, .inl newLengths_5)), (a_pass_mergeTaking, .inl (g 0, 200, .inl pass_mergeTaking))]) [0, 1, 2, 3, 4] rfl
    have hD9 := hD.sub (ws' := [(a_this, .inr (6, [.ref a_pass, .ref a_lengths, .ref a_newLengths, .int count, .int newCount_4, .int passes, .int moves, .int merges])), (a_pass, .inr (5, [.ref a_pass_mergeTaking, .ref a_pass_rows, .int pass_way, .int pass_ways, .int pass_merges, .int pass_level])), (a_lengths, .inl (g 0, 200, .inl lengths)), (a_newLengths, .inl (g 0, 200, .inl newLengths_5)), (a_pass_mergeTaking, .inl (g 0, 200, .inl pass_mergeTaking))]) [0, 1, 2, 3, 4] (by decide) rfl
    exact W.vret hx hb hr (fun t ht hW => ⟨⟨(newCount_4, newLengths_5, ()), rfl, hw, ⟨P_at ht hP9, hD9⟩⟩, hS.F ht⟩) hS.2.2 dX4_keepOthers_45
  have LOOP2 : ∀ (n2 : Nat) (v1_1 : Int32) (newCount_2 : Int32) (newLengths_3 : Nat → Int32) (H : Heap) (locs : List Loc), wl_X4_keepOthers_2 count lengths pass_mergeTaking (wx_X4_keepOthers_2_45 Q) n2 v1_1 newCount_2 newLengths_3 → va_P (dC, dI) vwCl [(a_this, .inr (6, [.ref a_pass, .ref a_lengths, .ref a_newLengths, .int count, .int newCount_2, .int passes, .int moves, .int merges])), (a_pass, .inr (5, [.ref a_pass_mergeTaking, .ref a_pass_rows, .int pass_way, .int pass_ways, .int pass_merges, .int pass_level])), (a_lengths, .inl (g 0, 200, .inl lengths)), (a_newLengths, .inl (g 0, 200, .inl newLengths_3)), (a_pass_mergeTaking, .inl (g 0, 200, .inl pass_mergeTaking))] H → va_D A [(a_this, .inr (6, [.ref a_pass, .ref a_lengths, .ref a_newLengths, .int count, .int newCount_2, .int passes, .int moves, .int merges])), (a_pass, .inr (5, [.ref a_pass_mergeTaking, .ref a_pass_rows, .int pass_way, .int pass_ways, .int pass_merges, .int pass_level])), (a_lengths, .inl (g 0, 200, .inl lengths)), (a_newLengths, .inl (g 0, 200, .inl newLengths_3)), (a_pass_mergeTaking, .inl (g 0, 200, .inl pass_mergeTaking))] → va_S A s.heap H locs → ∀ (ls : Array Slot), lv_has ls 2 [(0, .ref a_this), (1, .int v1_1)] → W p l e (headSpec wqX4_keepOthers ({ frames := 1, cells := 0, slots := 0, locals := 21 })).room s m ([.ref a_this] : List Value).toArray below meth c H locs 0 0 QM (F0 m 2 ls []) := by
    intro n2
    induction n2 with
    | zero =>
      intro v1_1 newCount_2 newLengths_3 H locs hw hP hD hS ls hl
      exact False.elim hw
    | succ n2 ih2 =>
      intro v1_1 newCount_2 newLengths_3 H locs hw hP hD hS ls hl
      rw [wl_X4_keepOthers_2_s] at hw
      refine lv_iload_n hx hb dX4_keepOthers_2 rfl (lv_at hl 1 rfl) ?_
      refine lv_aload_n hx hb dX4_keepOthers_3 rfl (lv_at hl 0 rfl) ?_
      refine va_get (D := (dC, dI)) (ci := 6) (v := .int count) (C := RX4) (T := TX4) (N := 8) hx hb hts hiX4 hown hK hP 0 rfl rfl 3 (by decide) hf25 (fun _ h9 => h9) rfl dX4_keepOthers_4 ?_
      refine lv_icmp_ge (tgt := 45) hx hb dX4_keepOthers_7 (by decide) (fun c_6 => ?_) (fun c_6 => ?_)
      · have hw := hw.1 c_6
        exact EX2_45 newCount_2 newLengths_3 _ _ hw (hP.sub [0, 1, 2, 3, 4] rfl) (hD.sub [0, 1, 2, 3, 4] (by decide) rfl) hS _ (lv_sub hl [] rfl)
      · have hw := hw.2 c_6
        refine lv_iload_n hx hb dX4_keepOthers_10 rfl (lv_at hl 1 rfl) ?_
        refine lv_sipush (v := 200) hx hb dX4_keepOthers_11 (by decide) ?_
        refine lv_icmp_ge (tgt := 45) hx hb dX4_keepOthers_14 (by decide) (fun c_7 => ?_) (fun c_7 => ?_)
        · have hw := hw.1 c_7
          exact EX2_45 newCount_2 newLengths_3 _ _ hw (hP.sub [0, 1, 2, 3, 4] rfl) (hD.sub [0, 1, 2, 3, 4] (by decide) rfl) hS _ (lv_sub hl [] rfl)
        · have hw := hw.2 c_7
          refine lv_aload_n hx hb dX4_keepOthers_17 rfl (lv_at hl 0 rfl) ?_
          refine va_get (D := (dC, dI)) (ci := 6) (v := .ref a_pass) (C := RX4) (T := TX4) (N := 8) hx hb hts hiX4 hown hK hP 0 rfl rfl 0 (by decide) hf12 (fun _ h9 => h9) rfl dX4_keepOthers_18 ?_
          refine lv_iload_n hx hb dX4_keepOthers_21 rfl (lv_at hl 1 rfl) ?_
          refine va_calli (va_runV (As := [.int v1_1]) (rest := []) ⟨hx, hb, hml, hown, hts⟩ (c_X3_mergeOf l dC dI g (Wd := [(a_this, .inr (6, [.ref a_pass, .ref a_lengths, .ref a_newLengths, .int count, .int newCount_2, .int passes, .int moves, .int merges])), (a_pass, .inr (5, [.ref a_pass_mergeTaking, .ref a_pass_rows, .int pass_way, .int pass_ways, .int pass_merges, .int pass_level])), (a_lengths, .inl (g 0, 200, .inl lengths)), (a_newLengths, .inl (g 0, 200, .inl newLengths_3)), (a_pass_mergeTaking, .inl (g 0, 200, .inl pass_mergeTaking))]) (a_this := a_pass) (a_mergeTaking := a_pass_mergeTaking) (a_rows := a_pass_rows) (way := pass_way) (ways := pass_ways) (merges := pass_merges) (level := pass_level) (mergeTaking := pass_mergeTaking) (run := v1_1) (k_this := 1) (w_this := rfl) (k_mergeTaking := 4) (w_mergeTaking := rfl) (hw := hw) (sz := H.size)) (cwV 1 hts (gqV aw_4_108 aw_4_109 aw_4_110 aw_1_8 aw_4_111) rfl rfl rfl (by decide +kernel) ⟨Nat.le_of_ble_eq_true rfl, Nat.le_of_ble_eq_true rfl⟩) ⟨PG_blind, va_recv hK hP (ci := 5) (q0 := 1) rfl rfl, PG_call hK hG hS hP hD (A_all hD hA hS.1)⟩ rfl rfl hl.1 rfl (lv_room (Nat.le_of_ble_eq_true rfl)) dX4_keepOthers_22 ⟨Nat.le_of_ble_eq_true rfl, Nat.le_of_ble_eq_true rfl⟩) hS (fun q _ h => (A_all hD hA hS.1) q h) (A_all hD hA hS.1) (fun r_8 u_8 t_8 H_8 L_8 ht_8 hvm_8 hw_8 hB_8 hz_8 hk_8 hS => ?_)
          rw [ht_8] at hB_8
          have hP : va_P (dC, dI) vwCl [(a_this, .inr (6, [.ref a_pass, .ref a_lengths, .ref a_newLengths, .int count, .int newCount_2, .int passes, .int moves, .int merges])), (a_pass, .inr (5, [.ref a_pass_mergeTaking, .ref a_pass_rows, .int pass_way, .int pass_ways, .int pass_merges, .int pass_level])), (a_lengths, .inl (g 0, 200, .inl lengths)), (a_newLengths, .inl (g 0, 200, .inl newLengths_3)), (a_pass_mergeTaking, .inl (g 0, 200, .inl pass_mergeTaking))] H_8 := hB_8
          have hw := hw_8
          refine lv_iconst (v := (-1)) hx hb dX4_keepOthers_25 (by decide) ?_
          refine lv_icmp_ne (tgt := 39) hx hb dX4_keepOthers_26 (by decide) (fun c_9 => ?_) (fun c_9 => ?_)
          · have hw := hw.2 c_9
            obtain ⟨x_10, ex_10⟩ : ∃ y : Int32, y = v1_1 + 1 := ⟨_, rfl⟩
            have hw := hw x_10 ex_10
            refine lv_iinc (v := x_10) (lv' := [(1, .int x_10), (0, .ref a_this)]) hx hb dX4_keepOthers_39 hl (k := 1) rfl (by rw [ex_10]; rfl) (by decide) rfl (fun ls hl => ?_)
            refine lv_goto (tgt := 2) hx hb dX4_keepOthers_42 (by decide) ?_
            exact ih2 x_10 newCount_2 newLengths_3 _ _ hw (hP.sub [0, 1, 2, 3, 4] rfl) (hD.sub [0, 1, 2, 3, 4] (by decide) rfl) hS _ (lv_sub hl [1, 0] rfl)
          · have hw := hw.1 c_9
            refine lv_aload_n hx hb dX4_keepOthers_29 rfl (lv_at hl 0 rfl) ?_
            refine lv_aload_n hx hb dX4_keepOthers_30 rfl (lv_at hl 0 rfl) ?_
            refine va_get (D := (dC, dI)) (ci := 6) (v := .ref a_lengths) (C := RX4) (T := TX4) (N := 8) hx hb hts hiX4 hown hK hP 0 rfl rfl 1 (by decide) hf18 (fun _ h9 => h9) rfl dX4_keepOthers_31 ?_
            refine lv_iload_n hx hb dX4_keepOthers_34 rfl (lv_at hl 1 rfl) ?_
            refine va_iald hx hb hK hP 2 0 rfl rfl hw.1 dX4_keepOthers_35 ?_
            have hw := hw.2
            refine lv_topi (fun x_11 ex_11 => ?_)
            have hw := hw x_11 ex_11
            have hPc := hP.sub (ws' := [(a_this, .inr (6, [.ref a_pass, .ref a_lengths, .ref a_newLengths, .int count, .int newCount_2, .int passes, .int moves, .int merges])), (a_newLengths, .inl (g 0, 200, .inl newLengths_3))]) [0, 3] rfl
            have hDc := hD.sub (ws' := [(a_this, .inr (6, [.ref a_pass, .ref a_lengths, .ref a_newLengths, .int count, .int newCount_2, .int passes, .int moves, .int merges])), (a_newLengths, .inl (g 0, 200, .inl newLengths_3))]) [0, 3] (by decide) rfl
            have hFc := va_free (wc := [(a_this, .inr (6, [.ref a_pass, .ref a_lengths, .ref a_newLengths, .int count, .int newCount_2, .int passes, .int moves, .int merges])), (a_newLengths, .inl (g 0, 200, .inl newLengths_3))]) hD hS hA [0, 3] rfl
            refine va_callv (va_runV (As := [.int x_11]) (rest := []) ⟨hx, hb, hml, hown, hts⟩ (c_X4_addLength l dC dI g (a_this := a_this) (a_pass := a_pass) (a_lengths := a_lengths) (a_newLengths := a_newLengths) (count := count) (newCount := newCount_2) (passes := passes) (moves := moves) (merges := merges) (newLengths := newLengths_3) (length := x_11) (hw := hw) (sz := H_8.size)) (cwV 1 hts (gqV aw_4_112 aw_4_114 aw_0_20 aw_1_7 aw_4_115) rfl rfl rfl (by decide +kernel) ⟨Nat.le_of_ble_eq_true rfl, Nat.le_of_ble_eq_true rfl⟩) ⟨PG_blind, va_recv hK hP (ci := 6) (q0 := 0) rfl rfl, PG_call hK hG hS hPc hDc hFc⟩ rfl rfl hl.1 rfl (lv_room (Nat.le_of_ble_eq_true rfl)) dX4_keepOthers_36 ⟨Nat.le_of_ble_eq_true rfl, Nat.le_of_ble_eq_true rfl⟩) hS (fun q _ h => hFc q h) hFc (fun u_12 t_12 H_12 L_12 ht_12 hvm_12 hw_12 hB_12 hz_12 hk_12 hS => ?_)
            obtain ⟨newCount_13, newLengths_14, u_12⟩ := u_12
            obtain ⟨hP1, hD1⟩ := hB_12
            rw [ht_12] at hP1
            obtain ⟨hP, hD⟩ := va_join (wr := [(a_pass, .inr (5, [.ref a_pass_mergeTaking, .ref a_pass_rows, .int pass_way, .int pass_ways, .int pass_merges, .int pass_level])), (a_lengths, .inl (g 0, 200, .inl lengths)), (a_pass_mergeTaking, .inl (g 0, 200, .inl pass_mergeTaking))]) (w1 := [(a_this, .inr (6, [.ref a_pass, .ref a_lengths, .ref a_newLengths, .int count, .int newCount_13, .int passes, .int moves, .int merges])), (a_newLengths, .inl (g 0, 200, .inl newLengths_14))]) hP hD [0, 3] [1, 2, 4] rfl rfl (by decide) (by decide) hk_12 hFc hP1 hD1
            have hP : va_P (dC, dI) vwCl [(a_pass, .inr (5, [.ref a_pass_mergeTaking, .ref a_pass_rows, .int pass_way, .int pass_ways, .int pass_merges, .int pass_level])), (a_lengths, .inl (g 0, 200, .inl lengths)), (a_pass_mergeTaking, .inl (g 0, 200, .inl pass_mergeTaking)), (a_this, .inr (6, [.ref a_pass, .ref a_lengths, .ref a_newLengths, .int count, .int newCount_13, .int passes, .int moves, .int merges])), (a_newLengths, .inl (g 0, 200, .inl newLengths_14))] H_12 := hP
            have hD : va_D A [(a_pass, .inr (5, [.ref a_pass_mergeTaking, .ref a_pass_rows, .int pass_way, .int pass_ways, .int pass_merges, .int pass_level])), (a_lengths, .inl (g 0, 200, .inl lengths)), (a_pass_mergeTaking, .inl (g 0, 200, .inl pass_mergeTaking)), (a_this, .inr (6, [.ref a_pass, .ref a_lengths, .ref a_newLengths, .int count, .int newCount_13, .int passes, .int moves, .int merges])), (a_newLengths, .inl (g 0, 200, .inl newLengths_14))] := hD
            have hw := hw_12
            obtain ⟨x_15, ex_15⟩ : ∃ y : Int32, y = v1_1 + 1 := ⟨_, rfl⟩
            have hw := hw x_15 ex_15
            refine lv_iinc (v := x_15) (lv' := [(1, .int x_15), (0, .ref a_this)]) hx hb dX4_keepOthers_39 hl (k := 1) rfl (by rw [ex_15]; rfl) (by decide) rfl (fun ls hl => ?_)
            refine lv_goto (tgt := 2) hx hb dX4_keepOthers_42 (by decide) ?_
            exact ih2 x_15 newCount_13 newLengths_14 _ _ hw (hP.sub [3, 0, 1, 4, 2] rfl) (hD.sub [3, 0, 1, 4, 2] (by decide) rfl) hS _ (lv_sub hl [1, 0] rfl)
  obtain ⟨n2, hw⟩ := hw
  exact LOOP2 n2 0 newCount newLengths _ _ hw (hP.sub [0, 1, 2, 3, 4] rfl) (hD.sub [0, 1, 2, 3, 4] (by decide) rfl) hS _ (lv_sub hl [1, 0] rfl)
