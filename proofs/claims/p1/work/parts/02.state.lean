def p_fn : List (String × Nat × String × String × String × String) := [("RunmergeOffice", 125, "RunmergeOffice$Book", "count", "I", "RunmergeOffice"), ("RunmergeOffice$Job", 87, "RunmergeOffice$Tape", "size", "I", "RunmergeOffice"), ("RunmergeOffice$RunMaker", 57, "RunmergeOffice$Tape", "size", "I", "RunmergeOffice"), ("RunmergeOffice", 105, "RunmergeOffice$Tape", "size", "I", "RunmergeOffice"), ("RunmergeOffice$Checker", 126, "RunmergeOffice$Tape", "size", "I", "RunmergeOffice"), ("RunmergeOffice$RunMaker", 43, "RunmergeOffice$Settings", "order", "I", "RunmergeOffice"), ("RunmergeOffice$Checker", 96, "RunmergeOffice$Settings", "order", "I", "RunmergeOffice"), ("RunmergeOffice$Reader", 129, "RunmergeOffice$Settings", "order", "I", "RunmergeOffice"), ("RunmergeOffice", 163, "RunmergeOffice$Settings", "order", "I", "RunmergeOffice"), ("RunmergeOffice$RunMaker", 40, "RunmergeOffice$Settings", "runWay", "I", "RunmergeOffice"), ("RunmergeOffice$Checker", 65, "RunmergeOffice$Settings", "runWay", "I", "RunmergeOffice"), ("RunmergeOffice$Reader", 134, "RunmergeOffice$Settings", "runWay", "I", "RunmergeOffice"), ("RunmergeOffice", 166, "RunmergeOffice$Settings", "runWay", "I", "RunmergeOffice"), ("RunmergeOffice$RunMaker", 27, "RunmergeOffice$Settings", "memory", "I", "RunmergeOffice"), ("RunmergeOffice$Checker", 89, "RunmergeOffice$Settings", "memory", "I", "RunmergeOffice"), ("RunmergeOffice$Reader", 141, "RunmergeOffice$Settings", "memory", "I", "RunmergeOffice"), ("RunmergeOffice", 160, "RunmergeOffice$Settings", "memory", "I", "RunmergeOffice"), ("RunmergeOffice$Pass", 31, "RunmergeOffice$Settings", "mergeWay", "I", "RunmergeOffice"), ("RunmergeOffice$Checker", 76, "RunmergeOffice$Settings", "mergeWay", "I", "RunmergeOffice"), ("RunmergeOffice$Reader", 146, "RunmergeOffice$Settings", "mergeWay", "I", "RunmergeOffice"), ("RunmergeOffice", 172, "RunmergeOffice$Settings", "mergeWay", "I", "RunmergeOffice"), ("RunmergeOffice$Pass", 36, "RunmergeOffice$Settings", "ways", "I", "RunmergeOffice"), ("RunmergeOffice$Checker", 145, "RunmergeOffice$Settings", "ways", "I", "RunmergeOffice"), ("RunmergeOffice$Reader", 153, "RunmergeOffice$Settings", "ways", "I", "RunmergeOffice"), ("RunmergeOffice", 169, "RunmergeOffice$Settings", "ways", "I", "RunmergeOffice"), ("RunmergeOffice$Job", 92, "RunmergeOffice$RunRow", "lengths", "[I", "RunmergeOffice"), ("RunmergeOffice$Plan", 41, "RunmergeOffice$RunRow", "count", "I", "RunmergeOffice"), ("RunmergeOffice$Job", 74, "RunmergeOffice$RunRow", "count", "I", "RunmergeOffice"), ("RunmergeOffice$Checker", 82, "RunmergeOffice$RunRow", "count", "I", "RunmergeOffice"), ("RunmergeOffice$RunMaker", 88, "RunmergeOffice$RunRow", "count", "I", "RunmergeOffice"), ("RunmergeOffice", 181, "RunmergeOffice$RunRow", "count", "I", "RunmergeOffice"), ("RunmergeOffice$Job", 103, "RunmergeOffice$Pass", "merges", "I", "RunmergeOffice"), ("RunmergeOffice$Plan", 82, "RunmergeOffice$Pass", "merges", "I", "RunmergeOffice"), ("RunmergeOffice", 212, "RunmergeOffice$Pass", "level", "I", "RunmergeOffice"), ("RunmergeOffice", 208, "RunmergeOffice$Plan", "pass", "LRunmergeOffice$Pass;", "RunmergeOffice"), ("RunmergeOffice$Checker", 115, "RunmergeOffice$Plan", "passes", "I", "RunmergeOffice"), ("RunmergeOffice", 199, "RunmergeOffice$Plan", "passes", "I", "RunmergeOffice"), ("RunmergeOffice$Checker", 123, "RunmergeOffice$Plan", "moves", "I", "RunmergeOffice"), ("RunmergeOffice", 202, "RunmergeOffice$Plan", "moves", "I", "RunmergeOffice"), ("RunmergeOffice$Checker", 119, "RunmergeOffice$Plan", "merges", "I", "RunmergeOffice"), ("RunmergeOffice", 205, "RunmergeOffice$Plan", "merges", "I", "RunmergeOffice"), ("RunmergeOffice", 238, "RunmergeOffice$Job", "target", "I", "RunmergeOffice"), ("RunmergeOffice$Checker", 118, "RunmergeOffice$Job", "passes", "I", "RunmergeOffice"), ("RunmergeOffice", 253, "RunmergeOffice$Job", "passes", "I", "RunmergeOffice"), ("RunmergeOffice$Checker", 122, "RunmergeOffice$Job", "merges", "I", "RunmergeOffice"), ("RunmergeOffice", 254, "RunmergeOffice$Job", "merges", "I", "RunmergeOffice"), ("RunmergeOffice$Checker", 129, "RunmergeOffice$Job", "moves", "I", "RunmergeOffice"), ("RunmergeOffice", 255, "RunmergeOffice$Job", "moves", "I", "RunmergeOffice"), ("RunmergeOffice", 256, "RunmergeOffice$Job", "lostMoves", "I", "RunmergeOffice"), ("RunmergeOffice", 259, "RunmergeOffice$Job", "timesTorn", "I", "RunmergeOffice"), ("RunmergeOffice$Reader", 166, "RunmergeOffice$Text", "size", "I", "RunmergeOffice"), ("RunmergeOffice", 309, "RunmergeOffice$Text", "size", "I", "RunmergeOffice"), ("RunmergeOffice", 305, "RunmergeOffice$Reader", "text", "LRunmergeOffice$Text;", "RunmergeOffice"), ("RunmergeOffice", 391, "RunmergeOffice$Reader", "told", "LRunmergeOffice$Settings;", "RunmergeOffice"), ("RunmergeOffice", 379, "RunmergeOffice$Reader", "statementPlace", "I", "RunmergeOffice"), ("RunmergeOffice", 388, "RunmergeOffice$Reader", "action", "I", "RunmergeOffice"), ("RunmergeOffice", 394, "RunmergeOffice$Reader", "how", "I", "RunmergeOffice"), ("RunmergeOffice", 397, "RunmergeOffice$Reader", "isLast", "Z", "RunmergeOffice"), ("RunmergeOffice", 328, "RunmergeOffice$Reader", "faultKind", "I", "RunmergeOffice"), ("RunmergeOffice", 331, "RunmergeOffice$Reader", "faultPlace", "I", "RunmergeOffice"), ("RunmergeOfficeModel", 173, "RunmergeOfficeModel$Job", "to", "I", "RunmergeOfficeModel"), ("RunmergeOfficeModel", 163, "RunmergeOfficeModel$Job", "level", "I", "RunmergeOfficeModel"), ("RunmergeOfficeModel", 158, "RunmergeOfficeModel$Job", "passes", "I", "RunmergeOfficeModel"), ("RunmergeOfficeModel", 160, "RunmergeOfficeModel$Job", "merges", "I", "RunmergeOfficeModel"), ("RunmergeOfficeModel", 152, "RunmergeOfficeModel$Job", "moves", "I", "RunmergeOfficeModel"), ("RunmergeOfficeModel", 192, "RunmergeOfficeModel$Job", "lost", "I", "RunmergeOfficeModel"), ("RunmergeOfficeModel", 195, "RunmergeOfficeModel$Job", "torn", "I", "RunmergeOfficeModel")]
def p_mn : List (String × Nat × MethodName × String) := [("RunmergeOffice", 9, ⟨"RunmergeOffice$Book", "<init>", "()V"⟩, "RunmergeOffice"), ("RunmergeOffice", 25, ⟨"RunmergeOffice$Tape", "<init>", "()V"⟩, "RunmergeOffice"), ("RunmergeOffice", 32, ⟨"RunmergeOffice$Settings", "<init>", "()V"⟩, "RunmergeOffice"), ("RunmergeOffice", 39, ⟨"RunmergeOffice$RunMaker", "<init>", "()V"⟩, "RunmergeOffice"), ("RunmergeOffice", 46, ⟨"RunmergeOffice$RunRow", "<init>", "()V"⟩, "RunmergeOffice"), ("RunmergeOffice", 53, ⟨"RunmergeOffice$Plan", "<init>", "()V"⟩, "RunmergeOffice"), ("RunmergeOffice$Plan", 11, ⟨"RunmergeOffice$Pass", "<init>", "()V"⟩, "RunmergeOffice"), ("RunmergeOffice", 60, ⟨"RunmergeOffice$Job", "<init>", "()V"⟩, "RunmergeOffice"), ("RunmergeOffice$Job", 11, ⟨"RunmergeOffice$RunMaker", "<init>", "()V"⟩, "RunmergeOffice"), ("RunmergeOffice$Job", 20, ⟨"RunmergeOffice$Pass", "<init>", "()V"⟩, "RunmergeOffice"), ("RunmergeOffice$Job", 38, ⟨"RunmergeOffice$RunRow", "<init>", "()V"⟩, "RunmergeOffice"), ("RunmergeOffice", 70, ⟨"RunmergeOffice$Reader", "<init>", "()V"⟩, "RunmergeOffice"), ("RunmergeOffice$Reader", 11, ⟨"RunmergeOffice$Text", "<init>", "()V"⟩, "RunmergeOffice"), ("RunmergeOffice$Reader", 24, ⟨"RunmergeOffice$Settings", "<init>", "()V"⟩, "RunmergeOffice"), ("RunmergeOffice", 77, ⟨"RunmergeOffice$Checker", "<init>", "()V"⟩, "RunmergeOffice"), ("RunmergeOffice$Checker", 11, ⟨"RunmergeOffice$RunMaker", "<init>", "()V"⟩, "RunmergeOffice"), ("RunmergeOffice$Checker", 20, ⟨"RunmergeOffice$Job", "<init>", "()V"⟩, "RunmergeOffice"), ("RunmergeOffice$Checker", 27, ⟨"RunmergeOffice$Plan", "<init>", "()V"⟩, "RunmergeOffice"), ("RunmergeOffice$Checker", 34, ⟨"RunmergeOffice$Settings", "<init>", "()V"⟩, "RunmergeOffice"), ("RunmergeOffice$Checker", 41, ⟨"RunmergeOffice$RunRow", "<init>", "()V"⟩, "RunmergeOffice"), ("RunmergeOffice$Checker", 48, ⟨"RunmergeOffice$Tape", "<init>", "()V"⟩, "RunmergeOffice"), ("RunmergeOfficeModel$Job", 36, ⟨"RunmergeOfficeModel", "runsOf", "([I[I)Ljava/util/List;"⟩, "RunmergeOfficeModel"), ("RunmergeOfficeModel$Job", 93, ⟨"RunmergeOfficeModel", "inserts", "([II)V"⟩, "RunmergeOfficeModel")]
def p_st : List (String × Nat × String) := [("RunmergeOffice$Reader", 68, "sort"), ("RunmergeOffice$Reader", 120, "into"), ("RunmergeOffice$Reader", 125, "up"), ("RunmergeOffice$Reader", 127, "down"), ("RunmergeOffice$Reader", 132, "natural"), ("RunmergeOffice$Reader", 137, "full"), ("RunmergeOffice$Reader", 139, "replace"), ("RunmergeOffice$Reader", 144, "shortest"), ("RunmergeOffice$Reader", 149, "balanced"), ("RunmergeOffice$Reader", 151, "poly"), ("RunmergeOffice$Reader", 82, "copy"), ("RunmergeOffice$Reader", 87, "unite"), ("RunmergeOffice$Reader", 92, "common"), ("RunmergeOffice$Reader", 94, "without"), ("RunmergeOffice$Reader", 96, "last"), ("RunmergeOffice$Reader", 98, "first"), ("RunmergeOffice$Reader", 103, "turn"), ("RunmergeOffice$Reader", 105, "clear"), ("RunmergeOffice", 341, "there is no such tape"), ("RunmergeOffice", 351, "a parameter is out of range"), ("RunmergeOffice", 353, "there is no room for so many records"), ("RunmergeOffice", 111, "the range is out of range"), ("RunmergeOffice", 349, "there is no such record"), ("RunmergeOffice", 140, "there is no such place"), ("RunmergeOffice", 175, "there is no such setting"), ("RunmergeOffice", 357, "there is no such run"), ("RunmergeOffice", 355, "no job is under way"), ("RunmergeOffice", 247, "there is no job"), ("RunmergeOffice", 270, "the tapes cannot be combined"), ("RunmergeOffice", 343, "the tape is not in order"), ("RunmergeOffice", 291, "no key is so small"), ("RunmergeOffice", 294, "no key is so great"), ("RunmergeOffice", 312, "the text would be too long"), ("RunmergeOffice", 316, "sort 0 into 1; sort 0 into 2 full 3 poly 3; sort 0 into 3 natural shortest; first 3;"), ("RunmergeOffice", 318, "sort 0 into 0 replace 2 balanced 3; sort 1 into 1; common 0 1 into 2; without 0 1 into 3; unite 2 3 into 4;"), ("RunmergeOffice", 320, "copy 0 into 5; turn 5; sort 5 into 6 down full 1; last 6; clear 5;"), ("RunmergeOffice", 334, "the text has an error"), ("RunmergeOfficeModel", 221, "sort 0 into 1; sort 0 into 2 full 3 poly 3; sort 0 into 3 natural shortest; first 3;"), ("RunmergeOfficeModel", 223, "sort 0 into 0 replace 2 balanced 3; sort 1 into 1; common 0 1 into 2; without 0 1 into 3; unite 2 3 into 4;"), ("RunmergeOfficeModel", 225, "copy 0 into 5; turn 5; sort 5 into 6 down full 1; last 6; clear 5;"), ("RunmergeOfficeModel", 299, "sort"), ("RunmergeOfficeModel", 271, "into"), ("RunmergeOfficeModel", 283, "up"), ("RunmergeOfficeModel", 285, "down"), ("RunmergeOfficeModel", 287, "natural"), ("RunmergeOfficeModel", 289, "shortest"), ("RunmergeOfficeModel", 291, "full"), ("RunmergeOfficeModel", 293, "replace"), ("RunmergeOfficeModel", 295, "balanced"), ("RunmergeOfficeModel", 297, "poly"), ("RunmergeOfficeModel", 281, ";"), ("RunmergeOfficeModel", 305, "unite"), ("RunmergeOfficeModel", 307, "common"), ("RunmergeOfficeModel", 309, "without"), ("RunmergeOfficeModel", 315, "copy"), ("RunmergeOfficeModel", 320, "first"), ("RunmergeOfficeModel", 322, "last"), ("RunmergeOfficeModel", 324, "turn"), ("RunmergeOfficeModel", 326, "clear")]
abbrev tyL (g : Nat → ClassId) : List (ClassId × FieldType) := [(g 0, .int), (g 1, .object "RunmergeOffice$Tape"), (g 2, .long), (g 3, .double), (g 4, .array .int), (g 5, .object "java/lang/Object")]
def p_ao : List FieldType := [.object "RunmergeOffice$Tape", .object "java/lang/Object", .array .int]
def p_xc : List String := ["java/lang/IndexOutOfBoundsException", "java/lang/IllegalArgumentException", "java/lang/IllegalStateException", "java/util/NoSuchElementException"]
/-- what every method is handed: nest links, texts, the two statics of Throwable -/
def p_fw : List (MethodName × MethodName) := [(⟨"java/util/List", "isEmpty", "()Z"⟩, ⟨"java/util/ArrayList", "isEmpty", "()Z"⟩), (⟨"java/util/List", "size", "()I"⟩, ⟨"java/util/ArrayList", "size", "()I"⟩), (⟨"java/util/List", "add", "(Ljava/lang/Object;)Z"⟩, ⟨"java/util/ArrayList", "add", "(Ljava/lang/Object;)Z"⟩), (⟨"java/util/List", "get", "(I)Ljava/lang/Object;"⟩, ⟨"java/util/ArrayList", "get", "(I)Ljava/lang/Object;"⟩)]
theorem p_fw_ok : ∀ q ∈ p_fw, q.1.cls ≠ "java/lang/invoke/MethodHandle" ∧ q.1.cls ≠ "java/lang/invoke/VarHandle" := by decide +kernel
def GB (g : Nat → ClassId) (A : Nat → Prop) (U : State) : Prop :=
  (∀ q ∈ p_fn, va_Nw (.fieldLinkNest q.1 q.2.1 q.2.2.1 q.2.2.2.1 q.2.2.2.2.1 q.2.2.2.2.2) U) ∧ (∀ q ∈ p_mn, va_Nw (.methodLinkNest q.1 q.2.1 q.2.2.1 q.2.2.2) U) ∧ (∀ q ∈ p_st, ∃ a : Nat, vk_R q.1 q.2.1 q.2.2 a U) ∧
  vx_Zq Bundle.tN "UNASSIGNED_STACK" Bundle.steD A U U.heap ∧ vx_Zq Bundle.tN "SUPPRESSED_SENTINEL" Bundle.listD A U U.heap ∧
  (∀ t ∈ p_ao, (Cond.arrayOver t).before #[] U = true) ∧ (∀ X ∈ p_xc, va_Nw (.castable X X) U) ∧
  va_Z "java/util/ArrayList" "DEFAULTCAPACITY_EMPTY_ELEMENTDATA" "[Ljava/lang/Object;" (.ref (g 10)) A U U.heap ∧ va_T (.object "java/lang/Object") (g 10) 0 (fun _ => .null) A U U.heap ∧ (∀ q ∈ p_fw, va_Fw "java/util/ArrayList" q.1 q.2 U)
theorem GB.go {g : Nat → ClassId} {A B : Nat → Prop} {s U : State} {H : Heap} {locs : List Loc} (h : GB g A s) (hW : s.WarmedH U.vm) (hU : U.heap = H) (hS : va_S A s.heap H locs) (hAB : ∀ q, B q → A q) : GB g B U := by
  obtain ⟨h1, h2, h3, h4, h5, h6, h7, h8, h9, h10⟩ := h
  refine ⟨fun q hq => va_Nw.warmF hW (h1 q hq), fun q hq => va_Nw.warmM hW (h2 q hq), fun q hq => ?_, ?_, ?_, fun t ht => va_tabs rfl (rfl : (s.setVm U.vm).vm = U.vm) (by rw [Cond.arrayOver_setVmC hW.alike]; exact h6 t ht), fun X hX => va_Nw.warmC hW (h7 X hX), ?_, ?_, fun q hq => va_Fw.moved (p_fw_ok q hq) hW.alike (h10 q hq)⟩
  · obtain ⟨a, ha⟩ := h3 q hq
    exact ⟨a, vk_R.warm hW ha⟩
  · rw [hU]; exact (vx_Zq.moved hW.alike (h4.kept hS.2.1)).narrow hAB
  · rw [hU]; exact (vx_Zq.moved hW.alike (h5.kept hS.2.1)).narrow hAB
  · rw [hU]; exact (va_Z.moved hW.alike (h8.kept hS.2.1)).narrow hAB
  · rw [hU]; exact (va_T.moved hW.alike (h9.kept hS.2.1)).narrow hAB
theorem ao_1 {g : Nat → ClassId} {A : Nat → Prop} {U : State} (h : GB g A U) : va_AO "RunmergeOffice$Tape" U := h.2.2.2.2.2.1 _ (List.mem_of_getElem? (l := p_ao) (i := 0) rfl)
theorem ao_2 {g : Nat → ClassId} {A : Nat → Prop} {U : State} (h : GB g A U) : va_AO "java/lang/Object" U := h.2.2.2.2.2.1 _ (List.mem_of_getElem? (l := p_ao) (i := 1) rfl)
theorem ao_3 {g : Nat → ClassId} {A : Nat → Prop} {U : State} (h : GB g A U) : va_AOA .int U := h.2.2.2.2.2.1 _ (List.mem_of_getElem? (l := p_ao) (i := 2) rfl)
/-- a contract's start: the world W, nothing else -/
def PG (D : va_G) (g : Nat → ClassId) (W : va_W) (sz : Nat) (U : State) : Prop := U.heap.size = sz ∧ va_P D vwCl W U.heap ∧ va_K D vwCl (tyL g) U ∧ va_D (fun _ => True) W ∧ GB g (va_A W sz) U
theorem PG_blind {av : List Value} {D : va_G} {g : Nat → ClassId} {W : va_W} {sz : Nat} : FrameBlind (va_Pc av (PG D g W sz)) := by
  intro a U f mk q
  obtain ⟨q0, q1, qP, qK, qD, qG⟩ := q
  exact ⟨q0, q1, qP, va_K.moved (u := U) (U := U.calling f mk a) (Vm.Alike.refl U.vm) qK, qD, qG.go (U := U.calling f mk a) (State.WarmedH.refl U) rfl va_S.rf (fun _ h => h)⟩
theorem PG_call {av : List Value} {D : va_G} {g : Nat → ClassId} {A : Nat → Prop} {wc : va_W} {s : State} {H : Heap} {locs : List Loc} (hK : va_K D vwCl (tyL g) s) (hG : GB g A s) (hS : va_S A s.heap H locs) (hP : va_P D vwCl wc H) (hD : va_D A wc) (hF : ∀ q, va_A wc H.size q → A q) :
    ∀ U : State, U.heap = H → s.WarmedH U.vm → va_Pc av (PG D g wc H.size) av.toArray U := fun U hU hW => ⟨rfl, by rw [hU], by rw [hU]; exact hP, va_K.moved hW.alike hK, hD.weaken (fun _ _ _ _ => trivial), hG.go hW hU hS hF⟩
/-- the same world again: what it holds and all that is new is ours -/
theorem A_mono {A : Nat → Prop} {W : va_W} {sz n : Nat} (hAe : va_A W sz = A) (h : sz ≤ n) : ∀ q, va_A W n q → A q := by
  subst hAe
  intro q hq
  rcases hq with h1 | h1
  · exact Or.inl h1
  · exact Or.inr (Nat.le_trans h h1)
theorem set_same {α : Type} : ∀ (l : List α) (k : Nat) (x : α), l[k]? = some x → l.set k x = l
  | [], k, x, h => by simp at h
  | y :: l, 0, x, h => by simp at h; simp [h]
  | y :: l, k + 1, x, h => by simp at h; simp [set_same l k x h]
theorem A_all {A : Nat → Prop} {W : va_W} {n0 n : Nat} (hD : va_D A W) (hA : ∀ q : Nat, n0 ≤ q → A q) (h : n0 ≤ n) : ∀ q, va_A W n q → A q := by
  intro q hq
  rcases hq with ⟨k, e, h1⟩ | h1
  · exact hD.2 k _ h1
  · exact hA q (Nat.le_trans h h1)
theorem K_one {D : va_G} {cl : List vw_C} {tys : List (ClassId × FieldType)} {U : State} {c1 c2 : ClassId} {ty : FieldType} (h : va_K D cl tys U) (i j : Nat) (h1 : tys[i]? = some (c1, ty)) (h2 : tys[j]? = some (c2, ty)) : c1 = c2 := by
  have a1 := (h.2 i _ h1).2
  have a2 := (h.2 j _ h2).2
  cases ty with
  | object C =>
    obtain ⟨_, _, _, _, _, x1⟩ := a1
    obtain ⟨_, _, _, _, _, x2⟩ := a2
    exact Option.some.inj (x1.symm.trans x2)
  | _ => exact Option.some.inj ((show U.vm.findClass _ = some c1 from a1).symm.trans (show U.vm.findClass _ = some c2 from a2))
theorem F_of {A : Nat → Prop} {s t : State} {H : Heap} {locs : List Loc} (hS : va_S A s.heap H locs) (hz : H.size ≤ t.heap.size) (hk : ∀ q : Nat, q < H.size → t.heap[q]? = H[q]?) : va_F A s t :=
  ⟨Nat.le_trans hS.1 hz, fun q h1 h2 => by rw [hk q (Nat.lt_of_lt_of_le h1 hS.1)]; exact hS.2.1 q h1 h2⟩
section PUTS
variable {p : Program} {l : Launch} {e : Env} {R : Room} {s : State} {m : MethodId} {args : Array Value} {below : List Frame} {meth : Method} {c : Code} {H : Heap} {locs : List Loc} {cells slots : Nat} {Q : State → Prop} {cc : ByteArray} {pc : Nat} {ls : Array Slot} {rest : List Value} {D : va_G} {cl : List vw_C} {tys : List (ClassId × FieldType)} {ws : va_W} {A : Nat → Prop} {H0 : Heap} {a : Nat}
/-- a field is written that holds this value already: the world stays -/
theorem va_putS (hexec : p.tables.exec = Jvm.exec) (hb : c.code = cc) {own ref C : String} {T : u_T} {N ci index : Nat} {Ts : List Cond} (hts : ∀ w ∈ Ts, w.before args s = true) (hin : ∀ w ∈ u_ws C T N, w ∈ Ts) (ty0 : Nat → FieldType) (hty : ∀ k, k < N → parseFieldDescriptor (T k).2.2.1 = some (ty0 k)) (hnm : ∀ a, a < N → ∀ b, b < N → a ≠ b → (T a).2.1 ≠ (T b).2.1) (hown : s.vm.findClass own = some m.cls) (hK : va_K D cl tys s) (hP : va_P D cl ws H) (hD : va_D A ws) (hS0 : va_S A H0 H locs) (q0 : Nat) {fs : List Value} (he : ws[q0]? = some (a, .inr (ci, fs))) (hc : cl[ci]? = some (C, T, N)) (k : Nat) (hk : k < N) (hlink : (Cond.fieldLink own index ref (T k).2.1 (T k).2.2.1).before args s = true) (hsame : ∀ x, s.fieldFound? (T k).1 (T k).2.1 (T k).2.2.1 = some x → s.fieldFound? ref (T k).2.1 (T k).2.2.1 = some x) (hfin : (T k).2.2.2 = false) {ty : FieldType} {v : Value} (hd : parseFieldDescriptor (T k).2.2.1 = some ty) (hn : narrow ty v = v) (hfit : fits ty v = true) (hl : k < fs.length) (hv : fs[k]? = some v)
    (hdg : decode cc pc = .ok (.putfield index, 3)) (kk : ∀ (H1 : Heap) (locs1 : List Loc), va_P D cl ws H1 → va_S A H0 H1 locs1 → W p l e R s m args below meth c H1 locs1 cells slots Q (F0 m (pc + 3) ls rest)) : W p l e R s m args below meth c H locs cells slots Q (F0 m pc ls (v :: .ref a :: rest)) := by
  refine va_put hexec hb hts hin ty0 hty hnm hown hK hP hD hS0 q0 he hc k hk hlink hsame hfin hd hn hfit hl hdg (fun H1 locs1 h1 _ h3 => kk H1 locs1 ?_ h3)
  rw [set_same fs k v hv, set_same ws q0 _ he] at h1
  exact h1
theorem va_putNS (hexec : p.tables.exec = Jvm.exec) (hb : c.code = cc) {own ref C host : String} {T : u_T} {N ci index : Nat} {Ts : List Cond} (hts : ∀ w ∈ Ts, w.before args s = true) (hin : ∀ w ∈ u_ws C T N, w ∈ Ts) (ty0 : Nat → FieldType) (hty : ∀ k, k < N → parseFieldDescriptor (T k).2.2.1 = some (ty0 k)) (hnm : ∀ a, a < N → ∀ b, b < N → a ≠ b → (T a).2.1 ≠ (T b).2.1) (hown : s.vm.findClass own = some m.cls) (hK : va_K D cl tys s) (hP : va_P D cl ws H) (hD : va_D A ws) (hS0 : va_S A H0 H locs) (q0 : Nat) {fs : List Value} (he : ws[q0]? = some (a, .inr (ci, fs))) (hc : cl[ci]? = some (C, T, N)) (k : Nat) (hk : k < N) (hlink : (Cond.fieldLinkNest own index ref (T k).2.1 (T k).2.2.1 host).before args s = true) (hsame : ∀ x, s.fieldFound? (T k).1 (T k).2.1 (T k).2.2.1 = some x → s.fieldFound? ref (T k).2.1 (T k).2.2.1 = some x) (hfin : (T k).2.2.2 = false) {ty : FieldType} {v : Value} (hd : parseFieldDescriptor (T k).2.2.1 = some ty) (hn : narrow ty v = v) (hfit : fits ty v = true) (hl : k < fs.length) (hv : fs[k]? = some v)
    (hdg : decode cc pc = .ok (.putfield index, 3)) (kk : ∀ (H1 : Heap) (locs1 : List Loc), va_P D cl ws H1 → va_S A H0 H1 locs1 → W p l e R s m args below meth c H1 locs1 cells slots Q (F0 m (pc + 3) ls rest)) : W p l e R s m args below meth c H locs cells slots Q (F0 m pc ls (v :: .ref a :: rest)) := by
  refine va_putN hexec hb hts hin ty0 hty hnm hown hK hP hD hS0 q0 he hc k hk hlink hsame hfin hd hn hfit hl hdg (fun H1 locs1 h1 _ h3 => kk H1 locs1 ?_ h3)
  rw [set_same fs k v hv, set_same ws q0 _ he] at h1
  exact h1
end PUTS
theorem vin_lt {i b : Int32} {n : Nat} (h0 : ¬ i < 0) (h1 : i < b) (hb : b.toInt = n) : vp_in i n := by
  refine vp_in_iff.mpr ⟨?_, ?_⟩
  · have h2 : ¬ i.toInt < (0 : Int32).toInt := fun h => h0 (Int32.lt_iff_toInt_lt.mpr h)
    have h3 : (0 : Int32).toInt = 0 := by decide
    omega
  · have h2 := Int32.lt_iff_toInt_lt.mp h1
    omega
def TOKb (x : Int32) : Bool := decide (0 ≤ x) && decide (x ≤ 7)
def rngb (x a b : Int32) : Bool := decide (a ≤ x) && decide (x ≤ b)
/-- what the reference calls thrown: the first of three that does not hold -/
def cd (b1 b2 b3 : Bool) : Int32 := match b1 with
  | false => 1
  | true => match b2 with
    | false => 2
    | true => match b3 with
      | false => 3
      | true => 0
def b2i (b : Bool) : Int32 := match b with
  | false => 0
  | true => 1
theorem i_nlt {a b : Int32} : ¬ a < b ↔ b ≤ a := by
  rw [Int32.lt_iff_toInt_lt, Int32.le_iff_toInt_le]; omega
theorem i_nle {a b : Int32} : ¬ a ≤ b ↔ b < a := by
  rw [Int32.lt_iff_toInt_lt, Int32.le_iff_toInt_le]; omega
theorem TOK_t {x : Int32} (h0 : ¬ x < 0) (h1 : x < 8) : TOKb x = true := by
  have h2 : (0 : Int32) ≤ x := i_nlt.mp h0
  have h3 : x ≤ 7 := by
    rw [Int32.lt_iff_toInt_lt] at h1; rw [Int32.le_iff_toInt_le]
    have e1 : (8 : Int32).toInt = 8 := by decide
    have e2 : (7 : Int32).toInt = 7 := by decide
    omega
  simp [TOKb, h2, h3]
theorem TOK_n {x : Int32} (h0 : x < 0) : TOKb x = false := by
  have h2 : ¬ (0 : Int32) ≤ x := i_nle.mpr h0
  simp [TOKb, h2]
theorem TOK_8 {x : Int32} (h : ¬ x < 8) : TOKb x = false := by
  have h3 : ¬ x ≤ 7 := by
    rw [Int32.lt_iff_toInt_lt] at h; rw [Int32.le_iff_toInt_le]
    have e1 : (8 : Int32).toInt = 8 := by decide
    have e2 : (7 : Int32).toInt = 7 := by decide
    omega
  simp [TOKb, h3]
theorem TOK_ex {x : Int32} (h : TOKb x = true) : ∃ j : Nat, j < 8 ∧ x = nI j := by
  simp only [TOKb, Bool.and_eq_true, decide_eq_true_eq] at h
  obtain ⟨j, hj, rfl⟩ := nI_of2 (M := 7) (n := 7) (by decide) (i_nlt.mpr h.1) h.2
  exact ⟨j, by omega, rfl⟩
theorem rng_t {x a b : Int32} (h0 : ¬ x < a) (h1 : ¬ b < x) : rngb x a b = true := by
  simp [rngb, i_nlt.mp h0, i_nlt.mp h1]
theorem rng_lo {x a b : Int32} (h : x < a) : rngb x a b = false := by
  simp [rngb, i_nle.mpr h]
theorem rng_hi {x a b : Int32} (h : b < x) : rngb x a b = false := by
  simp [rngb, i_nle.mpr h]
theorem rng_f {x a b : Int32} (h : x < a ∨ b < x) : rngb x a b = false := h.elim rng_lo rng_hi
theorem TOK_j {x : Int32} {j : Nat} (h : j < 8) (e : x = nI j) : TOKb x = true := by
  have h1 : (nI j).toInt = (j : Int) := nI_toInt (by omega)
  have e1 : (0 : Int32).toInt = 0 := by decide
  have e2 : (7 : Int32).toInt = 7 := by decide
  have h2 : (0 : Int32) ≤ nI j := by rw [Int32.le_iff_toInt_le, h1, e1]; omega
  have h3 : nI j ≤ 7 := by rw [Int32.le_iff_toInt_le, h1, e2]; omega
  subst e
  simp [TOKb, h2, h3]
theorem sw_in {x : Int32} {n : Nat} (hn : n < 2 ^ 31) : (∃ j, j ≤ n ∧ x = nI j) ∨ (x.toInt < 0 ∨ (n : Int) < x.toInt) := by
  by_cases h : x < 0
  · refine Or.inr (Or.inl ?_)
    rw [Int32.lt_iff_toInt_lt] at h
    have e1 : (0 : Int32).toInt = 0 := by decide
    omega
  · obtain ⟨j, hj, rfl⟩ := nI_of h
    rcases Nat.lt_or_ge n j with q | q
    · exact Or.inr (Or.inr (by rw [nI_toInt hj]; omega))
    · exact Or.inl ⟨j, q, rfl⟩
theorem sw_0_4 (x : Int32) : x = 0 ∨ x = 1 ∨ x = 2 ∨ x = 3 ∨ x = 4 ∨ (x.toInt < 0 ∨ 4 < x.toInt) := by
  rcases sw_in (x := x) (n := 4) (by decide) with ⟨j, hj, rfl⟩ | h
  · match j, hj with
    | 0, _ => exact Or.inl rfl
    | 1, _ => exact Or.inr (Or.inl rfl)
    | 2, _ => exact Or.inr (Or.inr (Or.inl rfl))
    | 3, _ => exact Or.inr (Or.inr (Or.inr (Or.inl rfl)))
    | 4, _ => exact Or.inr (Or.inr (Or.inr (Or.inr (Or.inl rfl))))
  · exact Or.inr (Or.inr (Or.inr (Or.inr (Or.inr h))))
theorem sw_0_2 (x : Int32) : x = 0 ∨ x = 1 ∨ x = 2 ∨ (x.toInt < 0 ∨ 2 < x.toInt) := by
  rcases sw_in (x := x) (n := 2) (by decide) with ⟨j, hj, rfl⟩ | h
  · match j, hj with
    | 0, _ => exact Or.inl rfl
    | 1, _ => exact Or.inr (Or.inl rfl)
    | 2, _ => exact Or.inr (Or.inr (Or.inl rfl))
  · exact Or.inr (Or.inr (Or.inr h))
theorem rng_sw {x : Int32} {n : Nat} {b : Int32} (hb : b.toInt = n) (h : x.toInt < 0 ∨ (n : Int) < x.toInt) : rngb x 0 b = false := by
  rcases h with h | h
  · refine rng_lo ?_
    rw [Int32.lt_iff_toInt_lt]
    exact h
  · refine rng_hi ?_
    rw [Int32.lt_iff_toInt_lt]; omega
/-- the settings of a new office -/
def stv (x : Int32) : Int32 := if x = 1 then 1 else if x = 2 then 4 else if x = 4 then 2 else 0
theorem W_abs {p : Program} {l : Launch} {e : Env} {R : Room} {s : State} {m : MethodId} {args : Array Value} {below : List Frame} {meth : Method} {c : Code} {H : Heap} {locs : List Loc} {cells slots : Nat} {Q0 : State → Prop} {f : JFrame} (k : ∀ Q : State → Prop, Q = Q0 → W p l e R s m args below meth c H locs cells slots Q f) : W p l e R s m args below meth c H locs cells slots Q0 f := k Q0 rfl
theorem rng_ex {x b : Int32} {n : Nat} (h : rngb x 0 b = true) (hb : b.toInt = n) : ∃ j : Nat, j ≤ n ∧ x = nI j := by
  simp only [rngb, Bool.and_eq_true, decide_eq_true_eq] at h
  exact nI_of2 hb (i_nlt.mpr h.1) h.2
theorem room_a {m : Int32} (h : rngb m 0 50 = true) : ¬ (200 : Int32) < 0 + m := by
  obtain ⟨j, hj, rfl⟩ := rng_ex (n := 50) h (by decide)
  rw [Int32.zero_add]
  exact nI_nlt (b := j) (a := 200) (by omega) (by decide)
theorem room_b {m : Int32} (h : rngb m 0 50 = true) : 0 + m ≤ (100 : Int32) := by
  obtain ⟨j, hj, rfl⟩ := rng_ex (n := 50) h (by decide)
  rw [Int32.zero_add]
  exact nI_le (b := 100) (by omega) (by decide)
theorem rng_0 {x b : Int32} (h : rngb x 0 b = true) (h1 : x ≤ 0) : x = 0 := by
  simp only [rngb, Bool.and_eq_true, decide_eq_true_eq] at h
  have h2 := h.1
  rw [Int32.le_iff_toInt_le] at h1 h2
  exact Int32.toInt_inj.mp (by omega)
theorem rg_ne {x : Int32} (h : rngb x 1 999 = true) : ¬ x.toInt64 = 0 := by
  simp only [rngb, Bool.and_eq_true, decide_eq_true_eq] at h
  intro h0
  have h1 := h.1
  rw [Int32.le_iff_toInt_le] at h1
  have h2 : x.toInt64.toInt = x.toInt := Int32.toInt_toInt64 x
  rw [h0] at h2
  have e1 : (1 : Int32).toInt = 1 := by decide
  have e2 : (0 : Int64).toInt = 0 := by decide
  omega
theorem AOA_at {s : State} (h : va_AOA .int s) : ∃ (comp c : ClassId) (k : Class), s.vm.findClass "[I" = some comp ∧ s.vm.classes[c]? = some k ∧ k.kind = .array comp (.array .int) ∧ s.vm.findClass "[[I" = some c := by
  have h : (Cond.arrayOver (.array .int)).holds #[] s none s [] = true := h
  simp only [Cond.holds, Cond.value, beq_iff_eq] at h
  cases hc : s.vm.findClass (FieldType.array .int).toString with
  | none => simp [hc] at h
  | some comp =>
    simp only [hc, Option.bind_some, Option.bind_eq_some_iff, Option.map_eq_some_iff] at h
    obtain ⟨c, hi, k, hk, hb⟩ := h
    obtain ⟨hlt, hp, -⟩ := Array.findIdx?_eq_some_iff_getElem.mp hi
    have hkk : s.vm.classes[c] = k := (Array.getElem?_eq_some_iff.mp hk).2
    rw [hkk] at hp
    cases hkind : k.kind with
    | array component ty =>
      rw [hkind] at hb hp
      simp at hb hp
      exact ⟨comp, c, k, hc, hk, by rw [hkind, hp, hb.1], hb.2⟩
    | _ => rw [hkind] at hb; simp at hb
section ROWA
variable {p : Program} {l : Launch} {e : Env} {R : Room} {s : State} {m : MethodId} {args : Array Value} {below : List Frame} {meth : Method} {c : Code} {H : Heap} {locs : List Loc} {cells slots : Nat} {Q : State → Prop} {cc : ByteArray} {pc : Nat} {ls : Array Slot} {rest : List Value} {D : va_G} {cl : List vw_C} {g : Nat → ClassId} {ws : va_W} {A : Nat → Prop} {H0 : Heap} {a : Nat}
/-- a row of an array of rows -/
theorem va_aldA (hexec : p.tables.exec = Jvm.exec) (hb : c.code = cc) (hK : va_K D cl (tyL g) s) (hP : va_P D cl ws H) (q0 : Nat) {n : Nat} {f : Nat → Option Nat} (ha : ws[q0]? = some (a, .inl (g 4, n, .inr (.inr (.inr (.inr f)))))) {i : Int32} (hin : vp_in i n) (hdg : decode cc pc = .ok (.aaload, 1))
    (kk : W p l e R s m args below meth c H locs cells slots Q (F0 m (pc + 1) ls (va_rf (f i.toNatClampNeg) :: rest))) : W p l e R s m args below meth c H locs cells slots Q (F0 m pc ls (.int i :: .ref a :: rest)) := by
  have hlt : i.toNatClampNeg < n := Nat.not_le.mp fun q => hin (Or.inr q)
  exact W.aald (v := va_rf (f i.toNatClampNeg)) (ty := .array .int) hexec hb (hP q0 _ ha) ((hK.2 4 _ rfl).1 n (fun j => va_rf (f j))) rfl (fun q => by cases q) (by show ¬ (i < 0 ∨ (arrV _ _ _).slots.size ≤ _); rw [arrV_size]; exact hin) (by show (arrV _ _ _).slots[_]? = _; rw [arrV_read _ _ hlt]) rfl rfl hdg kk
/-- a row is put into an array of rows -/
theorem va_astA (hexec : p.tables.exec = Jvm.exec) (hb : c.code = cc) (hK : va_K D cl (tyL g) s) (hao : va_AOA .int s) (hP : va_P D cl ws H) (hD : va_D A ws) (hS : va_S A H0 H locs) (q0 qk : Nat) {n v nv : Nat} {f : Nat → Option Nat} {fv : Nat → Int32} (ha : ws[q0]? = some (a, .inl (g 4, n, .inr (.inr (.inr (.inr f)))))) (hv : ws[qk]? = some (v, .inl (g 0, nv, .inl fv))) {i : Int32} (hin : vp_in i n) (hdg : decode cc pc = .ok (.aastore, 1))
    (kk : ∀ (H1 : Heap) (locs1 : List Loc), va_P D cl (ws.set q0 (a, .inl (g 4, n, .inr (.inr (.inr (.inr (va_up f i.toNatClampNeg (some v)))))))) H1 → va_D A (ws.set q0 (a, .inl (g 4, n, .inr (.inr (.inr (.inr (va_up f i.toNatClampNeg (some v)))))))) → va_S A H0 H1 locs1 → W p l e R s m args below meth c H1 locs1 cells slots Q (F0 m (pc + 1) ls rest)) : W p l e R s m args below meth c H locs cells slots Q (F0 m pc ls (.ref v :: .int i :: .ref a :: rest)) := by
  have hlt : i.toNatClampNeg < n := Nat.not_le.mp fun q => hin (Or.inr q)
  have h0 : ¬ i < 0 := fun q => hin (Or.inl q)
  have g1 : H[v]? = some (arrV (g 0) nv (fun j => .int (fv j))) := hP qk _ hv
  obtain ⟨comp, c4, k4, f1, f2, f3, f4⟩ := AOA_at hao
  have e4 : s.vm.findClass "[[I" = some (g 4) := (hK.2 4 _ rfl).2
  have e0 : s.vm.findClass "[I" = some (g 0) := (hK.2 0 _ rfl).2
  obtain rfl : c4 = g 4 := Option.some.inj (f4.symm.trans e4)
  obtain rfl : comp = g 0 := Option.some.inj (f1.symm.trans e0)
  obtain ⟨kC, hkC, -⟩ := Vm.findClass_spec e0
  refine W.aast hexec hb (hP q0 _ ha) (fun q h => by cases h) (fun h => by cases h) f2 f3 rfl hkC ⟨h0, by show _ < (arrV _ _ _).slots.size; rw [arrV_size]; exact hlt⟩ g1 (fun q h => by cases h) hkC (by simp [arrV, Vm.assignable, Vm.assignableAux]) rfl rfl hdg fun H1 e z oq => ?_
  refine kk H1 _ (hP.set hD ha ?_ oq) (hD.set ha) (hS.put z oq (hD.2 q0 _ ha))
  show H1[a]? = some (vp_cell _ _)
  rw [e]
  rw [vp_cell_q, vp_cell_q, arrV_store]
  congr 2
  funext q
  by_cases hq : q = i.toNatClampNeg
  · subst hq
    simp [updV, va_up, va_rf]
  · simp [updV, va_up, hq]
end ROWA
theorem b2i_0 {B : Bool} (h : b2i B = 0) : B = false := by
  cases B with
  | false => rfl
  | true => exact absurd h (by decide)
theorem b2i_1 {B : Bool} (h : ¬ b2i B = 0) : B = true := by
  cases B with
  | false => exact absurd rfl h
  | true => rfl
theorem cd_0 {b1 b2 b3 : Bool} : cd b1 b2 b3 = 0 ↔ (b1 && b2 && b3) = true := by
  cases b1 <;> cases b2 <;> cases b3 <;> decide

theorem nf_0 {g : Nat → ClassId} {A : Nat → Prop} {U : State} {args : Array Value} (h : GB g A U) : (Cond.fieldLinkNest "RunmergeOffice" 125 "RunmergeOffice$Book" "count" "I" "RunmergeOffice").before args U = true := va_Nw.use rfl (h.1 _ (List.mem_of_getElem? (l := p_fn) (i := 0) rfl))
theorem nf_1 {g : Nat → ClassId} {A : Nat → Prop} {U : State} {args : Array Value} (h : GB g A U) : (Cond.fieldLinkNest "RunmergeOffice$Job" 87 "RunmergeOffice$Tape" "size" "I" "RunmergeOffice").before args U = true := va_Nw.use rfl (h.1 _ (List.mem_of_getElem? (l := p_fn) (i := 1) rfl))
theorem nf_2 {g : Nat → ClassId} {A : Nat → Prop} {U : State} {args : Array Value} (h : GB g A U) : (Cond.fieldLinkNest "RunmergeOffice$RunMaker" 57 "RunmergeOffice$Tape" "size" "I" "RunmergeOffice").before args U = true := va_Nw.use rfl (h.1 _ (List.mem_of_getElem? (l := p_fn) (i := 2) rfl))
theorem nf_3 {g : Nat → ClassId} {A : Nat → Prop} {U : State} {args : Array Value} (h : GB g A U) : (Cond.fieldLinkNest "RunmergeOffice" 105 "RunmergeOffice$Tape" "size" "I" "RunmergeOffice").before args U = true := va_Nw.use rfl (h.1 _ (List.mem_of_getElem? (l := p_fn) (i := 3) rfl))
theorem nf_4 {g : Nat → ClassId} {A : Nat → Prop} {U : State} {args : Array Value} (h : GB g A U) : (Cond.fieldLinkNest "RunmergeOffice$Checker" 126 "RunmergeOffice$Tape" "size" "I" "RunmergeOffice").before args U = true := va_Nw.use rfl (h.1 _ (List.mem_of_getElem? (l := p_fn) (i := 4) rfl))
theorem nf_5 {g : Nat → ClassId} {A : Nat → Prop} {U : State} {args : Array Value} (h : GB g A U) : (Cond.fieldLinkNest "RunmergeOffice$RunMaker" 43 "RunmergeOffice$Settings" "order" "I" "RunmergeOffice").before args U = true := va_Nw.use rfl (h.1 _ (List.mem_of_getElem? (l := p_fn) (i := 5) rfl))
theorem nf_6 {g : Nat → ClassId} {A : Nat → Prop} {U : State} {args : Array Value} (h : GB g A U) : (Cond.fieldLinkNest "RunmergeOffice$Checker" 96 "RunmergeOffice$Settings" "order" "I" "RunmergeOffice").before args U = true := va_Nw.use rfl (h.1 _ (List.mem_of_getElem? (l := p_fn) (i := 6) rfl))
theorem nf_7 {g : Nat → ClassId} {A : Nat → Prop} {U : State} {args : Array Value} (h : GB g A U) : (Cond.fieldLinkNest "RunmergeOffice$Reader" 129 "RunmergeOffice$Settings" "order" "I" "RunmergeOffice").before args U = true := va_Nw.use rfl (h.1 _ (List.mem_of_getElem? (l := p_fn) (i := 7) rfl))
theorem nf_8 {g : Nat → ClassId} {A : Nat → Prop} {U : State} {args : Array Value} (h : GB g A U) : (Cond.fieldLinkNest "RunmergeOffice" 163 "RunmergeOffice$Settings" "order" "I" "RunmergeOffice").before args U = true := va_Nw.use rfl (h.1 _ (List.mem_of_getElem? (l := p_fn) (i := 8) rfl))
theorem nf_9 {g : Nat → ClassId} {A : Nat → Prop} {U : State} {args : Array Value} (h : GB g A U) : (Cond.fieldLinkNest "RunmergeOffice$RunMaker" 40 "RunmergeOffice$Settings" "runWay" "I" "RunmergeOffice").before args U = true := va_Nw.use rfl (h.1 _ (List.mem_of_getElem? (l := p_fn) (i := 9) rfl))
theorem nf_10 {g : Nat → ClassId} {A : Nat → Prop} {U : State} {args : Array Value} (h : GB g A U) : (Cond.fieldLinkNest "RunmergeOffice$Checker" 65 "RunmergeOffice$Settings" "runWay" "I" "RunmergeOffice").before args U = true := va_Nw.use rfl (h.1 _ (List.mem_of_getElem? (l := p_fn) (i := 10) rfl))
theorem nf_11 {g : Nat → ClassId} {A : Nat → Prop} {U : State} {args : Array Value} (h : GB g A U) : (Cond.fieldLinkNest "RunmergeOffice$Reader" 134 "RunmergeOffice$Settings" "runWay" "I" "RunmergeOffice").before args U = true := va_Nw.use rfl (h.1 _ (List.mem_of_getElem? (l := p_fn) (i := 11) rfl))
theorem nf_12 {g : Nat → ClassId} {A : Nat → Prop} {U : State} {args : Array Value} (h : GB g A U) : (Cond.fieldLinkNest "RunmergeOffice" 166 "RunmergeOffice$Settings" "runWay" "I" "RunmergeOffice").before args U = true := va_Nw.use rfl (h.1 _ (List.mem_of_getElem? (l := p_fn) (i := 12) rfl))
theorem nf_13 {g : Nat → ClassId} {A : Nat → Prop} {U : State} {args : Array Value} (h : GB g A U) : (Cond.fieldLinkNest "RunmergeOffice$RunMaker" 27 "RunmergeOffice$Settings" "memory" "I" "RunmergeOffice").before args U = true := va_Nw.use rfl (h.1 _ (List.mem_of_getElem? (l := p_fn) (i := 13) rfl))
theorem nf_14 {g : Nat → ClassId} {A : Nat → Prop} {U : State} {args : Array Value} (h : GB g A U) : (Cond.fieldLinkNest "RunmergeOffice$Checker" 89 "RunmergeOffice$Settings" "memory" "I" "RunmergeOffice").before args U = true := va_Nw.use rfl (h.1 _ (List.mem_of_getElem? (l := p_fn) (i := 14) rfl))
theorem nf_15 {g : Nat → ClassId} {A : Nat → Prop} {U : State} {args : Array Value} (h : GB g A U) : (Cond.fieldLinkNest "RunmergeOffice$Reader" 141 "RunmergeOffice$Settings" "memory" "I" "RunmergeOffice").before args U = true := va_Nw.use rfl (h.1 _ (List.mem_of_getElem? (l := p_fn) (i := 15) rfl))
theorem nf_16 {g : Nat → ClassId} {A : Nat → Prop} {U : State} {args : Array Value} (h : GB g A U) : (Cond.fieldLinkNest "RunmergeOffice" 160 "RunmergeOffice$Settings" "memory" "I" "RunmergeOffice").before args U = true := va_Nw.use rfl (h.1 _ (List.mem_of_getElem? (l := p_fn) (i := 16) rfl))
theorem nf_17 {g : Nat → ClassId} {A : Nat → Prop} {U : State} {args : Array Value} (h : GB g A U) : (Cond.fieldLinkNest "RunmergeOffice$Pass" 31 "RunmergeOffice$Settings" "mergeWay" "I" "RunmergeOffice").before args U = true := va_Nw.use rfl (h.1 _ (List.mem_of_getElem? (l := p_fn) (i := 17) rfl))
theorem nf_18 {g : Nat → ClassId} {A : Nat → Prop} {U : State} {args : Array Value} (h : GB g A U) : (Cond.fieldLinkNest "RunmergeOffice$Checker" 76 "RunmergeOffice$Settings" "mergeWay" "I" "RunmergeOffice").before args U = true := va_Nw.use rfl (h.1 _ (List.mem_of_getElem? (l := p_fn) (i := 18) rfl))
theorem nf_19 {g : Nat → ClassId} {A : Nat → Prop} {U : State} {args : Array Value} (h : GB g A U) : (Cond.fieldLinkNest "RunmergeOffice$Reader" 146 "RunmergeOffice$Settings" "mergeWay" "I" "RunmergeOffice").before args U = true := va_Nw.use rfl (h.1 _ (List.mem_of_getElem? (l := p_fn) (i := 19) rfl))
theorem nf_20 {g : Nat → ClassId} {A : Nat → Prop} {U : State} {args : Array Value} (h : GB g A U) : (Cond.fieldLinkNest "RunmergeOffice" 172 "RunmergeOffice$Settings" "mergeWay" "I" "RunmergeOffice").before args U = true := va_Nw.use rfl (h.1 _ (List.mem_of_getElem? (l := p_fn) (i := 20) rfl))
theorem nf_21 {g : Nat → ClassId} {A : Nat → Prop} {U : State} {args : Array Value} (h : GB g A U) : (Cond.fieldLinkNest "RunmergeOffice$Pass" 36 "RunmergeOffice$Settings" "ways" "I" "RunmergeOffice").before args U = true := va_Nw.use rfl (h.1 _ (List.mem_of_getElem? (l := p_fn) (i := 21) rfl))
theorem nf_22 {g : Nat → ClassId} {A : Nat → Prop} {U : State} {args : Array Value} (h : GB g A U) : (Cond.fieldLinkNest "RunmergeOffice$Checker" 145 "RunmergeOffice$Settings" "ways" "I" "RunmergeOffice").before args U = true := va_Nw.use rfl (h.1 _ (List.mem_of_getElem? (l := p_fn) (i := 22) rfl))
theorem nf_23 {g : Nat → ClassId} {A : Nat → Prop} {U : State} {args : Array Value} (h : GB g A U) : (Cond.fieldLinkNest "RunmergeOffice$Reader" 153 "RunmergeOffice$Settings" "ways" "I" "RunmergeOffice").before args U = true := va_Nw.use rfl (h.1 _ (List.mem_of_getElem? (l := p_fn) (i := 23) rfl))
theorem nf_24 {g : Nat → ClassId} {A : Nat → Prop} {U : State} {args : Array Value} (h : GB g A U) : (Cond.fieldLinkNest "RunmergeOffice" 169 "RunmergeOffice$Settings" "ways" "I" "RunmergeOffice").before args U = true := va_Nw.use rfl (h.1 _ (List.mem_of_getElem? (l := p_fn) (i := 24) rfl))
theorem nf_25 {g : Nat → ClassId} {A : Nat → Prop} {U : State} {args : Array Value} (h : GB g A U) : (Cond.fieldLinkNest "RunmergeOffice$Job" 92 "RunmergeOffice$RunRow" "lengths" "[I" "RunmergeOffice").before args U = true := va_Nw.use rfl (h.1 _ (List.mem_of_getElem? (l := p_fn) (i := 25) rfl))
theorem nf_26 {g : Nat → ClassId} {A : Nat → Prop} {U : State} {args : Array Value} (h : GB g A U) : (Cond.fieldLinkNest "RunmergeOffice$Plan" 41 "RunmergeOffice$RunRow" "count" "I" "RunmergeOffice").before args U = true := va_Nw.use rfl (h.1 _ (List.mem_of_getElem? (l := p_fn) (i := 26) rfl))
theorem nf_27 {g : Nat → ClassId} {A : Nat → Prop} {U : State} {args : Array Value} (h : GB g A U) : (Cond.fieldLinkNest "RunmergeOffice$Job" 74 "RunmergeOffice$RunRow" "count" "I" "RunmergeOffice").before args U = true := va_Nw.use rfl (h.1 _ (List.mem_of_getElem? (l := p_fn) (i := 27) rfl))
theorem nf_28 {g : Nat → ClassId} {A : Nat → Prop} {U : State} {args : Array Value} (h : GB g A U) : (Cond.fieldLinkNest "RunmergeOffice$Checker" 82 "RunmergeOffice$RunRow" "count" "I" "RunmergeOffice").before args U = true := va_Nw.use rfl (h.1 _ (List.mem_of_getElem? (l := p_fn) (i := 28) rfl))
theorem nf_29 {g : Nat → ClassId} {A : Nat → Prop} {U : State} {args : Array Value} (h : GB g A U) : (Cond.fieldLinkNest "RunmergeOffice$RunMaker" 88 "RunmergeOffice$RunRow" "count" "I" "RunmergeOffice").before args U = true := va_Nw.use rfl (h.1 _ (List.mem_of_getElem? (l := p_fn) (i := 29) rfl))
theorem nf_30 {g : Nat → ClassId} {A : Nat → Prop} {U : State} {args : Array Value} (h : GB g A U) : (Cond.fieldLinkNest "RunmergeOffice" 181 "RunmergeOffice$RunRow" "count" "I" "RunmergeOffice").before args U = true := va_Nw.use rfl (h.1 _ (List.mem_of_getElem? (l := p_fn) (i := 30) rfl))
theorem nf_31 {g : Nat → ClassId} {A : Nat → Prop} {U : State} {args : Array Value} (h : GB g A U) : (Cond.fieldLinkNest "RunmergeOffice$Job" 103 "RunmergeOffice$Pass" "merges" "I" "RunmergeOffice").before args U = true := va_Nw.use rfl (h.1 _ (List.mem_of_getElem? (l := p_fn) (i := 31) rfl))
theorem nf_32 {g : Nat → ClassId} {A : Nat → Prop} {U : State} {args : Array Value} (h : GB g A U) : (Cond.fieldLinkNest "RunmergeOffice$Plan" 82 "RunmergeOffice$Pass" "merges" "I" "RunmergeOffice").before args U = true := va_Nw.use rfl (h.1 _ (List.mem_of_getElem? (l := p_fn) (i := 32) rfl))
theorem nf_33 {g : Nat → ClassId} {A : Nat → Prop} {U : State} {args : Array Value} (h : GB g A U) : (Cond.fieldLinkNest "RunmergeOffice" 212 "RunmergeOffice$Pass" "level" "I" "RunmergeOffice").before args U = true := va_Nw.use rfl (h.1 _ (List.mem_of_getElem? (l := p_fn) (i := 33) rfl))
theorem nf_34 {g : Nat → ClassId} {A : Nat → Prop} {U : State} {args : Array Value} (h : GB g A U) : (Cond.fieldLinkNest "RunmergeOffice" 208 "RunmergeOffice$Plan" "pass" "LRunmergeOffice$Pass;" "RunmergeOffice").before args U = true := va_Nw.use rfl (h.1 _ (List.mem_of_getElem? (l := p_fn) (i := 34) rfl))
theorem nf_35 {g : Nat → ClassId} {A : Nat → Prop} {U : State} {args : Array Value} (h : GB g A U) : (Cond.fieldLinkNest "RunmergeOffice$Checker" 115 "RunmergeOffice$Plan" "passes" "I" "RunmergeOffice").before args U = true := va_Nw.use rfl (h.1 _ (List.mem_of_getElem? (l := p_fn) (i := 35) rfl))
theorem nf_36 {g : Nat → ClassId} {A : Nat → Prop} {U : State} {args : Array Value} (h : GB g A U) : (Cond.fieldLinkNest "RunmergeOffice" 199 "RunmergeOffice$Plan" "passes" "I" "RunmergeOffice").before args U = true := va_Nw.use rfl (h.1 _ (List.mem_of_getElem? (l := p_fn) (i := 36) rfl))
theorem nf_37 {g : Nat → ClassId} {A : Nat → Prop} {U : State} {args : Array Value} (h : GB g A U) : (Cond.fieldLinkNest "RunmergeOffice$Checker" 123 "RunmergeOffice$Plan" "moves" "I" "RunmergeOffice").before args U = true := va_Nw.use rfl (h.1 _ (List.mem_of_getElem? (l := p_fn) (i := 37) rfl))
theorem nf_38 {g : Nat → ClassId} {A : Nat → Prop} {U : State} {args : Array Value} (h : GB g A U) : (Cond.fieldLinkNest "RunmergeOffice" 202 "RunmergeOffice$Plan" "moves" "I" "RunmergeOffice").before args U = true := va_Nw.use rfl (h.1 _ (List.mem_of_getElem? (l := p_fn) (i := 38) rfl))
theorem nf_39 {g : Nat → ClassId} {A : Nat → Prop} {U : State} {args : Array Value} (h : GB g A U) : (Cond.fieldLinkNest "RunmergeOffice$Checker" 119 "RunmergeOffice$Plan" "merges" "I" "RunmergeOffice").before args U = true := va_Nw.use rfl (h.1 _ (List.mem_of_getElem? (l := p_fn) (i := 39) rfl))
theorem nf_40 {g : Nat → ClassId} {A : Nat → Prop} {U : State} {args : Array Value} (h : GB g A U) : (Cond.fieldLinkNest "RunmergeOffice" 205 "RunmergeOffice$Plan" "merges" "I" "RunmergeOffice").before args U = true := va_Nw.use rfl (h.1 _ (List.mem_of_getElem? (l := p_fn) (i := 40) rfl))
theorem nf_41 {g : Nat → ClassId} {A : Nat → Prop} {U : State} {args : Array Value} (h : GB g A U) : (Cond.fieldLinkNest "RunmergeOffice" 238 "RunmergeOffice$Job" "target" "I" "RunmergeOffice").before args U = true := va_Nw.use rfl (h.1 _ (List.mem_of_getElem? (l := p_fn) (i := 41) rfl))
theorem nf_42 {g : Nat → ClassId} {A : Nat → Prop} {U : State} {args : Array Value} (h : GB g A U) : (Cond.fieldLinkNest "RunmergeOffice$Checker" 118 "RunmergeOffice$Job" "passes" "I" "RunmergeOffice").before args U = true := va_Nw.use rfl (h.1 _ (List.mem_of_getElem? (l := p_fn) (i := 42) rfl))
theorem nf_43 {g : Nat → ClassId} {A : Nat → Prop} {U : State} {args : Array Value} (h : GB g A U) : (Cond.fieldLinkNest "RunmergeOffice" 253 "RunmergeOffice$Job" "passes" "I" "RunmergeOffice").before args U = true := va_Nw.use rfl (h.1 _ (List.mem_of_getElem? (l := p_fn) (i := 43) rfl))
theorem nf_44 {g : Nat → ClassId} {A : Nat → Prop} {U : State} {args : Array Value} (h : GB g A U) : (Cond.fieldLinkNest "RunmergeOffice$Checker" 122 "RunmergeOffice$Job" "merges" "I" "RunmergeOffice").before args U = true := va_Nw.use rfl (h.1 _ (List.mem_of_getElem? (l := p_fn) (i := 44) rfl))
theorem nf_45 {g : Nat → ClassId} {A : Nat → Prop} {U : State} {args : Array Value} (h : GB g A U) : (Cond.fieldLinkNest "RunmergeOffice" 254 "RunmergeOffice$Job" "merges" "I" "RunmergeOffice").before args U = true := va_Nw.use rfl (h.1 _ (List.mem_of_getElem? (l := p_fn) (i := 45) rfl))
theorem nf_46 {g : Nat → ClassId} {A : Nat → Prop} {U : State} {args : Array Value} (h : GB g A U) : (Cond.fieldLinkNest "RunmergeOffice$Checker" 129 "RunmergeOffice$Job" "moves" "I" "RunmergeOffice").before args U = true := va_Nw.use rfl (h.1 _ (List.mem_of_getElem? (l := p_fn) (i := 46) rfl))
theorem nf_47 {g : Nat → ClassId} {A : Nat → Prop} {U : State} {args : Array Value} (h : GB g A U) : (Cond.fieldLinkNest "RunmergeOffice" 255 "RunmergeOffice$Job" "moves" "I" "RunmergeOffice").before args U = true := va_Nw.use rfl (h.1 _ (List.mem_of_getElem? (l := p_fn) (i := 47) rfl))
theorem nf_48 {g : Nat → ClassId} {A : Nat → Prop} {U : State} {args : Array Value} (h : GB g A U) : (Cond.fieldLinkNest "RunmergeOffice" 256 "RunmergeOffice$Job" "lostMoves" "I" "RunmergeOffice").before args U = true := va_Nw.use rfl (h.1 _ (List.mem_of_getElem? (l := p_fn) (i := 48) rfl))
theorem nf_49 {g : Nat → ClassId} {A : Nat → Prop} {U : State} {args : Array Value} (h : GB g A U) : (Cond.fieldLinkNest "RunmergeOffice" 259 "RunmergeOffice$Job" "timesTorn" "I" "RunmergeOffice").before args U = true := va_Nw.use rfl (h.1 _ (List.mem_of_getElem? (l := p_fn) (i := 49) rfl))
theorem nf_50 {g : Nat → ClassId} {A : Nat → Prop} {U : State} {args : Array Value} (h : GB g A U) : (Cond.fieldLinkNest "RunmergeOffice$Reader" 166 "RunmergeOffice$Text" "size" "I" "RunmergeOffice").before args U = true := va_Nw.use rfl (h.1 _ (List.mem_of_getElem? (l := p_fn) (i := 50) rfl))
theorem nf_51 {g : Nat → ClassId} {A : Nat → Prop} {U : State} {args : Array Value} (h : GB g A U) : (Cond.fieldLinkNest "RunmergeOffice" 309 "RunmergeOffice$Text" "size" "I" "RunmergeOffice").before args U = true := va_Nw.use rfl (h.1 _ (List.mem_of_getElem? (l := p_fn) (i := 51) rfl))
theorem nf_52 {g : Nat → ClassId} {A : Nat → Prop} {U : State} {args : Array Value} (h : GB g A U) : (Cond.fieldLinkNest "RunmergeOffice" 305 "RunmergeOffice$Reader" "text" "LRunmergeOffice$Text;" "RunmergeOffice").before args U = true := va_Nw.use rfl (h.1 _ (List.mem_of_getElem? (l := p_fn) (i := 52) rfl))
theorem nf_53 {g : Nat → ClassId} {A : Nat → Prop} {U : State} {args : Array Value} (h : GB g A U) : (Cond.fieldLinkNest "RunmergeOffice" 391 "RunmergeOffice$Reader" "told" "LRunmergeOffice$Settings;" "RunmergeOffice").before args U = true := va_Nw.use rfl (h.1 _ (List.mem_of_getElem? (l := p_fn) (i := 53) rfl))
theorem nf_54 {g : Nat → ClassId} {A : Nat → Prop} {U : State} {args : Array Value} (h : GB g A U) : (Cond.fieldLinkNest "RunmergeOffice" 379 "RunmergeOffice$Reader" "statementPlace" "I" "RunmergeOffice").before args U = true := va_Nw.use rfl (h.1 _ (List.mem_of_getElem? (l := p_fn) (i := 54) rfl))
theorem nf_55 {g : Nat → ClassId} {A : Nat → Prop} {U : State} {args : Array Value} (h : GB g A U) : (Cond.fieldLinkNest "RunmergeOffice" 388 "RunmergeOffice$Reader" "action" "I" "RunmergeOffice").before args U = true := va_Nw.use rfl (h.1 _ (List.mem_of_getElem? (l := p_fn) (i := 55) rfl))
theorem nf_56 {g : Nat → ClassId} {A : Nat → Prop} {U : State} {args : Array Value} (h : GB g A U) : (Cond.fieldLinkNest "RunmergeOffice" 394 "RunmergeOffice$Reader" "how" "I" "RunmergeOffice").before args U = true := va_Nw.use rfl (h.1 _ (List.mem_of_getElem? (l := p_fn) (i := 56) rfl))
theorem nf_57 {g : Nat → ClassId} {A : Nat → Prop} {U : State} {args : Array Value} (h : GB g A U) : (Cond.fieldLinkNest "RunmergeOffice" 397 "RunmergeOffice$Reader" "isLast" "Z" "RunmergeOffice").before args U = true := va_Nw.use rfl (h.1 _ (List.mem_of_getElem? (l := p_fn) (i := 57) rfl))
theorem nf_58 {g : Nat → ClassId} {A : Nat → Prop} {U : State} {args : Array Value} (h : GB g A U) : (Cond.fieldLinkNest "RunmergeOffice" 328 "RunmergeOffice$Reader" "faultKind" "I" "RunmergeOffice").before args U = true := va_Nw.use rfl (h.1 _ (List.mem_of_getElem? (l := p_fn) (i := 58) rfl))
theorem nf_59 {g : Nat → ClassId} {A : Nat → Prop} {U : State} {args : Array Value} (h : GB g A U) : (Cond.fieldLinkNest "RunmergeOffice" 331 "RunmergeOffice$Reader" "faultPlace" "I" "RunmergeOffice").before args U = true := va_Nw.use rfl (h.1 _ (List.mem_of_getElem? (l := p_fn) (i := 59) rfl))
theorem nf_60 {g : Nat → ClassId} {A : Nat → Prop} {U : State} {args : Array Value} (h : GB g A U) : (Cond.fieldLinkNest "RunmergeOfficeModel" 173 "RunmergeOfficeModel$Job" "to" "I" "RunmergeOfficeModel").before args U = true := va_Nw.use rfl (h.1 _ (List.mem_of_getElem? (l := p_fn) (i := 60) rfl))
theorem nf_61 {g : Nat → ClassId} {A : Nat → Prop} {U : State} {args : Array Value} (h : GB g A U) : (Cond.fieldLinkNest "RunmergeOfficeModel" 163 "RunmergeOfficeModel$Job" "level" "I" "RunmergeOfficeModel").before args U = true := va_Nw.use rfl (h.1 _ (List.mem_of_getElem? (l := p_fn) (i := 61) rfl))
theorem nf_62 {g : Nat → ClassId} {A : Nat → Prop} {U : State} {args : Array Value} (h : GB g A U) : (Cond.fieldLinkNest "RunmergeOfficeModel" 158 "RunmergeOfficeModel$Job" "passes" "I" "RunmergeOfficeModel").before args U = true := va_Nw.use rfl (h.1 _ (List.mem_of_getElem? (l := p_fn) (i := 62) rfl))
theorem nf_63 {g : Nat → ClassId} {A : Nat → Prop} {U : State} {args : Array Value} (h : GB g A U) : (Cond.fieldLinkNest "RunmergeOfficeModel" 160 "RunmergeOfficeModel$Job" "merges" "I" "RunmergeOfficeModel").before args U = true := va_Nw.use rfl (h.1 _ (List.mem_of_getElem? (l := p_fn) (i := 63) rfl))
theorem nf_64 {g : Nat → ClassId} {A : Nat → Prop} {U : State} {args : Array Value} (h : GB g A U) : (Cond.fieldLinkNest "RunmergeOfficeModel" 152 "RunmergeOfficeModel$Job" "moves" "I" "RunmergeOfficeModel").before args U = true := va_Nw.use rfl (h.1 _ (List.mem_of_getElem? (l := p_fn) (i := 64) rfl))
theorem nf_65 {g : Nat → ClassId} {A : Nat → Prop} {U : State} {args : Array Value} (h : GB g A U) : (Cond.fieldLinkNest "RunmergeOfficeModel" 192 "RunmergeOfficeModel$Job" "lost" "I" "RunmergeOfficeModel").before args U = true := va_Nw.use rfl (h.1 _ (List.mem_of_getElem? (l := p_fn) (i := 65) rfl))
theorem nf_66 {g : Nat → ClassId} {A : Nat → Prop} {U : State} {args : Array Value} (h : GB g A U) : (Cond.fieldLinkNest "RunmergeOfficeModel" 195 "RunmergeOfficeModel$Job" "torn" "I" "RunmergeOfficeModel").before args U = true := va_Nw.use rfl (h.1 _ (List.mem_of_getElem? (l := p_fn) (i := 66) rfl))
theorem mnl_0 {g : Nat → ClassId} {A : Nat → Prop} {U : State} (h : GB g A U) : va_Nw (.methodLinkNest "RunmergeOffice" 9 ⟨"RunmergeOffice$Book", "<init>", "()V"⟩ "RunmergeOffice") U := h.2.1 _ (List.mem_of_getElem? (l := p_mn) (i := 0) rfl)
theorem mnl_1 {g : Nat → ClassId} {A : Nat → Prop} {U : State} (h : GB g A U) : va_Nw (.methodLinkNest "RunmergeOffice" 25 ⟨"RunmergeOffice$Tape", "<init>", "()V"⟩ "RunmergeOffice") U := h.2.1 _ (List.mem_of_getElem? (l := p_mn) (i := 1) rfl)
theorem mnl_2 {g : Nat → ClassId} {A : Nat → Prop} {U : State} (h : GB g A U) : va_Nw (.methodLinkNest "RunmergeOffice" 32 ⟨"RunmergeOffice$Settings", "<init>", "()V"⟩ "RunmergeOffice") U := h.2.1 _ (List.mem_of_getElem? (l := p_mn) (i := 2) rfl)
theorem mnl_3 {g : Nat → ClassId} {A : Nat → Prop} {U : State} (h : GB g A U) : va_Nw (.methodLinkNest "RunmergeOffice" 39 ⟨"RunmergeOffice$RunMaker", "<init>", "()V"⟩ "RunmergeOffice") U := h.2.1 _ (List.mem_of_getElem? (l := p_mn) (i := 3) rfl)
theorem mnl_4 {g : Nat → ClassId} {A : Nat → Prop} {U : State} (h : GB g A U) : va_Nw (.methodLinkNest "RunmergeOffice" 46 ⟨"RunmergeOffice$RunRow", "<init>", "()V"⟩ "RunmergeOffice") U := h.2.1 _ (List.mem_of_getElem? (l := p_mn) (i := 4) rfl)
theorem mnl_5 {g : Nat → ClassId} {A : Nat → Prop} {U : State} (h : GB g A U) : va_Nw (.methodLinkNest "RunmergeOffice" 53 ⟨"RunmergeOffice$Plan", "<init>", "()V"⟩ "RunmergeOffice") U := h.2.1 _ (List.mem_of_getElem? (l := p_mn) (i := 5) rfl)
theorem mnl_6 {g : Nat → ClassId} {A : Nat → Prop} {U : State} (h : GB g A U) : va_Nw (.methodLinkNest "RunmergeOffice$Plan" 11 ⟨"RunmergeOffice$Pass", "<init>", "()V"⟩ "RunmergeOffice") U := h.2.1 _ (List.mem_of_getElem? (l := p_mn) (i := 6) rfl)
theorem mnl_7 {g : Nat → ClassId} {A : Nat → Prop} {U : State} (h : GB g A U) : va_Nw (.methodLinkNest "RunmergeOffice" 60 ⟨"RunmergeOffice$Job", "<init>", "()V"⟩ "RunmergeOffice") U := h.2.1 _ (List.mem_of_getElem? (l := p_mn) (i := 7) rfl)
theorem mnl_8 {g : Nat → ClassId} {A : Nat → Prop} {U : State} (h : GB g A U) : va_Nw (.methodLinkNest "RunmergeOffice$Job" 11 ⟨"RunmergeOffice$RunMaker", "<init>", "()V"⟩ "RunmergeOffice") U := h.2.1 _ (List.mem_of_getElem? (l := p_mn) (i := 8) rfl)
theorem mnl_9 {g : Nat → ClassId} {A : Nat → Prop} {U : State} (h : GB g A U) : va_Nw (.methodLinkNest "RunmergeOffice$Job" 20 ⟨"RunmergeOffice$Pass", "<init>", "()V"⟩ "RunmergeOffice") U := h.2.1 _ (List.mem_of_getElem? (l := p_mn) (i := 9) rfl)
theorem mnl_10 {g : Nat → ClassId} {A : Nat → Prop} {U : State} (h : GB g A U) : va_Nw (.methodLinkNest "RunmergeOffice$Job" 38 ⟨"RunmergeOffice$RunRow", "<init>", "()V"⟩ "RunmergeOffice") U := h.2.1 _ (List.mem_of_getElem? (l := p_mn) (i := 10) rfl)
theorem mnl_11 {g : Nat → ClassId} {A : Nat → Prop} {U : State} (h : GB g A U) : va_Nw (.methodLinkNest "RunmergeOffice" 70 ⟨"RunmergeOffice$Reader", "<init>", "()V"⟩ "RunmergeOffice") U := h.2.1 _ (List.mem_of_getElem? (l := p_mn) (i := 11) rfl)
theorem mnl_12 {g : Nat → ClassId} {A : Nat → Prop} {U : State} (h : GB g A U) : va_Nw (.methodLinkNest "RunmergeOffice$Reader" 11 ⟨"RunmergeOffice$Text", "<init>", "()V"⟩ "RunmergeOffice") U := h.2.1 _ (List.mem_of_getElem? (l := p_mn) (i := 12) rfl)
theorem mnl_13 {g : Nat → ClassId} {A : Nat → Prop} {U : State} (h : GB g A U) : va_Nw (.methodLinkNest "RunmergeOffice$Reader" 24 ⟨"RunmergeOffice$Settings", "<init>", "()V"⟩ "RunmergeOffice") U := h.2.1 _ (List.mem_of_getElem? (l := p_mn) (i := 13) rfl)
theorem mnl_14 {g : Nat → ClassId} {A : Nat → Prop} {U : State} (h : GB g A U) : va_Nw (.methodLinkNest "RunmergeOffice" 77 ⟨"RunmergeOffice$Checker", "<init>", "()V"⟩ "RunmergeOffice") U := h.2.1 _ (List.mem_of_getElem? (l := p_mn) (i := 14) rfl)
theorem mnl_15 {g : Nat → ClassId} {A : Nat → Prop} {U : State} (h : GB g A U) : va_Nw (.methodLinkNest "RunmergeOffice$Checker" 11 ⟨"RunmergeOffice$RunMaker", "<init>", "()V"⟩ "RunmergeOffice") U := h.2.1 _ (List.mem_of_getElem? (l := p_mn) (i := 15) rfl)
theorem mnl_16 {g : Nat → ClassId} {A : Nat → Prop} {U : State} (h : GB g A U) : va_Nw (.methodLinkNest "RunmergeOffice$Checker" 20 ⟨"RunmergeOffice$Job", "<init>", "()V"⟩ "RunmergeOffice") U := h.2.1 _ (List.mem_of_getElem? (l := p_mn) (i := 16) rfl)
theorem mnl_17 {g : Nat → ClassId} {A : Nat → Prop} {U : State} (h : GB g A U) : va_Nw (.methodLinkNest "RunmergeOffice$Checker" 27 ⟨"RunmergeOffice$Plan", "<init>", "()V"⟩ "RunmergeOffice") U := h.2.1 _ (List.mem_of_getElem? (l := p_mn) (i := 17) rfl)
theorem mnl_18 {g : Nat → ClassId} {A : Nat → Prop} {U : State} (h : GB g A U) : va_Nw (.methodLinkNest "RunmergeOffice$Checker" 34 ⟨"RunmergeOffice$Settings", "<init>", "()V"⟩ "RunmergeOffice") U := h.2.1 _ (List.mem_of_getElem? (l := p_mn) (i := 18) rfl)
theorem mnl_19 {g : Nat → ClassId} {A : Nat → Prop} {U : State} (h : GB g A U) : va_Nw (.methodLinkNest "RunmergeOffice$Checker" 41 ⟨"RunmergeOffice$RunRow", "<init>", "()V"⟩ "RunmergeOffice") U := h.2.1 _ (List.mem_of_getElem? (l := p_mn) (i := 19) rfl)
theorem mnl_20 {g : Nat → ClassId} {A : Nat → Prop} {U : State} (h : GB g A U) : va_Nw (.methodLinkNest "RunmergeOffice$Checker" 48 ⟨"RunmergeOffice$Tape", "<init>", "()V"⟩ "RunmergeOffice") U := h.2.1 _ (List.mem_of_getElem? (l := p_mn) (i := 20) rfl)
theorem mnl_21 {g : Nat → ClassId} {A : Nat → Prop} {U : State} (h : GB g A U) : va_Nw (.methodLinkNest "RunmergeOfficeModel$Job" 36 ⟨"RunmergeOfficeModel", "runsOf", "([I[I)Ljava/util/List;"⟩ "RunmergeOfficeModel") U := h.2.1 _ (List.mem_of_getElem? (l := p_mn) (i := 21) rfl)
theorem mnl_22 {g : Nat → ClassId} {A : Nat → Prop} {U : State} (h : GB g A U) : va_Nw (.methodLinkNest "RunmergeOfficeModel$Job" 93 ⟨"RunmergeOfficeModel", "inserts", "([II)V"⟩ "RunmergeOfficeModel") U := h.2.1 _ (List.mem_of_getElem? (l := p_mn) (i := 22) rfl)
theorem st_0 {g : Nat → ClassId} {A : Nat → Prop} {U : State} (h : GB g A U) : ∃ a : Nat, vk_R "RunmergeOffice$Reader" 68 "sort" a U := h.2.2.1 _ (List.mem_of_getElem? (l := p_st) (i := 0) rfl)
theorem st_1 {g : Nat → ClassId} {A : Nat → Prop} {U : State} (h : GB g A U) : ∃ a : Nat, vk_R "RunmergeOffice$Reader" 120 "into" a U := h.2.2.1 _ (List.mem_of_getElem? (l := p_st) (i := 1) rfl)
theorem st_2 {g : Nat → ClassId} {A : Nat → Prop} {U : State} (h : GB g A U) : ∃ a : Nat, vk_R "RunmergeOffice$Reader" 125 "up" a U := h.2.2.1 _ (List.mem_of_getElem? (l := p_st) (i := 2) rfl)
theorem st_3 {g : Nat → ClassId} {A : Nat → Prop} {U : State} (h : GB g A U) : ∃ a : Nat, vk_R "RunmergeOffice$Reader" 127 "down" a U := h.2.2.1 _ (List.mem_of_getElem? (l := p_st) (i := 3) rfl)
theorem st_4 {g : Nat → ClassId} {A : Nat → Prop} {U : State} (h : GB g A U) : ∃ a : Nat, vk_R "RunmergeOffice$Reader" 132 "natural" a U := h.2.2.1 _ (List.mem_of_getElem? (l := p_st) (i := 4) rfl)
theorem st_5 {g : Nat → ClassId} {A : Nat → Prop} {U : State} (h : GB g A U) : ∃ a : Nat, vk_R "RunmergeOffice$Reader" 137 "full" a U := h.2.2.1 _ (List.mem_of_getElem? (l := p_st) (i := 5) rfl)
theorem st_6 {g : Nat → ClassId} {A : Nat → Prop} {U : State} (h : GB g A U) : ∃ a : Nat, vk_R "RunmergeOffice$Reader" 139 "replace" a U := h.2.2.1 _ (List.mem_of_getElem? (l := p_st) (i := 6) rfl)
theorem st_7 {g : Nat → ClassId} {A : Nat → Prop} {U : State} (h : GB g A U) : ∃ a : Nat, vk_R "RunmergeOffice$Reader" 144 "shortest" a U := h.2.2.1 _ (List.mem_of_getElem? (l := p_st) (i := 7) rfl)
theorem st_8 {g : Nat → ClassId} {A : Nat → Prop} {U : State} (h : GB g A U) : ∃ a : Nat, vk_R "RunmergeOffice$Reader" 149 "balanced" a U := h.2.2.1 _ (List.mem_of_getElem? (l := p_st) (i := 8) rfl)
theorem st_9 {g : Nat → ClassId} {A : Nat → Prop} {U : State} (h : GB g A U) : ∃ a : Nat, vk_R "RunmergeOffice$Reader" 151 "poly" a U := h.2.2.1 _ (List.mem_of_getElem? (l := p_st) (i := 9) rfl)
theorem st_10 {g : Nat → ClassId} {A : Nat → Prop} {U : State} (h : GB g A U) : ∃ a : Nat, vk_R "RunmergeOffice$Reader" 82 "copy" a U := h.2.2.1 _ (List.mem_of_getElem? (l := p_st) (i := 10) rfl)
theorem st_11 {g : Nat → ClassId} {A : Nat → Prop} {U : State} (h : GB g A U) : ∃ a : Nat, vk_R "RunmergeOffice$Reader" 87 "unite" a U := h.2.2.1 _ (List.mem_of_getElem? (l := p_st) (i := 11) rfl)
theorem st_12 {g : Nat → ClassId} {A : Nat → Prop} {U : State} (h : GB g A U) : ∃ a : Nat, vk_R "RunmergeOffice$Reader" 92 "common" a U := h.2.2.1 _ (List.mem_of_getElem? (l := p_st) (i := 12) rfl)
theorem st_13 {g : Nat → ClassId} {A : Nat → Prop} {U : State} (h : GB g A U) : ∃ a : Nat, vk_R "RunmergeOffice$Reader" 94 "without" a U := h.2.2.1 _ (List.mem_of_getElem? (l := p_st) (i := 13) rfl)
theorem st_14 {g : Nat → ClassId} {A : Nat → Prop} {U : State} (h : GB g A U) : ∃ a : Nat, vk_R "RunmergeOffice$Reader" 96 "last" a U := h.2.2.1 _ (List.mem_of_getElem? (l := p_st) (i := 14) rfl)
theorem st_15 {g : Nat → ClassId} {A : Nat → Prop} {U : State} (h : GB g A U) : ∃ a : Nat, vk_R "RunmergeOffice$Reader" 98 "first" a U := h.2.2.1 _ (List.mem_of_getElem? (l := p_st) (i := 15) rfl)
theorem st_16 {g : Nat → ClassId} {A : Nat → Prop} {U : State} (h : GB g A U) : ∃ a : Nat, vk_R "RunmergeOffice$Reader" 103 "turn" a U := h.2.2.1 _ (List.mem_of_getElem? (l := p_st) (i := 16) rfl)
theorem st_17 {g : Nat → ClassId} {A : Nat → Prop} {U : State} (h : GB g A U) : ∃ a : Nat, vk_R "RunmergeOffice$Reader" 105 "clear" a U := h.2.2.1 _ (List.mem_of_getElem? (l := p_st) (i := 17) rfl)
theorem st_18 {g : Nat → ClassId} {A : Nat → Prop} {U : State} (h : GB g A U) : ∃ a : Nat, vk_R "RunmergeOffice" 341 "there is no such tape" a U := h.2.2.1 _ (List.mem_of_getElem? (l := p_st) (i := 18) rfl)
theorem st_19 {g : Nat → ClassId} {A : Nat → Prop} {U : State} (h : GB g A U) : ∃ a : Nat, vk_R "RunmergeOffice" 351 "a parameter is out of range" a U := h.2.2.1 _ (List.mem_of_getElem? (l := p_st) (i := 19) rfl)
theorem st_20 {g : Nat → ClassId} {A : Nat → Prop} {U : State} (h : GB g A U) : ∃ a : Nat, vk_R "RunmergeOffice" 353 "there is no room for so many records" a U := h.2.2.1 _ (List.mem_of_getElem? (l := p_st) (i := 20) rfl)
theorem st_21 {g : Nat → ClassId} {A : Nat → Prop} {U : State} (h : GB g A U) : ∃ a : Nat, vk_R "RunmergeOffice" 111 "the range is out of range" a U := h.2.2.1 _ (List.mem_of_getElem? (l := p_st) (i := 21) rfl)
theorem st_22 {g : Nat → ClassId} {A : Nat → Prop} {U : State} (h : GB g A U) : ∃ a : Nat, vk_R "RunmergeOffice" 349 "there is no such record" a U := h.2.2.1 _ (List.mem_of_getElem? (l := p_st) (i := 22) rfl)
theorem st_23 {g : Nat → ClassId} {A : Nat → Prop} {U : State} (h : GB g A U) : ∃ a : Nat, vk_R "RunmergeOffice" 140 "there is no such place" a U := h.2.2.1 _ (List.mem_of_getElem? (l := p_st) (i := 23) rfl)
theorem st_24 {g : Nat → ClassId} {A : Nat → Prop} {U : State} (h : GB g A U) : ∃ a : Nat, vk_R "RunmergeOffice" 175 "there is no such setting" a U := h.2.2.1 _ (List.mem_of_getElem? (l := p_st) (i := 24) rfl)
theorem st_25 {g : Nat → ClassId} {A : Nat → Prop} {U : State} (h : GB g A U) : ∃ a : Nat, vk_R "RunmergeOffice" 357 "there is no such run" a U := h.2.2.1 _ (List.mem_of_getElem? (l := p_st) (i := 25) rfl)
theorem st_26 {g : Nat → ClassId} {A : Nat → Prop} {U : State} (h : GB g A U) : ∃ a : Nat, vk_R "RunmergeOffice" 355 "no job is under way" a U := h.2.2.1 _ (List.mem_of_getElem? (l := p_st) (i := 26) rfl)
theorem st_27 {g : Nat → ClassId} {A : Nat → Prop} {U : State} (h : GB g A U) : ∃ a : Nat, vk_R "RunmergeOffice" 247 "there is no job" a U := h.2.2.1 _ (List.mem_of_getElem? (l := p_st) (i := 27) rfl)
theorem st_28 {g : Nat → ClassId} {A : Nat → Prop} {U : State} (h : GB g A U) : ∃ a : Nat, vk_R "RunmergeOffice" 270 "the tapes cannot be combined" a U := h.2.2.1 _ (List.mem_of_getElem? (l := p_st) (i := 28) rfl)
theorem st_29 {g : Nat → ClassId} {A : Nat → Prop} {U : State} (h : GB g A U) : ∃ a : Nat, vk_R "RunmergeOffice" 343 "the tape is not in order" a U := h.2.2.1 _ (List.mem_of_getElem? (l := p_st) (i := 29) rfl)
theorem st_30 {g : Nat → ClassId} {A : Nat → Prop} {U : State} (h : GB g A U) : ∃ a : Nat, vk_R "RunmergeOffice" 291 "no key is so small" a U := h.2.2.1 _ (List.mem_of_getElem? (l := p_st) (i := 30) rfl)
theorem st_31 {g : Nat → ClassId} {A : Nat → Prop} {U : State} (h : GB g A U) : ∃ a : Nat, vk_R "RunmergeOffice" 294 "no key is so great" a U := h.2.2.1 _ (List.mem_of_getElem? (l := p_st) (i := 31) rfl)
theorem st_32 {g : Nat → ClassId} {A : Nat → Prop} {U : State} (h : GB g A U) : ∃ a : Nat, vk_R "RunmergeOffice" 312 "the text would be too long" a U := h.2.2.1 _ (List.mem_of_getElem? (l := p_st) (i := 32) rfl)
theorem st_33 {g : Nat → ClassId} {A : Nat → Prop} {U : State} (h : GB g A U) : ∃ a : Nat, vk_R "RunmergeOffice" 316 "sort 0 into 1; sort 0 into 2 full 3 poly 3; sort 0 into 3 natural shortest; first 3;" a U := h.2.2.1 _ (List.mem_of_getElem? (l := p_st) (i := 33) rfl)
theorem st_34 {g : Nat → ClassId} {A : Nat → Prop} {U : State} (h : GB g A U) : ∃ a : Nat, vk_R "RunmergeOffice" 318 "sort 0 into 0 replace 2 balanced 3; sort 1 into 1; common 0 1 into 2; without 0 1 into 3; unite 2 3 into 4;" a U := h.2.2.1 _ (List.mem_of_getElem? (l := p_st) (i := 34) rfl)
theorem st_35 {g : Nat → ClassId} {A : Nat → Prop} {U : State} (h : GB g A U) : ∃ a : Nat, vk_R "RunmergeOffice" 320 "copy 0 into 5; turn 5; sort 5 into 6 down full 1; last 6; clear 5;" a U := h.2.2.1 _ (List.mem_of_getElem? (l := p_st) (i := 35) rfl)
theorem st_36 {g : Nat → ClassId} {A : Nat → Prop} {U : State} (h : GB g A U) : ∃ a : Nat, vk_R "RunmergeOffice" 334 "the text has an error" a U := h.2.2.1 _ (List.mem_of_getElem? (l := p_st) (i := 36) rfl)
theorem st_37 {g : Nat → ClassId} {A : Nat → Prop} {U : State} (h : GB g A U) : ∃ a : Nat, vk_R "RunmergeOfficeModel" 221 "sort 0 into 1; sort 0 into 2 full 3 poly 3; sort 0 into 3 natural shortest; first 3;" a U := h.2.2.1 _ (List.mem_of_getElem? (l := p_st) (i := 37) rfl)
theorem st_38 {g : Nat → ClassId} {A : Nat → Prop} {U : State} (h : GB g A U) : ∃ a : Nat, vk_R "RunmergeOfficeModel" 223 "sort 0 into 0 replace 2 balanced 3; sort 1 into 1; common 0 1 into 2; without 0 1 into 3; unite 2 3 into 4;" a U := h.2.2.1 _ (List.mem_of_getElem? (l := p_st) (i := 38) rfl)
theorem st_39 {g : Nat → ClassId} {A : Nat → Prop} {U : State} (h : GB g A U) : ∃ a : Nat, vk_R "RunmergeOfficeModel" 225 "copy 0 into 5; turn 5; sort 5 into 6 down full 1; last 6; clear 5;" a U := h.2.2.1 _ (List.mem_of_getElem? (l := p_st) (i := 39) rfl)
theorem st_40 {g : Nat → ClassId} {A : Nat → Prop} {U : State} (h : GB g A U) : ∃ a : Nat, vk_R "RunmergeOfficeModel" 299 "sort" a U := h.2.2.1 _ (List.mem_of_getElem? (l := p_st) (i := 40) rfl)
theorem st_41 {g : Nat → ClassId} {A : Nat → Prop} {U : State} (h : GB g A U) : ∃ a : Nat, vk_R "RunmergeOfficeModel" 271 "into" a U := h.2.2.1 _ (List.mem_of_getElem? (l := p_st) (i := 41) rfl)
theorem st_42 {g : Nat → ClassId} {A : Nat → Prop} {U : State} (h : GB g A U) : ∃ a : Nat, vk_R "RunmergeOfficeModel" 283 "up" a U := h.2.2.1 _ (List.mem_of_getElem? (l := p_st) (i := 42) rfl)
theorem st_43 {g : Nat → ClassId} {A : Nat → Prop} {U : State} (h : GB g A U) : ∃ a : Nat, vk_R "RunmergeOfficeModel" 285 "down" a U := h.2.2.1 _ (List.mem_of_getElem? (l := p_st) (i := 43) rfl)
theorem st_44 {g : Nat → ClassId} {A : Nat → Prop} {U : State} (h : GB g A U) : ∃ a : Nat, vk_R "RunmergeOfficeModel" 287 "natural" a U := h.2.2.1 _ (List.mem_of_getElem? (l := p_st) (i := 44) rfl)
theorem st_45 {g : Nat → ClassId} {A : Nat → Prop} {U : State} (h : GB g A U) : ∃ a : Nat, vk_R "RunmergeOfficeModel" 289 "shortest" a U := h.2.2.1 _ (List.mem_of_getElem? (l := p_st) (i := 45) rfl)
theorem st_46 {g : Nat → ClassId} {A : Nat → Prop} {U : State} (h : GB g A U) : ∃ a : Nat, vk_R "RunmergeOfficeModel" 291 "full" a U := h.2.2.1 _ (List.mem_of_getElem? (l := p_st) (i := 46) rfl)
theorem st_47 {g : Nat → ClassId} {A : Nat → Prop} {U : State} (h : GB g A U) : ∃ a : Nat, vk_R "RunmergeOfficeModel" 293 "replace" a U := h.2.2.1 _ (List.mem_of_getElem? (l := p_st) (i := 47) rfl)
theorem st_48 {g : Nat → ClassId} {A : Nat → Prop} {U : State} (h : GB g A U) : ∃ a : Nat, vk_R "RunmergeOfficeModel" 295 "balanced" a U := h.2.2.1 _ (List.mem_of_getElem? (l := p_st) (i := 48) rfl)
theorem st_49 {g : Nat → ClassId} {A : Nat → Prop} {U : State} (h : GB g A U) : ∃ a : Nat, vk_R "RunmergeOfficeModel" 297 "poly" a U := h.2.2.1 _ (List.mem_of_getElem? (l := p_st) (i := 49) rfl)
theorem st_50 {g : Nat → ClassId} {A : Nat → Prop} {U : State} (h : GB g A U) : ∃ a : Nat, vk_R "RunmergeOfficeModel" 281 ";" a U := h.2.2.1 _ (List.mem_of_getElem? (l := p_st) (i := 50) rfl)
theorem st_51 {g : Nat → ClassId} {A : Nat → Prop} {U : State} (h : GB g A U) : ∃ a : Nat, vk_R "RunmergeOfficeModel" 305 "unite" a U := h.2.2.1 _ (List.mem_of_getElem? (l := p_st) (i := 51) rfl)
theorem st_52 {g : Nat → ClassId} {A : Nat → Prop} {U : State} (h : GB g A U) : ∃ a : Nat, vk_R "RunmergeOfficeModel" 307 "common" a U := h.2.2.1 _ (List.mem_of_getElem? (l := p_st) (i := 52) rfl)
theorem st_53 {g : Nat → ClassId} {A : Nat → Prop} {U : State} (h : GB g A U) : ∃ a : Nat, vk_R "RunmergeOfficeModel" 309 "without" a U := h.2.2.1 _ (List.mem_of_getElem? (l := p_st) (i := 53) rfl)
theorem st_54 {g : Nat → ClassId} {A : Nat → Prop} {U : State} (h : GB g A U) : ∃ a : Nat, vk_R "RunmergeOfficeModel" 315 "copy" a U := h.2.2.1 _ (List.mem_of_getElem? (l := p_st) (i := 54) rfl)
theorem st_55 {g : Nat → ClassId} {A : Nat → Prop} {U : State} (h : GB g A U) : ∃ a : Nat, vk_R "RunmergeOfficeModel" 320 "first" a U := h.2.2.1 _ (List.mem_of_getElem? (l := p_st) (i := 55) rfl)
theorem st_56 {g : Nat → ClassId} {A : Nat → Prop} {U : State} (h : GB g A U) : ∃ a : Nat, vk_R "RunmergeOfficeModel" 322 "last" a U := h.2.2.1 _ (List.mem_of_getElem? (l := p_st) (i := 56) rfl)
theorem st_57 {g : Nat → ClassId} {A : Nat → Prop} {U : State} (h : GB g A U) : ∃ a : Nat, vk_R "RunmergeOfficeModel" 324 "turn" a U := h.2.2.1 _ (List.mem_of_getElem? (l := p_st) (i := 57) rfl)
theorem st_58 {g : Nat → ClassId} {A : Nat → Prop} {U : State} (h : GB g A U) : ∃ a : Nat, vk_R "RunmergeOfficeModel" 326 "clear" a U := h.2.2.1 _ (List.mem_of_getElem? (l := p_st) (i := 58) rfl)
theorem xc_0 {g : Nat → ClassId} {A : Nat → Prop} {U : State} {args : Array Value} (h : GB g A U) : (Cond.castable "java/lang/IndexOutOfBoundsException" "java/lang/IndexOutOfBoundsException").before args U = true := va_Nw.use rfl (h.2.2.2.2.2.2.1 _ (List.mem_of_getElem? (l := p_xc) (i := 0) rfl))
theorem xc_1 {g : Nat → ClassId} {A : Nat → Prop} {U : State} {args : Array Value} (h : GB g A U) : (Cond.castable "java/lang/IllegalArgumentException" "java/lang/IllegalArgumentException").before args U = true := va_Nw.use rfl (h.2.2.2.2.2.2.1 _ (List.mem_of_getElem? (l := p_xc) (i := 1) rfl))
theorem xc_2 {g : Nat → ClassId} {A : Nat → Prop} {U : State} {args : Array Value} (h : GB g A U) : (Cond.castable "java/lang/IllegalStateException" "java/lang/IllegalStateException").before args U = true := va_Nw.use rfl (h.2.2.2.2.2.2.1 _ (List.mem_of_getElem? (l := p_xc) (i := 2) rfl))
theorem xc_3 {g : Nat → ClassId} {A : Nat → Prop} {U : State} {args : Array Value} (h : GB g A U) : (Cond.castable "java/util/NoSuchElementException" "java/util/NoSuchElementException").before args U = true := va_Nw.use rfl (h.2.2.2.2.2.2.1 _ (List.mem_of_getElem? (l := p_xc) (i := 3) rfl))
