theorem dX11_floor_0 : decode cX11_floor 0 = .ok (.aload_n 0, 1) := by decide +kernel
theorem dX11_floor_1 : decode cX11_floor 1 = .ok (.iload_n 1, 1) := by decide +kernel
set_option maxRecDepth 20000 in
theorem ggX11_floor_X11_sortedTapeOf : GoodIn wsX11_floor wsX11_sortedTapeOf := goodIn_ca (goodIn_ca (goodIn_r _ [8, 9, 10, 3, 11, 12, 13, 7, 14, 15, 16, 17, 18, 19, 20, 21, 22, 23, 24, 25, 26, 27, 28, 29, 30, 31, 32, 33, 34, 48, 49, 50, 51, 52, 53, 54, 55, 56, 57, 58, 59, 60, 61, 62, 63, 64, 65] (by decide +kernel) (by decide +kernel)) (goodIn_sub (fun _ h => List.mem_cons_of_mem _ (List.mem_append_left _ (List.mem_append_right _ h))) (by decide +kernel))) (goodIn_sub (fun _ h => List.mem_cons_of_mem _ (List.mem_append_right _ h)) (by decide +kernel))
set_option maxRecDepth 20000 in
theorem gX11_floor_X11_sortedTapeOf : GoodIn wsX11_floor (wsV RX11 276 RX11 yX11_sortedTapeOf wsX11_sortedTapeOf) := goodIn_app (goodIn_of _ (by decide +kernel)) ggX11_floor_X11_sortedTapeOf
theorem dX11_floor_2 : decode cX11_floor 2 = .ok (.invokevirtual 276, 3) := by decide +kernel
theorem dX11_floor_5 : decode cX11_floor 5 = .ok (.astore_n 3, 1) := by decide +kernel
theorem dX11_floor_6 : decode cX11_floor 6 = .ok (.aload_n 3, 1) := by decide +kernel
theorem dX11_floor_7 : decode cX11_floor 7 = .ok (.aload_n 0, 1) := by decide +kernel
theorem dX11_floor_8 : decode cX11_floor 8 = .ok (.getfield 10, 3) := by decide +kernel
theorem dX11_floor_11 : decode cX11_floor 11 = .ok (.iload_n 2, 1) := by decide +kernel
set_option maxRecDepth 20000 in
theorem ggX11_floor_X9_countUpTo : GoodIn wsX11_floor wsX9_countUpTo := goodIn_r _ [38, 23, 39, 40, 41, 21, 42, 24, 25, 26, 27, 28, 43, 44, 45, 32, 46, 34, 61, 62, 63, 64, 65] (by decide +kernel) (by decide +kernel)
set_option maxRecDepth 20000 in
theorem gX11_floor_X9_countUpTo : GoodIn wsX11_floor (wsV RX11 286 RX9 yX9_countUpTo wsX9_countUpTo) := goodIn_app (goodIn_of _ (by decide +kernel)) ggX11_floor_X9_countUpTo
theorem dX11_floor_12 : decode cX11_floor 12 = .ok (.invokevirtual 286, 3) := by decide +kernel
theorem dX11_floor_15 : decode cX11_floor 15 = .ok (.iconst 1, 1) := by decide +kernel
theorem dX11_floor_16 : decode cX11_floor 16 = .ok (.isub, 1) := by decide +kernel
theorem dX11_floor_17 : decode cX11_floor 17 = .ok (.istore 4, 2) := by decide +kernel
theorem dX11_floor_19 : decode cX11_floor 19 = .ok (.iload 4, 2) := by decide +kernel
theorem dX11_floor_21 : decode cX11_floor 21 = .ok (.ifCond .ge 14, 3) := by decide +kernel
theorem dX11_floor_24 : decode cX11_floor 24 = .ok (.new 289, 3) := by decide +kernel
theorem dX11_floor_27 : decode cX11_floor 27 = .ok (.dup, 1) := by decide +kernel
theorem dX11_floor_28 : decode cX11_floor 28 = .ok (.ldc_w 291, 3) := by decide +kernel
theorem dX11_floor_31 : decode cX11_floor 31 = .ok (.invokespecial 293, 3) := by decide +kernel
theorem dX11_floor_34 : decode cX11_floor 34 = .ok (.athrow, 1) := by decide +kernel
theorem dX11_ceiling_0 : decode cX11_ceiling 0 = .ok (.aload_n 0, 1) := by decide +kernel
theorem dX11_ceiling_1 : decode cX11_ceiling 1 = .ok (.iload_n 1, 1) := by decide +kernel
set_option maxRecDepth 20000 in
theorem ggX11_ceiling_X11_sortedTapeOf : GoodIn wsX11_ceiling wsX11_sortedTapeOf := goodIn_ca (goodIn_ca (goodIn_r _ [8, 9, 10, 3, 11, 12, 13, 7, 14, 15, 16, 17, 18, 19, 20, 21, 22, 23, 24, 25, 26, 27, 28, 29, 30, 31, 32, 33, 34, 48, 49, 50, 51, 52, 53, 54, 55, 56, 57, 58, 59, 60, 61, 62, 63, 64, 65] (by decide +kernel) (by decide +kernel)) (goodIn_sub (fun _ h => List.mem_cons_of_mem _ (List.mem_append_left _ (List.mem_append_right _ h))) (by decide +kernel))) (goodIn_sub (fun _ h => List.mem_cons_of_mem _ (List.mem_append_right _ h)) (by decide +kernel))
set_option maxRecDepth 20000 in
theorem gX11_ceiling_X11_sortedTapeOf : GoodIn wsX11_ceiling (wsV RX11 276 RX11 yX11_sortedTapeOf wsX11_sortedTapeOf) := goodIn_app (goodIn_of _ (by decide +kernel)) ggX11_ceiling_X11_sortedTapeOf
theorem dX11_ceiling_2 : decode cX11_ceiling 2 = .ok (.invokevirtual 276, 3) := by decide +kernel
theorem dX11_ceiling_5 : decode cX11_ceiling 5 = .ok (.astore_n 3, 1) := by decide +kernel
theorem dX11_ceiling_6 : decode cX11_ceiling 6 = .ok (.aload_n 3, 1) := by decide +kernel
theorem dX11_ceiling_7 : decode cX11_ceiling 7 = .ok (.aload_n 0, 1) := by decide +kernel
theorem dX11_ceiling_8 : decode cX11_ceiling 8 = .ok (.getfield 10, 3) := by decide +kernel
theorem dX11_ceiling_11 : decode cX11_ceiling 11 = .ok (.iload_n 2, 1) := by decide +kernel
set_option maxRecDepth 20000 in
theorem ggX11_ceiling_X9_countBelow : GoodIn wsX11_ceiling wsX9_countBelow := goodIn_r _ [38, 23, 39, 40, 41, 21, 42, 24, 25, 26, 27, 28, 43, 44, 45, 32, 46, 34, 61, 62, 63, 64, 65] (by decide +kernel) (by decide +kernel)
set_option maxRecDepth 20000 in
theorem gX11_ceiling_X9_countBelow : GoodIn wsX11_ceiling (wsV RX11 279 RX9 yX9_countBelow wsX9_countBelow) := goodIn_app (goodIn_of _ (by decide +kernel)) ggX11_ceiling_X9_countBelow
theorem dX11_ceiling_12 : decode cX11_ceiling 12 = .ok (.invokevirtual 279, 3) := by decide +kernel
theorem dX11_ceiling_15 : decode cX11_ceiling 15 = .ok (.istore 4, 2) := by decide +kernel
theorem dX11_ceiling_17 : decode cX11_ceiling 17 = .ok (.iload 4, 2) := by decide +kernel
theorem dX11_ceiling_19 : decode cX11_ceiling 19 = .ok (.aload_n 3, 1) := by decide +kernel
theorem dX11_ceiling_20 : decode cX11_ceiling 20 = .ok (.getfield 105, 3) := by decide +kernel
theorem dX11_ceiling_23 : decode cX11_ceiling 23 = .ok (.if_icmp .lt 14, 3) := by decide +kernel
theorem dX11_ceiling_26 : decode cX11_ceiling 26 = .ok (.new 289, 3) := by decide +kernel
theorem dX11_ceiling_29 : decode cX11_ceiling 29 = .ok (.dup, 1) := by decide +kernel
theorem dX11_ceiling_30 : decode cX11_ceiling 30 = .ok (.ldc_w 294, 3) := by decide +kernel
theorem dX11_ceiling_33 : decode cX11_ceiling 33 = .ok (.invokespecial 293, 3) := by decide +kernel
theorem dX11_ceiling_36 : decode cX11_ceiling 36 = .ok (.athrow, 1) := by decide +kernel
section
variable {p : Program} {l : Launch} {e : Env} {R : Room} {s : State} {m₀ : MethodId} {args : Array Value} {below : List Frame} {meth : Method} {c : Code} {W : State} {locs : List Loc} {cells slots : Nat}
abbrev vn_n : String := "java/util/NoSuchElementException"
abbrev vn_b : ByteArray := ⟨#[0x2a, 0x2b, 0xb7, 0x00, 0x0d, 0xb1]⟩
theorem vn_fit : ∀ n ∈ ["java/lang/Exception"], Bundle.fit n = true := by decide
set_option maxHeartbeats 2000000 in
/-- from the constructor call on to the throw, of the exception whose constructor links the one above at 13 -/
theorem vn_ctorThrow (X : Stand p l e R s m₀ args below meth c W locs cells slots) (hexec : p.tables.exec = Jvm.exec) (htr : e.platform.stackTraces = false) {own : String} {ic : Nat}
    (hown : s.vm.findClass own = some m₀.cls) (h : ∀ a ∈ vn_atoms own ic, a.before args s = true)
    (hlocs : ∀ x ∈ locs, ∀ cell, s.heap[x.base]? = some cell → cell.vm.isStatics = false)
    {a : Addr} {cX : ClassId} {kX : Class} (hfoundX : s.vm.findClass vn_n = some cX) (hkX : s.vm.classes[cX]? = some kX) (hcell : W.heap[a]? = some (freshCell cX kX)) (hnew : s.heap.size ≤ a)
    {msg : Value} (hmsg : msg.isRef = true)
    {g : JFrame} (hg : g.method = m₀) (hsize : g.locals.size = c.maxLocals) (hlocked : g.locked = none) (hentered : g.entered = []) {rest : List Value} (hstack : g.stack = msg :: .ref a :: .ref a :: rest)
    (hd6 : decode c.code g.pc = .ok (.invokespecial ic, 3)) (hd9 : decode c.code (g.pc + 3) = .ok (.athrow, 1)) (hout : ∀ x ∈ c.exceptionTable.toList, covers x (g.pc + 3) = false)
    (hRframes : 5 < R.frames) (hRlocals : 2 * g.monitorRoom + ((Value.ref a :: rest).map fun v => v.category).sum + 81 ≤ R.locals) (hlocks : meth.locks = false) :
    ∃ U : State, Steps p.tables e below (W.setTop g) U ∧ U.status = .running ∧ Ended U below (.threw a) ∧ s.WarmedH U.vm ∧ s.sameButNew ({ U with vm := s.vm } : State) locs cells slots ∧
      ∃ ce, U.heap[a]? = some ce ∧ s.vm.findClass vn_n = some ce.cls ∧ ce.vm = .none := by
  have howns : e.platform.frameOwnsMonitors = true := by rw [X.admits.platform]
  have hfin : e.platform.finalization = false := by rw [X.admits.platform]
  have hpl : e.platform.magicAccessors = ({} : Platform).magicAccessors := by rw [X.admits.platform]
  have a' : ∀ x, x ∈ vn_atoms own ic → x.holds args s none s [] = true := fun x hx => h x hx
  obtain ⟨T, Z0, L, -, Y⟩ := ThrowableC.of_atoms (args := args) howns hfin hpl (fun x hx => h x (by simp [vn_atoms, hx]))
  obtain ⟨Z, M, LZ, LM, hnZ⟩ := Init0T.ofS_atoms (args := args) hpl L Y (fun x hx => h x (by simp [vn_atoms, hx]))
  obtain ⟨P1, L1, hP1m, hs1⟩ := PassC.ofS_atoms (args := args) (s := s) (pl := e.platform) hpl (X := vn_n) (Y := "java/lang/RuntimeException") (index := 13) (bytes := vn_b) (by decide) (by decide) (by decide +kernel) (by decide +kernel) (by decide +kernel) (by decide +kernel) (fun x hx => h x (by simp [vn_atoms, hx]))
  obtain ⟨P2, Ps, hlen, L2, hL, hP2m, hlink1, hlink⟩ := Bundle.chainS (args := args) hpl hnZ ["java/lang/Exception"] "java/lang/RuntimeException" (by decide) vn_fit (fun x hx => h x (by simp [vn_atoms, hx]))
  have hsup : P1.sup = P2.m := Option.some.inj (hs1.symm.trans hP2m)
  have hfound : s.vm.findClass vn_n = some P1.m.cls := findClass_of_methodNamed hP1m
  cases Option.some.inj (hfoundX.symm.trans hfound)
  obtain ⟨c1, kX', hc1, hk, hord, -, -, hn6⟩ := Cond.instantiable_spec (a' (.instantiable vn_n 6) (by simp [vn_atoms]))
  cases Option.some.inj (hc1.symm.trans hfound)
  cases Option.some.inj (hkX.symm.trans hk)
  have hsel0 : selectMethod e.platform s.vm P1.m.cls T.fill0 = .method T.fill0 := by
    obtain ⟨c2, r2, m2, q1, q2, q3, q4, -⟩ := Cond.selects_spec (a' (.selects vn_n Bundle.tFill0 Bundle.tFill0) (by simp [vn_atoms]))
    cases Option.some.inj (q1.symm.trans hfound)
    cases Option.some.inj (q2.symm.trans (State.methodFound?_of_named Y.fill0 (by decide)))
    cases Option.some.inj (q3.symm.trans Y.fill0)
    rw [Launch.admits_selectMethod X.admits]; exact q4
  have hselF : selectMethod e.platform s.vm P1.m.cls T.fill = .method T.fill := by
    obtain ⟨c2, r2, m2, q1, q2, q3, q4, -⟩ := Cond.selects_spec (a' (.selects vn_n Bundle.tFill Bundle.tFill) (by simp [vn_atoms]))
    cases Option.some.inj (q1.symm.trans hfound)
    cases Option.some.inj (q2.symm.trans (State.methodFound?_of_named Y.fill (by decide)))
    cases Option.some.inj (q3.symm.trans Y.fill)
    rw [Launch.admits_selectMethod X.admits]; exact q4
  obtain ⟨cellS0, hcS0, hiss⟩ := Y.statics
  obtain ⟨u0, hu0⟩ := Cond.staticRefV Y.unassigned L.unassignedStatic L.statics hcS0 hiss (a' (.isRef (.static Bundle.tN "UNASSIGNED_STACK" Bundle.steD)) (by simp [vn_atoms]))
  obtain ⟨sen, hsen⟩ := Cond.staticRefV Y.sentinel L.sentinelStatic L.statics hcS0 hiss (a' (.isRef (.static Bundle.tN "SUPPRESSED_SENTINEL" Bundle.listD)) (by simp [vn_atoms]))
  obtain ⟨ci198, i198, fB, hk198, hg198, ha198, hsB, -, hnB, htB, hffB⟩ := Cond.ownField (t := .object "java/lang/Object") Y.found L.cls (by decide +kernel) (a' (.fieldLink Bundle.tN 198 Bundle.tN "backtrace" "Ljava/lang/Object;") (by simp [vn_atoms])) (a' (.lays Bundle.tN Bundle.tN "backtrace" "Ljava/lang/Object;") (by simp [vn_atoms])) e.platform hpl
  obtain ⟨cellS, hcS', heS, -, hkeep⟩ := X.same.2.2.2.2.2 T.aS cellS0 hcS0
  have hout' : ∀ i, (⟨T.aS, i⟩ : Loc) ∉ locs := fun i hmem => by
    have := hlocs _ hmem cellS0 hcS0
    rw [hiss] at this; cases this
  have hknownS : cellS.vm ≠ .unknown := by
    rw [heS]; intro hu
    rw [show cellS0.vm = .unknown from hu] at hiss
    cases hiss
  have hneS : T.aS ≠ a := Nat.ne_of_lt (Nat.lt_of_lt_of_le (Array.getElem?_eq_some_iff.mp hcS0).1 hnew)
  obtain ⟨iM, hffM⟩ := Y.msg
  obtain ⟨tyC, dC, hdC, hdnC⟩ := Cond.laysAt hfound hk Y.cause (a' (.lays vn_n Bundle.tN "cause" "Ljava/lang/Throwable;") (by simp [vn_atoms]))
  obtain ⟨tyS, dS, hdS, hdnS⟩ := Cond.laysAt hfound hk Y.stack (a' (.lays vn_n Bundle.tN "stackTrace" Bundle.steD) (by simp [vn_atoms]))
  obtain ⟨tyP, dP, hdP, hdnP⟩ := Cond.laysAt hfound hk Y.supp (a' (.lays vn_n Bundle.tN "suppressedExceptions" Bundle.listD) (by simp [vn_atoms]))
  obtain ⟨tyM, dM, hdM, hdnM⟩ := Cond.laysAt hfound hk hffM (a' (.lays vn_n Bundle.tN "detailMessage" "Ljava/lang/String;") (by simp [vn_atoms]))
  obtain ⟨tyB, dB, hdB, hdnB⟩ := Cond.laysAt hfound hk hffB (a' (.lays vn_n Bundle.tN "backtrace" "Ljava/lang/Object;") (by simp [vn_atoms]))
  have bC := Cond.laysApart hdB hdC hdnB hdnC (by rw [hnB, Y.causeName]; decide)
  have bS := Cond.laysApart hdB hdS hdnB hdnS (by rw [hnB, Y.stackName]; decide)
  have bP := Cond.laysApart hdB hdP hdnB hdnP (by rw [hnB, Y.suppName]; decide)
  have hskip : SkipFacts T e.platform s (fun u => u) u0 ((preparedCellV T.toThrowableT (freshCell P1.m.cls kX) a u0 sen).withEntry W.cur) :=
    ⟨{ ci198 := ci198, i198 := i198, fBack := fB }, ⟨hk198, hg198, ha198, hsB⟩, by
      have := fresh_default (c := P1.m.cls) tyB
      rw [htB] at this
      simpa [preparedCellV, Cell.setSlot, Cell.withEntry, Array.getElem?_setIfInBounds, bC, bS, bP, bC.symm, bS.symm, bP.symm, defaultValue] using this, fun _ _ => rfl⟩
  obtain ⟨tm, methC, cdC, kC, vm₁, hnC, -, -, -, -, -, -, -, hW₁, st1⟩ := Steps.initColdS (tb := p.tables) (e := e) (below := below) (s := s) (U := W) X.here hexec X.warmed hpl hown (t := Bundle.initS vn_n) rfl rfl (by decide)
    (a' (.methodLink own ic (Bundle.initS vn_n)) (by simp [vn_atoms])) (h (.instanceMethod (Bundle.initS vn_n)) (by simp [vn_atoms, Bundle.passSAtoms])) (bytes := vn_b) (maxL := 2) (h (.code (Bundle.initS vn_n) vn_b 2 none) (by simp [vn_atoms, Bundle.passSAtoms]))
    (f := g) hg (a := a) (msg := msg) (rest := .ref a :: rest) hstack hd6
  cases Option.some.inj (hnC.symm.trans hP1m)
  have X₁ := X.noted hW₁
  obtain ⟨vm₂, X₂, st2⟩ := X₁.ctorMessageOffV hexec (g := { g with stack := .ref a :: rest }) hg hsize T L Z LZ M LM (P1 :: P2 :: Ps)
    (fun P hP => by rcases List.mem_cons.mp hP with rfl | hP; exact L1; rcases List.mem_cons.mp hP with rfl | hP; exact L2; exact hL P hP) ⟨hsup, hlink1, hlink⟩ (u0 := u0) (sen := sen) (self := a) hmsg (cell := freshCell P1.m.cls kX) (cellS := cellS)
    hcell (fun _ => by simp) (by simp) rfl rfl hsel0 hselF hcS' hneS hknownS (by rw [hkeep _ (hout' _)]; exact hu0) (by rw [hkeep _ (hout' _)]; exact hsen)
    (Takes.of_laid hk hord tyC (by rw [Y.causeType]; rfl)) (Takes.of_laid hk hord tyS (by rw [Y.stackType]; exact fits_refV_array _ u0)) (Takes.of_laid hk hord tyP (by rw [Y.suppType]; exact fits_refV_object _ sen))
    (Takes.of_laid hk hord tyM (by rw [Y.msgType]; exact fits_refV_object _ ⟨msg, hmsg⟩)) Y.objLocals hskip htr [] hd6
    (by simp only [List.length_cons, List.length_nil, hlen] at *; omega) (by simp only [List.length_cons, List.length_nil, hlen] at *; exact hRlocals)
  obtain ⟨hwalk, hrun, hended, hWU, hsame⟩ := X₂.athrowLeaves hexec (g := { g with stack := .ref a :: rest, pc := g.pc + 3 }) hg hlocked hentered hout (a := a) (rest := rest) rfl hd9
  have hlt : a < ((W.setVm vm₁).setVm vm₂).heap.size := (Array.getElem?_eq_some_iff.mp hcell).1
  have hU := heapAt_setCell_self (s := (W.setVm vm₁).setVm vm₂) (plainBareV T.toThrowableT (freshCell P1.m.cls kX) a u0 sen msg) hlt
  refine ⟨_, st1 _ (fun acts => ?_), hrun, hended, hWU, hsame.weaken (fun y hy hlt' => ?_) (Nat.le_refl _) (Nat.le_refl _), _, hU, hfound, rfl⟩
  · rw [doInvoke_state]
    exact st2 _ hwalk
  · rcases List.mem_append.mp hy with h1 | h1
    · exact h1
    · exfalso
      have hb : y.base = a := by
        simp only [List.mem_cons, List.not_mem_nil, or_false] at h1
        rcases h1 with rfl | rfl | rfl | rfl | rfl <;> rfl
      rw [hb] at hlt'
      exact Nat.not_lt.mpr hnew hlt'
end
section
variable {p : Program} {l : Launch} {e : Env} {R : Room} {s : State} {m : MethodId} {args : Array Value} {below : List Frame} {meth : Method} {c : Code} {H : Heap} {locs : List Loc} {cells slots : Nat}
variable {free : Addr → Prop} {ls : Array Slot} {rest : List Value}
variable {Qc : Array Value → State → Outcome → State → Prop} {XC : String → State → State → Prop}
/-- 'throw new NoSuchElementException("text")', the text by a wide index -/
theorem vn_throwSW {cc : ByteArray} {pc : Nat} (hexec : p.tables.exec = Jvm.exec) (hb : c.code = cc) (hl : l.stackTraces = false) {own text : String} {ik is ic mc ms sa : Nat} {A : Nat → Prop}
    (hown : s.vm.findClass own = some m.cls)
    (hk : (Cond.classLink own ik vn_n).before args s = true) (hini : (Cond.initialized vn_n).before args s = true) (hstr : vk_R own is text sa s) (hat : ∀ w ∈ vn_atS own ic, w.before args s = true)
    (hgood : ∀ w ∈ Cond.classLink own ik vn_n :: Cond.initialized vn_n :: vn_atS own ic, vx_ot w = true)
    (hU : vx_Zq Bundle.tN "UNASSIGNED_STACK" Bundle.steD A s s.heap) (hN : vx_Zq Bundle.tN "SUPPRESSED_SENTINEL" Bundle.listD A s s.heap) (hS : va_S A s.heap H locs) (hsize : ls.size = c.maxLocals)
    (d0 : decode cc pc = .ok (.new ik, 3)) (d3 : decode cc (pc + 3) = .ok (.dup, 1)) (d4 : decode cc (pc + 4) = .ok (.ldc_w is, 3)) (d7 : decode cc (pc + 7) = .ok (.invokespecial ic, 3)) (d10 : decode cc (pc + 10) = .ok (.athrow, 1))
    (hout : ∀ x ∈ c.exceptionTable.toList, covers x (pc + 10) = false)
    (hRframes : 5 < R.frames) (hRlocals : (rest.map fun v => v.category).sum + 82 ≤ R.locals) (hRcells : cells + 1 ≤ R.cells) (hRslots : slots + 6 ≤ R.slots) (hlocks : meth.locks = false)
    (hx : ∀ t : State, s.vm.Alike t.vm → H.size ≤ t.heap.size → (∀ q : Nat, q < H.size → t.heap[q]? = H[q]?) → XC vn_n s t)
    (hf : ∀ z ∈ locs, free z.base) (hc : cells + 1 ≤ mc) (hs : slots + 6 ≤ ms) :
    W p l e R s m args below meth c H locs cells slots (vx_MQ below Qc XC args s mc ms free) (F0 m pc ls rest) := by
  intro T hT X
  have htr : e.platform.stackTraces = false := (show e.platform.stackTraces = l.stackTraces by rw [X.admits.platform]).trans hl
  have Y := vx_rebase X (R' := { frames := R.frames, locals := R.locals, cells := 1, slots := 6 }) (Nat.le_refl _) (Nat.le_refl _) hRcells hRslots
  obtain ⟨s', hA⟩ : ∃ z, z = (T.setVm s.vm).setFrames (.invoking m args :: below) := ⟨_, rfl⟩
  rw [← hA] at Y
  have hvm : s'.vm = s.vm := by rw [hA]; rfl
  have hhp : s'.heap = H := by rw [hA]; exact hT
  have hW0 : s.WarmedH s'.vm := by rw [hvm]; exact State.WarmedH.refl s
  have hat' : ∀ w ∈ vn_atS own ic, w.before args s' = true := fun w hw => vx_ot_at hW0 hvm.symm (hgood w (List.mem_cons_of_mem _ (List.mem_cons_of_mem _ hw))) (hat w hw)
  have hk' : (Cond.classLink own ik vn_n).before args s' = true := vx_ot_at hW0 hvm.symm (hgood _ List.mem_cons_self) hk
  have hini' : (Cond.initialized vn_n).before args s' = true := vx_ot_at hW0 hvm.symm (hgood _ (List.mem_cons_of_mem _ List.mem_cons_self)) hini
  have hU' : vx_Zq Bundle.tN "UNASSIGNED_STACK" Bundle.steD A s' s'.heap := by rw [hhp]; exact vx_Zq.moved hW0.alike (hU.kept hS.2.1)
  have hN' : vx_Zq Bundle.tN "SUPPRESSED_SENTINEL" Bundle.listD A s' s'.heap := by rw [hhp]; exact vx_Zq.moved hW0.alike (hN.kept hS.2.1)
  have h : ∀ w ∈ vn_atoms own ic, w.before args s' = true := vx_own hat' (vx_isRefq hU'.1) (vx_isRefq hN'.1) hU'.2.word hN'.2.word
  have hown' : s'.vm.findClass own = some m.cls := by rw [hvm]; exact hown
  have hins : (Cond.instantiable vn_n 6).before args s' = true := h _ (by simp [vn_atoms])
  obtain ⟨vm₁, cX, kX, hfX, hkX, -, -, X₁, st1⟩ := Y.newCold hexec (own := own) (C := vn_n) (index := ik) (n := 6) hown' hk' hins hini'
    (g := F0 m pc ls rest) rfl (by rw [hb]; exact d0) (Nat.le_refl _) (Nat.le_refl _)
  generalize hT1 : (T.setVm vm₁).pushCell { cls := cX, slots := kX.instanceTypes.map defaultValue, vm := .none } = T1 at X₁ st1
  have hcat : (Value.ref T.heap.size).category = 1 := rfl
  have hcellA : T1.heap[T.heap.size]? = some (freshCell cX kX) := by rw [← hT1]; exact State.heap_pushCell_size _ _
  have d3' : decode c.code (pc + 3) = .ok (.dup, 1) := by rw [hb]; exact d3
  have d4' : decode c.code (pc + 4) = .ok (.ldc_w is, 3) := by rw [hb]; exact d4
  have hstr' : vk_R own is text sa s' := vk_R.warm hW0 hstr
  obtain ⟨U, hsteps, hrun, hend, hW, hsame, ce, hce, hcl0, hcv⟩ := vn_ctorThrow X₁ hexec htr (own := own) (ic := ic) hown' h (fun x hx => nomatch hx) hfX hkX hcellA (by rw [hhp, hT]; exact Nat.le_refl _) (msg := .ref sa) rfl
    (g := { method := m, pc := pc + 7, locals := ls, stack := .ref sa :: .ref T.heap.size :: .ref T.heap.size :: rest, locked := none }) rfl hsize rfl rfl (rest := rest) rfl
    (by rw [hb]; exact d7) (by rw [hb]; exact d10) hout hRframes (by simp only [List.map_cons, List.sum_cons, hcat]; omega) hlocks
  obtain ⟨f1, f2⟩ := vx_frame hsame
  rw [hhp] at f1 f2
  have hWs : s.WarmedH U.vm := State.WarmedH.trans hW0 hW
  have hcl : s.vm.findClass vn_n = some ce.cls := by rw [← hvm]; exact hcl0
  have hall : s.sameButNew ({ U with vm := s.vm } : State) locs mc ms := by
    subst hA
    obtain ⟨e1, e2⟩ := hsame
    rw [State.setFrames_setFrames] at e1
    have h2 : (T.setVm s.vm).sameButNew ({ U with vm := s.vm } : State) [] (0 + 1) (0 + 6) := ⟨e1, e2⟩
    have h3 := X.same.trans h2
    rw [List.append_nil] at h3
    exact h3.mono hc hs
  refine ⟨U, ?_, .threw T.heap.size, hrun, hend, Or.inr ⟨T.heap.size, rfl, vn_n, ce, locs, hx U hWs.alike f1 (fun q hq => f2 q hq (fun z hz => nomatch hz)), hce, hcv, hcl, hWs, hall, hf⟩⟩
  refine st1 _ ?_
  show Steps p.tables e below (T1.setTop { method := m, pc := pc + 3, locals := ls, stack := .ref T.heap.size :: rest, locked := none }) _
  jvm_step X₁.here [X₁.here.top, hexec, d3', Value.category]
  exact X₁.ldcStringW hexec (own := own) (text := text) (index := is) (a := sa) hown' hstr'.1 hstr'.2
    (g := { method := m, pc := pc + 4, locals := ls, stack := .ref T.heap.size :: .ref T.heap.size :: rest, locked := none }) rfl d4' _ hsteps
end

set_option maxHeartbeats 4000000 in
set_option maxRecDepth 100000 in
theorem c_X11_floor (l : Launch) (hlf : l.stackTraces = false) (dC : Nat → ClassId) (dI : Nat → Nat → Nat) (g : Nat → ClassId) (a : Nat → Nat) (x : Int32) (k : Int32) (sz : Nat) : vx_Met l yX11_floor wsX11_floor ({ frames := 8, cells := 8, slots := 48, locals := 125 }) (va_Pc [.ref (a 0), .int x, .int k] (PG (dC, dI) g (offW a g) sz)) (va_Qi (fun (_ : Int32) (_ : Unit) => False) (fun (_ : Unit) (_ : State) => True) (va_A (offW a g) sz)) (vx_X (fun _ : Unit => True) (fun E _ _ => (E = "java/lang/IndexOutOfBoundsException" ∧ (TOKb x) = false) ∨ (E = "java/util/NoSuchElementException" ∧ TOKb x = true ∧ false = false)) (va_A (offW a g) sz)) 8 48 (va_A (offW a g) sz) := by
  refine vx_ofW (cc := cX11_floor) (maxL := 5) (ret := (some .int)) (by decide) rfl ?_
  intro p e s m args below meth c s₁ B hml hno hv
  obtain ⟨rfl, hsz, hP, hK, hD0, hG⟩ := hv
  have hx := B.exec
  have hb := B.bytes
  have hr := B.returns
  have hts := atoms_spec (ws := wsX11_floor) B.pre
  have hown : s.vm.findClass RX11 = some m.cls := findClass_of_methodNamed B.named
  have hlocks := B.notSynchronized
  subst hsz
  have hD := hD0.self (sz := s.heap.size)
  generalize hAe : va_A (offW a g) s.heap.size = A at hD hG ⊢
  have hA : ∀ q : Nat, s.heap.size ≤ q → A q := fun q h => by rw [← hAe]; exact Or.inr h
  have hS : va_S A s.heap s.heap [] := va_S.rf
  have hl := lv_entry ([.ref (a 0), .int x, .int k]) (n := 5) (Nat.le_of_ble_eq_true rfl)
  rw [lg_entry_eq]
  generalize (lg_sl ([.ref (a 0), .int x, .int k]) ++ List.replicate (5 - (lg_sl ([.ref (a 0), .int x, .int k])).length) Slot.unset).toArray = ls at hl ⊢
  have hl : lv_has ls 5 [(0, .ref (a 0)), (1, .int x), (2, .int k)] := hl
  have hf10 := hts (Cond.fieldLink RX11 10 "RunmergeOffice" "book" "LRunmergeOffice$Book;") (by decide +kernel)
  have hiX11 : ∀ w ∈ u_ws RX11 TX11 13, w ∈ wsX11_floor := by decide +kernel
  have hcl289 := hts (Cond.classLink RX11 289 "java/util/NoSuchElementException") (by decide +kernel)
  have hini_NoSuchElementException := hts (Cond.initialized "java/util/NoSuchElementException") (by decide +kernel)
  refine lv_aload_n hx hb dX11_floor_0 rfl (lv_at hl 0 rfl) ?_
  refine lv_iload_n hx hb dX11_floor_1 rfl (lv_at hl 1 rfl) ?_
  refine vx_callq (vx_runV (As := [.int x]) (rest := []) ⟨hx, hb, hml, hown, hts⟩ (c_X11_sortedTapeOf l hlf dC dI g a x  s.heap.size) (cwV 1 hts gX11_floor_X11_sortedTapeOf rfl rfl rfl (by decide +kernel) ⟨Nat.le_of_ble_eq_true rfl, Nat.le_of_ble_eq_true rfl⟩) ⟨PG_blind, va_recv hK hP (ci := 13) (q0 := 0) rfl (o_0 a g), PG_call hK hG hS hP hD (A_all hD hA hS.1)⟩ rfl rfl hl.1 rfl (lv_room (Nat.le_of_ble_eq_true rfl)) dX11_floor_2 ⟨Nat.le_of_ble_eq_true rfl, Nat.le_of_ble_eq_true rfl⟩) hS (fun q _ h => (A_all hD hA hS.1) q h) (A_all hD hA hS.1) (fun q _ h => (A_all hD hA hS.1) q h) (fun E ce q9 u t H1 locs1 ht hvm hp9 hB9 hz hk hS9 hce hcv hcl => ?_) (fun r_1 u_1 t_1 H_1 L_1 ht_1 hvm_1 hw_1 hB_1 hz_1 hk_1 hS => ?_)
  · exact vx_out (fun x hx => (hno x hx).elim) hlocks hce hcv hcl (fun t ht hW => ⟨(), trivial, (by have h9 : E = "java/lang/IndexOutOfBoundsException" ∧ TOKb x = false := hB9; exact (Or.inl ⟨h9.1, by simp [h9.2]⟩)), hS9.F ht⟩) hS9.2.2 (Nat.le_of_ble_eq_true rfl) (Nat.le_of_ble_eq_true rfl)
  replace hB_1 := (show va_P (dC, dI) vwCl (offW a g) t_1.heap from hB_1)
  rw [ht_1] at hB_1
  have hP := hB_1
  obtain ⟨j_1, hj_1, ex_1, rfl⟩ := hw_1
  have w_1 := o_tape a g j_1 hj_1
  refine lv_astore_n (lv' := [(3, .ref (a (108 + j_1))), (0, .ref (a 0)), (1, .int x), (2, .int k)]) hx hb dX11_floor_5 rfl hl (by decide) rfl (fun ls hl => ?_)
  refine lv_aload_n hx hb dX11_floor_6 rfl (lv_at hl 0 rfl) ?_
  refine lv_aload_n hx hb dX11_floor_7 rfl (lv_at hl 1 rfl) ?_
  refine va_get (D := (dC, dI)) (ci := 13) (v := .ref (a 1)) (C := RX11) (T := TX11) (N := 13) hx hb hts hiX11 hown hK hP 0 (o_0 a g) rfl 0 (by decide) hf10 (fun _ h9 => h9) rfl dX11_floor_8 ?_
  refine lv_iload_n hx hb dX11_floor_11 rfl (lv_at hl 3 rfl) ?_
  refine va_calli (va_runV (As := [.ref (a 1), .int k]) (rest := []) ⟨hx, hb, hml, hown, hts⟩ (c_X9_countUpTo l dC dI g (offW a g) (a (108 + j_1)) (a (116 + j_1)) (a 1) k (108 + j_1) w_1  H_1.size) (cwV 2 hts gX11_floor_X9_countUpTo rfl rfl rfl (by decide +kernel) ⟨Nat.le_of_ble_eq_true rfl, Nat.le_of_ble_eq_true rfl⟩) ⟨PG_blind, va_recv hK hP (ci := 11) (q0 := (108 + j_1)) rfl w_1, PG_call hK hG hS hP hD (A_all hD hA hS.1)⟩ rfl rfl hl.1 rfl (lv_room (Nat.le_of_ble_eq_true rfl)) dX11_floor_12 ⟨Nat.le_of_ble_eq_true rfl, Nat.le_of_ble_eq_true rfl⟩) hS (fun q _ h => (A_all hD hA hS.1) q h) (A_all hD hA hS.1) (fun r_2 u_2 t_2 H_2 L_2 ht_2 hvm_2 hw_2 hB_2 hz_2 hk_2 hS => ?_)
  replace hB_2 := (show va_P (dC, dI) vwCl (offW a g) t_2.heap from hB_2)
  rw [ht_2] at hB_2
  have hP := hB_2
  obtain rfl : r_2 = 0 := hw_2
  refine lv_iconst (v := 1) hx hb dX11_floor_15 (by decide) ?_
  refine lv_isub hx hb dX11_floor_16 ?_
  refine lv_topi (fun x_3 ex_3 => ?_)
  obtain rfl : x_3 = (-1) := ex_3.trans (by decide)
  refine lv_istore (lv' := [(4, .int (-1)), (3, .ref (a (108 + j_1))), (0, .ref (a 0)), (1, .int x), (2, .int k)]) hx hb dX11_floor_17 hl (by decide) rfl (fun ls hl => ?_)
  refine lv_iload hx hb dX11_floor_19 (lv_at hl 0 rfl) ?_
  refine lv_if_ge (tgt := 35) hx hb dX11_floor_21 (by decide) (fun c_4 => absurd c_4 (by decide)) (fun c_4 => ?_)
  obtain ⟨sa, hsa⟩ := st_30 hG
  exact vn_throwSW hx hb hlf (own := RX11) (text := "no key is so small") (ik := 289) (is := 291) (ic := 293) hown hcl289 hini_NoSuchElementException hsa (vx_hat (B := [.castable "java/util/NoSuchElementException" "java/util/NoSuchElementException", .declares (Bundle.initS "java/lang/RuntimeException"), .declares (Bundle.initS "java/lang/Exception"), .declares (Bundle.initS "java/lang/Throwable")]) (fun w h => hts w (List.mem_cons_of_mem _ (by first | exact List.mem_append_right _ h | exact List.mem_append_left _ (List.mem_append_right _ h) | exact List.mem_append_left _ (List.mem_append_left _ (List.mem_append_right _ h))))) (by decide +kernel) (vx_c (xc_3 hG) (vx_c (dc_0 hG) (vx_c (dc_1 hG) (vx_c (dc_2 hG) vx_n))))) (by decide +kernel) hG.2.2.2.1 hG.2.2.2.2.1 hS (hl.1.trans hml.symm) dX11_floor_24 dX11_floor_27 dX11_floor_28 dX11_floor_31 dX11_floor_34 (fun x hx => (hno x hx).elim) (Nat.le_of_ble_eq_true rfl) (Nat.le_of_ble_eq_true rfl) (Nat.le_of_ble_eq_true rfl) (Nat.le_of_ble_eq_true rfl) hlocks (fun t hW hz hk => ⟨(), trivial, (Or.inr ⟨rfl, by simp [TOK_j hj_1 ex_1], by simp []⟩), F_of hS hz hk⟩) hS.2.2 (Nat.le_of_ble_eq_true rfl) (Nat.le_of_ble_eq_true rfl)
set_option maxHeartbeats 4000000 in
set_option maxRecDepth 100000 in
theorem c_X11_ceiling (l : Launch) (hlf : l.stackTraces = false) (dC : Nat → ClassId) (dI : Nat → Nat → Nat) (g : Nat → ClassId) (a : Nat → Nat) (x : Int32) (k : Int32) (sz : Nat) : vx_Met l yX11_ceiling wsX11_ceiling ({ frames := 8, cells := 8, slots := 48, locals := 125 }) (va_Pc [.ref (a 0), .int x, .int k] (PG (dC, dI) g (offW a g) sz)) (va_Qi (fun (_ : Int32) (_ : Unit) => False) (fun (_ : Unit) (_ : State) => True) (va_A (offW a g) sz)) (vx_X (fun _ : Unit => True) (fun E _ _ => (E = "java/lang/IndexOutOfBoundsException" ∧ (TOKb x) = false) ∨ (E = "java/util/NoSuchElementException" ∧ TOKb x = true ∧ false = false)) (va_A (offW a g) sz)) 8 48 (va_A (offW a g) sz) := by
  refine vx_ofW (cc := cX11_ceiling) (maxL := 5) (ret := (some .int)) (by decide) rfl ?_
  intro p e s m args below meth c s₁ B hml hno hv
  obtain ⟨rfl, hsz, hP, hK, hD0, hG⟩ := hv
  have hx := B.exec
  have hb := B.bytes
  have hr := B.returns
  have hts := atoms_spec (ws := wsX11_ceiling) B.pre
  have hown : s.vm.findClass RX11 = some m.cls := findClass_of_methodNamed B.named
  have hlocks := B.notSynchronized
  subst hsz
  have hD := hD0.self (sz := s.heap.size)
  generalize hAe : va_A (offW a g) s.heap.size = A at hD hG ⊢
  have hA : ∀ q : Nat, s.heap.size ≤ q → A q := fun q h => by rw [← hAe]; exact Or.inr h
  have hS : va_S A s.heap s.heap [] := va_S.rf
  have hl := lv_entry ([.ref (a 0), .int x, .int k]) (n := 5) (Nat.le_of_ble_eq_true rfl)
  rw [lg_entry_eq]
  generalize (lg_sl ([.ref (a 0), .int x, .int k]) ++ List.replicate (5 - (lg_sl ([.ref (a 0), .int x, .int k])).length) Slot.unset).toArray = ls at hl ⊢
  have hl : lv_has ls 5 [(0, .ref (a 0)), (1, .int x), (2, .int k)] := hl
  have hf10 := hts (Cond.fieldLink RX11 10 "RunmergeOffice" "book" "LRunmergeOffice$Book;") (by decide +kernel)
  have hiX11 : ∀ w ∈ u_ws RX11 TX11 13, w ∈ wsX11_ceiling := by decide +kernel
  have hiX9 : ∀ w ∈ u_ws RX9 TX9 2, w ∈ wsX11_ceiling := by decide +kernel
  have hcl289 := hts (Cond.classLink RX11 289 "java/util/NoSuchElementException") (by decide +kernel)
  have hini_NoSuchElementException := hts (Cond.initialized "java/util/NoSuchElementException") (by decide +kernel)
  refine lv_aload_n hx hb dX11_ceiling_0 rfl (lv_at hl 0 rfl) ?_
  refine lv_iload_n hx hb dX11_ceiling_1 rfl (lv_at hl 1 rfl) ?_
  refine vx_callq (vx_runV (As := [.int x]) (rest := []) ⟨hx, hb, hml, hown, hts⟩ (c_X11_sortedTapeOf l hlf dC dI g a x  s.heap.size) (cwV 1 hts gX11_ceiling_X11_sortedTapeOf rfl rfl rfl (by decide +kernel) ⟨Nat.le_of_ble_eq_true rfl, Nat.le_of_ble_eq_true rfl⟩) ⟨PG_blind, va_recv hK hP (ci := 13) (q0 := 0) rfl (o_0 a g), PG_call hK hG hS hP hD (A_all hD hA hS.1)⟩ rfl rfl hl.1 rfl (lv_room (Nat.le_of_ble_eq_true rfl)) dX11_ceiling_2 ⟨Nat.le_of_ble_eq_true rfl, Nat.le_of_ble_eq_true rfl⟩) hS (fun q _ h => (A_all hD hA hS.1) q h) (A_all hD hA hS.1) (fun q _ h => (A_all hD hA hS.1) q h) (fun E ce q9 u t H1 locs1 ht hvm hp9 hB9 hz hk hS9 hce hcv hcl => ?_) (fun r_1 u_1 t_1 H_1 L_1 ht_1 hvm_1 hw_1 hB_1 hz_1 hk_1 hS => ?_)
  · exact vx_out (fun x hx => (hno x hx).elim) hlocks hce hcv hcl (fun t ht hW => ⟨(), trivial, (by have h9 : E = "java/lang/IndexOutOfBoundsException" ∧ TOKb x = false := hB9; exact (Or.inl ⟨h9.1, by simp [h9.2]⟩)), hS9.F ht⟩) hS9.2.2 (Nat.le_of_ble_eq_true rfl) (Nat.le_of_ble_eq_true rfl)
  replace hB_1 := (show va_P (dC, dI) vwCl (offW a g) t_1.heap from hB_1)
  rw [ht_1] at hB_1
  have hP := hB_1
  obtain ⟨j_1, hj_1, ex_1, rfl⟩ := hw_1
  have w_1 := o_tape a g j_1 hj_1
  refine lv_astore_n (lv' := [(3, .ref (a (108 + j_1))), (0, .ref (a 0)), (1, .int x), (2, .int k)]) hx hb dX11_ceiling_5 rfl hl (by decide) rfl (fun ls hl => ?_)
  refine lv_aload_n hx hb dX11_ceiling_6 rfl (lv_at hl 0 rfl) ?_
  refine lv_aload_n hx hb dX11_ceiling_7 rfl (lv_at hl 1 rfl) ?_
  refine va_get (D := (dC, dI)) (ci := 13) (v := .ref (a 1)) (C := RX11) (T := TX11) (N := 13) hx hb hts hiX11 hown hK hP 0 (o_0 a g) rfl 0 (by decide) hf10 (fun _ h9 => h9) rfl dX11_ceiling_8 ?_
  refine lv_iload_n hx hb dX11_ceiling_11 rfl (lv_at hl 3 rfl) ?_
  refine va_calli (va_runV (As := [.ref (a 1), .int k]) (rest := []) ⟨hx, hb, hml, hown, hts⟩ (c_X9_countBelow l dC dI g (offW a g) (a (108 + j_1)) (a (116 + j_1)) (a 1) k (108 + j_1) w_1  H_1.size) (cwV 2 hts gX11_ceiling_X9_countBelow rfl rfl rfl (by decide +kernel) ⟨Nat.le_of_ble_eq_true rfl, Nat.le_of_ble_eq_true rfl⟩) ⟨PG_blind, va_recv hK hP (ci := 11) (q0 := (108 + j_1)) rfl w_1, PG_call hK hG hS hP hD (A_all hD hA hS.1)⟩ rfl rfl hl.1 rfl (lv_room (Nat.le_of_ble_eq_true rfl)) dX11_ceiling_12 ⟨Nat.le_of_ble_eq_true rfl, Nat.le_of_ble_eq_true rfl⟩) hS (fun q _ h => (A_all hD hA hS.1) q h) (A_all hD hA hS.1) (fun r_2 u_2 t_2 H_2 L_2 ht_2 hvm_2 hw_2 hB_2 hz_2 hk_2 hS => ?_)
  replace hB_2 := (show va_P (dC, dI) vwCl (offW a g) t_2.heap from hB_2)
  rw [ht_2] at hB_2
  have hP := hB_2
  obtain rfl : r_2 = 0 := hw_2
  refine lv_istore (lv' := [(4, .int 0), (3, .ref (a (108 + j_1))), (0, .ref (a 0)), (1, .int x), (2, .int k)]) hx hb dX11_ceiling_15 hl (by decide) rfl (fun ls hl => ?_)
  refine lv_iload hx hb dX11_ceiling_17 (lv_at hl 0 rfl) ?_
  refine lv_aload_n hx hb dX11_ceiling_19 rfl (lv_at hl 1 rfl) ?_
  refine va_getN (D := (dC, dI)) (ci := 11) (v := .int 0) (C := RX9) (T := TX9) (N := 2) hx hb hts hiX9 hown hK hP (108 + j_1) w_1 rfl 1 (by decide) (nf_3 hG) (fun _ h9 => h9) rfl dX11_ceiling_20 ?_
  refine lv_icmp_lt (tgt := 37) hx hb dX11_ceiling_23 (by decide) (fun c_3 => absurd c_3 (by decide)) (fun c_3 => ?_)
  obtain ⟨sa, hsa⟩ := st_31 hG
  exact vn_throwSW hx hb hlf (own := RX11) (text := "no key is so great") (ik := 289) (is := 294) (ic := 293) hown hcl289 hini_NoSuchElementException hsa (vx_hat (B := [.castable "java/util/NoSuchElementException" "java/util/NoSuchElementException", .declares (Bundle.initS "java/lang/RuntimeException"), .declares (Bundle.initS "java/lang/Exception"), .declares (Bundle.initS "java/lang/Throwable")]) (fun w h => hts w (List.mem_cons_of_mem _ (by first | exact List.mem_append_right _ h | exact List.mem_append_left _ (List.mem_append_right _ h) | exact List.mem_append_left _ (List.mem_append_left _ (List.mem_append_right _ h))))) (by decide +kernel) (vx_c (xc_3 hG) (vx_c (dc_0 hG) (vx_c (dc_1 hG) (vx_c (dc_2 hG) vx_n))))) (by decide +kernel) hG.2.2.2.1 hG.2.2.2.2.1 hS (hl.1.trans hml.symm) dX11_ceiling_26 dX11_ceiling_29 dX11_ceiling_30 dX11_ceiling_33 dX11_ceiling_36 (fun x hx => (hno x hx).elim) (Nat.le_of_ble_eq_true rfl) (Nat.le_of_ble_eq_true rfl) (Nat.le_of_ble_eq_true rfl) (Nat.le_of_ble_eq_true rfl) hlocks (fun t hW hz hk => ⟨(), trivial, (Or.inr ⟨rfl, by simp [TOK_j hj_1 ex_1], by simp []⟩), F_of hS hz hk⟩) hS.2.2 (Nat.le_of_ble_eq_true rfl) (Nat.le_of_ble_eq_true rfl)
