/-- a text of n letters f, Latin-1, at a -/
def GSb (n : Nat) (f : Nat → Int32) (a : Nat) (A : Nat → Prop) (U : State) : Prop := ∃ v : Nat, va_O "java/lang/String" a A U U.heap ∧ va_OF "java/lang/String" "coder" "B" (.int 0) a A U U.heap ∧ va_OF "java/lang/String" "value" "[B" (.ref v) a A U U.heap ∧ va_T .byte v n (fun j => .int (f j)) A U U.heap
/-- n bytes f at v -/
def GYb (n : Nat) (f : Nat → Int32) (v : Nat) (A : Nat → Prop) (U : State) : Prop := va_T .byte v n (fun j => .int (f j)) A U U.heap
def XGo (X : (Nat → Prop) → State → Prop) : Prop := ∀ (A B : Nat → Prop) (s U : State) (H : Heap) (locs : List Loc), X A s → s.WarmedH U.vm → U.heap = H → va_S A s.heap H locs → (∀ q, B q → A q) → X B U
theorem GYb_go (n : Nat) (f : Nat → Int32) (v : Nat) : XGo (GYb n f v) := by
  intro A B s U H locs h hW hU hS hAB
  unfold GYb at h ⊢
  rw [hU]; exact (va_T.moved hW.alike (h.kept hS.2.1)).narrow hAB
theorem GSb_go (n : Nat) (f : Nat → Int32) (a : Nat) : XGo (GSb n f a) := by
  intro A B s U H locs h hW hU hS hAB
  obtain ⟨v, h1, h2, h3, h4⟩ := h
  refine ⟨v, ?_, ?_, ?_, ?_⟩
  · rw [hU]; exact (va_O.moved hW.alike (h1.kept hS.2.1)).narrow hAB
  · rw [hU]; exact (va_OF.moved hW.alike (h2.kept hS.2.1)).narrow hAB
  · rw [hU]; exact (va_OF.moved hW.alike (h3.kept hS.2.1)).narrow hAB
  · rw [hU]; exact (va_T.moved hW.alike (h4.kept hS.2.1)).narrow hAB
def PX (X : (Nat → Prop) → State → Prop) (D : va_G) (g : Nat → ClassId) (W : va_W) (sz : Nat) (U : State) : Prop := PG D g W sz U ∧ X (va_A W sz) U
theorem PX_blind {X : (Nat → Prop) → State → Prop} (hX : XGo X) {av : List Value} {D : va_G} {g : Nat → ClassId} {W : va_W} {sz : Nat} : FrameBlind (va_Pc av (PX X D g W sz)) := by
  intro a U f mk q
  obtain ⟨q0, ⟨q1, qP, qK, qD, qG⟩, qT⟩ := q
  exact ⟨q0, ⟨q1, qP, va_K.moved (u := U) (U := U.calling f mk a) (Vm.Alike.refl U.vm) qK, qD, qG.go (U := U.calling f mk a) (State.WarmedH.refl U) rfl va_S.rf (fun _ h => h)⟩, hX _ _ U (U.calling f mk a) _ [] qT (State.WarmedH.refl U) rfl va_S.rf (fun _ h => h)⟩
theorem PX_call {X : (Nat → Prop) → State → Prop} (hX : XGo X) {av : List Value} {D : va_G} {g : Nat → ClassId} {A : Nat → Prop} {wc : va_W} {s : State} {H : Heap} {locs : List Loc} (hK : va_K D vwCl (tyL g) s) (hG : GB g A s) (hS : va_S A s.heap H locs) (hP : va_P D vwCl wc H) (hD : va_D A wc) (hF : ∀ q, va_A wc H.size q → A q) (hT : X A s) :
    ∀ U : State, U.heap = H → s.WarmedH U.vm → va_Pc av (PX X D g wc H.size) av.toArray U := fun U hU hW => ⟨rfl, ⟨by rw [hU], by rw [hU]; exact hP, va_K.moved hW.alike hK, hD.weaken (fun _ _ _ _ => trivial), hG.go hW hU hS hF⟩, hX _ _ s U H locs hT hW hU hS hF⟩
theorem GSb_recv {n a : Nat} {f : Nat → Int32} {A : Nat → Prop} {s : State} {H : Heap} {locs : List Loc} (hT : GSb n f a A s) (hS : va_S A s.heap H locs) : ∃ cell : Cell, H[a]? = some cell ∧ cell.vm.isStatics = false ∧ s.vm.findClass "java/lang/String" = some cell.cls := by
  obtain ⟨v, h1, -⟩ := hT
  obtain ⟨cell, q1, q2, q3, -⟩ := h1.kept hS.2.1
  exact ⟨cell, q1, q2, q3⟩
theorem wd_map (i : Nat) : p_bx.getD i [] = (wd i).map nI := by
  unfold p_bx wd
  rw [List.getD_eq_getElem?_getD, List.getElem?_map, List.getD_eq_getElem?_getD]
  cases wdL[i]? <;> rfl
theorem lnS_tn (i : Nat) : lnS i = tn i := by
  unfold lnS
  rw [wd_map, List.length_map]; rfl
theorem bx_tb (i j : Nat) : (p_bx.getD i []).getD j 0 = tb i j := by
  rw [wd_map]
  unfold tb
  rw [List.getD_eq_getElem?_getD, List.getElem?_map, List.getD_eq_getElem?_getD]
  cases (wd i)[j]? <;> rfl
theorem GSb_of {own : String} {k i : Nat} {A : Nat → Prop} {U : State} (h : GT own k i A U) : ∃ a : Nat, vk_R own k (p_tx.getD i "") a U ∧ GSb (tn i) (tb i) a A U := by
  obtain ⟨adK, adV, h1, h2⟩ := h
  obtain ⟨q1, q2, q3, q4⟩ := h1.1 0 (by decide)
  refine ⟨adK 0, h2, adV 0, q1, q2, q3, ?_⟩
  have e : (fun j => Value.int (tb i j)) = (fun j => Value.int ((([p_bx.getD i []] : List (List Int32)).getD 0 []).getD j 0)) := by
    funext j
    rw [← bx_tb]; rfl
  rw [e]
  have e2 : ([lnS i] : List Nat).getD 0 0 = tn i := lnS_tn i
  rw [e2] at q4
  exact q4
