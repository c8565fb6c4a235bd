theorem dX13_thrown_0 : decode cX13_thrown 0 = .ok (.aload_n 0, 1) := by decide +kernel
theorem dX13_thrown_1 : decode cX13_thrown 1 = .ok (.getfield 1, 3) := by decide +kernel
theorem dX13_thrown_4 : decode cX13_thrown 4 = .ok (.ireturn, 1) := by decide +kernel
def wsXX : List Cond := [.classLink RL 15 "java/lang/IllegalArgumentException", .classLink RL 17 "java/lang/IllegalStateException", .classLink RL 109 "java/util/NoSuchElementException"]
noncomputable def wsLX : List Cond := wsL_law ++ wsXX
theorem gXX : GoodIn wsLX wsXX := fun w h => ⟨List.mem_append_right _ h, Or.inl ((by decide +kernel : ∀ w ∈ wsXX, (w.onTables && w.keeps) = true) w h)⟩
theorem sub_of {A B : List Cond} (h : ∀ w ∈ A, w ∈ B) {w : Cond} (hw : w ∈ A) : w ∈ B := h w hw
theorem gX {W : List Cond} (h : GoodIn wsL_law W) : GoodIn wsLX W := fun w hw => ⟨List.mem_append_left _ (h w hw).1, (h w hw).2⟩
theorem D_one {A : Nat → Prop} {o : Nat} {e : va_E} (h : A o) : va_D A [(o, e)] := by
  refine ⟨fun i j p q hi hj _ => ?_, fun k q hk => ?_⟩
  · have h1 := (List.getElem?_eq_some_iff.mp hi).1
    have h2 := (List.getElem?_eq_some_iff.mp hj).1
    simp only [List.length_singleton] at h1 h2
    omega
  · have h1 := (List.getElem?_eq_some_iff.mp hk).1
    simp only [List.length_singleton] at h1
    obtain rfl : k = 0 := by omega
    cases hk
    exact h
theorem ap_one {W1 : va_W} {o : Nat} {e1 e2 : va_E} (h : ∀ (j k : Nat) (p q : Nat × va_E), W1[j]? = some p → [(o, e1)][k]? = some q → p.1 = q.1 → False) : ∀ (j k : Nat) (p q : Nat × va_E), W1[j]? = some p → [(o, e2)][k]? = some q → p.1 = q.1 → False := by
  intro j k p q hj hk e
  have h1 := (List.getElem?_eq_some_iff.mp hk).1
  simp only [List.length_singleton] at h1
  obtain rfl : k = 0 := by omega
  cases hk
  exact h j 0 p (o, e1) hj rfl e
theorem lg_cmp_self (x : Int64) : lg_cmp x x = 0 := by
  unfold lg_cmp
  first | simp | (simp; done) | decide
/-- what the law has made: the office and the place of its answers; the reference and the place of its doubles -/
def lawL (a : Nat → Nat) (g : Nat → ClassId) (ou : Nat) : va_W := offW a g ++ [(ou, .inl (g 2, 1, .inr (.inl (fun _ => 0))))]
def lawR (b r1 r2 : Nat → Nat) (g : Nat → ClassId) (od : Nat) : va_W := modW b r1 r2 g 0 ++ [(od, .inl (g 3, 1, .inr (.inr (.inr (.inl (fun _ => 0))))))]
/-- the ground of each case -/
def LC (l : Launch) (p : Program) (s : State) (m : MethodId) (c : Code) (bs : Nat) (xs : Nat → Int32) (A : Nat → Prop) (dC : Nat → ClassId) (dI : Nat → Nat → Nat) (g : Nat → ClassId) (a b r1 r2 : Nat → Nat) (ou od : Nat) : Prop :=
  l.stackTraces = false ∧ p.tables.exec = Jvm.exec ∧ c.code = code ∧ c.maxLocals = 10 ∧ s.vm.findClass RL = some m.cls ∧ (∀ w ∈ wsLX, w.before #[Value.ref bs] s = true) ∧ va_X bs 5 xs s s.heap ∧ bs < s.heap.size ∧ ¬ A bs ∧ va_K (dC, dI) vwCl (tyL g) s ∧ GB g A s ∧ (∀ q : Nat, s.heap.size ≤ q → A q) ∧ va_D A (lawL a g ou ++ lawR b r1 r2 g od)
section CTR
variable {A : Nat → Prop} {a b r1 r2 : Nat → Nat} {g : Nat → ClassId} {ou od : Nat}
theorem ap_om (h : va_D A (lawL a g ou ++ lawR b r1 r2 g od)) : ∀ (j k : Nat) (p q : Nat × va_E), (offW a g)[j]? = some p → (modW b r1 r2 g 0)[k]? = some q → p.1 = q.1 → False := fun j k p q hj hk e => D_ap h (i := j) (j := k) (show (offW a g ++ [(ou, .inl (g 2, 1, .inr (.inl (fun _ => 0))))])[j]? = some p by rw [List.getElem?_append_left (List.getElem?_eq_some_iff.mp hj).1]; exact hj) (show (modW b r1 r2 g 0 ++ [(od, .inl (g 3, 1, .inr (.inr (.inr (.inl (fun _ => 0))))))])[k]? = some q by rw [List.getElem?_append_left (List.getElem?_eq_some_iff.mp hk).1]; exact hk) e
theorem ap_ou (h : va_D A (lawL a g ou ++ lawR b r1 r2 g od)) {e : va_E} : ∀ (j k : Nat) (p q : Nat × va_E), (modW b r1 r2 g 0)[j]? = some p → [(ou, e)][k]? = some q → p.1 = q.1 → False := ap_one (e1 := .inl (g 2, 1, .inr (.inl (fun _ => 0)))) (fun j k p q hj hk e => D_ap h (i := (offW a g).length + k) (j := j) (show (offW a g ++ [(ou, .inl (g 2, 1, .inr (.inl (fun _ => 0))))])[(offW a g).length + k]? = some q from app_r hk) (show (modW b r1 r2 g 0 ++ [(od, .inl (g 3, 1, .inr (.inr (.inr (.inl (fun _ => 0))))))])[j]? = some p by rw [List.getElem?_append_left (List.getElem?_eq_some_iff.mp hj).1]; exact hj) e.symm)
theorem ap_od (h : va_D A (lawL a g ou ++ lawR b r1 r2 g od)) {e : va_E} : ∀ (j k : Nat) (p q : Nat × va_E), (modW b r1 r2 g 0)[j]? = some p → [(od, e)][k]? = some q → p.1 = q.1 → False := ap_one (e1 := .inl (g 3, 1, .inr (.inr (.inr (.inl (fun _ => 0)))))) (fun j k p q hj hk e => D_ap (D_r h) hj hk e)
theorem ap_ood (h : va_D A (lawL a g ou ++ lawR b r1 r2 g od)) {e : va_E} : ∀ (j k : Nat) (p q : Nat × va_E), (offW a g)[j]? = some p → [(od, e)][k]? = some q → p.1 = q.1 → False := ap_one (e1 := .inl (g 3, 1, .inr (.inr (.inr (.inl (fun _ => 0)))))) (fun j k p q hj hk e => D_ap h (i := j) (j := (modW b r1 r2 g 0).length + k) (show (offW a g ++ [(ou, .inl (g 2, 1, .inr (.inl (fun _ => 0))))])[j]? = some p by rw [List.getElem?_append_left (List.getElem?_eq_some_iff.mp hj).1]; exact hj) (show (modW b r1 r2 g 0 ++ [(od, .inl (g 3, 1, .inr (.inr (.inr (.inl (fun _ => 0))))))])[(modW b r1 r2 g 0).length + k]? = some q from app_r hk) e)
theorem A_b0 (h : va_D A (lawL a g ou ++ lawR b r1 r2 g od)) : A (b 0) := (D_l (D_r h)).2 0 _ (m_0 b r1 r2 g 0)
theorem A_one {o : Nat} {e : va_E} {sz : Nat} {H0 H : Heap} {s : State} {locs : List Loc} (ho : A o) (hA : ∀ q : Nat, s.heap.size ≤ q → A q) (hS : va_S A s.heap H locs) : ∀ q, va_A [(o, e)] H.size q → A q := A_all (D_one ho) hA hS.1
/-- the world of meanKey's small method -/
theorem D_od (h : va_D A (lawL a g ou ++ lawR b r1 r2 g od)) : va_D A (offW a g ++ [(od, .inl (g 3, 1, .inr (.inr (.inr (.inl (fun _ => 0))))))]) := va_D.app (D_l (D_l h)) (D_r (D_r h)) (fun i j p q hi hj e => ap_ood h i j p q hi hj e)
end CTR
set_option maxHeartbeats 4000000 in
set_option maxRecDepth 100000 in
theorem c_X13_thrown (l : Launch) (dC : Nat → ClassId) (dI : Nat → Nat → Nat) (g : Nat → ClassId) (Wd : va_W) (o : Nat) (th : Int32) (fs : List Value) (k0 : Nat) (w0 : Wd[k0]? = some (o, .inr (15, .int th :: fs))) (sz : Nat) : Met l yX13_thrown wsX13_thrown ({ frames := 0, cells := 0, slots := 0, locals := 0 }) (va_Pc [.ref o] (PG (dC, dI) g Wd sz)) (va_Qi (fun (r : Int32) (_ : Unit) => r = th) (fun (_ : Unit) t => va_P (dC, dI) vwCl Wd t.heap) (va_A Wd sz)) 0 0 (va_A Wd sz) := by
  refine Met.ofW (cc := cX13_thrown) (maxL := 1) (ret := (some .int)) (by decide) rfl ?_
  intro p e s m args below meth c s₁ B hml hv
  obtain ⟨rfl, hsz, hP, hK, hD0, hG⟩ := hv
  have hx := B.exec
  have hb := B.bytes
  have hr := B.returns
  have hts := atoms_spec (ws := wsX13_thrown) B.pre
  have hown : s.vm.findClass RX13 = some m.cls := findClass_of_methodNamed B.named
  have hlocks := B.notSynchronized
  subst hsz
  have hD := hD0.self (sz := s.heap.size)
  generalize hAe : va_A Wd s.heap.size = A at hD hG ⊢
  have hA : ∀ q : Nat, s.heap.size ≤ q → A q := fun q h => by rw [← hAe]; exact Or.inr h
  have hS : va_S A s.heap s.heap [] := va_S.rf
  have hl := lv_entry ([.ref o]) (n := 1) (Nat.le_of_ble_eq_true rfl)
  rw [lg_entry_eq]
  generalize (lg_sl ([.ref o]) ++ List.replicate (1 - (lg_sl ([.ref o])).length) Slot.unset).toArray = ls at hl ⊢
  have hl : lv_has ls 1 [(0, .ref o)] := hl
  have hf1 := hts (Cond.fieldLink RX13 1 "RunmergeOfficeModel" "thrown" "I") (by decide +kernel)
  have hiX13 : ∀ w ∈ u_ws RX13 TX13 14, w ∈ wsX13_thrown := by decide +kernel
  refine lv_aload_n hx hb dX13_thrown_0 rfl (lv_at hl 0 rfl) ?_
  refine va_get (D := (dC, dI)) (ci := 15) (v := .int th) (C := RX13) (T := TX13) (N := 14) hx hb hts hiX13 hown hK hP k0 w0 rfl 0 (by decide) hf1 (fun _ h9 => h9) rfl dX13_thrown_1 ?_
  exact W.iret (v := th) hx hb hr (fun t ht hW => ⟨⟨th, (), rfl, rfl, P_at ht hP⟩, hS.F ht⟩) hS.2.2 dX13_thrown_4
