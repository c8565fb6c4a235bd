/-- the eighteen tapes of an office: eight tapes, eight copies, the joined one, the checker's -/
def TPl (tp hd : Nat → Nat) (c : ClassId) (F : Nat → Nat → Int32) (n : Nat → Int32) : va_W := (List.range 18).map (fun j => (tp j, .inr (11, [.ref (hd j), .int (n j)]))) ++ (List.range 18).map (fun j => (hd j, .inl (c, 100, .inl (F j))))
theorem rg_at {α : Type} (f : Nat → α) {j N : Nat} (h : j < N) : ((List.range N).map f)[j]? = some (f j) := by
  rw [List.getElem?_map, List.getElem?_range h]; rfl
theorem rg_len {α : Type} (f : Nat → α) (N : Nat) : ((List.range N).map f).length = N := by simp
theorem TP_o {X : va_W} {tp hd : Nat → Nat} {c : ClassId} {F : Nat → Nat → Int32} {n : Nat → Int32} {j : Nat} (h : j < 18) : (X ++ TPl tp hd c F n)[X.length + j]? = some (tp j, .inr (11, [.ref (hd j), .int (n j)])) := by
  rw [List.getElem?_append_right (Nat.le_add_right _ _), Nat.add_sub_cancel_left, TPl, List.getElem?_append_left (by rw [rg_len]; exact h), rg_at _ h]
theorem TP_a {X : va_W} {tp hd : Nat → Nat} {c : ClassId} {F : Nat → Nat → Int32} {n : Nat → Int32} {j : Nat} (h : j < 18) : (X ++ TPl tp hd c F n)[X.length + (18 + j)]? = some (hd j, .inl (c, 100, .inl (F j))) := by
  rw [List.getElem?_append_right (Nat.le_add_right _ _), Nat.add_sub_cancel_left, TPl, List.getElem?_append_right (by rw [rg_len]; omega), rg_len, Nat.add_sub_cancel_left, rg_at _ h]
def TPat (Wd : va_W) (kT : Nat) (tp hd : Nat → Nat) (c : ClassId) (F : Nat → Nat → Int32) (n : Nat → Int32) : Prop := ∀ j, j < 18 → Wd[kT + j]? = some (tp j, .inr (11, [.ref (hd j), .int (n j)])) ∧ Wd[kT + (18 + j)]? = some (hd j, .inl (c, 100, .inl (F j)))
theorem TPat.o {Wd : va_W} {kT : Nat} {tp hd : Nat → Nat} {c : ClassId} {F : Nat → Nat → Int32} {n : Nat → Int32} (h : TPat Wd kT tp hd c F n) {j : Nat} (hj : j < 18) : Wd[kT + j]? = some (tp j, .inr (11, [.ref (hd j), .int (n j)])) := (h j hj).1
theorem TPat.a {Wd : va_W} {kT : Nat} {tp hd : Nat → Nat} {c : ClassId} {F : Nat → Nat → Int32} {n : Nat → Int32} (h : TPat Wd kT tp hd c F n) {j : Nat} (hj : j < 18) : Wd[kT + (18 + j)]? = some (hd j, .inl (c, 100, .inl (F j))) := (h j hj).2
theorem TP_at {X : va_W} {tp hd : Nat → Nat} {c : ClassId} {F : Nat → Nat → Int32} {n : Nat → Int32} : TPat (X ++ TPl tp hd c F n) X.length tp hd c F n := fun _ hj => ⟨TP_o hj, TP_a hj⟩
theorem rg_set {α : Type} (f : Nat → α) (j N : Nat) (v : α) : ((List.range N).map f).set j v = (List.range N).map (va_up f j v) := by
  apply List.ext_getElem?
  intro k
  by_cases hk : k < N
  · rw [rg_at _ hk]
    by_cases e : j = k
    · subst e
      rw [List.getElem?_set_self (by rw [rg_len]; exact hk), va_up_self]
    · rw [List.getElem?_set_ne e, rg_at _ hk, va_up_ne _ _ (Ne.symm e)]
  · rw [List.getElem?_eq_none (by rw [List.length_set, rg_len]; omega), List.getElem?_eq_none (by rw [rg_len]; omega)]
theorem up_pt {α β : Type} (f : Nat → α) (g : Nat → α → β) (j : Nat) (v : α) : va_up (fun k => g k (f k)) j (g j v) = fun k => g k (va_up f j v k) := by
  funext k
  by_cases e : k = j
  · subst e; simp [va_up]
  · simp [va_up, e]
theorem TP_setn0 {X : va_W} {tp hd : Nat → Nat} {c : ClassId} {F : Nat → Nat → Int32} {n : Nat → Int32} {j : Nat} {v : Int32} (h : j < 18) : (X ++ TPl tp hd c F n).set (X.length + j) (tp j, .inr (11, [.ref (hd j), .int v])) = X ++ TPl tp hd c F (va_up n j v) := by
  rw [List.set_append_right _ _ (Nat.le_add_right _ _), Nat.add_sub_cancel_left, TPl, List.set_append_left _ _ (by rw [rg_len]; exact h), rg_set]
  rw [up_pt n (fun k w => ((tp k, .inr (11, [.ref (hd k), .int w])) : Nat × va_E)) j v]; rfl
theorem TP_setn {X : va_W} {tp hd : Nat → Nat} {c : ClassId} {F : Nat → Nat → Int32} {n : Nat → Int32} {j : Nat} {v : Int32} (h : j < 18) : (X ++ TPl tp hd c F n).set (X.length + j) (tp j, .inr (11, [Value.ref (hd j), Value.int (n j)].set 1 (Value.int v))) = X ++ TPl tp hd c F (va_up n j v) := TP_setn0 h
theorem TP_seta {X : va_W} {tp hd : Nat → Nat} {c : ClassId} {F : Nat → Nat → Int32} {n : Nat → Int32} {j : Nat} {f : Nat → Int32} (h : j < 18) : (X ++ TPl tp hd c F n).set (X.length + (18 + j)) (hd j, .inl (c, 100, .inl f)) = X ++ TPl tp hd c (va_up F j f) n := by
  rw [List.set_append_right _ _ (Nat.le_add_right _ _), Nat.add_sub_cancel_left, TPl, List.set_append_right _ _ (by rw [rg_len]; omega), rg_len, Nat.add_sub_cancel_left, rg_set]
  rw [up_pt F (fun k w => ((hd k, .inl (c, 100, .inl w)) : Nat × va_E)) j f]; rfl
theorem nar_b2i (b : Bool) : narrow .boolean (.int (b2i b)) = .int (b2i b) := by cases b <;> decide
theorem fit_b2i (b : Bool) : fits .boolean (.int (b2i b)) = true := by cases b <;> decide
theorem P_kp {D : va_G} {cl : List vw_C} {ws : va_W} {H : Heap} {t : State} (hP : va_P D cl ws H) (hk : ∀ q : Nat, q < H.size → t.heap[q]? = H[q]?) : va_P D cl ws t.heap := fun k q h => (hP k q h).kept (hk q.1 (hP k q h).lt)
theorem vp_lt {i : Int32} {n : Nat} (h : vp_in i n) : i.toNatClampNeg < n := Nat.not_le.mp fun q => h (Or.inr q)
