
theorem P_l {D : va_G} {cl : List vw_C} {W1 W2 : va_W} {H : Heap} (h : va_P D cl (W1 ++ W2) H) : va_P D cl W1 H := fun k q hk => h k q (by rw [List.getElem?_append_left (List.getElem?_eq_some_iff.mp hk).1]; exact hk)
theorem app_r {W1 W2 : va_W} {k : Nat} {q : Nat × va_E} (hk : W2[k]? = some q) : (W1 ++ W2)[W1.length + k]? = some q := by
  rw [List.getElem?_append_right (Nat.le_add_right _ _), Nat.add_sub_cancel_left]; exact hk
theorem P_r {D : va_G} {cl : List vw_C} {W1 W2 : va_W} {H : Heap} (h : va_P D cl (W1 ++ W2) H) : va_P D cl W2 H := fun k q hk => h (W1.length + k) q (app_r hk)
theorem D_l {A : Nat → Prop} {W1 W2 : va_W} (h : va_D A (W1 ++ W2)) : va_D A W1 := by
  have e : ∀ (k : Nat) (q : Nat × va_E), W1[k]? = some q → (W1 ++ W2)[k]? = some q := fun k q hk => by rw [List.getElem?_append_left (List.getElem?_eq_some_iff.mp hk).1]; exact hk
  exact ⟨fun i j p q hi hj => h.1 i j p q (e i p hi) (e j q hj), fun k q hk => h.2 k q (e k q hk)⟩
theorem D_r {A : Nat → Prop} {W1 W2 : va_W} (h : va_D A (W1 ++ W2)) : va_D A W2 :=
  ⟨fun i j p q hi hj hpq => by
    have := h.1 (W1.length + i) (W1.length + j) p q (app_r hi) (app_r hj) hpq
    omega, fun k q hk => h.2 (W1.length + k) q (app_r hk)⟩
theorem rest_kept {D : va_G} {cl : List vw_C} {A : Nat → Prop} {W1 W2 : va_W} {H H1 : Heap} (hP : va_P D cl (W1 ++ W2) H) (hD : va_D A (W1 ++ W2)) (hk : ∀ q : Nat, q < H.size → ¬ va_A W1 H.size q → H1[q]? = H[q]?) : va_P D cl W2 H1 := by
  intro k q hq
  have h1 := hP (W1.length + k) q (app_r hq)
  refine h1.kept (hk q.1 h1.lt ?_)
  rintro (⟨j, e, hj⟩ | h)
  · have hlt := (List.getElem?_eq_some_iff.mp hj).1
    have := hD.1 (W1.length + k) j q (q.1, e) (app_r hq) (by rw [List.getElem?_append_left hlt]; exact hj) rfl
    omega
  · exact absurd h1.lt (by omega)
theorem D_ap {A : Nat → Prop} {W1 W2 : va_W} (h : va_D A (W1 ++ W2)) {i j : Nat} {p q : Nat × va_E} (h1 : W1[i]? = some p) (h2 : W2[j]? = some q) (e : p.1 = q.1) : False := by
  have hlt := (List.getElem?_eq_some_iff.mp h1).1
  have := h.1 i (W1.length + j) p q (by rw [List.getElem?_append_left hlt]; exact h1) (app_r h2) e
  omega
/-- a world beside the callee's: kept -/
theorem kept_by {D : va_G} {cl : List vw_C} {W1 W2 : va_W} {H H1 : Heap} (hP : va_P D cl W2 H) (hk : ∀ q : Nat, q < H.size → ¬ va_A W1 H.size q → H1[q]? = H[q]?) (hap : ∀ (j k : Nat) (p q : Nat × va_E), W1[j]? = some p → W2[k]? = some q → p.1 = q.1 → False) : va_P D cl W2 H1 := by
  intro k q hq
  have h1 := hP k q hq
  refine h1.kept (hk q.1 h1.lt ?_)
  rintro (⟨j, e, hj⟩ | h)
  · exact hap j k (q.1, e) q hj hq rfl
  · exact absurd h1.lt (by omega)
/-- a callee's world at the right end: what it leaves behind comes in its place -/
theorem join_r {D : va_G} {cl : List vw_C} {A : Nat → Prop} {X wc w1 : va_W} {H H1 : Heap} (hP : va_P D cl (X ++ wc) H) (hD : va_D A (X ++ wc)) (hk : ∀ q : Nat, q < H.size → ¬ va_A wc H.size q → H1[q]? = H[q]?) (hF : ∀ q, va_A wc H.size q → A q) (hP1 : va_P D cl w1 H1) (hD1 : va_D (va_A wc H.size) w1) : va_P D cl (X ++ w1) H1 ∧ va_D A (X ++ w1) := by
  refine ⟨va_P.app (kept_by (P_l hP) hk (fun j k p q hj hk e => D_ap hD hk hj e.symm)) hP1, va_D.app (D_l hD) (hD1.weaken (fun k q _ h => hF q.1 h)) (fun i j p q hi hj e => ?_)⟩
  have hlt := (P_l hP i p hi).lt
  rcases hD1.2 j q hj with ⟨n, e2, hn⟩ | h
  · exact D_ap hD hi hn e
  · omega
