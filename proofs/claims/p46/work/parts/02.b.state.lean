theorem A_all {A : Nat → Prop} {W : va_W} {n0 n : Nat} (hD : va_D A W) (hA : ∀ q : Nat, n0 ≤ q → A q) (h : n0 ≤ n) : ∀ q, va_A W n q → A q := by
  intro q hq
  rcases hq with ⟨k, e, h1⟩ | h1
  · exact hD.2 k _ h1
  · exact hA q (Nat.le_trans h h1)
theorem K_one {D : va_G} {cl : List vw_C} {tys : List (ClassId × FieldType)} {U : State} {c1 c2 : ClassId} {ty : FieldType} (h : va_K D cl tys U) (i j : Nat) (h1 : tys[i]? = some (c1, ty)) (h2 : tys[j]? = some (c2, ty)) : c1 = c2 := by
  have a1 := (h.2 i _ h1).2
  have a2 := (h.2 j _ h2).2
  cases ty with
  | object C =>
    obtain ⟨_, _, _, _, _, x1⟩ := a1
    obtain ⟨_, _, _, _, _, x2⟩ := a2
    exact Option.some.inj (x1.symm.trans x2)
  | _ => exact Option.some.inj ((show U.vm.findClass _ = some c1 from a1).symm.trans (show U.vm.findClass _ = some c2 from a2))
theorem F_of {A : Nat → Prop} {s t : State} {H : Heap} {locs : List Loc} (hS : va_S A s.heap H locs) (hz : H.size ≤ t.heap.size) (hk : ∀ q : Nat, q < H.size → t.heap[q]? = H[q]?) : va_F A s t :=
  ⟨Nat.le_trans hS.1 hz, fun q h1 h2 => by rw [hk q (Nat.lt_of_lt_of_le h1 hS.1)]; exact hS.2.1 q h1 h2⟩
