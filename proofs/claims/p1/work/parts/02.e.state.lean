theorem sw_in {x : Int32} {n : Nat} (hn : n < 2 ^ 31) : (∃ j, j ≤ n ∧ x = nI j) ∨ (x.toInt < 0 ∨ (n : Int) < x.toInt) := by
  by_cases h : x < 0
  · refine Or.inr (Or.inl ?_)
    rw [Int32.lt_iff_toInt_lt] at h
    have e1 : (0 : Int32).toInt = 0 := by decide
    omega
  · obtain ⟨j, hj, rfl⟩ := nI_of h
    rcases Nat.lt_or_ge n j with q | q
    · exact Or.inr (Or.inr (by rw [nI_toInt hj]; omega))
    · exact Or.inl ⟨j, q, rfl⟩
theorem sw_0_4 (x : Int32) : x = 0 ∨ x = 1 ∨ x = 2 ∨ x = 3 ∨ x = 4 ∨ (x.toInt < 0 ∨ 4 < x.toInt) := by
  rcases sw_in (x := x) (n := 4) (by decide) with ⟨j, hj, rfl⟩ | h
  · match j, hj with
    | 0, _ => exact Or.inl rfl
    | 1, _ => exact Or.inr (Or.inl rfl)
    | 2, _ => exact Or.inr (Or.inr (Or.inl rfl))
    | 3, _ => exact Or.inr (Or.inr (Or.inr (Or.inl rfl)))
    | 4, _ => exact Or.inr (Or.inr (Or.inr (Or.inr (Or.inl rfl))))
  · exact Or.inr (Or.inr (Or.inr (Or.inr (Or.inr h))))
theorem sw_0_2 (x : Int32) : x = 0 ∨ x = 1 ∨ x = 2 ∨ (x.toInt < 0 ∨ 2 < x.toInt) := by
  rcases sw_in (x := x) (n := 2) (by decide) with ⟨j, hj, rfl⟩ | h
  · match j, hj with
    | 0, _ => exact Or.inl rfl
    | 1, _ => exact Or.inr (Or.inl rfl)
    | 2, _ => exact Or.inr (Or.inr (Or.inl rfl))
  · exact Or.inr (Or.inr (Or.inr h))
theorem rng_sw {x : Int32} {n : Nat} {b : Int32} (hb : b.toInt = n) (h : x.toInt < 0 ∨ (n : Int) < x.toInt) : rngb x 0 b = false := by
  rcases h with h | h
  · refine rng_lo ?_
    rw [Int32.lt_iff_toInt_lt]
    exact h
  · refine rng_hi ?_
    rw [Int32.lt_iff_toInt_lt]; omega
/-- the settings of a new office -/
def stv (x : Int32) : Int32 := if x = 1 then 1 else if x = 2 then 4 else if x = 4 then 2 else 0
