theorem vin_lt {i b : Int32} {n : Nat} (h0 : ¬ i < 0) (h1 : i < b) (hb : b.toInt = n) : vp_in i n := by
  refine vp_in_iff.mpr ⟨?_, ?_⟩
  · have h2 : ¬ i.toInt < (0 : Int32).toInt := fun h => h0 (Int32.lt_iff_toInt_lt.mpr h)
    have h3 : (0 : Int32).toInt = 0 := by decide
    omega
  · have h2 := Int32.lt_iff_toInt_lt.mp h1
    omega
def TOKb (x : Int32) : Bool := decide (0 ≤ x) && decide (x ≤ 7)
def rngb (x a b : Int32) : Bool := decide (a ≤ x) && decide (x ≤ b)
/-- what the reference calls thrown: the first of three that does not hold -/
def cd (b1 b2 b3 : Bool) : Int32 := match b1 with
  | false => 1
  | true => match b2 with
    | false => 2
    | true => match b3 with
      | false => 3
      | true => 0
def b2i (b : Bool) : Int32 := match b with
  | false => 0
  | true => 1
theorem i_nlt {a b : Int32} : ¬ a < b ↔ b ≤ a := by
  rw [Int32.lt_iff_toInt_lt, Int32.le_iff_toInt_le]; omega
theorem i_nle {a b : Int32} : ¬ a ≤ b ↔ b < a := by
  rw [Int32.lt_iff_toInt_lt, Int32.le_iff_toInt_le]; omega
theorem TOK_t {x : Int32} (h0 : ¬ x < 0) (h1 : x < 8) : TOKb x = true := by
  have h2 : (0 : Int32) ≤ x := i_nlt.mp h0
  have h3 : x ≤ 7 := by
    rw [Int32.lt_iff_toInt_lt] at h1; rw [Int32.le_iff_toInt_le]
    have e1 : (8 : Int32).toInt = 8 := by decide
    have e2 : (7 : Int32).toInt = 7 := by decide
    omega
  simp [TOKb, h2, h3]
theorem TOK_n {x : Int32} (h0 : x < 0) : TOKb x = false := by
  have h2 : ¬ (0 : Int32) ≤ x := i_nle.mpr h0
  simp [TOKb, h2]
theorem TOK_8 {x : Int32} (h : ¬ x < 8) : TOKb x = false := by
  have h3 : ¬ x ≤ 7 := by
    rw [Int32.lt_iff_toInt_lt] at h; rw [Int32.le_iff_toInt_le]
    have e1 : (8 : Int32).toInt = 8 := by decide
    have e2 : (7 : Int32).toInt = 7 := by decide
    omega
  simp [TOKb, h3]
theorem TOK_ex {x : Int32} (h : TOKb x = true) : ∃ j : Nat, j < 8 ∧ x = nI j := by
  simp only [TOKb, Bool.and_eq_true, decide_eq_true_eq] at h
  obtain ⟨j, hj, rfl⟩ := nI_of2 (M := 7) (n := 7) (by decide) (i_nlt.mpr h.1) h.2
  exact ⟨j, by omega, rfl⟩
theorem rng_t {x a b : Int32} (h0 : ¬ x < a) (h1 : ¬ b < x) : rngb x a b = true := by
  simp [rngb, i_nlt.mp h0, i_nlt.mp h1]
theorem rng_lo {x a b : Int32} (h : x < a) : rngb x a b = false := by
  simp [rngb, i_nle.mpr h]
theorem rng_hi {x a b : Int32} (h : b < x) : rngb x a b = false := by
  simp [rngb, i_nle.mpr h]
theorem rng_f {x a b : Int32} (h : x < a ∨ b < x) : rngb x a b = false := h.elim rng_lo rng_hi
theorem TOK_j {x : Int32} {j : Nat} (h : j < 8) (e : x = nI j) : TOKb x = true := by
  have h1 : (nI j).toInt = (j : Int) := nI_toInt (by omega)
  have e1 : (0 : Int32).toInt = 0 := by decide
  have e2 : (7 : Int32).toInt = 7 := by decide
  have h2 : (0 : Int32) ≤ nI j := by rw [Int32.le_iff_toInt_le, h1, e1]; omega
  have h3 : nI j ≤ 7 := by rw [Int32.le_iff_toInt_le, h1, e2]; omega
  subst e
  simp [TOKb, h2, h3]
