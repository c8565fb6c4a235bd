theorem and255 (x : Int32) : ((x &&& 255).toUInt32 % 65536).toInt32 = x &&& 255 := by
  have h1 : (x &&& 255).toUInt32 = x.toUInt32 &&& 255 := rfl
  have h2 : (x.toUInt32 &&& 255).toNat < 65536 := by
    rw [UInt32.toNat_and]
    exact Nat.lt_of_le_of_lt Nat.and_le_right (by decide)
  have h3 : (x.toUInt32 &&& 255) % 65536 = x.toUInt32 &&& 255 := by
    apply UInt32.toNat_inj.mp
    rw [UInt32.toNat_mod]
    exact Nat.mod_eq_of_lt h2
  rw [h1, h3]
  rfl
theorem nI_ltc {i : Int32} {n : Nat} (hi : vp_in i n) (h : n < 2 ^ 31) : ¬ i < 0 ∧ i < nI n := by
  have h0 : ¬ i < 0 := fun q => hi (Or.inl q)
  have h1 : i.toNatClampNeg < n := Nat.not_le.mp fun q => hi (Or.inr q)
  refine ⟨h0, ?_⟩
  have h2 : 0 ≤ i.toInt := by
    have := Int32.not_lt.mp h0
    simpa using Int32.le_iff_toInt_le.mp this
  have h3 : (nI n).toInt = (n : Int) := nI_toInt h
  rw [Int32.lt_iff_toInt_lt, h3]
  have h4 : i.toInt = (i.toNatClampNeg : Int) := by show i.toInt = ((i.toInt.toNat : Nat) : Int); omega
  omega
theorem len_w {n : Nat} : wp_J0_length_8abf5 n (fun r => r = nI n) := by
  refine ⟨rfl, fun x hx => ?_⟩
  rw [hx]
  show nI n >>> ((0 : Int32) &&& 31) = nI n
  rw [show ((0 : Int32) &&& 31) = 0 from by decide]
  exact Int32.shiftRight_zero
theorem chr_w {n : Nat} {f : Nat → Int32} {i : Int32} (hi : vp_in i n) (h : n < 2 ^ 31) : wp_J0_charAt_5068e n f i (fun r => r = f i.toNatClampNeg &&& 255) := by
  obtain ⟨h0, h1⟩ := nI_ltc hi h
  have hc : vp_in i n ∧ (∀ x_4 : Int32, x_4 = f i.toNatClampNeg → (∀ x_5 : Int32, x_5 = x_4 &&& 255 → (∀ x_6 : Int32, x_6 = (x_5.toUInt32 % 65536).toInt32 → x_6 = f i.toNatClampNeg &&& 255))) := by
    refine ⟨hi, fun x4 e4 x5 e5 x6 e6 => ?_⟩
    rw [e6, e5, e4, and255]
  exact ⟨rfl, ⟨fun q => absurd q h0, fun _ => ⟨fun _ => hc, fun q => absurd h1 q⟩⟩, ⟨fun q => absurd q h0, fun _ => ⟨fun _ => hc, fun q => absurd h1 q⟩⟩⟩
