/-! the law's small methods -/
theorem sh_u (u : UInt32) : u.toInt32 = nI u.toNat := by
  apply Int32.toBitVec_inj.mp
  show u.toBitVec = BitVec.ofNat 32 u.toNat
  apply BitVec.eq_of_toNat_eq
  rw [BitVec.toNat_ofNat]
  exact (Nat.mod_eq_of_lt u.toBitVec.isLt).symm
theorem shr4 (v : Int32) : ∃ a : Nat, a < 2 ^ 28 ∧ (v.toUInt32 >>> ((4 : Int32).toUInt32 &&& Int32.toUInt32 31)).toInt32 = nI a := by
  refine ⟨(v.toUInt32 >>> ((4 : Int32).toUInt32 &&& Int32.toUInt32 31)).toNat, ?_, sh_u _⟩
  rw [UInt32.toNat_shiftRight, show ((4 : Int32).toUInt32 &&& Int32.toUInt32 31).toNat % 32 = 4 from by decide, Nat.shiftRight_eq_div_pow]
  have := v.toUInt32.toNat_lt
  omega
theorem shr1 (v : Int32) : ∃ a : Nat, a < 2 ^ 31 ∧ (v.toUInt32 >>> ((1 : Int32).toUInt32 &&& Int32.toUInt32 31)).toInt32 = nI a := by
  refine ⟨(v.toUInt32 >>> ((1 : Int32).toUInt32 &&& Int32.toUInt32 31)).toNat, ?_, sh_u _⟩
  rw [UInt32.toNat_shiftRight, show ((1 : Int32).toUInt32 &&& Int32.toUInt32 31).toNat % 32 = 1 from by decide, Nat.shiftRight_eq_div_pow]
  have := v.toUInt32.toNat_lt
  omega
theorem next_w {r : Nat → Int32} {Q : Int32 → (Nat → Int32) → Prop} (h : ∀ v r', Q v r') : wp_L_next 2 r Q := by
  unfold wp_L_next
  repeat' first | exact h _ _ | apply And.intro | (unfold vp_in; decide) | intro _
theorem nI_rem {a m : Nat} (ha : a < 2 ^ 31) (hm : 1 ≤ m) (hm2 : m < 2 ^ 31) : nI a - nI a / nI m * nI m = nI (a % m) := by
  have hd : nI a / nI m = nI (a / m) := by
    apply Int32.toInt_inj.mp
    rw [Int32.toInt_div_of_ne_right (nI a) (nI m) (by
      intro e
      have := congrArg Int32.toInt e
      rw [nI_toInt hm2] at this
      have h2 : (-1 : Int32).toInt = -1 := by decide
      omega), nI_toInt ha, nI_toInt hm2, nI_toInt (Nat.lt_of_le_of_lt (Nat.div_le_self _ _) ha)]
    exact Int.ofNat_tdiv a m
  have h1 : a / m * m + a % m = a := Nat.div_add_mod' a m
  have h2 : nI (a / m) * nI m = nI (a / m * m) := by rw [zI_n, zI_n, zI_m, zI_n, Int.natCast_mul]
  rw [hd, h2]
  have h3 : nI a - nI (a / m * m) = nI (a - a / m * m) := pk_sub (by omega)
  rw [h3]
  congr 1
  omega
theorem draw_w {r : Nat → Int32} {m : Nat} {Q : Int32 → (Nat → Int32) → Prop} (hm : 1 ≤ m) (hm2 : m < 2 ^ 31) (h : ∀ k r', k < m → Q (nI k) r') : wp_L_draw 2 r (nI m) Q := by
  unfold wp_L_draw
  refine next_w (fun v r' => ?_)
  obtain ⟨a, ha, ea⟩ := shr4 v
  intro x3 e3
  rw [ea] at e3
  subst e3
  refine ⟨fun e => ?_, fun x4 e4 => ?_⟩
  · have := congrArg Int32.toInt e
    rw [nI_toInt hm2] at this
    have h2 : (0 : Int32).toInt = 0 := by decide
    omega
  · rw [e4, nI_rem (by omega) hm hm2]
    exact h _ _ (Nat.mod_lt _ hm)
theorem seed_w {n : Nat} {f : Nat → Int32} {Q : Nat → (Nat → Int32) → Prop} (hn : n < 2 ^ 20) (h : ∀ r', Q 2 r') : wp_L_seed_x n f Q := by
  unfold wp_L_seed_x
  intro x4 e4
  refine ⟨n + 1, ?_⟩
  have key : ∀ (d i : Nat) (q : Nat → Int32), i + d = n → wl_L_seed_x_20 n f (wx_L_seed_x_20_67 Q) (d + 1) (nI i) q := by
    intro d
    induction d with
    | zero =>
      intro i q hi
      rw [wl_L_seed_x_20_s]
      refine pk_le n i (fun _ => ?_) (fun q => absurd q (by omega))
      exact h _
    | succ d ih =>
      intro i q hi
      rw [wl_L_seed_x_20_s]
      refine pk_le n i (fun q => absurd q (by omega)) (fun _ => ?_)
      intro x13 e13
      refine ⟨pk_in i n (by omega), ?_⟩
      intro x14 e14 x15 e15 x16 e16 x17 e17 x20 e20
      refine ⟨pk_in i n (by omega), ?_⟩
      intro x21 e21 x22 e22 x23 e23 x24 e24 x25 e25 x26 e26
      refine nm_r (e' := nI (i + 1)) (nI_1 _) ?_
      exact ih (i + 1) _ (by omega)
  exact key n 0 _ (by omega)
/-! rows of ints that hold lists -/
def IsA (n : Nat) (q : Nat → Int32) (L : List Nat) : Prop := n = L.length ∧ ∀ i, i < L.length → q i = nI (L.getD i 0)
