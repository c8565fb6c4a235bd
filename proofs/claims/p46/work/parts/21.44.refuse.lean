/-! refusals -/
theorem put_xt {o : OS} {ks : Nat → Int} {c : Nat} {T : Nat → List Nat} {s : SS} {tx : List Nat} {J : Option JS} {Q : Int32 → OS → Prop} {X : String → OS → Prop} {z : Int} {k m : Int32} (h : Off o ks c T s tx J) (z1 : -2147483648 ≤ z) (z2 : z < 2147483648) (hz : z < 0 ∨ 8 ≤ z) (hX : ∀ o', Off o' ks c T s tx J → X eIO o') : ow_put o (zI z) k m Q X := by
  obtain ⟨⟨b1, ⟨b2, b3⟩, b4, b5⟩, h2, h3, h4, h5⟩ := h
  unfold ow_put wp_X11_put
  refine tapeOf_x z1 z2 hz ?_
  exact hX _ ⟨⟨b1, ⟨b2, b3⟩, b4, b5⟩, h2, h3, h4, h5⟩
theorem put_xk {o : OS} {ks : Nat → Int} {c : Nat} {T : Nat → List Nat} {s : SS} {tx : List Nat} {J : Option JS} {Q : Int32 → OS → Prop} {X : String → OS → Prop} {j : Nat} {k : Int} {m : Int32} (h : Off o ks c T s tx J) (hj : j < 8) (k1 : -2147483648 ≤ k) (k2 : k < 2147483648) (hk : k < -999 ∨ 999 < k) (hX : ∀ o', Off o' ks c T s tx J → X eIA o') : ow_put o (nI j) (zI k) m Q X := by
  obtain ⟨⟨b1, ⟨b2, b3⟩, b4, b5⟩, h2, h3, h4, h5⟩ := h
  unfold ow_put wp_X11_put
  refine tapeOf_s hj ?_
  refine range_x (v := k) (lo := -999) (hi := 999) rfl rfl rfl k1 k2 (by omega) (by omega) (by omega) hk ?_
  exact hX _ ⟨⟨b1, ⟨b2, b3⟩, b4, b5⟩, h2, h3, h4, h5⟩
theorem put_xm {o : OS} {ks : Nat → Int} {c : Nat} {T : Nat → List Nat} {s : SS} {tx : List Nat} {J : Option JS} {Q : Int32 → OS → Prop} {X : String → OS → Prop} {j m : Nat} {k : Int} (h : Off o ks c T s tx J) (hj : j < 8) (k1 : -999 ≤ k) (k2 : k ≤ 999) (hm : 9999 < m) (hm2 : m < 2 ^ 31) (hX : ∀ o', Off o' ks c T s tx J → X eIA o') : ow_put o (nI j) (zI k) (nI m) Q X := by
  obtain ⟨⟨b1, ⟨b2, b3⟩, b4, b5⟩, h2, h3, h4, h5⟩ := h
  unfold ow_put wp_X11_put
  refine tapeOf_s hj ?_
  refine range_s (v := k) (lo := -999) (hi := 999) rfl rfl rfl (by omega) (by omega) (by omega) (by omega) (by omega) ⟨k1, k2⟩ ?_
  refine rangeN_x (lo := 0) (hi := 9999) (Or.inr hm) hm2 (by omega) (by omega) ?_
  exact hX _ ⟨⟨b1, ⟨b2, b3⟩, b4, b5⟩, h2, h3, h4, h5⟩
theorem put_xr {o : OS} {ks : Nat → Int} {c : Nat} {T : Nat → List Nat} {s : SS} {tx : List Nat} {J : Option JS} {Q : Int32 → OS → Prop} {X : String → OS → Prop} {j m : Nat} {k : Int} (h : Off o ks c T s tx J) (hj : j < 8) (k1 : -999 ≤ k) (k2 : k ≤ 999) (hm : m ≤ 9999) (hc : c = 200) (hX : ∀ o', Off o' ks c T s tx J → X eIS o') : ow_put o (nI j) (zI k) (nI m) Q X := by
  obtain ⟨⟨b1, ⟨b2, b3⟩, b4, b5⟩, h2, h3, h4, h5⟩ := h
  unfold ow_put wp_X11_put
  refine tapeOf_s hj ?_
  refine range_s (v := k) (lo := -999) (hi := 999) rfl rfl rfl (by omega) (by omega) (by omega) (by omega) (by omega) ⟨k1, k2⟩ ?_
  refine rangeN_s (lo := 0) (hi := 9999) ⟨Nat.zero_le _, hm⟩ (by omega) ?_
  rw [b2]
  refine room_x (m := 1) b4 (by omega) b3 (by omega) (Or.inl (by omega)) ?_
  rw [← b2]
  exact hX _ ⟨⟨b1, ⟨b2, b3⟩, b4, b5⟩, h2, h3, h4, h5⟩
theorem fill_xt {o : OS} {ks : Nat → Int} {c : Nat} {T : Nat → List Nat} {s : SS} {tx : List Nat} {J : Option JS} {Q : Int32 → OS → Prop} {X : String → OS → Prop} {z : Int} {f st m : Int32} (h : Off o ks c T s tx J) (z1 : -2147483648 ≤ z) (z2 : z < 2147483648) (hz : z < 0 ∨ 8 ≤ z) (hX : ∀ o', Off o' ks c T s tx J → X eIO o') : ow_fill o (zI z) f st m Q X := by
  obtain ⟨⟨b1, ⟨b2, b3⟩, b4, b5⟩, h2, h3, h4, h5⟩ := h
  unfold ow_fill wp_X11_fill
  refine tapeOf_x z1 z2 hz ?_
  exact hX _ ⟨⟨b1, ⟨b2, b3⟩, b4, b5⟩, h2, h3, h4, h5⟩
theorem fill_xl {o : OS} {ks : Nat → Int} {c : Nat} {T : Nat → List Nat} {s : SS} {tx : List Nat} {J : Option JS} {Q : Int32 → OS → Prop} {X : String → OS → Prop} {j m : Nat} {f st : Int} (h : Off o ks c T s tx J) (hj : j < 8) (f1 : -999 ≤ f) (f2 : f ≤ 999) (s1 : -50 ≤ st) (s2 : st ≤ 50) (m1 : 1 ≤ m) (m2 : m ≤ 50) (hl : f + st * ((m : Int) - 1) < -999 ∨ 999 < f + st * ((m : Int) - 1)) (hX : ∀ o', Off o' ks c T s tx J → X eIA o') : ow_fill o (nI j) (zI f) (zI st) (nI m) Q X := by
  obtain ⟨⟨b1, ⟨b2, b3⟩, b4, b5⟩, h2, h3, h4, h5⟩ := h
  unfold ow_fill wp_X11_fill
  refine tapeOf_s hj ?_
  refine range_s (v := f) (lo := -999) (hi := 999) rfl rfl rfl (by omega) (by omega) (by omega) (by omega) (by omega) ⟨f1, f2⟩ ?_
  refine range_s (v := st) (lo := -50) (hi := 50) rfl rfl rfl (by omega) (by omega) (by omega) (by omega) (by omega) ⟨s1, s2⟩ ?_
  refine rangeN_s (lo := 0) (hi := 50) ⟨Nat.zero_le _, m2⟩ (by omega) ?_
  have hb1 : -2500 ≤ st * ((m : Int) - 1) := by
    have h9 : st * ((m : Int) - 1) ≥ -50 * ((m : Int) - 1) := Int.mul_le_mul_of_nonneg_right s1 (by omega)
    omega
  have hb2 : st * ((m : Int) - 1) ≤ 2500 := by
    have h9 : st * ((m : Int) - 1) ≤ 50 * ((m : Int) - 1) := Int.mul_le_mul_of_nonneg_right s2 (by omega)
    omega
  refine pk_le m 0 (fun q => absurd q (by omega)) (fun _ => ?_)
  refine nm_r (e' := zI ((m : Int) - 1)) (by rw [zI_n, show (1 : Int32) = zI 1 from rfl, zI_s]) ?_
  refine nm_r (e' := zI (st * ((m : Int) - 1))) (zI_m _ _) ?_
  refine nm_r (e' := zI (f + st * ((m : Int) - 1))) (zI_a _ _) ?_
  refine range_x (v := f + st * ((m : Int) - 1)) (lo := -999) (hi := 999) rfl rfl rfl (by omega) (by omega) (by omega) (by omega) (by omega) hl ?_
  exact hX _ ⟨⟨b1, ⟨b2, b3⟩, b4, b5⟩, h2, h3, h4, h5⟩
theorem scatter_xm {o : OS} {ks : Nat → Int} {c : Nat} {T : Nat → List Nat} {s : SS} {tx : List Nat} {J : Option JS} {Q : Int32 → OS → Prop} {X : String → OS → Prop} {j m : Nat} {r sd : Int32} (h : Off o ks c T s tx J) (hj : j < 8) (hm : 50 < m) (hm2 : m < 2 ^ 31) (hX : ∀ o', Off o' ks c T s tx J → X eIA o') : ow_scatter o (nI j) (nI m) r sd Q X := by
  obtain ⟨⟨b1, ⟨b2, b3⟩, b4, b5⟩, h2, h3, h4, h5⟩ := h
  unfold ow_scatter wp_X11_scatter
  refine tapeOf_s hj ?_
  refine rangeN_x (lo := 0) (hi := 50) (Or.inr hm) hm2 (by omega) (by omega) ?_
  exact hX _ ⟨⟨b1, ⟨b2, b3⟩, b4, b5⟩, h2, h3, h4, h5⟩
theorem scatter_xr {o : OS} {ks : Nat → Int} {c : Nat} {T : Nat → List Nat} {s : SS} {tx : List Nat} {J : Option JS} {Q : Int32 → OS → Prop} {X : String → OS → Prop} {j m r : Nat} {sd : Int32} (h : Off o ks c T s tx J) (hj : j < 8) (hm : m ≤ 50) (hr : r = 0) (hX : ∀ o', Off o' ks c T s tx J → X eIA o') : ow_scatter o (nI j) (nI m) (nI r) sd Q X := by
  obtain ⟨⟨b1, ⟨b2, b3⟩, b4, b5⟩, h2, h3, h4, h5⟩ := h
  unfold ow_scatter wp_X11_scatter
  refine tapeOf_s hj ?_
  refine rangeN_s (lo := 0) (hi := 50) ⟨Nat.zero_le _, hm⟩ (by omega) ?_
  refine pk_lt r 1 (fun _ => ?_) (fun q => absurd q (by omega))
  exact hX _ ⟨⟨b1, ⟨b2, b3⟩, b4, b5⟩, h2, h3, h4, h5⟩
theorem setRuns_xo {o : OS} {ks : Nat → Int} {c : Nat} {T : Nat → List Nat} {s : SS} {tx : List Nat} {J : Option JS} {Q : Int32 → OS → Prop} {X : String → OS → Prop} {a b d : Nat} (h : Off o ks c T s tx J) (ha : 1 < a) (ha2 : a < 2 ^ 31) (hX : ∀ o', Off o' ks c T s tx J → X eIA o') : ow_setRuns o (nI a) (nI b) (nI d) Q X := by
  obtain ⟨⟨b1, ⟨b2, b3⟩, b4, b5⟩, h2, h3, h4, h5⟩ := h
  unfold ow_setRuns wp_X11_setRuns
  refine rangeN_x (lo := 0) (hi := 1) (Or.inr ha) ha2 (by omega) (by omega) ?_
  exact hX _ ⟨⟨b1, ⟨b2, b3⟩, b4, b5⟩, h2, h3, h4, h5⟩
theorem setRuns_xw {o : OS} {ks : Nat → Int} {c : Nat} {T : Nat → List Nat} {s : SS} {tx : List Nat} {J : Option JS} {Q : Int32 → OS → Prop} {X : String → OS → Prop} {a b d : Nat} (h : Off o ks c T s tx J) (ha : a ≤ 1) (hb : 2 < b) (hb2 : b < 2 ^ 31) (hX : ∀ o', Off o' ks c T s tx J → X eIA o') : ow_setRuns o (nI a) (nI b) (nI d) Q X := by
  obtain ⟨⟨b1, ⟨b2, b3⟩, b4, b5⟩, h2, h3, h4, h5⟩ := h
  unfold ow_setRuns wp_X11_setRuns
  refine rangeN_s (lo := 0) (hi := 1) ⟨by omega, ha⟩ (by omega) ?_
  refine rangeN_x (lo := 0) (hi := 2) (Or.inr hb) hb2 (by omega) (by omega) ?_
  exact hX _ ⟨⟨b1, ⟨b2, b3⟩, b4, b5⟩, h2, h3, h4, h5⟩
theorem setRuns_xm {o : OS} {ks : Nat → Int} {c : Nat} {T : Nat → List Nat} {s : SS} {tx : List Nat} {J : Option JS} {Q : Int32 → OS → Prop} {X : String → OS → Prop} {a b d : Nat} (h : Off o ks c T s tx J) (ha : a ≤ 1) (hb : b ≤ 2) (hd : 50 < d) (hd2 : d < 2 ^ 31) (hX : ∀ o', Off o' ks c T s tx J → X eIA o') : ow_setRuns o (nI a) (nI b) (nI d) Q X := by
  obtain ⟨⟨b1, ⟨b2, b3⟩, b4, b5⟩, h2, h3, h4, h5⟩ := h
  unfold ow_setRuns wp_X11_setRuns
  refine rangeN_s (lo := 0) (hi := 1) ⟨by omega, ha⟩ (by omega) ?_
  refine rangeN_s (lo := 0) (hi := 2) ⟨by omega, hb⟩ (by omega) ?_
  refine rangeN_x (lo := 1) (hi := 50) (Or.inr hd) hd2 (by omega) (by omega) ?_
  exact hX _ ⟨⟨b1, ⟨b2, b3⟩, b4, b5⟩, h2, h3, h4, h5⟩
theorem setMerge_xw {o : OS} {ks : Nat → Int} {c : Nat} {T : Nat → List Nat} {s : SS} {tx : List Nat} {J : Option JS} {Q : Int32 → OS → Prop} {X : String → OS → Prop} {a b : Nat} (h : Off o ks c T s tx J) (ha : 2 < a) (ha2 : a < 2 ^ 31) (hX : ∀ o', Off o' ks c T s tx J → X eIA o') : ow_setMerge o (nI a) (nI b) Q X := by
  obtain ⟨⟨b1, ⟨b2, b3⟩, b4, b5⟩, h2, h3, h4, h5⟩ := h
  unfold ow_setMerge wp_X11_setMerge
  refine rangeN_x (lo := 0) (hi := 2) (Or.inr ha) ha2 (by omega) (by omega) ?_
  exact hX _ ⟨⟨b1, ⟨b2, b3⟩, b4, b5⟩, h2, h3, h4, h5⟩
theorem setMerge_xy {o : OS} {ks : Nat → Int} {c : Nat} {T : Nat → List Nat} {s : SS} {tx : List Nat} {J : Option JS} {Q : Int32 → OS → Prop} {X : String → OS → Prop} {a b : Nat} (h : Off o ks c T s tx J) (ha : a ≤ 2) (hb : 6 < b) (hb2 : b < 2 ^ 31) (hX : ∀ o', Off o' ks c T s tx J → X eIA o') : ow_setMerge o (nI a) (nI b) Q X := by
  obtain ⟨⟨b1, ⟨b2, b3⟩, b4, b5⟩, h2, h3, h4, h5⟩ := h
  unfold ow_setMerge wp_X11_setMerge
  refine rangeN_s (lo := 0) (hi := 2) ⟨by omega, ha⟩ (by omega) ?_
  refine rangeN_x (lo := 2) (hi := 6) (Or.inr hb) hb2 (by omega) (by omega) ?_
  exact hX _ ⟨⟨b1, ⟨b2, b3⟩, b4, b5⟩, h2, h3, h4, h5⟩
theorem plan_xw {o : OS} {ks : Nat → Int} {c : Nat} {T : Nat → List Nat} {s : SS} {tx : List Nat} {J : Option JS} {Q : Int32 → OS → Prop} {X : String → OS → Prop} {j k : Nat} (h : Off o ks c T s tx J) (hj : j < 8) (hk : 3 < k) (hk2 : k < 2 ^ 31) (hX : ∀ o', Off o' ks c T s tx J → X eIA o') : ow_plan o (nI j) (nI k) Q X := by
  obtain ⟨⟨b1, ⟨b2, b3⟩, b4, b5⟩, h2, h3, h4, h5⟩ := h
  unfold ow_plan wp_X11_plan
  refine tapeOf_s hj ?_
  refine rangeN_x (lo := 0) (hi := 3) (Or.inr hk) hk2 (by omega) (by omega) ?_
  exact hX _ ⟨⟨b1, ⟨b2, b3⟩, b4, b5⟩, h2, h3, h4, h5⟩
theorem plan_xt {o : OS} {ks : Nat → Int} {c : Nat} {T : Nat → List Nat} {s : SS} {tx : List Nat} {J : Option JS} {Q : Int32 → OS → Prop} {X : String → OS → Prop} {z : Int} {k : Int32} (h : Off o ks c T s tx J) (z1 : -2147483648 ≤ z) (z2 : z < 2147483648) (hz : z < 0 ∨ 8 ≤ z) (hX : ∀ o', Off o' ks c T s tx J → X eIO o') : ow_plan o (zI z) k Q X := by
  obtain ⟨⟨b1, ⟨b2, b3⟩, b4, b5⟩, h2, h3, h4, h5⟩ := h
  unfold ow_plan wp_X11_plan
  refine tapeOf_x z1 z2 hz ?_
  exact hX _ ⟨⟨b1, ⟨b2, b3⟩, b4, b5⟩, h2, h3, h4, h5⟩
theorem begin_xt {o : OS} {ks : Nat → Int} {c : Nat} {T : Nat → List Nat} {s : SS} {tx : List Nat} {J : Option JS} {Q : Int32 → OS → Prop} {X : String → OS → Prop} {z : Int} {k : Int32} (h : Off o ks c T s tx J) (z1 : -2147483648 ≤ z) (z2 : z < 2147483648) (hz : z < 0 ∨ 8 ≤ z) (hX : ∀ o', Off o' ks c T s tx J → X eIO o') : ow_begin o (zI z) k Q X := by
  obtain ⟨⟨b1, ⟨b2, b3⟩, b4, b5⟩, h2, h3, h4, h5⟩ := h
  unfold ow_begin wp_X11_begin
  refine tapeOf_x z1 z2 hz ?_
  exact hX _ ⟨⟨b1, ⟨b2, b3⟩, b4, b5⟩, h2, h3, h4, h5⟩
theorem work_x0 {o : OS} {ks : Nat → Int} {c : Nat} {T : Nat → List Nat} {s : SS} {tx : List Nat} {J : Option JS} {Q : Int32 → OS → Prop} {X : String → OS → Prop} {m : Nat} (h : Off o ks c T s tx J) (hm : m = 0) (hX : ∀ o', Off o' ks c T s tx J → X eIA o') : ow_work o (nI m) Q X := by
  obtain ⟨⟨b1, ⟨b2, b3⟩, b4, b5⟩, h2, h3, h4, h5⟩ := h
  unfold ow_work wp_X11_work
  refine rangeN_x (lo := 1) (hi := 200) (Or.inl (by omega)) (by omega) (by omega) (by omega) ?_
  exact hX _ ⟨⟨b1, ⟨b2, b3⟩, b4, b5⟩, h2, h3, h4, h5⟩
theorem job_x8 {o : OS} {ks : Nat → Int} {c : Nat} {T : Nat → List Nat} {s : SS} {tx : List Nat} {J : Option JS} {Q : Int32 → OS → Prop} {X : String → OS → Prop} {m : Nat} (h : Off o ks c T s tx J) (hm : 7 < m) (hm2 : m < 2 ^ 31) (hX : ∀ o', Off o' ks c T s tx J → X eIA o') : ow_job o (nI m) Q X := by
  obtain ⟨⟨b1, ⟨b2, b3⟩, b4, b5⟩, h2, h3, h4, h5⟩ := h
  unfold ow_job wp_X11_job
  refine rangeN_x (lo := 0) (hi := 7) (Or.inr hm) hm2 (by omega) (by omega) ?_
  exact hX _ ⟨⟨b1, ⟨b2, b3⟩, b4, b5⟩, h2, h3, h4, h5⟩
theorem combine_xt {o : OS} {ks : Nat → Int} {c : Nat} {T : Nat → List Nat} {s : SS} {tx : List Nat} {J : Option JS} {Q : Int32 → OS → Prop} {X : String → OS → Prop} {a b : Nat} {z : Int} {k : Int32} (h : Off o ks c T s tx J) (ha : a < 8) (hb : b < 8) (z1 : -2147483648 ≤ z) (z2 : z < 2147483648) (hz : z < 0 ∨ 8 ≤ z) (hX : ∀ o', Off o' ks c T s tx J → X eIO o') : ow_combine o (nI a) (nI b) (zI z) k Q X := by
  obtain ⟨⟨b1, ⟨b2, b3⟩, b4, b5⟩, h2, h3, h4, h5⟩ := h
  unfold ow_combine wp_X11_combine
  refine tapeOf_s ha ?_
  refine tapeOf_s hb ?_
  refine tapeOf_x z1 z2 hz ?_
  exact hX _ ⟨⟨b1, ⟨b2, b3⟩, b4, b5⟩, h2, h3, h4, h5⟩
theorem combine_xh {o : OS} {ks : Nat → Int} {c : Nat} {T : Nat → List Nat} {s : SS} {tx : List Nat} {J : Option JS} {Q : Int32 → OS → Prop} {X : String → OS → Prop} {a b i k : Nat} (h : Off o ks c T s tx J) (ha : a < 8) (hb : b < 8) (hi : i < 8) (hk : 2 < k) (hk2 : k < 2 ^ 31) (hX : ∀ o', Off o' ks c T s tx J → X eIA o') : ow_combine o (nI a) (nI b) (nI i) (nI k) Q X := by
  obtain ⟨⟨b1, ⟨b2, b3⟩, b4, b5⟩, h2, h3, h4, h5⟩ := h
  unfold ow_combine wp_X11_combine
  refine tapeOf_s ha ?_
  refine tapeOf_s hb ?_
  refine tapeOf_s hi ?_
  refine rangeN_x (lo := 0) (hi := 2) (Or.inr hk) hk2 (by omega) (by omega) ?_
  exact hX _ ⟨⟨b1, ⟨b2, b3⟩, b4, b5⟩, h2, h3, h4, h5⟩
