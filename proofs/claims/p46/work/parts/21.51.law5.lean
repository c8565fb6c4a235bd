/-! drawn tapes -/
theorem nI_dv {a m : Nat} (ha : a < 2 ^ 31) (hm : 1 ≤ m) (hm2 : m < 2 ^ 31) : nI a / nI m = nI (a / m) := by
  apply Int32.toInt_inj.mp
  rw [Int32.toInt_div_of_ne_right (nI a) (nI m) (by
    intro e
    have := congrArg Int32.toInt e
    rw [nI_toInt hm2] at this
    have h2 : (-1 : Int32).toInt = -1 := by decide
    omega), nI_toInt ha, nI_toInt hm2, nI_toInt (Nat.lt_of_le_of_lt (Nat.div_le_self _ _) ha)]
  exact Int.ofNat_tdiv a m
theorem sub_lit (k a : Nat) : nI k - nI a = zI ((k : Int) - a) := by rw [zI_n, zI_n, zI_s]
theorem mul_bd {sp : Int} {b i : Nat} (h1 : -(b : Int) ≤ sp) (h2 : sp ≤ b) : -((b : Int) * i) ≤ sp * i ∧ sp * i ≤ (b : Int) * i := by
  have h0 : (0 : Int) ≤ i := Int.natCast_nonneg i
  constructor
  · rw [← Int.neg_mul]; exact Int.mul_le_mul_of_nonneg_right h1 h0
  · exact Int.mul_le_mul_of_nonneg_right h2 h0
/-- filling an empty or short tape -/
theorem fillD {o : OS} {ks : Nat → Int} {c : Nat} {T : Nat → List Nat} {s : SS} {tx : List Nat} {J : Option JS} {Q : Int32 → OS → Prop} {X : String → OS → Prop} {j m : Nat} {F S : Int32} {f0 sp : Int} (h : Off o ks c T s tx J) (hj : j < 8) (hF : F = zI f0) (hS : S = zI sp) (hf1 : -99 ≤ f0) (hf2 : f0 ≤ 99) (hs1 : -15 ≤ sp) (hs2 : sp ≤ 15) (hm1 : m ≤ 30) (hc : c + m ≤ 200) (hl : (T j).length + m ≤ 100) (hQ : ∀ o' ks' T' v, Off o' ks' (c + m) T' s tx J → (T' j).length = (T j).length + m → Q v o') : ow_fill o (nI j) F S (nI m) Q X := by
  subst hF hS
  exact fill_o h hj (by omega) (by omega) (by omega) (by omega) (by omega) (fun i hi => by
    obtain ⟨q1, q2⟩ := mul_bd (sp := sp) (b := 15) (i := i) (by omega) (by omega)
    omega) hc hl (fun o' h' => hQ o' _ _ _ h' (by rw [va_up_self, List.length_append, newR_len]))
theorem scatD {o : OS} {ks : Nat → Int} {c : Nat} {T : Nat → List Nat} {s : SS} {tx : List Nat} {J : Option JS} {Q : Int32 → OS → Prop} {X : String → OS → Prop} {j m rg a : Nat} (h : Off o ks c T s tx J) (hj : j < 8) (hm1 : m ≤ 50) (hr1 : 1 ≤ rg) (hr2 : rg ≤ 999) (ha : a < 2 ^ 31) (hc : c + m ≤ 200) (hl : (T j).length + m ≤ 100) (hQ : ∀ o' ks' T' v, Off o' ks' (c + m) T' s tx J → (T' j).length = (T j).length + m → Q v o') : ow_scatter o (nI j) (nI m) (nI rg) (nI a) Q X :=
  scatter_o h hj hm1 hr1 hr2 (by rw [nI_toInt ha]; omega) hc hl (fun o' h' => hQ o' _ _ _ h' (by rw [va_up_self, List.length_append, newR_len]))
theorem draws_w {o : OS} {ks : Nat → Int} {c : Nat} {T : Nat → List Nat} {s : SS} {tx : List Nat} {J : Option JS} {j : Nat} {r : Nat → Int32} {Q : (Nat → Int32) → OS → Prop} (h : Off o ks c T s tx J) (hj : j < 7) (hc : c + 30 ≤ 200) (hQ : ∀ r' o' ks' c' T', Off o' ks' c' T' s tx J → c' ≤ c + 30 → (T' j).length ≤ 30 → Q r' o') : wp_L_draws o 2 r (nI j) Q := by
  have body : ∀ (m : Nat) (r2 : Nat → Int32) (o2 : OS) (T2 : Nat → List Nat), m ≤ 30 → Off o2 ks c T2 s tx J → (T2 j).length = 0 → wj_L_draws_32 2 (nI j) Q o2 (nI m) r2 := by
    intro m r2 o2 T2 hm h2 hl
    unfold wj_L_draws_32
    refine draw_w (m := 5) (by decide) (by decide) (fun k5 r3 hk5 => ⟨fun _ => ?_, fun _ => ?_, fun _ => ?_, fun _ => ?_, fun _ => ?_⟩)
    · refine draw_w (m := 199) (by decide) (by decide) (fun a r4 ha => ?_)
      refine nm_r (e' := zI ((a : Int) - 99)) (sub_lit a 99) ?_
      refine draw_w (m := 31) (by decide) (by decide) (fun b r5 hb => ?_)
      refine nm_r (e' := zI ((b : Int) - 15)) (sub_lit b 15) ?_
      exact fillD h2 (by omega) rfl rfl (by omega) (by omega) (by omega) (by omega) hm (by omega) (by omega) (fun o3 k3 T3 v h3 l3 => hQ _ _ _ _ _ h3 (by omega) (by omega))
    · refine draw_w (m := 9) (by decide) (by decide) (fun a r4 ha => ?_)
      refine nm_r (e' := nI (1 + a)) (nI_add 1 a) ?_
      refine draw_w (m := 100000) (by decide) (by decide) (fun b r5 hb => ?_)
      exact scatD h2 (by omega) (by omega) (by omega) (by omega) (by omega) (by omega) (by omega) (fun o3 k3 T3 v h3 l3 => hQ _ _ _ _ _ h3 (by omega) (by omega))
    · refine draw_w (m := 999) (by decide) (by decide) (fun a r4 ha => ?_)
      refine nm_r (e' := nI (1 + a)) (nI_add 1 a) ?_
      refine next_w (fun v r5 => ?_)
      obtain ⟨b, hb, eb⟩ := shr1 v
      refine nm_r (e' := nI b) eb ?_
      exact scatD h2 (by omega) (by omega) (by omega) (by omega) hb (by omega) (by omega) (fun o3 k3 T3 v h3 l3 => hQ _ _ _ _ _ h3 (by omega) (by omega))
    · refine nm_r (e' := nI (m / 2)) (nI_dv (m := 2) (by omega) (by decide) (by decide)) ⟨m / 2 + 1, by omega, ?_⟩
      have key : ∀ (d : Nat) (r4 : Nat → Int32) (o3 : OS) (ks3 : Nat → Int) (c3 : Nat) (T3 : Nat → List Nat), d ≤ 15 → Off o3 ks3 c3 T3 s tx J → c3 + d ≤ c + 15 → (T3 j).length + d ≤ 15 → wl_L_draws_155 2 (nI j) (wx_L_draws_155_187 (nI j) Q) (d + 1) (nI d) r4 o3 := by
        intro d
        induction d with
        | zero =>
          intro r4 o3 ks3 c3 T3 hd h3 hc3 hl3
          rw [wl_L_draws_155_s]
          refine pk_le 0 0 (fun _ => ?_) (fun q => absurd q (by omega))
          unfold wx_L_draws_155_187
          refine copy_o (j := 7) h3 (by omega) (by decide) (fun o4 h4 => ?_)
          refine turn_o (j := 7) h4 (by decide) (fun o5 h5 => ?_)
          intro x50 e50
          have hne : j ≠ 7 := by omega
          have e5 : va_up (va_up T3 7 (T3 j)) 7 (va_up T3 7 (T3 j) 7).reverse j = T3 j := by rw [va_up_ne _ _ hne, va_up_ne _ _ hne]
          exact scatD (m := 3) (rg := 5) (a := 1) h5 (by omega) (by decide) (by decide) (by decide) (by decide) (by omega) (by rw [e5]; omega) (fun o6 k6 T6 v h6 l6 => hQ _ _ _ _ _ h6 (by omega) (by rw [l6, e5]; omega))
        | succ d ih =>
          intro r4 o3 ks3 c3 T3 hd h3 hc3 hl3
          rw [wl_L_draws_155_s]
          refine pk_le (d + 1) 0 (fun q => absurd q (by omega)) (fun _ => ?_)
          refine draw_w (m := 9) (by decide) (by decide) (fun a r5 ha => ?_)
          refine nm_r (e' := zI ((a : Int) - 4)) (sub_lit a 4) ?_
          refine draw_w (m := 10000) (by decide) (by decide) (fun b r6 hb => ?_)
          refine put_o h3 (by omega) rfl (by omega) (by omega) rfl (by omega) (by omega) (by omega) (fun o4 h4 => ?_)
          refine nm_r (e' := nI d) (ng_1 d) ?_
          refine ih r6 o4 _ _ _ (by omega) h4 (by omega) ?_
          rw [va_up_self, List.length_append, List.length_singleton]; omega
      exact key (m / 2) r3 o2 ks c T2 (by omega) h2 (by omega) (by omega)
    · refine nm_r (e' := nI (m / 3)) (nI_dv (m := 3) (by omega) (by decide) (by decide)) ?_
      refine fillD (j := j) (m := m / 3) (f0 := 0) (sp := 3) h2 (by omega) (by decide) (by decide) (by decide) (by decide) (by decide) (by decide) (by omega) (by omega) (by omega) (fun o3 k3 T3 v h3 l3 => ?_)
      refine nm_r (e' := nI (m / 3)) (nI_dv (m := 3) (by omega) (by decide) (by decide)) ?_
      refine fillD (j := j) (m := m / 3) (f0 := 20) (sp := -2) h3 (by omega) (by decide) (by decide) (by decide) (by decide) (by decide) (by decide) (by omega) (by omega) (by omega) (fun o4 k4 T4 v h4 l4 => ?_)
      refine nm_r (e' := nI (m / 3)) (nI_dv (m := 3) (by omega) (by decide) (by decide)) ?_
      refine next_w (fun v r5 => ?_)
      obtain ⟨b, hb, eb⟩ := shr1 v
      refine nm_r (e' := nI b) eb ?_
      exact scatD (j := j) (m := m / 3) (rg := 30) h4 (by omega) (by omega) (by decide) (by decide) hb (by omega) (by omega) (fun o5 k5 T5 v h5 l5 => hQ _ _ _ _ _ h5 (by omega) (by omega))
  unfold wp_L_draws
  refine clear_o h (by omega) (fun o1 h1 => ?_)
  have l1 : (va_up T j [] j).length = 0 := by rw [va_up_self]; rfl
  refine draw_w (m := 3) (by decide) (by decide) (fun a r2 ha => ?_)
  refine pk_eq a 0 (fun _ => ?_) (fun _ => ?_)
  · refine draw_w (m := 16) (by decide) (by decide) (fun b r3 hb => ?_)
    refine nm_r (e' := nI (15 + b)) (nI_add 15 b) ?_
    exact body (15 + b) r3 o1 _ (by omega) h1 l1
  · refine draw_w (m := 12) (by decide) (by decide) (fun b r3 hb => ?_)
    exact body b r3 o1 _ (by omega) h1 l1
