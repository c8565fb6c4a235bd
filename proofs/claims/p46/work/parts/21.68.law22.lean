/-! refusals are those of the document -/
theorem put_xk' {o : OS} {ks : Nat → Int} {c : Nat} {T : Nat → List Nat} {s : SS} {tx : List Nat} {J : Option JS} {Q : Int32 → OS → Prop} {X : String → OS → Prop} {j : Nat} {k : Int} {m : Int32} (h : Off o ks c T s tx J) (hj : j < 8) (k1 : -2147483648 ≤ k) (k2 : k < 2147483648) (hk : k < -999 ∨ 999 < k) (hX : ∀ o', Off o' ks c T s tx J → X eIA o') {K9 : Int32} (hK9 : K9 = zI k) : ow_put o (nI j) K9 m Q X := by
  subst hK9
  exact put_xk h hj k1 k2 hk hX
theorem put_xm' {o : OS} {ks : Nat → Int} {c : Nat} {T : Nat → List Nat} {s : SS} {tx : List Nat} {J : Option JS} {Q : Int32 → OS → Prop} {X : String → OS → Prop} {j m : Nat} {k : Int} (h : Off o ks c T s tx J) (hj : j < 8) (k1 : -999 ≤ k) (k2 : k ≤ 999) (hm : 9999 < m) (hm2 : m < 2 ^ 31) (hX : ∀ o', Off o' ks c T s tx J → X eIA o') {K9 M9 : Int32} (hK9 : K9 = zI k) (hM9 : M9 = nI m) : ow_put o (nI j) K9 M9 Q X := by
  subst hK9 hM9
  exact put_xm h hj k1 k2 hm hm2 hX
theorem put_xr' {o : OS} {ks : Nat → Int} {c : Nat} {T : Nat → List Nat} {s : SS} {tx : List Nat} {J : Option JS} {Q : Int32 → OS → Prop} {X : String → OS → Prop} {j m : Nat} {k : Int} (h : Off o ks c T s tx J) (hj : j < 8) (k1 : -999 ≤ k) (k2 : k ≤ 999) (hm : m ≤ 9999) (hc : c = 200) (hX : ∀ o', Off o' ks c T s tx J → X eIS o') {J9 K9 M9 : Int32} (hJ9 : J9 = nI j) (hK9 : K9 = zI k) (hM9 : M9 = nI m) : ow_put o J9 K9 M9 Q X := by
  subst hJ9 hK9 hM9
  exact put_xr h hj k1 k2 hm hc hX
theorem fill_xl' {o : OS} {ks : Nat → Int} {c : Nat} {T : Nat → List Nat} {s : SS} {tx : List Nat} {J : Option JS} {Q : Int32 → OS → Prop} {X : String → OS → Prop} {j m : Nat} {f st : Int} (h : Off o ks c T s tx J) (hj : j < 8) (f1 : -999 ≤ f) (f2 : f ≤ 999) (s1 : -50 ≤ st) (s2 : st ≤ 50) (m1 : 1 ≤ m) (m2 : m ≤ 50) (hl : f + st * ((m : Int) - 1) < -999 ∨ 999 < f + st * ((m : Int) - 1)) (hX : ∀ o', Off o' ks c T s tx J → X eIA o') {F9 S9 M9 : Int32} (hF9 : F9 = zI f) (hS9 : S9 = zI st) (hM9 : M9 = nI m) : ow_fill o (nI j) F9 S9 M9 Q X := by
  subst hF9 hS9 hM9
  exact fill_xl h hj f1 f2 s1 s2 m1 m2 hl hX
theorem scatter_xm' {o : OS} {ks : Nat → Int} {c : Nat} {T : Nat → List Nat} {s : SS} {tx : List Nat} {J : Option JS} {Q : Int32 → OS → Prop} {X : String → OS → Prop} {j m : Nat} {r sd : Int32} (h : Off o ks c T s tx J) (hj : j < 8) (hm : 50 < m) (hm2 : m < 2 ^ 31) (hX : ∀ o', Off o' ks c T s tx J → X eIA o') {M9 : Int32} (hM9 : M9 = nI m) : ow_scatter o (nI j) M9 r sd Q X := by
  subst hM9
  exact scatter_xm h hj hm hm2 hX
theorem scatter_xr' {o : OS} {ks : Nat → Int} {c : Nat} {T : Nat → List Nat} {s : SS} {tx : List Nat} {J : Option JS} {Q : Int32 → OS → Prop} {X : String → OS → Prop} {j m r : Nat} {sd : Int32} (h : Off o ks c T s tx J) (hj : j < 8) (hm : m ≤ 50) (hr : r = 0) (hX : ∀ o', Off o' ks c T s tx J → X eIA o') {M9 R9 : Int32} (hM9 : M9 = nI m) (hR9 : R9 = nI r) : ow_scatter o (nI j) M9 R9 sd Q X := by
  subst hM9 hR9
  exact scatter_xr h hj hm hr hX
theorem setRuns_xo' {o : OS} {ks : Nat → Int} {c : Nat} {T : Nat → List Nat} {s : SS} {tx : List Nat} {J : Option JS} {Q : Int32 → OS → Prop} {X : String → OS → Prop} {a b d : Nat} (h : Off o ks c T s tx J) (ha : 1 < a) (ha2 : a < 2 ^ 31) (hX : ∀ o', Off o' ks c T s tx J → X eIA o') {A9 B9 D9 : Int32} (hA9 : A9 = nI a) (hB9 : B9 = nI b) (hD9 : D9 = nI d) : ow_setRuns o A9 B9 D9 Q X := by
  subst hA9 hB9 hD9
  exact setRuns_xo h ha ha2 hX
theorem setRuns_xw' {o : OS} {ks : Nat → Int} {c : Nat} {T : Nat → List Nat} {s : SS} {tx : List Nat} {J : Option JS} {Q : Int32 → OS → Prop} {X : String → OS → Prop} {a b d : Nat} (h : Off o ks c T s tx J) (ha : a ≤ 1) (hb : 2 < b) (hb2 : b < 2 ^ 31) (hX : ∀ o', Off o' ks c T s tx J → X eIA o') {A9 B9 D9 : Int32} (hA9 : A9 = nI a) (hB9 : B9 = nI b) (hD9 : D9 = nI d) : ow_setRuns o A9 B9 D9 Q X := by
  subst hA9 hB9 hD9
  exact setRuns_xw h ha hb hb2 hX
theorem setRuns_xm' {o : OS} {ks : Nat → Int} {c : Nat} {T : Nat → List Nat} {s : SS} {tx : List Nat} {J : Option JS} {Q : Int32 → OS → Prop} {X : String → OS → Prop} {a b d : Nat} (h : Off o ks c T s tx J) (ha : a ≤ 1) (hb : b ≤ 2) (hd : 50 < d) (hd2 : d < 2 ^ 31) (hX : ∀ o', Off o' ks c T s tx J → X eIA o') {A9 B9 D9 : Int32} (hA9 : A9 = nI a) (hB9 : B9 = nI b) (hD9 : D9 = nI d) : ow_setRuns o A9 B9 D9 Q X := by
  subst hA9 hB9 hD9
  exact setRuns_xm h ha hb hd hd2 hX
theorem setMerge_xw' {o : OS} {ks : Nat → Int} {c : Nat} {T : Nat → List Nat} {s : SS} {tx : List Nat} {J : Option JS} {Q : Int32 → OS → Prop} {X : String → OS → Prop} {a b : Nat} (h : Off o ks c T s tx J) (ha : 2 < a) (ha2 : a < 2 ^ 31) (hX : ∀ o', Off o' ks c T s tx J → X eIA o') {A9 B9 : Int32} (hA9 : A9 = nI a) (hB9 : B9 = nI b) : ow_setMerge o A9 B9 Q X := by
  subst hA9 hB9
  exact setMerge_xw h ha ha2 hX
theorem setMerge_xy' {o : OS} {ks : Nat → Int} {c : Nat} {T : Nat → List Nat} {s : SS} {tx : List Nat} {J : Option JS} {Q : Int32 → OS → Prop} {X : String → OS → Prop} {a b : Nat} (h : Off o ks c T s tx J) (ha : a ≤ 2) (hb : 6 < b) (hb2 : b < 2 ^ 31) (hX : ∀ o', Off o' ks c T s tx J → X eIA o') {A9 B9 : Int32} (hA9 : A9 = nI a) (hB9 : B9 = nI b) : ow_setMerge o A9 B9 Q X := by
  subst hA9 hB9
  exact setMerge_xy h ha hb hb2 hX
theorem plan_xw' {o : OS} {ks : Nat → Int} {c : Nat} {T : Nat → List Nat} {s : SS} {tx : List Nat} {J : Option JS} {Q : Int32 → OS → Prop} {X : String → OS → Prop} {j k : Nat} (h : Off o ks c T s tx J) (hj : j < 8) (hk : 3 < k) (hk2 : k < 2 ^ 31) (hX : ∀ o', Off o' ks c T s tx J → X eIA o') {K9 : Int32} (hK9 : K9 = nI k) : ow_plan o (nI j) K9 Q X := by
  subst hK9
  exact plan_xw h hj hk hk2 hX
theorem work_x0' {o : OS} {ks : Nat → Int} {c : Nat} {T : Nat → List Nat} {s : SS} {tx : List Nat} {J : Option JS} {Q : Int32 → OS → Prop} {X : String → OS → Prop} {m : Nat} (h : Off o ks c T s tx J) (hm : m = 0) (hX : ∀ o', Off o' ks c T s tx J → X eIA o') {M9 : Int32} (hM9 : M9 = nI m) : ow_work o M9 Q X := by
  subst hM9
  exact work_x0 h hm hX
theorem job_x8' {o : OS} {ks : Nat → Int} {c : Nat} {T : Nat → List Nat} {s : SS} {tx : List Nat} {J : Option JS} {Q : Int32 → OS → Prop} {X : String → OS → Prop} {m : Nat} (h : Off o ks c T s tx J) (hm : 7 < m) (hm2 : m < 2 ^ 31) (hX : ∀ o', Off o' ks c T s tx J → X eIA o') {M9 : Int32} (hM9 : M9 = nI m) : ow_job o M9 Q X := by
  subst hM9
  exact job_x8 h hm hm2 hX
theorem combine_xh' {o : OS} {ks : Nat → Int} {c : Nat} {T : Nat → List Nat} {s : SS} {tx : List Nat} {J : Option JS} {Q : Int32 → OS → Prop} {X : String → OS → Prop} {a b i k : Nat} (h : Off o ks c T s tx J) (ha : a < 8) (hb : b < 8) (hi : i < 8) (hk : 2 < k) (hk2 : k < 2 ^ 31) (hX : ∀ o', Off o' ks c T s tx J → X eIA o') {I9 K9 : Int32} (hI9 : I9 = nI i) (hK9 : K9 = nI k) : ow_combine o (nI a) (nI b) I9 K9 Q X := by
  subst hI9 hK9
  exact combine_xh h ha hb hi hk hk2 hX
theorem at_x' {o : OS} {ks : Nat → Int} {c : Nat} {T : Nat → List Nat} {s : SS} {tx : List Nat} {J : Option JS} {Q : Int32 → OS → Prop} {X : String → OS → Prop} {j : Nat} {z : Int} {Z : Int32} (h : Off o ks c T s tx J) (hj : j < 8) (hz : z = -1 ∨ z = (T j).length) (hZ : Z = zI z) (hX : X eIO o) : ow_at o (nI j) Z Q X := by
  subst hZ
  exact at_x h hj hz hX
theorem areRefused_w {o : OS} {ks : Nat → Int} {c : Nat} {T : Nat → List Nat} {s : SS} {tx : List Nat} {J : Option JS} {r : Nat → Int32} {Q : Bool → (Nat → Int32) → OS → Prop} (h : Off o ks c T s tx J) (hQ : ∀ r' o', Q true r' o') : wp_L_areRefused o 2 r Q := by
  have e435 : ∀ (r' : Nat → Int32) (o' : OS) (ks' : Nat → Int) (c' : Nat) (T' : Nat → List Nat), c' = 200 → Off o' ks' c' T' s tx J → wx_L_areRefused_390_435 Q r' o' := by
    intro r' o' ks' c' T' hc h'
    have hl := h'.len (j := 6) (by decide)
    unfold wx_L_areRefused_390_435 wp_L_asks_0
    refine put_xr' (j := 6) (k := 0) (m := 0) h' (by decide) (by decide) (by decide) (by decide) hc (fun o2 h2 => Or.inr (Or.inr (Or.inr ⟨rfl, fun _ => ?_, fun z => absurd rfl z⟩))) (by decide) (by decide) (by decide)
    refine put_xk' (j := 6) (k := 1000) h2 (by decide) (by decide) (by decide) (by decide) (fun o3 h3 => Or.inr (Or.inr (Or.inl ⟨rfl, fun _ => ?_, fun z => absurd rfl z⟩))) (by decide)
    refine records_o h3 ?_
    subst hc
    refine ⟨fun _ => ?_, fun z => absurd rfl z⟩
    refine fill_o (j := 6) (m := 0) (f0 := 1) (sp := 1) h3 (by decide) (by decide) (by decide) (by decide) (by decide) (by decide) (fun i hi => absurd hi (Nat.not_lt_zero _)) (by decide) (by omega) (fun o4 h4 => ?_)
    refine length_o (j := 6) h4 (by decide) ?_
    rw [va_up_self, List.length_append, newR_len]
    exact ⟨fun _ => hQ _ _, fun z => absurd rfl z⟩
  have loop : ∀ (r' : Nat → Int32) (f : Nat) (o' : OS) (ks' : Nat → Int) (c' : Nat) (T' : Nat → List Nat), 200 ≤ c' + 50 * f → Off o' ks' c' T' s tx J → wl_L_areRefused_390 (wx_L_areRefused_390_435 Q r') (f + 1) o' := by
    intro r' f
    induction f with
    | zero =>
      intro o' ks' c' T' hc h'
      have hc2 := h'.c2
      rw [wl_L_areRefused_390_s]
      refine records_o h' ?_
      refine pk_le 200 c' (fun _ => ?_) (fun q => absurd q (by omega))
      exact e435 r' o' ks' c' T' (by omega) h'
    | succ f ih =>
      intro o' ks' c' T' hc h'
      have hc2 := h'.c2
      rw [wl_L_areRefused_390_s]
      refine records_o h' ?_
      refine pk_le 200 c' (fun e => e435 r' o' ks' c' T' (by omega) h') (fun e => ?_)
      refine clear_o (j := 6) h' (by decide) (fun o2 h2 => ?_)
      refine records_o h2 ?_
      refine nm_r (e' := nI (200 - c')) (pk_sub (a := 200) (by omega)) ?_
      refine nm_r (e' := nI (min 50 (200 - c'))) (pk_mn 50 (200 - c') rfl rfl) ?_
      refine scatter_o (j := 6) (rg := 10) h2 (by decide) (by omega) (by decide) (by decide) (by decide) (by omega) (by rw [va_up_self]; show 0 + _ ≤ 100; omega) (fun o3 h3 => ?_)
      exact ih o3 _ _ _ (by omega) h3
  have body : ∀ (z : Int) (W : Int32) (r' : Nat → Int32), W = zI z → -2147483648 ≤ z → z < 2147483648 → (z < 0 ∨ 8 ≤ z) → wj_L_areRefused_26 o 2 Q W r' := by
    intro z W r' hW z1 z2 hz
    subst hW
    have hl : ∀ (o' : OS), ∀ j, j < 8 → (T j).length ≤ 100 := fun _ j hj => h.len (j := j) (by omega)
    unfold wj_L_areRefused_26 wp_L_asks_0 wp_L_asks_1 wp_L_asks_2 wp_L_asks_3 wp_L_asks_4 wp_L_asks_5 wp_L_asks_7 wp_L_asks_8 wp_L_asks_9 wp_L_asks_11 wp_L_asks_12 wp_L_asks_18
    refine records_o h ?_
    refine draw_w (m := 8) (by decide) (by decide) (fun j r2 hj => ?_)
    refine put_xt h z1 z2 hz (fun o1 h1 => Or.inl ⟨rfl, fun _ => ?_, fun z => absurd rfl z⟩)
    refine put_xk' (k := 1000) h1 hj (by decide) (by decide) (by decide) (fun o2 h2 => Or.inr (Or.inr (Or.inl ⟨rfl, fun _ => ?_, fun z => absurd rfl z⟩))) (by decide)
    refine put_xm' (k := 0) (m := 10000) h2 hj (by decide) (by decide) (by decide) (by decide) (fun o3 h3 => Or.inr (Or.inr (Or.inl ⟨rfl, fun _ => ?_, fun z => absurd rfl z⟩))) (by decide) (by decide)
    refine fill_xl' (f := 900) (st := 50) (m := 50) h3 hj (by decide) (by decide) (by decide) (by decide) (by decide) (by decide) (by decide) (fun o4 h4 => Or.inr (Or.inr (Or.inl ⟨rfl, fun _ => ?_, fun z => absurd rfl z⟩))) (by decide) (by decide) (by decide)
    refine fill_xt h4 z1 z2 hz (fun o5 h5 => Or.inl ⟨rfl, fun _ => ?_, fun z => absurd rfl z⟩)
    refine scatter_xm' (m := 51) h5 hj (by decide) (by decide) (fun o6 h6 => Or.inr (Or.inr (Or.inl ⟨rfl, fun _ => ?_, fun z => absurd rfl z⟩))) (by decide)
    refine scatter_xr' (m := 5) (r := 0) h6 hj (by decide) rfl (fun o7 h7 => Or.inr (Or.inr (Or.inl ⟨rfl, fun _ => ?_, fun z => absurd rfl z⟩))) (by decide) (by decide)
    refine length_o h7 hj ?_
    refine at_x' h7 hj (Or.inr rfl) (zI_n _) (Or.inl ⟨rfl, fun _ => ?_, fun z => absurd rfl z⟩)
    refine at_x' (z := -1) h7 hj (Or.inl rfl) lit_m1 (Or.inl ⟨rfl, fun _ => ?_, fun z => absurd rfl z⟩)
    refine setRuns_xo' (a := 2) (b := 0) (d := 1) h7 (by decide) (by decide) (fun o8 h8 => Or.inr (Or.inr (Or.inl ⟨rfl, fun _ => ?_, fun z => absurd rfl z⟩))) (by decide) (by decide) (by decide)
    refine setRuns_xw' (a := 0) (b := 3) (d := 1) h8 (by decide) (by decide) (by decide) (fun o9 h9 => Or.inr (Or.inr (Or.inl ⟨rfl, fun _ => ?_, fun z => absurd rfl z⟩))) (by decide) (by decide) (by decide)
    refine setRuns_xm' (a := 0) (b := 0) (d := 51) h9 (by decide) (by decide) (by decide) (by decide) (fun p1 h10 => Or.inr (Or.inr (Or.inl ⟨rfl, fun _ => ?_, fun z => absurd rfl z⟩))) (by decide) (by decide) (by decide)
    refine setMerge_xw' (a := 3) (b := 2) h10 (by decide) (by decide) (fun p2 h11 => Or.inr (Or.inr (Or.inl ⟨rfl, fun _ => ?_, fun z => absurd rfl z⟩))) (by decide) (by decide)
    refine setMerge_xy' (a := 0) (b := 7) h11 (by decide) (by decide) (by decide) (fun p3 h12 => Or.inr (Or.inr (Or.inl ⟨rfl, fun _ => ?_, fun z => absurd rfl z⟩))) (by decide) (by decide)
    refine plan_xw' (k := 4) h12 hj (by decide) (by decide) (fun p4 h13 => Or.inr (Or.inr (Or.inl ⟨rfl, fun _ => ?_, fun z => absurd rfl z⟩))) (by decide)
    refine plan_xt h13 z1 z2 hz (fun p5 h14 => Or.inl ⟨rfl, fun _ => ?_, fun z => absurd rfl z⟩)
    refine begin_xt h14 z1 z2 hz (fun p6 h15 => Or.inl ⟨rfl, fun _ => ?_, fun z => absurd rfl z⟩)
    refine work_x0' (m := 0) h15 rfl (fun p7 h16 => Or.inr (Or.inr (Or.inl ⟨rfl, fun _ => ?_, fun z => absurd rfl z⟩))) (by decide)
    refine job_x8' (m := 8) h16 (by decide) (by decide) (fun p8 h17 => Or.inr (Or.inr (Or.inl ⟨rfl, fun _ => ?_, fun z => absurd rfl z⟩))) (by decide)
    refine combine_xt h17 hj hj z1 z2 hz (fun p9 h18 => Or.inl ⟨rfl, fun _ => ?_, fun z => absurd rfl z⟩)
    refine combine_xh' (i := 7) (k := 3) h18 hj hj (by decide) (by decide) (by decide) (fun pa h19 => Or.inr (Or.inr (Or.inl ⟨rfl, fun _ => ?_, fun z => absurd rfl z⟩))) (by decide) (by decide)
    refine records_o h19 ⟨fun _ => ⟨5, by decide, ?_⟩, fun z => absurd rfl z⟩
    exact loop r2 4 pa ks c T (by omega) h19
  unfold wp_L_areRefused
  refine draw_w (m := 2) (by decide) (by decide) (fun a r2 ha => ?_)
  refine pk_eq a 0 (fun _ => ?_) (fun _ => ?_)
  · refine draw_w (m := 3) (by decide) (by decide) (fun b r3 hb => ?_)
    refine nm_r (e' := nI (8 + b)) (nI_add 8 b) ?_
    exact body ((8 + b : Nat) : Int) _ _ (zI_n _) (by omega) (by omega) (by omega)
  · refine draw_w (m := 3) (by decide) (by decide) (fun b r3 hb => ?_)
    refine nm_r (e' := zI (-1 - (b : Int))) (by rw [zI_n, lit_m1, zI_s]) ?_
    exact body _ _ _ rfl (by omega) (by omega) (by omega)
