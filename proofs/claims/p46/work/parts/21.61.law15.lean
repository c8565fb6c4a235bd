/-! plans are planned -/
theorem lens_sum_le {o : OS} {ks : Nat → Int} {c : Nat} {T : Nat → List Nat} {s : SS} {tx : List Nat} {J : Option JS} {j : Nat} (h : Off o ks c T s tx J) (hj : j < 18) : (lens (rnO ks s (T j))).sum = (T j).length := by
  rw [lens_sum]; exact (h.nr hj).2
theorem set_perm {W : List Nat} {b x : Nat} (hb : b < W.length) : (W.set b (x + W.getD b 0)).Perm ((x + W.getD b 0) :: W.eraseIdx b) := perm_set _ hb
theorem isPlanned_w {o : OS} {ks : Nat → Int} {c : Nat} {T : Nat → List Nat} {s : SS} {tx : List Nat} {J : Option JS} {j : Nat} {r : Nat → Int32} {Q : Bool → (Nat → Int32) → OS → Prop} (h : Off o ks c T s tx J) (hj : j < 8) (hQ : ∀ r' o' s', Off o' ks c T s' tx J → s'.1 = s.1 → Q true r' o') : wp_L_isPlanned o 2 r (nI j) Q := by
  have hl := h.len (j := j) (by omega)
  have hn := h.nr (j := j) (by omega)
  have hsum := lens_sum_le h (j := j) (by omega)
  unfold wp_L_isPlanned
  refine draw_w (m := 3) (by decide) (by decide) (fun w r2 hw => ?_)
  refine draw_w (m := 5) (by decide) (by decide) (fun y r4 hy => ?_)
  refine nm_r (e' := nI (2 + y)) (nI_add 2 y) ?_
  refine lengths_w h hj (fun o2 q11 h2 a11 => ?_)
  obtain ⟨R, hR⟩ : ∃ R, R = rnO ks s (T j) := ⟨_, rfl⟩
  rw [← hR] at a11 hn hsum ⊢
  obtain ⟨k, hk⟩ : ∃ k, k = 2 + y := ⟨_, rfl⟩
  rw [← hk]
  have hll : (lens R).length = R.length := lens_len R
  refine setMerge_o h2 hw (by omega) (by omega) (fun o3 h3 => ?_)
  have hR2 : ∀ s', rnO ks (s.1, s.2.1, s.2.2.1, s') (T j) = R := fun s' => hR.symm
  refine planned_w a11 (by omega) (by omega) hw (by omega) (by omega) (fun q18 hq18 => ?_)
  refine ⟨5, by omega, ?_⟩
  -- the balanced passes
  have e163 : ∀ (v : Nat) (r' : Nat → Int32) (o' : OS), v < 2 ^ 20 → hf (R.length - 1) (lens R) ≤ v → Off o' ks c T (s.1, s.2.1, s.2.2.1, w, k) tx J → wx_L_isPlanned_100_157 (nI j) Q (nI w) (nI k) 4 q18 o' (nI v) r' := by
    intro v r' o' hv hle h'
    unfold wx_L_isPlanned_100_157
    refine ⟨21, by omega, ?_⟩
    have go : ∀ (f x p : Nat) (o' : OS), Off o' ks c T (s.1, s.2.1, s.2.2.1, w, k) tx J → 1 ≤ x → p + f = 20 → 2 ^ p ≤ x → x ≤ 600 → pnG k R.length f x p = pnG k R.length 20 1 0 → wl_L_isPlanned_163 (nI j) (nI k) (wx_L_isPlanned_163_186 (nI j) Q (nI w) 4 q18 (nI v) r') (f + 1) o' (nI x) (nI p) := by
      intro f
      induction f with
      | zero =>
        intro x p o' h' x1 x2 x3 x4 x5
        have : 2 ^ p = 2 ^ 20 := by rw [show p = 20 by omega]
        omega
      | succ f ih =>
        intro x p o' h' x1 x2 x3 x4 x5
        have x6 : (if R.length ≤ x then p else pnG k R.length f (x * k) (p + 1)) = pnG k R.length 20 1 0 := x5
        rw [wl_L_isPlanned_163_s]
        refine runs_o h' hj (fun o4 h4 => ?_)
        rw [hR2]
        refine pk_le R.length x (fun e => ?_) (fun e => ?_)
        · rw [if_pos e] at x6
          unfold wx_L_isPlanned_163_186
          refine leastMoves_o h4 hj (fun o5 h5 => ?_)
          rw [hR2]
          refine pk_lt v (hf (R.length - 1) (lens R)) (fun q => absurd q (by omega)) (fun _ => ?_)
          refine pk_eq w 0 (fun e2 => ?_) (fun _ => hQ _ _ _ h5 rfl)
          refine ⟨pk_in 0 4 (by omega), ?_⟩
          refine nm_r (e' := nI p) (by
            refine hq18.1.trans ?_
            rw [e2, plan_bal (by omega) (by omega) (by omega), hll, x6]) ?_
          exact ⟨fun _ => hQ _ _ _ h5 rfl, fun z => absurd rfl z⟩
        · rw [if_neg (by omega)] at x6
          have hm1 : x * 2 ≤ x * k := Nat.mul_le_mul_left _ (by omega)
          have hm2 : x * k ≤ x * 6 := Nat.mul_le_mul_left _ (by omega)
          refine nm_r (e' := nI (p + 1)) (nI_1 _) ?_
          refine nm_r (e' := nI (x * k)) (pk_mul _ _) ?_
          refine ih (x * k) (p + 1) o4 h4 (by omega) (by omega) ?_ (by omega) x6
          rw [Nat.pow_succ]
          exact Nat.le_trans (Nat.mul_le_mul_right 2 x3) hm1
    exact go 20 1 0 o' h' (by omega) rfl (by omega) (by omega) rfl
  -- merges two by two, drawn
  have e100 : ∀ (o' : OS), Off o' ks c T (s.1, s.2.1, s.2.2.1, w, k) tx J → ∀ (f : Nat) (W : List Nat) (v : Nat) (r' q : Nat → Int32), 1 ≤ f → W.length = f ∨ (W.length = 0 ∧ f = 1) → W.length ≤ R.length → W.sum = (T j).length → v ≤ (R.length - W.length) * 100 → (∀ i, i < W.length → q i = nI (W.getD i 0)) → (W.length = 0 → v = 0 ∧ R.length = 0) → (∀ cc, 1 ≤ W.length → MC (W.length - 1) W cc → MC (R.length - 1) (lens R) (v + cc)) → wl_L_isPlanned_100 2 R.length (wx_L_isPlanned_100_157 (nI j) Q (nI w) (nI k) 4 q18 o') f (nI W.length) (nI v) r' q := by
    intro o' h' f
    induction f with
    | zero =>
      intro W v r' q hf0 hf1 b1 b2 b3 b4 b5 b6
      exact absurd hf0 (by omega)
    | succ f ih =>
      intro W v r' q hf0 hf1 b1 b2 b3 b4 b5 b6
      have hv : v ≤ 100 * 100 := Nat.le_trans b3 (Nat.mul_le_mul_right 100 (by omega))
      rw [wl_L_isPlanned_100_s]
      refine pk_le W.length 1 (fun e => ?_) (fun e => ?_)
      · refine e163 v r' o' (by omega) ?_ h'
        by_cases e0 : W.length = 0
        · have := (b5 e0).2
          rw [this]; exact Nat.zero_le _
        · have := b6 0 (by omega) (by
            rw [show W.length - 1 = 0 by omega]
            exact ⟨by omega, rfl⟩)
          exact hf_best this
      · refine draw_w (m := W.length) (by omega) (by omega) (fun a r5 ha => ?_)
        refine takes_w (W := W) b4 ha b1 (by omega) (fun q2 hq2 => ?_)
        refine nm_r (e' := nI (W.length - 1)) (pk_sub (b := 1) (by omega)) ?_
        refine draw_w (m := W.length - 1) (by omega) (by omega) (fun b r6 hb => ?_)
        have hel : (W.eraseIdx a).length = W.length - 1 := by rw [List.length_eraseIdx, if_pos ha]
        have p1 := perm_at (l := W) (b := a) (d := 0) ha
        have p2 := perm_at (l := W.eraseIdx a) (b := b) (d := 0) (by omega)
        obtain ⟨x, hx⟩ : ∃ x, x = W.getD a 0 := ⟨_, rfl⟩
        obtain ⟨z, hz⟩ : ∃ z, z = (W.eraseIdx a).getD b 0 := ⟨_, rfl⟩
        have s1 := sum_perm p1
        have s2 := sum_perm p2
        rw [List.sum_cons] at s1 s2
        refine ⟨pk_in b R.length (by omega), ?_⟩
        refine nm_r (e' := nI z) (by rw [cl_n (by omega), hq2 b (by omega), hz]) ?_
        rw [← hx] at p1 s1 ⊢
        rw [← hz] at p2 s2
        refine nm_r (e' := nI (z + x)) (nI_add z x) ?_
        refine ⟨pk_in b R.length (by omega), ?_⟩
        refine ⟨pk_in b R.length (by omega), ?_⟩
        refine nm_r (e' := nI (z + x)) (up_s _ _ _) ?_
        refine nm_r (e' := nI (v + (z + x))) (nI_add _ _) ?_
        refine nm_r (e' := nI (W.length - 1)) (by
          have := ng_1 (W.length - 1)
          rw [Nat.sub_add_cancel (by omega)] at this
          exact this) ?_
        rw [cl_n (show b < 2 ^ 31 by omega)]
        have hset := perm_set (l := W.eraseIdx a) (b := b) (z + x) (by omega)
        have hsl : ((W.eraseIdx a).set b (z + x)).length = W.length - 1 := by rw [List.length_set, hel]
        have s3 := sum_perm hset
        rw [List.sum_cons] at s3
        have hm1 : (R.length - (W.length - 1)) * 100 = (R.length - W.length) * 100 + 100 := by
          rw [show R.length - (W.length - 1) = (R.length - W.length) + 1 by omega, Nat.add_mul]
        have := ih ((W.eraseIdx a).set b (z + x)) (v + (z + x)) r6 (upd q2 b (nI (z + x))) (by omega) (Or.inl (by omega)) (by omega) (by omega) (by rw [hsl]; omega) (fun i hi => by
          rw [hsl] at hi
          rw [set_getDj (by omega)]
          by_cases e2 : i = b
          · subst e2; rw [up_s, if_pos rfl]
          · rw [up_n _ e2, if_neg e2]; exact hq2 i (by omega)) (fun e2 => by omega) (fun cc _ hmc => by
          rw [hsl] at hmc
          have hall : W.Perm (x :: z :: (W.eraseIdx a).eraseIdx b) := p1.trans (List.Perm.cons x p2)
          have hmc2 : MC (W.length - 2) ((x + z) :: (W.eraseIdx a).eraseIdx b) cc := by
            have e4 : W.length - 1 - 1 = W.length - 2 := by omega
            rw [e4] at hmc
            rw [Nat.add_comm x z]
            exact MC.perm hset hmc
          have := b6 (x + z + cc) (by omega) (by
            rw [show W.length - 1 = W.length - 2 + 1 by omega]
            exact ⟨x, z, _, cc, hall, hmc2, rfl⟩)
          rw [show v + (z + x) + cc = v + (x + z + cc) by omega]
          exact this)
        rw [hsl] at this
        exact this
  have e73 : ∀ (o' : OS), Off o' ks c T (s.1, s.2.1, s.2.2.1, w, k) tx J → wx_L_isPlanned_44_73 2 (nI j) Q (nI w) r4 (nI k) R.length q11 4 q18 o' := by
    intro o' h'
    unfold wx_L_isPlanned_44_73
    refine leastMoves_o h' hj (fun o4 h4 => ?_)
    rw [hR2]
    refine planned_w (w := 1) (k := 2) a11 (by omega) (by omega) (by decide) (by decide) (by decide) (fun q32 hq32 => ?_)
    refine ⟨pk_in 1 4 (by omega), ?_⟩
    refine nm_r (e' := nI (hf (R.length - 1) (lens R))) (by
      refine hq32.2.1.trans ?_
      rw [plan_sho (by omega), hll]) ?_
    refine ⟨fun _ => ⟨if R.length = 0 then 1 else R.length, ?_⟩, fun z => absurd rfl z⟩
    have := e100 o4 h4 (if R.length = 0 then 1 else R.length) (lens R) 0 r4 q11 (by split <;> omega) (by
      by_cases e : R.length = 0
      · rw [if_pos e]; exact Or.inr ⟨by omega, rfl⟩
      · rw [if_neg e]; exact Or.inl hll) (by omega) hsum (Nat.zero_le _) (fun i hi => a11.2 i hi) (fun e => ⟨rfl, by omega⟩) (fun cc _ hmc => by rw [hll] at hmc; rw [Nat.zero_add]; exact hmc)
    rw [hll] at this
    exact this
  -- the four that a plan tells
  have e44 : ∀ (d i : Nat) (o' : OS), i + d = 4 → Off o' ks c T (s.1, s.2.1, s.2.2.1, w, k) tx J → wl_L_isPlanned_44 (nI j) 4 q18 (wx_L_isPlanned_44_65 Q r4) (wx_L_isPlanned_44_73 2 (nI j) Q (nI w) r4 (nI k) R.length q11 4 q18) (d + 1) (nI i) o' := by
    intro d
    induction d with
    | zero =>
      intro i o' hi h'
      rw [wl_L_isPlanned_44_s]
      refine pk_le 4 i (fun _ => ?_) (fun q => absurd q (by omega))
      exact e73 o' h'
    | succ d ih =>
      intro i o' hi h'
      rw [wl_L_isPlanned_44_s]
      refine pk_le 4 i (fun q => absurd q (by omega)) (fun _ => ?_)
      refine plan_o h' hj (by omega) (fun o4 h4 => ?_)
      refine ⟨pk_in i 4 (by omega), ?_⟩
      have hpl : q18 i = nI (plA ks (s.1, s.2.1, s.2.2.1, w, k) (T j) i) := by
        unfold plA
        rw [hR2]
        obtain ⟨g0, g1, g2, g3⟩ := hq18
        rcases (show i = 0 ∨ i = 1 ∨ i = 2 ∨ i = 3 by omega) with rfl | rfl | rfl | rfl
        · exact g0
        · exact g1
        · exact g2
        · exact g3
      refine nm_r (e' := nI (plA ks (s.1, s.2.1, s.2.2.1, w, k) (T j) i)) (by rw [cl_n (by omega)]; exact hpl) ?_
      refine ⟨fun _ => ?_, fun z => absurd rfl z⟩
      refine nm_r (e' := nI (i + 1)) (nI_1 _) ?_
      exact ih (i + 1) o4 (by omega) h4
  exact e44 4 0 o3 (by omega) h3
