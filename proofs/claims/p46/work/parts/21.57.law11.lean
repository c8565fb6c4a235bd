/-! the least of a row, a row less one -/
theorem least_w {n m : Nat} {f : Nat → Int32} {W : List Nat} {Q : Int32 → Prop} (hf : ∀ i, i < m → f i = nI (W.getD i 0)) (hm1 : 1 ≤ m) (hm : m ≤ n) (hn : n < 2 ^ 20) (hv : ∀ i, i < m → W.getD i 0 < 2 ^ 20) (h : ∀ b, b < m → (∀ i, i < m → W.getD b 0 ≤ W.getD i 0) → Q (nI b)) : wp_L_least n f (nI m) Q := by
  unfold wp_L_least
  refine ⟨m, ?_⟩
  have key : ∀ (d i b : Nat), i + d = m → 1 ≤ i → b < i → (∀ z, z < i → W.getD b 0 ≤ W.getD z 0) → wl_L_least_4 n f (nI m) (wx_L_least_4_30 Q) (d + 1) (nI i) (nI b) := by
    intro d
    induction d with
    | zero =>
      intro i b hi hi1 hb hl
      rw [wl_L_least_4_s]
      refine pk_le m i (fun _ => ?_) (fun q => absurd q (by omega))
      obtain rfl : i = m := by omega
      exact h b hb hl
    | succ d ih =>
      intro i b hi hi1 hb hl
      have v1 := hv i (by omega)
      have v2 := hv b (by omega)
      rw [wl_L_least_4_s]
      refine pk_le m i (fun q => absurd q (by omega)) (fun _ => ?_)
      refine ⟨pk_in i n (by omega), ?_⟩
      refine nm_r (e' := nI (W.getD i 0)) (by rw [cl_n (by omega)]; exact hf i (by omega)) ?_
      refine ⟨pk_in b n (by omega), ?_⟩
      refine nm_r (e' := nI (W.getD b 0)) (by rw [cl_n (by omega)]; exact hf b (by omega)) ?_
      refine pk_le (W.getD b 0) (W.getD i 0) (fun e => ?_) (fun e => ?_)
      · refine nm_r (e' := nI (i + 1)) (nI_1 _) ?_
        refine ih (i + 1) b (by omega) (by omega) (by omega) (fun z hz => ?_)
        by_cases e2 : z = i
        · subst e2; exact e
        · exact hl z (by omega)
      · refine nm_r (e' := nI (i + 1)) (nI_1 _) ?_
        refine ih (i + 1) i (by omega) (by omega) (by omega) (fun z hz => ?_)
        by_cases e2 : z = i
        · subst e2; exact Nat.le_refl _
        · have := hl z (by omega); omega
  obtain ⟨d, rfl⟩ : ∃ d, m = d + 1 := ⟨m - 1, by omega⟩
  exact key d 1 0 (by omega) (Nat.le_refl _) (by omega) (fun z hz => by
    have : z = 0 := by omega
    subst this; exact Nat.le_refl _)
theorem erase_getD {W : List Nat} {a i : Nat} : (W.eraseIdx a).getD i 0 = if i < a then W.getD i 0 else W.getD (i + 1) 0 := by
  rw [List.getD_eq_getElem?_getD, List.getElem?_eraseIdx]
  split
  · rw [List.getD_eq_getElem?_getD]
  · rw [List.getD_eq_getElem?_getD]
theorem takes_w {n m a : Nat} {f : Nat → Int32} {W : List Nat} {Q : Int32 → (Nat → Int32) → Prop} (hf : ∀ i, i < m → f i = nI (W.getD i 0)) (ha : a < m) (hm : m ≤ n) (hn : n < 2 ^ 20) (h : ∀ f', (∀ i, i + 1 < m → f' i = nI ((W.eraseIdx a).getD i 0)) → Q (nI (W.getD a 0)) f') : wp_L_takes n f (nI m) (nI a) Q := by
  unfold wp_L_takes
  refine ⟨pk_in a n (by omega), ?_⟩
  refine nm_r (e' := nI (W.getD a 0)) (by rw [cl_n (by omega)]; exact hf a ha) ?_
  refine ⟨m - a, ?_⟩
  have key : ∀ (d i : Nat) (f' : Nat → Int32), i + d + 1 = m → a ≤ i → (∀ z, z < i → f' z = nI ((W.eraseIdx a).getD z 0)) → (∀ z, i ≤ z → z < m → f' z = nI (W.getD z 0)) → wl_L_takes_7 n (nI m) (wx_L_takes_7_31 Q (nI (W.getD a 0))) (d + 1) (nI i) f' := by
    intro d
    induction d with
    | zero =>
      intro i f' hi hai h1 h2
      rw [wl_L_takes_7_s]
      refine nm_r (e' := nI (m - 1)) (pk_sub (b := 1) (by omega)) ?_
      refine pk_le (m - 1) i (fun _ => ?_) (fun q => absurd q (by omega))
      exact h f' (fun z hz => h1 z (by omega))
    | succ d ih =>
      intro i f' hi hai h1 h2
      rw [wl_L_takes_7_s]
      refine nm_r (e' := nI (m - 1)) (pk_sub (b := 1) (by omega)) ?_
      refine pk_le (m - 1) i (fun q => absurd q (by omega)) (fun _ => ?_)
      refine nm_r (e' := nI (i + 1)) (nI_1 _) ?_
      refine ⟨pk_in (i + 1) n (by omega), ?_⟩
      refine nm_r (e' := nI (W.getD (i + 1) 0)) (by rw [cl_n (by omega)]; exact h2 (i + 1) (by omega) (by omega)) ?_
      refine ⟨pk_in i n (by omega), ?_⟩
      refine nm_r (e' := nI (i + 1)) (nI_1 _) ?_
      rw [cl_n (by omega)]
      refine ih (i + 1) _ (by omega) (by omega) (fun z hz => ?_) (fun z hz hz2 => ?_)
      · by_cases e : z = i
        · subst e; rw [up_s, erase_getD, if_neg (by omega)]
        · rw [up_n _ e]; exact h1 z (by omega)
      · rw [up_n _ (by omega)]; exact h2 z (by omega) hz2
  obtain ⟨d, e⟩ : ∃ d, m - a = d + 1 := ⟨m - a - 1, by omega⟩
  rw [e]
  exact key d a f (by omega) (Nat.le_refl _) (fun z hz => by rw [erase_getD, if_pos hz]; exact hf z (by omega)) (fun z _ hz => hf z hz)
/-! any merges two by two cost no less -/
theorem MC.perm {n c : Nat} {l l' : List Nat} (hp : l.Perm l') (h : MC n l c) : MC n l' c := by
  cases n with
  | zero => exact ⟨by rw [← hp.length_eq]; exact h.1, h.2⟩
  | succ n =>
    obtain ⟨a, b, t, c', h1, h2, h3⟩ := h
    exact ⟨a, b, t, c', hp.symm.trans h1, h2, h3⟩
theorem sum_perm {l l' : List Nat} (h : l.Perm l') : l.sum = l'.sum := by
  induction h with
  | nil => rfl
  | cons x _ ih => rw [List.sum_cons, List.sum_cons, ih]
  | swap x y l => rw [List.sum_cons, List.sum_cons, List.sum_cons, List.sum_cons]; omega
  | trans _ _ i1 i2 => rw [i1, i2]
theorem mem_le_sum {l : List Nat} {x : Nat} (h : x ∈ l) : x ≤ l.sum := by
  have := sum_perm (List.perm_cons_erase h)
  rw [this, List.sum_cons]
  omega
/-- the shortest way, by steps on a row: what is taken, in any order of the rest -/
theorem plan_sho1 {k : Nat} : ∀ (f : Nat) (rw' ls : List Nat), ls.length ≤ f → (plGo 1 k f rw' ls).1 = ls.length - 1 ∧ (plGo 1 k f rw' ls).2.2 = ls.length - 1 := by
  intro f
  induction f with
  | zero =>
    intro rw' ls hl
    have : ls.length = 0 := by omega
    rw [this]; exact ⟨rfl, rfl⟩
  | succ f ih =>
    intro rw' ls hl
    unfold plGo
    by_cases e : ls.length ≤ 1
    · rw [if_pos e]
      have : ls.length - 1 = 0 := by omega
      rw [this]; exact ⟨rfl, rfl⟩
    · rw [if_neg e]
      obtain ⟨a, b, t, h1, -, -, h4, -⟩ := sho_step (k := k) (rw' := rw') (ls := ls) (by omega)
      have h5 := h1.length_eq
      rw [List.length_cons, List.length_cons] at h5
      have h6 : (nxL 1 k rw' ls).length = ls.length - 1 := by rw [h4, List.length_append, List.length_singleton]; omega
      obtain ⟨i1, i2⟩ := ih (clR (chM 1 k rw' ls) rw') (nxL 1 k rw' ls) (by omega)
      rw [h6] at i1 i2
      have hc : chM 1 k rw' ls = 1 := rfl
      refine ⟨?_, ?_⟩
      · show (plGo 1 k f (clR (chM 1 k rw' ls) rw') (nxL 1 k rw' ls)).1 + 1 = ls.length - 1
        rw [i1]; omega
      · show (plGo 1 k f (clR (chM 1 k rw' ls) rw') (nxL 1 k rw' ls)).2.2 + chM 1 k rw' ls = ls.length - 1
        rw [i2, hc]; omega
