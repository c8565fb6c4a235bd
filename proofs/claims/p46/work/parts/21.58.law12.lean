/-! plans of the law: by hand, as the class's -/
theorem pl_done {w k f : Nat} {rw' W : List Nat} (h : W.length ≤ 1) : plGo w k f rw' W = (0, 0, 0) := by
  cases f with
  | zero => rfl
  | succ f => unfold plGo; rw [if_pos h]
theorem sum_take_drop (W : List Nat) (a z : Nat) (h : a + z < W.length) : ((W.drop a).take (z + 1)).sum = ((W.drop a).take z).sum + W.getD (a + z) 0 := by
  rw [sum_take_s (by rw [List.length_drop]; omega)]
  congr 1
  rw [List.getD_eq_getElem?_getD, List.getElem?_drop, ← List.getD_eq_getElem?_getD]
theorem take_min (W : List Nat) (a k : Nat) : (W.drop a).take (min W.length (a + k) - a) = (W.drop a).take k := by
  by_cases e : a + k ≤ W.length
  · rw [Nat.min_eq_right e, Nat.add_sub_cancel_left]
  · rw [Nat.min_eq_left (by omega), List.take_of_length_le (by rw [List.length_drop]; omega), List.take_of_length_le (by rw [List.length_drop]; omega)]
/-- what a plan's row holds -/
def PlA (q : Nat → Int32) (p v m l : Nat) : Prop := q 0 = nI p ∧ q 1 = nI v ∧ q 2 = nI m ∧ q 3 = nI l
/-- one balanced pass -/
theorem bal_w {k n8 p v m l : Nat} {q8 q1 : Nat → Int32} {W : List Nat} {E : Int32 → (Nat → Int32) → (Nat → Int32) → Prop} (hk : 2 ≤ k) (hk6 : k ≤ 6) (hW2 : 2 ≤ W.length) (hn : W.length ≤ n8) (hn8 : n8 ≤ 200) (hs : W.sum < 2 ^ 20) (hq : ∀ i, i < W.length → q8 i = nI (W.getD i 0)) (hp : PlA q1 p v m l) (h : ∀ q8' q1', (∀ i, i < (nxL 0 k [] W).length → q8' i = nI ((nxL 0 k [] W).getD i 0)) → PlA q1' p (v + (grS (chM 0 k [] W) (chA 0 k [] W) W).sum) (m + chM 0 k [] W) l → E (nI (nxL 0 k [] W).length) q8' q1') : ∃ n145 : Nat, wl_L_planned_145 (nI k) n8 (nI W.length) E n145 0 0 q8 q1 := by
  obtain ⟨M, hM⟩ : ∃ M, M = (W.length + k - 2) / k := ⟨_, rfl⟩
  obtain ⟨C, hC⟩ : ∃ C, C = (W.length + k - 1) / k := ⟨_, rfl⟩
  have hcM : chM 0 k [] W = M := by rw [hM]; rfl
  have hnx : nxL 0 k [] W = (List.range C).map (chS k W) := by rw [hC]; exact bal_nx hk hW2
  have hgs : grS (chM 0 k [] W) (chA 0 k [] W) W = (List.range M).map (chS k W) := by rw [bal_grS hk, hcM]
  have hCk : ∀ j, j < C ↔ j * k < W.length := fun j => by
    rw [hC, Nat.lt_div_iff_mul_lt (by omega)]
    constructor
    · intro z; omega
    · intro z; omega
  have hMk : ∀ j, j < M ↔ j * k + 1 < W.length := fun j => by rw [hM]; exact bal_two hk hW2
  have hMC : M ≤ C := by
    refine Nat.le_of_not_lt (fun z => ?_)
    have h1 := (hMk C).mp z
    have h2 := (hCk C).mpr (by omega)
    omega
  have hCW : C ≤ W.length := by
    refine Nat.le_of_not_lt (fun z => ?_)
    have h2 := (hCk W.length).mp z
    have h3 : W.length * 1 ≤ W.length * k := Nat.mul_le_mul_left _ (by omega)
    omega
  refine ⟨C + 1, ?_⟩
  have key : ∀ (d j : Nat) (q8' q1' : Nat → Int32), j + d = C → (∀ i, i < j → q8' i = nI (chS k W i)) → (∀ i, j * k ≤ i → i < W.length → q8' i = nI (W.getD i 0)) → PlA q1' p (v + ((List.range (min j M)).map (chS k W)).sum) (m + min j M) l → wl_L_planned_145 (nI k) n8 (nI W.length) E (d + 1) (nI (j * k)) (nI j) q8' q1' := by
    intro d
    induction d with
    | zero =>
      intro j q8' q1' hj h1 h2 h3
      have hjk : W.length ≤ j * k := by
        refine Nat.le_of_not_lt (fun z => ?_)
        have := (hCk j).mpr z
        omega
      rw [wl_L_planned_145_s]
      refine pk_le W.length (j * k) (fun _ => ?_) (fun z => absurd z (by omega)) rfl rfl (by omega) (by
        have a1 : (j - 1) * k < W.length := by
          by_cases e0 : j = 0
          · subst e0; omega
          · exact (hCk (j - 1)).mp (by omega)
        have a2 : j * k ≤ (j - 1) * k + k := by
          by_cases e0 : j = 0
          · subst e0; omega
          · obtain ⟨j', rfl⟩ : ∃ j', j = j' + 1 := ⟨j - 1, by omega⟩
            rw [Nat.add_sub_cancel, Nat.succ_mul]; omega
        omega)
      obtain rfl : j = C := by omega
      rw [Nat.min_eq_right hMC] at h3
      have hl : (nxL 0 k [] W).length = j := by rw [hnx, List.length_map, List.length_range]
      have := h q8' q1' (fun i hi => by
        rw [hl] at hi
        rw [h1 i hi, hnx, List.getD_eq_getElem?_getD, List.getElem?_map, List.getElem?_range hi]; rfl) (by rw [hgs, hcM]; exact h3)
      rw [hl] at this
      exact this
    | succ d ih =>
      intro j q8' q1' hj h1 h2 h3
      have hjk : j * k < W.length := (hCk j).mp (by omega)
      have hjj : j ≤ j * k := Nat.le_mul_of_pos_right j (by omega)
      rw [wl_L_planned_145_s]
      refine pk_le W.length (j * k) (fun q => absurd q (by omega)) (fun _ => ?_)
      refine ⟨min W.length (j * k + k) - j * k + 1, ?_⟩
      have step : wx_L_planned_159_189 (nI k) n8 (nI W.length) (nI (j * k)) (nI j) q8' q1' (wl_L_planned_145 (nI k) n8 (nI W.length) E (d + 1)) (nI (chS k W j)) := by
        have fin : ∀ q1'', PlA q1'' p (v + ((List.range (min (j + 1) M)).map (chS k W)).sum) (m + min (j + 1) M) l → wj_L_planned_213 (nI k) n8 (nI (j * k)) (nI j) q8' (wl_L_planned_145 (nI k) n8 (nI W.length) E (d + 1)) (nI (chS k W j)) q1'' := by
          intro q1'' h4
          unfold wj_L_planned_213
          refine nm_r (e' := nI (j + 1)) (nI_1 _) ?_
          refine ⟨pk_in j n8 (by omega), ?_⟩
          refine nm_r (e' := nI ((j + 1) * k)) (by rw [nI_add, Nat.succ_mul]) ?_
          rw [cl_n (by omega)]
          refine ih (j + 1) _ q1'' (by omega) (fun i hi => ?_) (fun i hi hi2 => ?_) h4
          · by_cases e : i = j
            · subst e; rw [up_s]
            · rw [up_n _ e]; exact h1 i (by omega)
          · rw [Nat.succ_mul] at hi
            rw [up_n _ (by omega)]; exact h2 i (by omega) hi2
        unfold wx_L_planned_159_189
        refine nm_r (e' := nI ((j * k) + 1)) (nI_1 _) ?_
        refine pk_le W.length (j * k + 1) (fun e => ?_) (fun e => ?_)
        · have : ¬ j < M := fun z => by have := (hMk j).mp z; omega
          refine fin q1' ?_
          rw [show min (j + 1) M = min j M by omega]
          exact h3
        · have hjM := (hMk j).mpr e
          obtain ⟨g0, g1, g2, g3⟩ := h3
          rw [Nat.min_eq_left (by omega)] at g1 g2
          refine nm_r (e' := nI (v + ((List.range j).map (chS k W)).sum)) g1 ?_
          refine nm_r (e' := nI (v + ((List.range j).map (chS k W)).sum + chS k W j)) (nI_add _ _) ?_
          refine nm_r (e' := nI (m + j)) (by rw [show (2 : Int32).toNatClampNeg = 2 from rfl, show (1 : Int32).toNatClampNeg = 1 from rfl, up_n _ (by omega)]; exact g2) ?_
          refine nm_r (e' := nI ((m + j) + 1)) (nI_1 _) ?_
          refine fin _ ?_
          rw [Nat.min_eq_left (by omega), List.range_succ, List.map_append, List.sum_append]
          show PlA (upd (upd q1' 1 _) 2 _) _ _ _ _
          refine ⟨by rw [up_n _ (by omega), up_n _ (by omega)]; exact g0, ?_, ?_, by rw [up_n _ (by omega), up_n _ (by omega)]; exact g3⟩
          · rw [up_n _ (by omega), up_s]
            simp [Nat.add_assoc]
          · rw [up_s]; rfl
      have inner : ∀ (e z : Nat), z + e = min W.length (j * k + k) - j * k → wl_L_planned_159 (nI k) n8 (nI W.length) (nI (j * k)) q8' (wx_L_planned_159_189 (nI k) n8 (nI W.length) (nI (j * k)) (nI j) q8' q1' (wl_L_planned_145 (nI k) n8 (nI W.length) E (d + 1))) (e + 1) (nI (j * k + z)) (nI ((W.drop (j * k)).take z).sum) := by
        intro e
        induction e with
        | zero =>
          intro z hz
          rw [wl_L_planned_159_s]
          refine nm_r (e' := nI (j * k + k)) (nI_add _ _) ?_
          refine nm_r (e' := nI (min W.length (j * k + k))) (pk_mn W.length (j * k + k) rfl rfl) ?_
          refine pk_le (min W.length (j * k + k)) (j * k + z) (fun _ => ?_) (fun q => absurd q (by omega))
          have e2 : ((W.drop (j * k)).take z).sum = chS k W j := by
            rw [show z = min W.length (j * k + k) - j * k by omega, take_min]; rfl
          rw [e2]; exact step
        | succ e ihe =>
          intro z hz
          rw [wl_L_planned_159_s]
          refine nm_r (e' := nI (j * k + k)) (nI_add _ _) ?_
          refine nm_r (e' := nI (min W.length (j * k + k))) (pk_mn W.length (j * k + k) rfl rfl) ?_
          refine pk_le (min W.length (j * k + k)) (j * k + z) (fun q => absurd q (by omega)) (fun _ => ?_)
          refine ⟨pk_in (j * k + z) n8 (by omega), ?_⟩
          refine nm_r (e' := nI (W.getD (j * k + z) 0)) (by rw [cl_n (by omega)]; exact h2 _ (by omega) (by omega)) ?_
          refine nm_r (e' := nI ((W.drop (j * k)).take (z + 1)).sum) (by rw [nI_add, sum_take_drop W _ _ (by omega)]) ?_
          refine nm_r (e' := nI ((j * k + z) + 1)) (nI_1 _) ?_
          exact ihe (z + 1) (by omega)
      have := inner (min W.length (j * k + k) - j * k) 0 (by omega)
      rw [Nat.add_zero, List.take_zero] at this
      exact this
  have := key C 0 q8 q1 (by omega) (fun i hi => absurd hi (Nat.not_lt_zero _)) (fun i _ hi => hq i hi) (by rw [Nat.zero_min]; exact hp)
  rw [Nat.zero_mul] at this
  exact this
theorem nxL_0 {k : Nat} (rw' W : List Nat) : nxL 0 k rw' W = nxL 0 k [] W := rfl
theorem plGo_0 {k : Nat} : ∀ (f : Nat) (rw' W : List Nat), plGo 0 k f rw' W = plGo 0 k f [] W := by
  intro f
  induction f with
  | zero => intro rw' W; rfl
  | succ f ih =>
    intro rw' W
    unfold plGo
    rw [ih (clR (chM 0 k rw' W) rw'), ih (clR (chM 0 k [] W) [])]
    rfl
/-- the passes of a balanced merge, and of the shortest first -/
theorem pl52_w {w k n8 : Nat} {Q : Nat → (Nat → Int32) → Prop} {P V M L S : Nat} (hw : w < 2) (hk : 2 ≤ k) (hk6 : k ≤ 6) (hn8 : n8 ≤ 200) (hS : S < 2 ^ 20) (h : ∀ q, PlA q P V M L → Q 4 q) : ∀ (f : Nat) (W : List Nat) (q1 q8 : Nat → Int32) (p v m : Nat), W.length ≤ f → W.length ≤ n8 → W.sum = S → (∀ i, i < W.length → q8 i = nI (W.getD i 0)) → PlA q1 p v m L → (w = 0 → p + (plGo 0 k f [] W).1 = P ∧ v + (plGo 0 k f [] W).2.1 = V ∧ m + (plGo 0 k f [] W).2.2 = M) → (w = 1 → p + (W.length - 1) = P ∧ v + hf (W.length - 1) W = V ∧ m + (W.length - 1) = M) → wl_L_planned_52 (nI w) (nI k) n8 (wx_L_planned_52_239 Q) (f + 1) (nI W.length) q1 q8 := by
  intro f
  induction f with
  | zero =>
    intro W q1 q8 p v m hf1 hl hs hq hp h0 h1
    rw [wl_L_planned_52_s]
    refine pk_le W.length 1 (fun _ => ?_) (fun q => absurd q (by omega))
    have e : W.length - 1 = 0 := by omega
    refine h q1 ?_
    rcases (show w = 0 ∨ w = 1 by omega) with e0 | e0
    · obtain ⟨a1, a2, a3⟩ := h0 e0
      rw [pl_done (by omega)] at a1 a2 a3
      rw [← a1, ← a2, ← a3]; exact hp
    · obtain ⟨a1, a2, a3⟩ := h1 e0
      rw [e] at a1 a2 a3
      have a2' : v + 0 = V := a2
      rw [← a1, ← a2', ← a3]; exact hp
  | succ f ih =>
    intro W q1 q8 p v m hf1 hl hs hq hp h0 h1
    rw [wl_L_planned_52_s]
    refine pk_le W.length 1 (fun e => ?_) (fun hW2 => ?_)
    · have e2 : W.length - 1 = 0 := by omega
      refine h q1 ?_
      rcases (show w = 0 ∨ w = 1 by omega) with e0 | e0
      · obtain ⟨a1, a2, a3⟩ := h0 e0
        rw [pl_done e] at a1 a2 a3
        rw [← a1, ← a2, ← a3]; exact hp
      · obtain ⟨a1, a2, a3⟩ := h1 e0
        rw [e2] at a1 a2 a3
        have a2' : v + 0 = V := a2
        rw [← a1, ← a2', ← a3]; exact hp
    obtain ⟨g0, g1, g2, g3⟩ := hp
    refine nm_r (e' := nI p) g0 ?_
    refine nm_r (e' := nI (p + 1)) (nI_1 _) ?_
    have hup : PlA (upd q1 0 (nI (p + 1))) (p + 1) v m L := ⟨up_s _ _ _, by rw [up_n _ (by omega)]; exact g1, by rw [up_n _ (by omega)]; exact g2, by rw [up_n _ (by omega)]; exact g3⟩
    have hvW : ∀ i, i < W.length → W.getD i 0 < 2 ^ 20 := fun i hi => by
      have := mem_le_sum (getD_mem (L := W) hi)
      omega
    refine pk_eq w 1 (fun e => ?_) (fun e => ?_)
    · obtain ⟨a1, a2, a3⟩ := h1 e
      refine least_w (W := W) hq (by omega) hl (by omega) hvW (fun b hb hbl => ?_)
      refine takes_w (W := W) hq hb hl (by omega) (fun q2 hq2 => ?_)
      have hper := perm_at (l := W) (b := b) (d := 0) hb
      have hel : (W.eraseIdx b).length = W.length - 1 := by rw [List.length_eraseIdx, if_pos hb]
      have hss := sum_perm hper
      rw [List.sum_cons] at hss
      refine nm_r (e' := nI (W.length - 1)) (pk_sub (b := 1) (by omega)) ?_
      refine nm_r (e' := nI (W.length - 1)) (pk_sub (b := 1) (by omega)) ?_
      have hq2' : ∀ i, i < W.length - 1 → q2 i = nI ((W.eraseIdx b).getD i 0) := fun i hi => hq2 i (by omega)
      refine least_w (W := W.eraseIdx b) hq2' (by omega) (by omega) (by omega) (fun i hi => by
        have := mem_le_sum (getD_mem (L := W.eraseIdx b) (i := i) (by omega))
        omega) (fun b2 hb2 hbl2 => ?_)
      refine takes_w (W := W.eraseIdx b) hq2' hb2 (by omega) (by omega) (fun q3 hq3 => ?_)
      have hper2 := perm_at (l := W.eraseIdx b) (b := b2) (d := 0) (by omega)
      have hel2 : ((W.eraseIdx b).eraseIdx b2).length = W.length - 2 := by rw [List.length_eraseIdx, if_pos (by omega), hel]; omega
      obtain ⟨x, hx⟩ : ∃ x, x = W.getD b 0 := ⟨_, rfl⟩
      obtain ⟨y, hy⟩ : ∃ y, y = (W.eraseIdx b).getD b2 0 := ⟨_, rfl⟩
      obtain ⟨t, ht⟩ : ∃ t, t = (W.eraseIdx b).eraseIdx b2 := ⟨_, rfl⟩
      rw [← hx] at hper hss ⊢
      rw [← hy] at hper2 ⊢
      rw [← ht] at hper2 hel2 hq3
      have hall : W.Perm (x :: y :: t) := hper.trans (List.Perm.cons x hper2)
      have hxm : ∀ z ∈ W, x ≤ z := fun z hz => by
        obtain ⟨i, hi, e2⟩ := mem_getD (d := 0) hz
        rw [← e2, hx]; exact hbl i hi
      have hym : ∀ z ∈ W.eraseIdx b, y ≤ z := fun z hz => by
        obtain ⟨i, hi, e2⟩ := mem_getD (d := 0) hz
        rw [← e2, hy]; exact hbl2 i (by omega)
      have hxy : x ≤ y := hxm y (hall.mem_iff.mpr (by simp))
      have hyt : ∀ z ∈ t, y ≤ z := fun z hz => hym z (hper2.mem_iff.mpr (List.mem_cons_of_mem _ hz))
      have hst := hf_step (n := W.length - 2) hall hxy hyt
      rw [show W.length - 2 + 1 = W.length - 1 by omega] at hst
      have htl : (t ++ [x + y]).length = W.length - 1 := by rw [List.length_append, List.length_singleton]; omega
      have hsum : (t ++ [x + y]).sum = S := by
        have := sum_perm hall
        rw [List.sum_cons, List.sum_cons] at this
        rw [List.sum_append, List.sum_singleton]
        omega
      refine nm_r (e' := nI (x + y)) (nI_add x y) ?_
      refine nm_r (e' := nI (W.length - 2)) (pk_sub (b := 2) (by omega)) ?_
      refine ⟨pk_in (W.length - 2) n8 (by omega), ?_⟩
      refine nm_r (e' := nI (W.length - 1)) (by
        have := ng_1 (W.length - 1)
        rw [Nat.sub_add_cancel (by omega)] at this
        exact this) ?_
      obtain ⟨u0, u1, u2, u3⟩ := hup
      refine nm_r (e' := nI v) u1 ?_
      refine nm_r (e' := nI (v + (x + y))) (nI_add _ _) ?_
      refine nm_r (e' := nI m) (by
        show upd (upd q1 0 (nI (p + 1))) 1 _ 2 = nI m
        rw [up_n _ (by omega)]; exact u2) ?_
      refine nm_r (e' := nI (m + 1)) (nI_1 _) ?_
      rw [cl_n (show W.length - 2 < 2 ^ 31 by omega)]
      have go := ih (t ++ [x + y]) (upd (upd (upd q1 0 (nI (p + 1))) 1 (nI (v + (x + y)))) 2 (nI (m + 1))) (upd q3 (W.length - 2) (nI (x + y))) (p + 1) (v + (x + y)) (m + 1) (by omega) (by omega) hsum (fun i hi => by
        by_cases e2 : i = W.length - 2
        · subst e2
          rw [up_s, getD_app_r (by omega), show W.length - 2 - t.length = 0 by omega]; rfl
        · rw [up_n _ e2, getD_app_l (by omega)]; exact hq3 i (by omega)) ⟨by rw [up_n _ (by omega), up_n _ (by omega)]; exact u0, by rw [up_n _ (by omega), up_s], up_s _ _ _, by rw [up_n _ (by omega), up_n _ (by omega)]; exact u3⟩ (fun e0 => absurd e0 (by omega)) (fun _ => by
        rw [htl]
        refine ⟨by omega, ?_, by omega⟩
        have e3 : hf (W.length - 1 - 1) (t ++ [x + y]) = hf (W.length - 2) ((x + y) :: t) := hf_perm (List.perm_append_singleton _ _)
        rw [e3, ← a2, hst]; omega)
      rw [htl] at go
      exact go
    · have e0 : w = 0 := by omega
      obtain ⟨a1, a2, a3⟩ := h0 e0
      refine bal_w hk hk6 (by omega) hl hn8 (by omega) hq hup (fun q8' q1' b1 b2 => ?_)
      unfold wx_L_planned_145_232
      have hst : plGo 0 k (f + 1) [] W = ((plGo 0 k f (clR (chM 0 k [] W) []) (nxL 0 k [] W)).1 + 1, (plGo 0 k f (clR (chM 0 k [] W) []) (nxL 0 k [] W)).2.1 + (grS (chM 0 k [] W) (chA 0 k [] W) W).sum, (plGo 0 k f (clR (chM 0 k [] W) []) (nxL 0 k [] W)).2.2 + chM 0 k [] W) := by
        show (if W.length ≤ 1 then (0, 0, 0) else _) = _
        rw [if_neg (by omega)]
      rw [plGo_0 f (clR (chM 0 k [] W) [])] at hst
      have s1 : (plGo 0 k (f + 1) [] W).1 = (plGo 0 k f [] (nxL 0 k [] W)).1 + 1 := by rw [hst]
      have s2 : (plGo 0 k (f + 1) [] W).2.1 = (plGo 0 k f [] (nxL 0 k [] W)).2.1 + (grS (chM 0 k [] W) (chA 0 k [] W) W).sum := by rw [hst]
      have s3 : (plGo 0 k (f + 1) [] W).2.2 = (plGo 0 k f [] (nxL 0 k [] W)).2.2 + chM 0 k [] W := by rw [hst]
      have hgl := ga_bal (k := k) (rw' := []) (ls := W) hk hk6 (by omega)
      have hnl : (nxL 0 k [] W).length < W.length := by
        rw [nxL_len]
        have h5 := (hgl.2.2.2.2 Nat W rfl).2
        have h6 := hgl.2.1
        omega
      exact ih (nxL 0 k [] W) q1' q8' (p + 1) _ _ (by omega) (by omega) (by rw [nxL_sum hgl]; exact hs) b1 b2 (fun _ => ⟨by omega, by omega, by omega⟩) (fun e1 => absurd e1 e)
