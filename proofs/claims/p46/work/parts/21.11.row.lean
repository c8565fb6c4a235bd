/-! rows of runs, as lists of lists -/
def ROk (rks st ln : Nat → Int32) (cnt fl : Int32) (R : List (List Nat)) : Prop :=
  cnt = nI R.length ∧ R.length ≤ 200 ∧ fl = nI R.flatten.length ∧ R.flatten.length ≤ 100 ∧ (∀ i, i < R.length → st i = nI (R.take i).flatten.length ∧ ln i = nI (R.getD i []).length) ∧ (∀ k, k < R.flatten.length → rks k = nI (R.flatten.getD k 0)) ∧ ∀ x ∈ R.flatten, x < 1048576
theorem getD_app_l {α : Type} {a b : List α} {i : Nat} {d : α} (h : i < a.length) : (a ++ b).getD i d = a.getD i d := by
  rw [List.getD_eq_getElem?_getD, List.getD_eq_getElem?_getD, List.getElem?_append_left h]
theorem getD_app_r {α : Type} {a b : List α} {i : Nat} {d : α} (h : a.length ≤ i) : (a ++ b).getD i d = b.getD (i - a.length) d := by
  rw [List.getD_eq_getElem?_getD, List.getD_eq_getElem?_getD, List.getElem?_append_right h]
theorem getD_ge {α : Type} {a : List α} {i : Nat} {d : α} (h : a.length ≤ i) : a.getD i d = d := by
  rw [List.getD_eq_getElem?_getD, List.getElem?_eq_none h]; rfl
theorem flat_at : ∀ (R : List (List Nat)) (i p : Nat), i < R.length → p < (R.getD i []).length → (R.take i).flatten.length + p < R.flatten.length ∧ R.flatten.getD ((R.take i).flatten.length + p) 0 = (R.getD i []).getD p 0
  | [], i, p, h, _ => absurd h (by simp)
  | a :: R, 0, p, _, hp => by
    have hp : p < a.length := hp
    refine ⟨by simp; omega, ?_⟩
    show (a ++ R.flatten).getD (0 + p) 0 = a.getD p 0
    rw [Nat.zero_add, getD_app_l hp]
  | a :: R, i + 1, p, h, hp => by
    have hp : p < (R.getD i []).length := hp
    obtain ⟨h1, h2⟩ := flat_at R i p (by simp at h; omega) hp
    have e : ((a :: R).take (i + 1)).flatten.length = a.length + (R.take i).flatten.length := by simp
    refine ⟨by rw [e]; simp only [List.flatten_cons, List.length_append]; omega, ?_⟩
    show (a ++ R.flatten).getD _ 0 = (R.getD i []).getD p 0
    rw [e, getD_app_r (by omega), ← h2]
    congr 1
    omega
theorem rowEmpty_s {rks st ln : Nat → Int32} {Q : Int32 → Int32 → Prop} (h : ∀ c f, ROk rks st ln c f [] → Q c f) : wp_X7_empty Q := by
  unfold wp_X7_empty
  exact h 0 0 ⟨rfl, by simp, rfl, by simp, fun i hi => absurd hi (by simp), fun k hk => absurd hk (by simp), fun x hx => absurd hx (by simp)⟩
theorem openRun_s {rks st ln : Nat → Int32} {cnt fl : Int32} {R : List (List Nat)} {Q : Int32 → (Nat → Int32) → (Nat → Int32) → Prop} (hR : ROk rks st ln cnt fl R) (hl : R.length < 200) (h : ∀ c s l, ROk rks s l c fl (R ++ [[]]) → Q c s l) : wp_X7_openRun cnt fl st ln Q := by
  obtain ⟨h1, h2, h3, h4, h5, h6, h7⟩ := hR
  unfold wp_X7_openRun
  refine pk_lt R.length 0 (fun q => absurd q (by omega)) (fun _ => ?_) h1
  refine pk_le 200 R.length (fun q => absurd q (by omega)) (fun _ => ?_) rfl h1
  refine ⟨pk_in R.length 200 hl h1, pk_in R.length 200 hl h1, nm_r (e' := nI (R.length + 1)) (by rw [h1]; exact nI_1 _) ?_⟩
  rw [pk_cl R.length h1]
  have ef : (R ++ [[]]).flatten = R.flatten := by simp
  refine h _ _ _ ⟨by simp, by simp; omega, by rw [ef]; exact h3, by rw [ef]; exact h4, fun i hi => ?_, by rw [ef]; exact h6, by rw [ef]; exact h7⟩
  simp only [List.length_append, List.length_cons, List.length_nil] at hi
  by_cases e : i = R.length
  · subst e
    rw [up_s, up_s, h3]
    refine ⟨?_, ?_⟩
    · rw [List.take_left]
    · rw [getD_app_r (Nat.le_refl _), Nat.sub_self]; rfl
  · rw [up_n _ e, up_n _ e, (h5 i (by omega)).1, (h5 i (by omega)).2, List.take_append_of_le_length (by omega), getD_app_l (by omega)]
    exact ⟨rfl, rfl⟩
theorem rowAdd_s {rks st ln : Nat → Int32} {cnt fl : Int32} {R : List (List Nat)} {l : List Nat} {x : Nat} {Q : Int32 → (Nat → Int32) → (Nat → Int32) → Prop} (hR : ROk rks st ln cnt fl (R ++ [l])) (hl : (R ++ [l]).flatten.length < 100) (hx : x < 1048576) (h : ∀ f r n, ROk r st n cnt f (R ++ [l ++ [x]]) → Q f r n) : wp_X7_add cnt fl rks ln (nI x) Q := by
  obtain ⟨h1, h2, h3, h4, h5, h6, h7⟩ := hR
  have hlen : (R ++ [l]).length = R.length + 1 := by simp
  rw [hlen] at h1 h2
  have e0 : ∀ z : List Nat, (R ++ [z]).flatten = R.flatten ++ z := fun z => by simp
  have hn : (R ++ [l]).flatten.length = R.flatten.length + l.length := by rw [e0, List.length_append]
  have hlR := h5 R.length (by omega)
  rw [getD_app_r (Nat.le_refl _), Nat.sub_self] at hlR
  have hlR2 : ln R.length = nI l.length := hlR.2
  unfold wp_X7_add
  refine pk_le (R.length + 1) 0 (fun q => absurd q (by omega)) (fun _ => ?_) h1
  refine pk_lt 200 (R.length + 1) (fun q => absurd q (by omega)) (fun _ => ?_) rfl h1
  refine pk_lt (R ++ [l]).flatten.length 0 (fun q => absurd q (by omega)) (fun _ => ?_) h3
  refine pk_le 100 (R ++ [l]).flatten.length (fun q => absurd q (by omega)) (fun _ => ?_) rfl h3
  refine ⟨pk_in _ 100 hl h3, nm_r (e' := nI ((R ++ [l]).flatten.length + 1)) (by rw [h3]; exact nI_1 _) (nm_r (e' := nI R.length) (by rw [h1]; exact nI_pred _) ?_)⟩
  refine ⟨pk_in R.length 200 (by omega), nm_r (e' := nI l.length) (by rw [cl_n (by omega)]; exact hlR2) (nm_r (e' := nI (l.length + 1)) (nI_1 _) ⟨pk_in R.length 200 (by omega), ?_⟩)⟩
  rw [pk_cl (R ++ [l]).flatten.length h3, cl_n (by omega)]
  have e1 : (R ++ [l ++ [x]]).flatten = (R ++ [l]).flatten ++ [x] := by rw [e0, e0, List.append_assoc]
  refine h _ _ _ ⟨by rw [h1]; simp, by simp; omega, by rw [e1]; simp [Nat.add_assoc], by rw [e1]; simp only [List.length_append, List.length_cons, List.length_nil]; omega, fun i hi => ?_, fun k hk => ?_, fun y hy => ?_⟩
  · simp only [List.length_append, List.length_cons, List.length_nil] at hi
    by_cases e : i = R.length
    · subst e
      rw [up_s, hlR.1]
      refine ⟨by rw [List.take_left, List.take_left], ?_⟩
      rw [getD_app_r (Nat.le_refl _), Nat.sub_self]
      show nI (l.length + 1) = nI (l ++ [x]).length
      simp
    · have := h5 i (by omega)
      rw [up_n _ e, this.1, this.2, List.take_append_of_le_length (by omega), List.take_append_of_le_length (by omega), getD_app_l (by omega), getD_app_l (by omega)]
      exact ⟨rfl, rfl⟩
  · rw [e1] at hk ⊢
    simp only [List.length_append, List.length_cons, List.length_nil] at hk
    by_cases e : k = (R ++ [l]).flatten.length
    · subst e; rw [up_s, getD_app_r (Nat.le_refl _), Nat.sub_self]; rfl
    · rw [up_n _ e, getD_app_l (by rw [hn] at e ⊢; omega)]
      exact h6 k (by rw [hn] at e ⊢; omega)
  · rw [e1] at hy
    rcases List.mem_append.mp hy with q | q
    · exact h7 y q
    · simp at q; omega
theorem lengthOf_s {rks st ln : Nat → Int32} {cnt fl : Int32} {R : List (List Nat)} {i : Nat} {Q : Int32 → Prop} (hR : ROk rks st ln cnt fl R) (hi : i < 2 ^ 31) (h : Q (nI (R.getD i []).length)) : wp_X7_lengthOf cnt ln (nI i) Q := by
  obtain ⟨h1, h2, h3, h4, h5, h6, h7⟩ := hR
  unfold wp_X7_lengthOf
  refine pk_lt i 0 (fun q => absurd q (by omega)) (fun _ => ?_)
  refine pk_le R.length i (fun q => ?_) (fun q => ?_) h1
  · rw [getD_ge q] at h; exact h
  · refine pk_le 200 i (fun q => absurd q (by omega)) (fun _ => ?_)
    exact ⟨pk_in i 200 (by omega), nm_r (e' := nI (R.getD i []).length) (by rw [cl_n hi]; exact (h5 i q).2) h⟩
theorem rankAt_s {rks st ln : Nat → Int32} {cnt fl : Int32} {R : List (List Nat)} {i p : Nat} {Q : Int32 → Prop} (hR : ROk rks st ln cnt fl R) (hi : i < R.length) (hp : p < (R.getD i []).length) (h : Q (nI ((R.getD i []).getD p 0))) : wp_X7_rankAt cnt ln st rks (nI i) (nI p) Q := by
  obtain ⟨h1, h2, h3, h4, h5, h6, h7⟩ := hR
  obtain ⟨g1, g2⟩ := flat_at R i p hi hp
  unfold wp_X7_rankAt
  refine pk_lt i 0 (fun q => absurd q (by omega)) (fun _ => ?_)
  refine pk_le R.length i (fun q => absurd q (by omega)) (fun _ => ?_) h1
  refine pk_le 200 i (fun q => absurd q (by omega)) (fun _ => ?_)
  refine pk_lt p 0 (fun q => absurd q (by omega)) (fun _ => ?_)
  have hl : (R.getD i []).length < 2 ^ 31 := by
    by_cases e : (R.getD i []).length = 0
    · omega
    · have := (flat_at R i ((R.getD i []).length - 1) hi (by omega)).1
      omega
  refine ⟨pk_in i 200 (by omega), nm_r (e' := nI (R.getD i []).length) (by rw [cl_n (by omega)]; exact (h5 i hi).2) ?_⟩
  refine pk_lt p (R.getD i []).length (fun _ => ?_) (fun q => absurd q (by omega))
  refine ⟨pk_in i 200 (by omega), nm_r (e' := nI (R.take i).flatten.length) (by rw [cl_n (by omega)]; exact (h5 i hi).1) (nm_r (e' := nI ((R.take i).flatten.length + p)) (nI_add _ _) ?_)⟩
  refine pk_lt ((R.take i).flatten.length + p) 0 (fun q => absurd q (by omega)) (fun _ => ?_)
  refine pk_le 100 ((R.take i).flatten.length + p) (fun q => absurd q (by omega)) (fun _ => ?_)
  refine ⟨pk_in _ 100 (by omega), nm_r (e' := nI ((R.getD i []).getD p 0)) ?_ h⟩
  rw [cl_n (by omega), h6 _ g1, g2]
