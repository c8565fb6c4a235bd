/-! jobs -/
theorem take_flat_le (R : List (List Nat)) (i : Nat) : (R.take i).flatten.length + (R.getD i []).length ≤ R.flatten.length := by
  by_cases c : i < R.length
  · have e : R.take (i + 1) = R.take i ++ [R.getD i []] := by
      rw [List.take_succ, List.getD_eq_getElem?_getD, List.getElem?_eq_getElem c]; rfl
    have h := congrArg List.flatten (List.take_append_drop (i + 1) R)
    rw [List.flatten_append, e, List.flatten_append, List.flatten_singleton] at h
    have := congrArg List.length h
    rw [List.length_append, List.length_append] at this
    omega
  · rw [getD_ge (by omega), List.take_of_length_le (by omega)]
    exact Nat.le_refl _
theorem addRunOf_s {rk1 st1 ln1 rk2 st2 ln2 : Nat → Int32} {c1 f1 c2 f2 : Int32} {R R2 : List (List Nat)} {i : Nat} {Q : Int32 → Int32 → (Nat → Int32) → (Nat → Int32) → (Nat → Int32) → Prop} (hR : ROk rk1 st1 ln1 c1 f1 R) (hR2 : ROk rk2 st2 ln2 c2 f2 R2) (hi : i < R2.length) (hl : R.length < 200) (hf : R.flatten.length + (R2.getD i []).length ≤ 100) (h : ∀ c f s l r, ROk r s l c f (R ++ [R2.getD i []]) → Q c f s l r) : wp_X7_addRunOf c1 f1 st1 ln1 rk1 ln2 st2 rk2 (nI i) Q := by
  obtain ⟨a1, a2, a3, a4, a5, a6, a7⟩ := hR
  obtain ⟨b1, b2, b3, b4, b5, b6, b7⟩ := hR2
  obtain ⟨s1, s2⟩ := b5 i hi
  have htf := take_flat_le R2 i
  unfold wp_X7_addRunOf
  refine pk_lt i 0 (fun q => absurd q (by omega)) (fun _ => ?_)
  refine pk_le 200 i (fun q => absurd q (by omega)) (fun _ => ?_)
  refine pk_lt R.length 0 (fun q => absurd q (by omega)) (fun _ => ?_) a1
  refine pk_lt R.length 200 (fun _ => ?_) (fun q => absurd q (by omega)) a1
  refine ⟨pk_in i 200 (by omega), nm_r (e' := nI (R2.getD i []).length) (by rw [cl_n (by omega)]; exact s2) ?_⟩
  refine ⟨pk_in i 200 (by omega), nm_r (e' := nI (R2.take i).flatten.length) (by rw [cl_n (by omega)]; exact s1) ?_⟩
  refine pk_lt ((R2.take i).flatten.length) 0 (fun q => absurd q (by omega)) (fun _ => ?_)
  refine pk_lt R.flatten.length 0 (fun q => absurd q (by omega)) (fun _ => ?_) a3
  refine nm_r (nI_add _ _) ?_
  refine pk_lt 100 ((R2.take i).flatten.length + (R2.getD i []).length) (fun q => absurd q (by omega)) (fun _ => ?_)
  refine nm_r (e' := nI (R.flatten.length + (R2.getD i []).length)) (by rw [a3]; exact nI_add _ _) ?_
  refine pk_le (R.flatten.length + (R2.getD i []).length) 100 (fun _ => ?_) (fun q => absurd q (by omega))
  refine ⟨pk_in R.length 200 hl a1, pk_in R.length 200 hl a1, ?_⟩
  refine nm_r (e' := nI (R.length + 1)) (by rw [a1]; exact nI_1 _) ?_
  refine ⟨(R2.getD i []).length + 1, ?_⟩
  have key : ∀ (d p : Nat) (r : Nat → Int32), p + d = (R2.getD i []).length → (∀ q, q < R.flatten.length → r q = rk1 q) → (∀ q, q < p → r (R.flatten.length + q) = nI ((R2.getD i []).getD q 0)) → wl_X7_addRunOf_113 f1 rk2 (nI (R2.getD i []).length) (nI (R2.take i).flatten.length) (wx_X7_addRunOf_113_147 c1 f1 st1 ln1 Q (nI (R2.getD i []).length) (nI (R.length + 1))) (d + 1) (nI p) r := by
    intro d
    induction d with
    | zero =>
      intro p r hp h1 h2
      rw [wl_X7_addRunOf_113_s]
      refine pk_le ((R2.getD i []).length) p (fun _ => ?_) (fun q => absurd q (by omega))
      unfold wx_X7_addRunOf_113_147
      refine nm_r (e' := nI (R.flatten.length + (R2.getD i []).length)) (by rw [a3]; exact nI_add _ _) ?_
      rw [pk_cl R.length a1, a3]
      have ef : (R ++ [R2.getD i []]).flatten = R.flatten ++ R2.getD i [] := by rw [List.flatten_append, List.flatten_singleton]
      have el : (R ++ [R2.getD i []]).length = R.length + 1 := by simp
      refine h _ _ _ _ _ ⟨by rw [el], by omega, by rw [ef, List.length_append], by rw [ef, List.length_append]; exact hf, fun q hq => ?_, fun q hq => ?_, fun x hx => ?_⟩
      · by_cases c : q = R.length
        · subst c
          rw [up_s, up_s, List.take_left, getD_app_r (Nat.le_refl _), Nat.sub_self]
          exact ⟨rfl, rfl⟩
        · rw [up_n _ c, up_n _ c, (a5 q (by omega)).1, (a5 q (by omega)).2, List.take_append_of_le_length (by omega), getD_app_l (by omega)]
          exact ⟨rfl, rfl⟩
      · rw [ef] at hq ⊢
        rw [List.length_append] at hq
        by_cases c : q < R.flatten.length
        · rw [getD_app_l c, h1 q c]; exact a6 q c
        · rw [getD_app_r (by omega)]
          have := h2 (q - R.flatten.length) (by omega)
          rwa [show R.flatten.length + (q - R.flatten.length) = q by omega] at this
      · rw [ef] at hx
        rcases List.mem_append.mp hx with q | q
        · exact a7 x q
        · refine b7 x (List.mem_flatten.mpr ⟨R2.getD i [], getD_mem2 hi, q⟩)
    | succ d ih =>
      intro p r hp h1 h2
      rw [wl_X7_addRunOf_113_s]
      refine pk_le ((R2.getD i []).length) p (fun q => absurd q (by omega)) (fun _ => ?_)
      obtain ⟨g1, g2⟩ := flat_at R2 i p hi (by omega)
      refine nm_r (e' := nI (R.flatten.length + p)) (by rw [a3]; exact nI_add _ _) ?_
      refine nm_r (nI_add _ _) ?_
      refine ⟨pk_in ((R2.take i).flatten.length + p) 100 (by omega), nm_r (e' := nI ((R2.getD i []).getD p 0)) (by rw [cl_n (by omega)]; rw [b6 _ g1, g2]) ?_⟩
      refine ⟨pk_in (R.flatten.length + p) 100 (by omega), ?_⟩
      refine nm_r (e' := nI (p + 1)) (nI_1 _) ?_
      rw [cl_n (by omega)]
      refine ih (p + 1) _ (by omega) (fun q hq => ?_) (fun q hq => ?_)
      · rw [up_n _ (by omega)]; exact h1 q hq
      · by_cases c : q = p
        · rw [c, up_s]
        · rw [up_n _ (by omega)]; exact h2 q (by omega)
  exact key _ 0 rk1 (by omega) (fun _ _ => rfl) (fun q hq => absurd hq (by omega))
/-- runs put together -/
def cmb (L : List (List Nat)) : List Nat := L.flatten.mergeSort
theorem cmb_perm (L : List (List Nat)) : (cmb L).Perm L.flatten := msort_perm _
theorem cmb_len (L : List (List Nat)) : (cmb L).length = (L.map List.length).sum := by rw [(cmb_perm L).length_eq, List.length_flatten]
/-! the least of the first records of the rows -/
def lmS (rem : List (List Nat)) (b : Option Nat) (q : Nat) : Option Nat :=
  if rem.getD q [] = [] then b else match b with
    | none => some q
    | some b0 => if (rem.getD q []).headD 0 < (rem.getD b0 []).headD 0 then some q else some b0
def lm (rem : List (List Nat)) : Option Nat := (List.range rem.length).foldl (lmS rem) none
theorem lm_spec (rem : List (List Nat)) (n : Nat) : ((List.range n).foldl (lmS rem) none = none → ∀ q, q < n → rem.getD q [] = []) ∧ ∀ b, (List.range n).foldl (lmS rem) none = some b → b < n ∧ rem.getD b [] ≠ [] ∧ ∀ q, q < n → rem.getD q [] ≠ [] → (rem.getD b []).headD 0 ≤ (rem.getD q []).headD 0 := by
  refine range_ind (lmS rem) none (P := fun k o => (o = none → ∀ q, q < k → rem.getD q [] = []) ∧ ∀ b, o = some b → b < k ∧ rem.getD b [] ≠ [] ∧ ∀ q, q < k → rem.getD q [] ≠ [] → (rem.getD b []).headD 0 ≤ (rem.getD q []).headD 0) ⟨fun _ q h => absurd h (by omega), fun b h => by cases h⟩ ?_ n
  intro k o ⟨h1, h2⟩
  unfold lmS
  by_cases c : rem.getD k [] = []
  · rw [if_pos c]
    refine ⟨fun e q hq => ?_, fun b e => ?_⟩
    · by_cases c2 : q = k
      · rw [c2]; exact c
      · exact h1 e q (by omega)
    · obtain ⟨g1, g2, g3⟩ := h2 b e
      refine ⟨by omega, g2, fun q hq hn => ?_⟩
      by_cases c2 : q = k
      · subst c2; exact absurd c hn
      · exact g3 q (by omega) hn
  · rw [if_neg c]
    cases o with
    | none =>
      refine ⟨fun e => by simp at e, fun b e => ?_⟩
      simp at e; subst e
      refine ⟨by omega, c, fun q hq hn => ?_⟩
      by_cases c2 : q = k
      · rw [c2]; exact Nat.le_refl _
      · exact absurd (h1 rfl q (by omega)) hn
    | some b0 =>
      obtain ⟨g1, g2, g3⟩ := h2 b0 rfl
      by_cases c3 : (rem.getD k []).headD 0 < (rem.getD b0 []).headD 0
      · simp only [c3, if_true]
        refine ⟨fun e => by simp at e, fun b e => ?_⟩
        simp at e; subst e
        refine ⟨by omega, c, fun q hq hn => ?_⟩
        by_cases c2 : q = k
        · rw [c2]; exact Nat.le_refl _
        · have := g3 q (by omega) hn; omega
      · simp only [c3, if_false]
        refine ⟨fun e => by simp at e, fun b e => ?_⟩
        simp at e; subst e
        refine ⟨by omega, g2, fun q hq hn => ?_⟩
        by_cases c2 : q = k
        · rw [c2]; omega
        · exact g3 q (by omega) hn
/-- the inputs of a merge: what is left of each -/
def InOk (ip pl : Nat → Int32) (now rem : List (List Nat)) : Prop := rem.length ≤ 6 ∧ ∀ q, q < rem.length → ∃ i p, ip q = nI i ∧ pl q = nI p ∧ i < now.length ∧ p ≤ (now.getD i []).length ∧ rem.getD q [] = (now.getD i []).drop p
theorem ROk.runlen {rks st ln : Nat → Int32} {cnt fl : Int32} {R : List (List Nat)} (hR : ROk rks st ln cnt fl R) (i : Nat) : (R.getD i []).length ≤ 100 := by
  have := take_flat_le R i
  have := hR.2.2.2.1
  omega
theorem ROk.lt {rks st ln : Nat → Int32} {cnt fl : Int32} {R : List (List Nat)} (hR : ROk rks st ln cnt fl R) {i p : Nat} (hi : i < R.length) (hp : p < (R.getD i []).length) : (R.getD i []).getD p 0 < 2 ^ 20 :=
  hR.2.2.2.2.2.2 _ (List.mem_flatten.mpr ⟨_, getD_mem2 hi, getD_mem2 hp⟩)
theorem headD_drop {l : List Nat} {p : Nat} (h : p < l.length) : (l.drop p).headD 0 = l.getD p 0 := by
  rw [drop_cons_getD h]; rfl
theorem drop_nil_iff {l : List Nat} {p : Nat} (hp : p ≤ l.length) : l.drop p = [] ↔ l.length ≤ p := by
  constructor
  · intro h
    have := congrArg List.length h
    rw [List.length_drop] at this
    simp at this; omega
  · intro h; exact List.drop_of_length_le h
theorem inputLeast_s {ip pl nr ns nl : Nat → Int32} {nc nf : Int32} {now rem : List (List Nat)} {Q : Int32 → Prop} (hR : ROk nr ns nl nc nf now) (hI : InOk ip pl now rem) (h : Q (oI (lm rem))) : wp_X2_inputWithLeastRank (nI rem.length) pl ip nc nl ns nr Q := by
  obtain ⟨h1, h2⟩ := hI
  have hn2 := hR.2.1
  unfold wp_X2_inputWithLeastRank
  refine ⟨rem.length + 1, ?_⟩
  have key : ∀ (d i : Nat) (v : Int32), i + d = rem.length → (∀ b, (List.range i).foldl (lmS rem) none = some b → v = nI ((rem.getD b []).headD 0) ∧ (rem.getD b []).headD 0 < 2 ^ 20) → wl_X2_inputWithLeastRank_6 (nI rem.length) pl ip nc nl ns nr (wx_X2_inputWithLeastRank_6_85 Q) (d + 1) (nI i) v (oI ((List.range i).foldl (lmS rem) none)) := by
    intro d
    induction d with
    | zero =>
      intro i v hi hv
      rw [wl_X2_inputWithLeastRank_6_s]
      refine pk_le rem.length i (fun _ => ?_) (fun q => absurd q (by omega))
      unfold wx_X2_inputWithLeastRank_6_85
      obtain rfl : i = rem.length := by omega
      exact h
    | succ d ih =>
      intro i v hi hv
      rw [wl_X2_inputWithLeastRank_6_s]
      refine pk_le rem.length i (fun q => absurd q (by omega)) (fun _ => ?_)
      refine pk_le 6 i (fun q => absurd q (by omega)) (fun _ => ?_)
      obtain ⟨x, p, e1, e2, e3, e4, e5⟩ := h2 i (by omega)
      have hrl := hR.runlen x
      refine ⟨pk_in i 6 (by omega), nm_r (e' := nI p) (by rw [cl_n (by omega)]; exact e2) ?_⟩
      refine ⟨pk_in i 6 (by omega), nm_r (e' := nI x) (by rw [cl_n (by omega)]; exact e1) ?_⟩
      refine lengthOf_s hR (by omega) ?_
      have it := fun v => ih (i + 1) v (by omega)
      have hb : ∀ b, (List.range i).foldl (lmS rem) none = some b → b < i := fun b e => ((lm_spec rem i).2 b e).1
      rw [List.range_succ, List.foldl_append] at it
      generalize (List.range i).foldl (lmS rem) none = o at it hb hv ⊢
      have it : ∀ v, (∀ b, lmS rem o i = some b → v = nI ((rem.getD b []).headD 0) ∧ (rem.getD b []).headD 0 < 2 ^ 20) → wl_X2_inputWithLeastRank_6 (nI rem.length) pl ip nc nl ns nr (wx_X2_inputWithLeastRank_6_85 Q) (d + 1) (nI (i + 1)) v (oI (lmS rem o i)) := it
      unfold lmS at it
      refine pk_le ((now.getD x []).length) p (fun c => ?_) (fun c => ?_)
      · have c2 : rem.getD i [] = [] := by rw [e5]; exact (drop_nil_iff e4).mpr c
        refine nm_r (e' := nI (i + 1)) (nI_1 _) ?_
        have := it v
        rw [if_pos c2] at this
        exact this hv
      · have c2 : ¬ rem.getD i [] = [] := by rw [e5, drop_nil_iff e4]; omega
        have hh : (rem.getD i []).headD 0 = (now.getD x []).getD p 0 := by rw [e5]; exact headD_drop c
        have hlt := hR.lt e3 c
        refine ⟨pk_in i 6 (by omega), nm_r (e' := nI x) (by rw [cl_n (by omega)]; exact e1) ?_⟩
        refine ⟨pk_in i 6 (by omega), nm_r (e' := nI p) (by rw [cl_n (by omega)]; exact e2) ?_⟩
        refine rankAt_s hR e3 c ?_
        rw [← hh]
        cases o with
        | none =>
          refine ⟨fun _ => ?_, fun q => absurd rfl q⟩
          unfold wj_X2_inputWithLeastRank_74
          refine nm_r (e' := nI (i + 1)) (nI_1 _) ?_
          have := it (nI ((rem.getD i []).headD 0))
          simp only [c2, if_false] at this
          refine this (fun b e => ?_)
          injection e with e
          subst e
          exact ⟨rfl, by omega⟩
        | some b0 =>
          obtain ⟨v1, v2⟩ := hv b0 rfl
          have hbi := hb b0 rfl
          refine ⟨fun q => absurd q (nI_m1 (by omega)), fun _ => ?_⟩
          refine pk_le ((rem.getD b0 []).headD 0) ((rem.getD i []).headD 0) (fun c3 => ?_) (fun c3 => ?_) v1 rfl (by omega) (by omega)
          · refine nm_r (e' := nI (i + 1)) (nI_1 _) ?_
            have := it v
            simp only [c2, if_false, show ¬ (rem.getD i []).headD 0 < (rem.getD b0 []).headD 0 by omega] at this
            refine this (fun b e => ?_)
            injection e with e
            subst e
            exact ⟨v1, v2⟩
          · unfold wj_X2_inputWithLeastRank_74
            refine nm_r (e' := nI (i + 1)) (nI_1 _) ?_
            have := it (nI ((rem.getD i []).headD 0))
            simp only [c2, if_false, c3, if_true] at this
            refine this (fun b e => ?_)
            injection e with e
            subst e
            exact ⟨rfl, by omega⟩
  exact key rem.length 0 0 (by omega) (fun b e => by cases e)
