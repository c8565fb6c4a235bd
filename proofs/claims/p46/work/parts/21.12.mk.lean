/-! making runs, as functions on lists of ranks -/
def addL (R : List (List Nat)) (x : Nat) : List (List Nat) := R.dropLast ++ [R.getLastD [] ++ [x]]
theorem addL_app (R : List (List Nat)) (l : List Nat) (x : Nat) : addL (R ++ [l]) x = R ++ [l ++ [x]] := by
  unfold addL
  rw [List.dropLast_concat, List.getLastD_concat]
theorem split_last {α : Type} {R : List α} (h : R ≠ []) : ∃ R0 l, R = R0 ++ [l] := ⟨R.dropLast, R.getLast h, (List.dropLast_concat_getLast h).symm⟩
/-- natural runs, a rank at a time -/
def natS (R : List (List Nat)) (x : Nat) : List (List Nat) := if R = [] ∨ x < (R.getLastD []).getLastD 0 then R ++ [[x]] else addL R x
def natR (l : List Nat) : List (List Nat) := l.foldl natS []
theorem natR_app (l : List Nat) (x : Nat) : natR (l ++ [x]) = natS (natR l) x := by unfold natR; rw [List.foldl_append]; rfl
/-- full memories, each put in order -/
def fullR (m : Nat) : Nat → List Nat → List (List Nat)
  | 0, _ => []
  | n + 1, l => if l = [] then [] else (l.take m).mergeSort :: fullR m n (l.drop m)
/-- the memory's least of a run -/
def lstS (run : Nat) (mem : List (Nat × Nat)) (b : Option Nat) (i : Nat) : Option Nat :=
  if (mem.getD i (0, 0)).2 = run then (match b with
    | none => some i
    | some k => if (mem.getD i (0, 0)).1 < (mem.getD k (0, 0)).1 then some i else some k) else b
def lst (run : Nat) (mem : List (Nat × Nat)) : Option Nat := (List.range mem.length).foldl (lstS run mem) none
def rgo : Nat → List (Nat × Nat) → List Nat → Nat → List (List Nat) → List (List Nat)
  | 0, _, _, _, R => R
  | n + 1, mem, rest, run, R =>
    let q := match lst run mem with
      | some b => (some b, run)
      | none => (lst (run + 1) mem, run + 1)
    match q.1 with
    | none => R
    | some b =>
      let gone := (mem.getD b (0, 0)).1
      let R2 := addL (if R.length ≤ q.2 then R ++ [[]] else R) gone
      match rest with
      | x :: rest' => rgo n (mem.set b (x, if x < gone then q.2 + 1 else q.2)) rest' q.2 R2
      | [] => rgo n ((mem.set b (mem.getD (mem.length - 1) (0, 0))).dropLast) [] q.2 R2
def replR (m : Nat) (l : List Nat) : List (List Nat) := rgo l.length ((l.take m).map (fun x => (x, 0))) (l.drop m) 0 []
/-- the runs of a row of ranks: 0 full, 1 by replacement, 2 natural -/
def mkR (way m : Nat) (l : List Nat) : List (List Nat) := if way = 0 then fullR m l.length l else if way = 1 then replR m l else natR l
theorem snoc_ind {α : Type} {P : List α → Prop} (h0 : P []) (h1 : ∀ l x, P l → P (l ++ [x])) : ∀ l, P l := by
  have key : ∀ (n : Nat) (l : List α), l.length = n → P l := by
    intro n
    induction n with
    | zero => intro l h; rw [List.length_eq_zero_iff.mp h]; exact h0
    | succ n ih =>
      intro l h
      obtain ⟨l0, x, rfl⟩ := split_last (R := l) (by rintro rfl; simp at h)
      exact h1 _ _ (ih _ (by simpa using h))
  exact fun l => key _ l rfl
/-- what a natural row of runs is -/
def NatOk (l : List Nat) (R : List (List Nat)) : Prop :=
  R.flatten = l ∧ (∀ r ∈ R, r ≠ [] ∧ r.Pairwise (· ≤ ·)) ∧ (∀ R0 r0, R = R0 ++ [r0] → r0.getLastD 0 = l.getLastD 0) ∧ ∀ k, k + 1 < R.length → (R.getD (k + 1) []).headD 0 < (R.getD k []).getLastD 0
theorem getLastD_app {l : List Nat} {r : List Nat} (h : r ≠ []) : (l ++ r).getLastD 0 = r.getLastD 0 := by
  obtain ⟨r0, x, rfl⟩ := split_last h
  rw [← List.append_assoc, List.getLastD_concat, List.getLastD_concat]
theorem le_last {r : List Nat} (h : r.Pairwise (· ≤ ·)) : ∀ x ∈ r, x ≤ r.getLastD 0 := by
  intro x hx
  obtain ⟨r0, y, rfl⟩ := split_last (R := r) (by rintro rfl; exact absurd hx (by simp))
  rw [List.getLastD_concat]
  rcases List.mem_append.mp hx with q | q
  · exact (List.pairwise_append.mp h).2.2 x q y (by simp)
  · simp at q; omega
theorem natR_ok : ∀ l : List Nat, NatOk l (natR l) := by
  refine snoc_ind ⟨rfl, fun r hr => absurd hr (by simp [natR]), fun R0 r0 h => by simp [natR] at h, fun k hk => absurd hk (by simp [natR])⟩ ?_
  intro l x ⟨h1, h2, h3, h4⟩
  rw [natR_app]
  unfold natS
  by_cases e : natR l = []
  · rw [if_pos (Or.inl e), e]
    rw [e] at h1
    have h1 : [] = l := h1
    subst h1
    refine ⟨rfl, fun r hr => ?_, fun R0 r0 h => ?_, fun k hk => absurd hk (by simp)⟩
    · have hr : r ∈ [[x]] := hr
      simp at hr; subst hr; simp
    · have h : [[x]] = R0 ++ [r0] := h
      have := congrArg (fun z => z.getLastD []) h
      simp only [List.getLastD_concat] at this
      rw [← this]; rfl
  · obtain ⟨R0, r0, hR⟩ := split_last e
    obtain ⟨hr0, hs0⟩ := h2 r0 (by rw [hR]; simp)
    have hlast := h3 R0 r0 hR
    rw [hR] at h1 h2 h4 ⊢
    rw [List.getLastD_concat]
    by_cases c : x < r0.getLastD 0
    · rw [if_pos (Or.inr c)]
      refine ⟨by rw [List.flatten_append, h1]; rfl, fun r hr => ?_, fun R1 r1 h => ?_, fun k hk => ?_⟩
      · rcases List.mem_append.mp hr with q | q
        · exact h2 r q
        · simp at q; subst q; simp
      · have := congrArg (fun z => z.getLastD []) h
        simp only [List.getLastD_concat] at this
        rw [← this, List.getLastD_concat]; rfl
      · simp only [List.length_append, List.length_cons, List.length_nil] at hk
        by_cases ek : k = R0.length
        · subst ek
          rw [getD_app_r (by simp), getD_app_l (by simp), getD_app_r (Nat.le_refl _)]
          simpa using c
        · have t1 : (R0 ++ [r0] ++ [[x]]).getD (k + 1) [] = (R0 ++ [r0]).getD (k + 1) [] := getD_app_l (by simp; omega)
          have t2 : (R0 ++ [r0] ++ [[x]]).getD k [] = (R0 ++ [r0]).getD k [] := getD_app_l (by simp; omega)
          rw [t1, t2]
          exact h4 k (by simp; omega)
    · rw [if_neg (fun q => q.elim (by simp) c), addL_app]
      refine ⟨?_, fun r hr => ?_, fun R1 r1 h => ?_, fun k hk => ?_⟩
      · rw [← h1]; simp
      · rcases List.mem_append.mp hr with q | q
        · exact h2 r (by simp [q])
        · simp at q; subst q
          refine ⟨by simp, List.pairwise_append.mpr ⟨hs0, by simp, fun a ha b hb => ?_⟩⟩
          simp at hb; subst hb
          have := le_last hs0 a ha
          omega
      · have := congrArg (fun z => z.getLastD []) h
        simp only [List.getLastD_concat] at this
        rw [← this, List.getLastD_concat, List.getLastD_concat]
      · simp only [List.length_append, List.length_cons, List.length_nil] at hk
        have q4 := h4 k (by simp; omega)
        by_cases ek : k + 1 = R0.length
        · rw [getD_app_r (by omega), getD_app_l (by omega)] at q4 ⊢
          rw [ek, Nat.sub_self] at q4 ⊢
          have q5 : r0.headD 0 < (R0.getD k []).getLastD 0 := q4
          show (r0 ++ [x]).headD 0 < _
          cases r0 with
          | nil => exact absurd rfl hr0
          | cons a t => exact q5
        · rw [getD_app_l (by omega), getD_app_l (by omega)] at q4 ⊢
          exact q4
/-- how many natural runs -/
def cN (l : List Nat) : Nat := (natR l).length
theorem cN_step (l : List Nat) (x : Nat) : cN l ≤ cN (l ++ [x]) ∧ (l ≠ [] → x < l.getLastD 0 → cN (l ++ [x]) = cN l + 1) ∧ 1 ≤ cN (l ++ [x]) := by
  obtain ⟨h1, h2, h3, h4⟩ := natR_ok l
  unfold cN
  rw [natR_app]
  unfold natS
  by_cases e : natR l = []
  · rw [if_pos (Or.inl e), e]
    refine ⟨by simp, fun q => ?_, by simp⟩
    rw [e] at h1
    exact absurd h1.symm q
  · obtain ⟨R0, r0, hR⟩ := split_last e
    have hlast := h3 R0 r0 hR
    rw [hR, List.getLastD_concat]
    by_cases c : x < r0.getLastD 0
    · rw [if_pos (Or.inr c)]
      refine ⟨by simp, fun _ _ => by simp, by simp⟩
    · rw [if_neg (fun q => q.elim (by simp) c), addL_app]
      refine ⟨by simp, fun _ q => absurd q (by rw [← hlast]; exact c), by simp⟩
theorem take_snoc {l : List Nat} {j : Nat} (h : j < l.length) : l.take (j + 1) = l.take j ++ [l.getD j 0] := by
  rw [List.take_succ, List.getD_eq_getElem?_getD, List.getElem?_eq_getElem h]; rfl
theorem cN_mono (l : List Nat) : ∀ (d i : Nat), cN (l.take i) ≤ cN (l.take (i + d)) := by
  intro d
  induction d with
  | zero => intro i; exact Nat.le_refl _
  | succ d ih =>
    intro i
    refine Nat.le_trans (ih i) ?_
    by_cases h : i + d < l.length
    · rw [show i + (d + 1) = (i + d) + 1 by omega, take_snoc h]
      exact (cN_step _ _).1
    · rw [List.take_of_length_le (by omega), List.take_of_length_le (by omega)]
      exact Nat.le_refl _
theorem cN_desc (l : List Nat) (i : Nat) : ∀ (d : Nat), i + 1 + d < l.length → l.getD (i + 1 + d) 0 < l.getD i 0 → cN (l.take (i + 1)) + 1 ≤ cN (l.take (i + 1 + d + 1)) := by
  intro d
  induction d with
  | zero =>
    intro h hlt
    have e := take_snoc (l := l) (j := i + 1) (by omega)
    have h2 := (cN_step (l.take (i + 1)) (l.getD (i + 1) 0)).2.1 (by rw [take_snoc (by omega)]; simp) (by rw [take_snoc (by omega), List.getLastD_concat]; exact hlt)
    rw [Nat.add_zero, e, h2]
    exact Nat.le_refl _
  | succ d ih =>
    intro h hlt
    have e := take_snoc (l := l) (j := i + 1 + (d + 1)) (by omega)
    by_cases c : l.getD (i + 1 + (d + 1)) 0 < l.getD (i + 1 + d) 0
    · have h2 := (cN_step (l.take (i + 1 + (d + 1))) (l.getD (i + 1 + (d + 1)) 0)).2.1 (by rw [show i + 1 + (d + 1) = (i + 1 + d) + 1 by omega, take_snoc (by omega)]; simp) (by rw [show l.take (i + 1 + (d + 1)) = l.take ((i + 1 + d) + 1) by rfl, take_snoc (by omega), List.getLastD_concat]; exact c)
      rw [e, h2]
      have := cN_mono l (d + 1) (i + 1)
      omega
    · have h3 := ih (by omega) (by omega)
      have := (cN_step (l.take (i + 1 + (d + 1))) (l.getD (i + 1 + (d + 1)) 0)).1
      rw [e]
      exact Nat.le_trans h3 this
theorem range_ind {β : Type} (f : β → Nat → β) (b0 : β) {P : Nat → β → Prop} (h0 : P 0 b0) (hs : ∀ k b, P k b → P (k + 1) (f b k)) : ∀ n, P n ((List.range n).foldl f b0) := by
  intro n
  induction n with
  | zero => exact h0
  | succ n ih => rw [List.range_succ, List.foldl_append]; exact hs n _ ih
theorem lst_spec (run : Nat) (mem : List (Nat × Nat)) : (lst run mem = none → ∀ i, i < mem.length → (mem.getD i (0, 0)).2 ≠ run) ∧ (∀ b, lst run mem = some b → b < mem.length ∧ (mem.getD b (0, 0)).2 = run ∧ ∀ i, i < mem.length → (mem.getD i (0, 0)).2 = run → (mem.getD b (0, 0)).1 ≤ (mem.getD i (0, 0)).1) := by
  refine range_ind (lstS run mem) none (P := fun k o => (o = none → ∀ i, i < k → (mem.getD i (0, 0)).2 ≠ run) ∧ (∀ b, o = some b → b < k ∧ (mem.getD b (0, 0)).2 = run ∧ ∀ i, i < k → (mem.getD i (0, 0)).2 = run → (mem.getD b (0, 0)).1 ≤ (mem.getD i (0, 0)).1)) ?_ ?_ mem.length
  · exact ⟨fun _ i h => absurd h (by omega), fun b h => by cases h⟩
  · intro k o ⟨h1, h2⟩
    unfold lstS
    by_cases c : (mem.getD k (0, 0)).2 = run
    · rw [if_pos c]
      cases o with
      | none =>
        refine ⟨fun q => by simp at q, fun b q => ?_⟩
        simp at q; subst q
        refine ⟨by omega, c, fun i hi hr => ?_⟩
        by_cases e : i = k
        · rw [e]; exact Nat.le_refl _
        · exact absurd hr (h1 rfl i (by omega))
      | some b0 =>
        obtain ⟨g1, g2, g3⟩ := h2 b0 rfl
        by_cases c2 : (mem.getD k (0, 0)).1 < (mem.getD b0 (0, 0)).1
        · simp only [c2, if_true]
          refine ⟨fun q => by simp at q, fun b q => ?_⟩
          simp at q; subst q
          refine ⟨by omega, c, fun i hi hr => ?_⟩
          by_cases e : i = k
          · rw [e]; exact Nat.le_refl _
          · have := g3 i (by omega) hr; omega
        · simp only [c2, if_false]
          refine ⟨fun q => by simp at q, fun b q => ?_⟩
          simp at q; subst q
          refine ⟨by omega, g2, fun i hi hr => ?_⟩
          by_cases e : i = k
          · rw [e]; omega
          · exact g3 i (by omega) hr
    · rw [if_neg c]
      refine ⟨fun q i hi => ?_, fun b q => ?_⟩
      · by_cases e : i = k
        · rw [e]; exact c
        · exact h1 q i (by omega)
      · obtain ⟨g1, g2, g3⟩ := h2 b q
        refine ⟨by omega, g2, fun i hi hr => ?_⟩
        by_cases e : i = k
        · subst e; exact absurd hr c
        · exact g3 i (by omega) hr
theorem getD_mem2 {α : Type} {l : List α} {i : Nat} {d : α} (h : i < l.length) : l.getD i d ∈ l := by
  rw [List.getD_eq_getElem?_getD, List.getElem?_eq_getElem h]; exact List.getElem_mem h
theorem mem_getD {α : Type} {l : List α} {x d : α} (h : x ∈ l) : ∃ i, i < l.length ∧ l.getD i d = x := by
  obtain ⟨i, hi, rfl⟩ := List.getElem_of_mem h
  exact ⟨i, hi, by rw [List.getD_eq_getElem?_getD, List.getElem?_eq_getElem hi]; rfl⟩
theorem perm_at {α : Type} {l : List α} {b : Nat} {d : α} (h : b < l.length) : l.Perm (l.getD b d :: l.eraseIdx b) := by
  have e : l.getD b d = l[b] := by rw [List.getD_eq_getElem?_getD, List.getElem?_eq_getElem h]; rfl
  rw [e]
  have h2 := List.take_append_drop b l
  have h3 : l.drop b = l[b] :: l.drop (b + 1) := List.drop_eq_getElem_cons h
  rw [List.eraseIdx_eq_take_drop_succ]
  calc l.Perm (l.take b ++ l.drop b) := by rw [h2]
    _ = l.take b ++ (l[b] :: l.drop (b + 1)) := by rw [h3]
    _ |>.Perm (l[b] :: (l.take b ++ l.drop (b + 1))) := List.perm_middle
theorem perm_set {α : Type} {l : List α} {b : Nat} (y : α) (h : b < l.length) : (l.set b y).Perm (y :: l.eraseIdx b) := by
  have h1 := perm_at (l := l.set b y) (b := b) (d := y) (by rw [List.length_set]; exact h)
  have e1 : (l.set b y).getD b y = y := by rw [List.getD_eq_getElem?_getD, List.getElem?_set_self h]; rfl
  have e2 : (l.set b y).eraseIdx b = l.eraseIdx b := by
    rw [List.eraseIdx_eq_take_drop_succ, List.eraseIdx_eq_take_drop_succ, List.take_set_of_le (Nat.le_refl _), List.drop_set_of_lt (by omega)]
  rw [e1, e2] at h1
  exact h1
theorem perm_drop {α : Type} {l : List α} {b : Nat} {d : α} (h : b < l.length) : ((l.set b (l.getD (l.length - 1) d)).dropLast).Perm (l.eraseIdx b) := by
  obtain ⟨l0, z, rfl⟩ := split_last (R := l) (by rintro rfl; simp at h)
  have ez : (l0 ++ [z]).getD ((l0 ++ [z]).length - 1) d = z := by
    rw [List.length_append, getD_app_r (by simp)]; simp
  rw [ez]
  by_cases e : b = l0.length
  · subst e
    rw [List.set_append_right _ _ (Nat.le_refl _), Nat.sub_self]
    show ((l0 ++ [z]).dropLast).Perm _
    rw [List.dropLast_concat, List.eraseIdx_append_of_length_le (Nat.le_refl _), Nat.sub_self]
    simp
  · have hb : b < l0.length := by simp at h; omega
    rw [List.set_append_left _ _ hb, List.dropLast_concat, List.eraseIdx_append_of_lt_length hb]
    exact (perm_set z hb).trans (List.perm_append_comm (l₁ := [z]))
/-- what holds between two steps of runs by replacement -/
def RInv (m : Nat) (l : List Nat) (n : Nat) (mem : List (Nat × Nat)) (rest : List Nat) (run : Nat) (R : List (List Nat)) : Prop :=
  n = mem.length + rest.length ∧ (rest ≠ [] → mem.length = m) ∧ (∀ s ∈ mem, s.2 = run ∨ s.2 = run + 1) ∧ (R.length = run + 1 ∨ (R = [] ∧ run = 0)) ∧
  (R.flatten ++ (mem.map Prod.fst ++ rest)).Perm l ∧ (∀ r ∈ R, r ≠ [] ∧ r.Pairwise (· ≤ ·)) ∧ (R ≠ [] → ∀ x ∈ R.getLastD [], ∀ s ∈ mem, s.2 = run → x ≤ s.1) ∧
  (∀ k, k + 1 < R.length → m ≤ (R.getD k []).length) ∧ (m ≤ (R.getLastD []).length + mem.countP (fun s => s.2 == run) ∨ (rest = [] ∧ ∀ s ∈ mem, s.2 = run)) ∧
  rest = l.drop (l.length - rest.length) ∧ rest.length ≤ l.length ∧ (∀ s ∈ mem, ∃ j, j < l.length - rest.length ∧ l.getD j 0 = s.1 ∧ s.2 + 1 ≤ cN (l.take (j + 1))) ∧ R.length ≤ cN l
def RGood (m : Nat) (l : List Nat) (R : List (List Nat)) : Prop :=
  R.flatten.Perm l ∧ (∀ r ∈ R, r ≠ [] ∧ r.Pairwise (· ≤ ·)) ∧ (∀ k, k + 1 < R.length → m ≤ (R.getD k []).length) ∧ R.length ≤ cN l
theorem cN_take (l : List Nat) (i : Nat) : cN (l.take i) ≤ cN l := by
  have h := cN_mono l (l.length + i) i
  rwa [show l.take (i + (l.length + i)) = l from List.take_of_length_le (by omega)] at h
/-- one record goes to the end of the run -/
theorem R_step {m : Nat} {l : List Nat} {n run b : Nat} {mem : List (Nat × Nat)} {rest : List Nat} {R : List (List Nat)} (i1 : n + 1 = mem.length + rest.length) (i2 : rest ≠ [] → mem.length = m) (i3 : ∀ s ∈ mem, s.2 = run ∨ s.2 = run + 1) (i5 : (R.flatten ++ (mem.map Prod.fst ++ rest)).Perm l) (i6 : ∀ r ∈ R, r ≠ [] ∧ r.Pairwise (· ≤ ·)) (i10 : rest = l.drop (l.length - rest.length)) (i11 : rest.length ≤ l.length) (i12 : ∀ s ∈ mem, ∃ j, j < l.length - rest.length ∧ l.getD j 0 = s.1 ∧ s.2 + 1 ≤ cN (l.take (j + 1)))
    (hb : b < mem.length) (hbr : (mem.getD b (0, 0)).2 = run) (hmin : ∀ i, i < mem.length → (mem.getD i (0, 0)).2 = run → (mem.getD b (0, 0)).1 ≤ (mem.getD i (0, 0)).1)
    (hRr : (R.length = run + 1 ∧ (R ≠ [] → ∀ x ∈ R.getLastD [], ∀ s ∈ mem, s.2 = run → x ≤ s.1) ∧ (∀ k, k + 1 < R.length → m ≤ (R.getD k []).length) ∧ (m ≤ (R.getLastD []).length + mem.countP (fun s => s.2 == run) ∨ (rest = [] ∧ ∀ s ∈ mem, s.2 = run))) ∨ (R.length = run ∧ (mem.countP (fun s => s.2 == run) ≥ m ∨ (rest = [] ∧ ∀ s ∈ mem, s.2 = run)) ∧ ∀ k, k < R.length → m ≤ (R.getD k []).length)) :
    let gone := (mem.getD b (0, 0)).1
    let R2 := addL (if R.length ≤ run then R ++ [[]] else R) gone
    (∀ x rest', rest = x :: rest' → RInv m l n (mem.set b (x, if x < gone then run + 1 else run)) rest' run R2) ∧ (rest = [] → RInv m l n ((mem.set b (mem.getD (mem.length - 1) (0, 0))).dropLast) [] run R2) := by
  intro gone R2
  have hgm : mem.getD b (0, 0) ∈ mem := getD_mem2 hb
  obtain ⟨jg, hjg, ejg, hcg⟩ := i12 _ hgm
  rw [hbr] at hcg
  have hpm := perm_at (d := ((0, 0) : Nat × Nat)) hb
  -- the row behind
  have hR2 : ∃ R0 l0, R2 = R0 ++ [l0 ++ [gone]] ∧ R2.length = run + 1 ∧ R2.flatten = R.flatten ++ [gone] ∧ (∀ r ∈ R0, r ≠ [] ∧ r.Pairwise (· ≤ ·)) ∧ l0.Pairwise (· ≤ ·) ∧ (∀ x ∈ l0, ∀ s ∈ mem, s.2 = run → x ≤ s.1) ∧ (∀ k, k < R0.length → m ≤ (R0.getD k []).length) ∧ (m ≤ l0.length + mem.countP (fun s => s.2 == run) ∨ (rest = [] ∧ ∀ s ∈ mem, s.2 = run)) := by
    rcases hRr with ⟨h, i7, i8, i9⟩ | ⟨h, h9, h8⟩
    · have hne : R ≠ [] := by rintro rfl; simp at h
      obtain ⟨R0, l0, e⟩ := split_last hne
      have e2 : R2 = R0 ++ [l0 ++ [gone]] := by
        show addL (if R.length ≤ run then R ++ [[]] else R) gone = _
        rw [if_neg (by omega), e, addL_app]
      refine ⟨R0, l0, e2, by rw [e2]; rw [e] at h; simp at h ⊢; omega, by rw [e2, e]; simp, fun r hr => i6 r (by rw [e]; simp [hr]), (i6 l0 (by rw [e]; simp)).2, fun x hx s hs hsr => i7 hne x (by rw [e, List.getLastD_concat]; exact hx) s hs hsr, fun k hk => ?_, ?_⟩
      · have := i8 k (by rw [e]; simp; omega)
        rwa [e, getD_app_l hk] at this
      · rw [e, List.getLastD_concat] at i9; exact i9
    · have e2 : R2 = R ++ [[] ++ [gone]] := by
        show addL (if R.length ≤ run then R ++ [[]] else R) gone = _
        rw [if_pos (by omega), addL_app]
      refine ⟨R, [], e2, by rw [e2]; simp; omega, by rw [e2]; simp, i6, List.Pairwise.nil, fun x hx => absurd hx (by simp), h8, ?_⟩
      rcases h9 with q | q
      · exact Or.inl (by simpa using q)
      · exact Or.inr q
  obtain ⟨R0, l0, e2, hlen, hfl, r1, r2, r3, r4, r5⟩ := hR2
  have hgl : ∀ s ∈ mem, s.2 = run → gone ≤ s.1 := by
    intro s hs hsr
    obtain ⟨i, hi, rfl⟩ := mem_getD (d := ((0, 0) : Nat × Nat)) hs
    exact hmin i hi hsr
  have s1 : ∀ r ∈ R2, r ≠ [] ∧ r.Pairwise (· ≤ ·) := by
    intro r hr
    rw [e2] at hr
    rcases List.mem_append.mp hr with q | q
    · exact r1 r q
    · simp at q; subst q
      refine ⟨by simp, List.pairwise_append.mpr ⟨r2, by simp, fun a ha c hc => ?_⟩⟩
      simp at hc; subst hc
      exact r3 a ha _ hgm hbr
  have s2 : ∀ k, k + 1 < R2.length → m ≤ (R2.getD k []).length := by
    intro k hk
    rw [e2] at hk ⊢
    simp at hk
    rw [getD_app_l hk]; exact r4 k hk
  have s3 : R2.getLastD [] = l0 ++ [gone] := by rw [e2, List.getLastD_concat]
  have s4 : R2 ≠ [] := by rw [e2]; simp
  have s5 : R2.length ≤ cN l := by
    rw [hlen]; exact Nat.le_trans hcg (cN_take l _)
  have cnt0 : mem.countP (fun s => s.2 == run) = (mem.eraseIdx b).countP (fun s => s.2 == run) + 1 := by
    rw [hpm.countP_eq, List.countP_cons, if_pos (by simpa using hbr)]
  have mem_er : ∀ s ∈ mem.eraseIdx b, s ∈ mem := fun s hs => hpm.mem_iff.mpr (List.mem_cons_of_mem _ hs)
  refine ⟨fun x rest' er => ?_, fun er => ?_⟩
  · have hps := perm_set (x, if x < gone then run + 1 else run) hb
    have hnx : l.length - rest.length < l.length := by rw [er]; simp; rw [er] at i11; simp at i11; omega
    have hx : l.getD (l.length - rest.length) 0 = x ∧ rest' = l.drop (l.length - rest'.length) := by
      have e3 := er.symm.trans (i10.trans (List.drop_eq_getElem_cons hnx))
      injection e3 with e4 e5
      refine ⟨by rw [List.getD_eq_getElem?_getD, List.getElem?_eq_getElem hnx]; exact e4.symm, ?_⟩
      rw [e5]
      congr 1
      rw [er] at i11; simp at i11 ⊢; omega
    have hrl : rest.length = rest'.length + 1 := by rw [er]; simp
    refine ⟨by rw [List.length_set]; rw [hrl] at i1; omega, fun _ => by rw [List.length_set]; exact i2 (by rw [er]; simp), fun s hs => ?_, Or.inl hlen, ?_, s1, fun _ y hy s hs hsr => ?_, s2, ?_, hx.2, by omega, fun s hs => ?_, s5⟩
    · rcases List.mem_cons.mp (hps.mem_iff.mp hs) with q | q
      · subst q; by_cases c : x < gone
        · exact Or.inr (by simp [c])
        · exact Or.inl (by simp [c])
      · exact i3 s (mem_er s q)
    · refine List.Perm.trans ?_ i5
      rw [hfl, er, List.append_assoc]
      refine List.Perm.append_left _ ?_
      have a1 := (hps.map Prod.fst).append_right rest'
      have a2 := (hpm.map Prod.fst).append_right (x :: rest')
      refine (List.Perm.cons gone a1).trans (List.Perm.trans ?_ a2.symm)
      show (gone :: x :: ((mem.eraseIdx b).map Prod.fst ++ rest')).Perm (gone :: ((mem.eraseIdx b).map Prod.fst ++ x :: rest'))
      exact List.Perm.cons _ List.perm_middle.symm
    · rw [s3] at hy
      rcases List.mem_cons.mp (hps.mem_iff.mp hs) with q | q
      · subst q
        by_cases c : x < gone
        · simp [c] at hsr
        · rcases List.mem_append.mp hy with q2 | q2
          · have := r3 y q2 _ hgm hbr
            show y ≤ x
            have : y ≤ gone := this
            omega
          · simp at q2; subst q2; show gone ≤ x; omega
      · rcases List.mem_append.mp hy with q2 | q2
        · exact r3 y q2 s (mem_er s q) hsr
        · simp at q2; subst q2; exact hgl s (mem_er s q) hsr
    · left
      rw [s3, hps.countP_eq, List.countP_cons]
      rcases r5 with q | q
      · rw [cnt0] at q
        simp only [List.length_append, List.length_cons, List.length_nil]
        omega
      · rw [er] at q; exact absurd q.1 (by simp)
    · rcases List.mem_cons.mp (hps.mem_iff.mp hs) with q | q
      · subst q
        refine ⟨l.length - rest.length, by omega, hx.1, ?_⟩
        have hmono := cN_mono l (l.length - rest.length - jg) (jg + 1)
        rw [show jg + 1 + (l.length - rest.length - jg) = l.length - rest.length + 1 by omega] at hmono
        by_cases c : x < gone
        · simp only [c, if_true]
          have hd := cN_desc l jg (l.length - rest.length - jg - 1) (by omega) (by rw [show jg + 1 + (l.length - rest.length - jg - 1) = l.length - rest.length by omega, hx.1, ejg]; exact c)
          rw [show jg + 1 + (l.length - rest.length - jg - 1) + 1 = l.length - rest.length + 1 by omega] at hd
          omega
        · simp only [c, if_false]
          omega
      · obtain ⟨j, h1, h2, h3⟩ := i12 s (mem_er s q)
        exact ⟨j, by omega, h2, h3⟩
  · have hps := perm_drop (d := ((0, 0) : Nat × Nat)) hb
    subst er
    have hl2 := hps.length_eq
    have hl3 := hpm.length_eq
    simp only [List.length_cons] at hl3
    simp only [List.length_nil, Nat.add_zero] at i1
    refine ⟨by simp only [List.length_nil, Nat.add_zero]; omega, fun q => absurd rfl q, fun s hs => i3 s (mem_er s (hps.mem_iff.mp hs)), Or.inl hlen, ?_, s1, fun _ y hy s hs hsr => ?_, s2, ?_, by simp, by simp, fun s hs => i12 s (mem_er s (hps.mem_iff.mp hs)), s5⟩
    · refine List.Perm.trans ?_ i5
      rw [hfl, List.append_assoc]
      refine List.Perm.append_left _ ?_
      rw [List.append_nil, List.append_nil]
      exact (List.Perm.cons gone (hps.map Prod.fst)).trans (hpm.map Prod.fst).symm
    · rw [s3] at hy
      have q := hps.mem_iff.mp hs
      rcases List.mem_append.mp hy with q2 | q2
      · exact r3 y q2 s (mem_er s q) hsr
      · simp at q2; subst q2; exact hgl s (mem_er s q) hsr
    · rcases r5 with q | q
      · left
        rw [s3, hps.countP_eq]
        rw [cnt0] at q
        simp only [List.length_append, List.length_cons, List.length_nil]
        omega
      · exact Or.inr ⟨rfl, fun s hs => q.2 s (mem_er s (hps.mem_iff.mp hs))⟩
/-- one step of runs by replacement: where it takes from, and what holds behind it -/
theorem rgo_next {m : Nat} {l : List Nat} (hm : 1 ≤ m) {n run : Nat} {mem : List (Nat × Nat)} {rest : List Nat} {R : List (List Nat)} (hI : RInv m l (n + 1) mem rest run R) : ∃ b q, ((lst run mem = some b ∧ q = run) ∨ (lst run mem = none ∧ lst (run + 1) mem = some b ∧ q = run + 1)) ∧ b < mem.length ∧ (R.length = q + 1 ∨ R.length = q) ∧
    (∀ x rest', rest = x :: rest' → RInv m l n (mem.set b (x, if x < (mem.getD b (0, 0)).1 then q + 1 else q)) rest' q (addL (if R.length ≤ q then R ++ [[]] else R) (mem.getD b (0, 0)).1)) ∧ (rest = [] → RInv m l n ((mem.set b (mem.getD (mem.length - 1) (0, 0))).dropLast) [] q (addL (if R.length ≤ q then R ++ [[]] else R) (mem.getD b (0, 0)).1)) := by
  have hI2 := hI
  obtain ⟨i1, i2, i3, i4, i5, i6, i7, i8, i9, i10, i11, i12, i13⟩ := hI2
  have hmem : 0 < mem.length := by
    by_cases e : rest = []
    · subst e; simp at i1; omega
    · have := i2 e; omega
  obtain ⟨L1, L2⟩ := lst_spec run mem
  cases e : lst run mem with
  | some b =>
    obtain ⟨g1, g2, g3⟩ := L2 b e
    have hRr : (R.length = run + 1 ∧ (R ≠ [] → ∀ x ∈ R.getLastD [], ∀ s ∈ mem, s.2 = run → x ≤ s.1) ∧ (∀ k, k + 1 < R.length → m ≤ (R.getD k []).length) ∧ (m ≤ (R.getLastD []).length + mem.countP (fun s => s.2 == run) ∨ (rest = [] ∧ ∀ s ∈ mem, s.2 = run))) ∨ (R.length = run ∧ (mem.countP (fun s => s.2 == run) ≥ m ∨ (rest = [] ∧ ∀ s ∈ mem, s.2 = run)) ∧ ∀ k, k < R.length → m ≤ (R.getD k []).length) := by
      rcases i4 with h | ⟨h, h2⟩
      · exact Or.inl ⟨h, i7, i8, i9⟩
      · subst h h2
        refine Or.inr ⟨rfl, ?_, fun k hk => absurd hk (by simp)⟩
        rcases i9 with q | q
        · left; simpa using q
        · exact Or.inr q
    obtain ⟨t1, t2⟩ := R_step i1 i2 i3 i5 i6 i10 i11 i12 g1 g2 g3 hRr
    exact ⟨b, run, Or.inl ⟨rfl, rfl⟩, g1, by rcases i4 with h | ⟨h, h2⟩; exact Or.inl h; exact Or.inr (by rw [h, h2]; rfl), t1, t2⟩
  | none =>
    have hall : ∀ s ∈ mem, s.2 = run + 1 := by
      intro s hs
      obtain ⟨i, hi, rfl⟩ := mem_getD (d := ((0, 0) : Nat × Nat)) hs
      rcases i3 _ hs with q | q
      · exact absurd q (L1 e i hi)
      · exact q
    have hc0 : mem.countP (fun s => s.2 == run) = 0 := by
      rw [List.countP_eq_zero]
      intro s hs
      have := hall s hs
      simp; omega
    have hc1 : mem.countP (fun s => s.2 == run + 1) = mem.length := by
      rw [List.countP_eq_length]
      intro s hs
      have := hall s hs
      simpa using this
    obtain ⟨M1, M2⟩ := lst_spec (run + 1) mem
    have hRl : R.length = run + 1 := by
      rcases i4 with h | ⟨h, h2⟩
      · exact h
      · exfalso
        subst h h2
        rcases i9 with q | q
        · rw [hc0] at q; simp at q; omega
        · have hs := getD_mem2 (d := ((0, 0) : Nat × Nat)) hmem
          have := q.2 _ hs
          have := hall _ hs
          omega
    cases e2 : lst (run + 1) mem with
    | none => exact absurd (hall _ (getD_mem2 (d := ((0, 0) : Nat × Nat)) hmem)) (M1 e2 0 hmem)
    | some b =>
      obtain ⟨g1, g2, g3⟩ := M2 b e2
      have hne : R ≠ [] := by rintro rfl; simp at hRl
      have h9 : m ≤ (R.getLastD []).length := by
        rcases i9 with q | q
        · rw [hc0] at q; exact q
        · have hs := getD_mem2 (d := ((0, 0) : Nat × Nat)) hmem
          have := q.2 _ hs
          have := hall _ hs
          omega
      have hlens : ∀ k, k < R.length → m ≤ (R.getD k []).length := by
        intro k hk
        by_cases ek : k + 1 < R.length
        · exact i8 k ek
        · obtain ⟨R0, l0, eR⟩ := split_last hne
          rw [eR] at hk ek h9 ⊢
          rw [List.getLastD_concat] at h9
          simp at hk ek
          rw [getD_app_r (by omega), show k - R0.length = 0 by omega]
          exact h9
      have hfull : mem.countP (fun s => s.2 == run + 1) ≥ m ∨ (rest = [] ∧ ∀ s ∈ mem, s.2 = run + 1) := by
        by_cases er : rest = []
        · exact Or.inr ⟨er, hall⟩
        · left; rw [hc1, i2 er]; exact Nat.le_refl _
      have key : (∀ x rest', rest = x :: rest' → RInv m l n (mem.set b (x, if x < (mem.getD b (0, 0)).1 then run + 1 + 1 else run + 1)) rest' (run + 1) (addL (if R.length ≤ run + 1 then R ++ [[]] else R) (mem.getD b (0, 0)).1)) ∧ (rest = [] → RInv m l n ((mem.set b (mem.getD (mem.length - 1) (0, 0))).dropLast) [] (run + 1) (addL (if R.length ≤ run + 1 then R ++ [[]] else R) (mem.getD b (0, 0)).1)) :=
        R_step i1 i2 (fun s hs => Or.inl (hall s hs)) i5 i6 i10 i11 i12 g1 g2 g3 (Or.inr ⟨hRl, hfull, hlens⟩)
      exact ⟨b, run + 1, Or.inr ⟨rfl, rfl, rfl⟩, g1, Or.inr hRl, key.1, key.2⟩
theorem rgo_eq {n run b q : Nat} {mem : List (Nat × Nat)} {rest : List Nat} {R : List (List Nat)} (h : (lst run mem = some b ∧ q = run) ∨ (lst run mem = none ∧ lst (run + 1) mem = some b ∧ q = run + 1)) :
    (∀ x rest', rest = x :: rest' → rgo (n + 1) mem rest run R = rgo n (mem.set b (x, if x < (mem.getD b (0, 0)).1 then q + 1 else q)) rest' q (addL (if R.length ≤ q then R ++ [[]] else R) (mem.getD b (0, 0)).1)) ∧ (rest = [] → rgo (n + 1) mem rest run R = rgo n ((mem.set b (mem.getD (mem.length - 1) (0, 0))).dropLast) [] q (addL (if R.length ≤ q then R ++ [[]] else R) (mem.getD b (0, 0)).1)) := by
  rcases h with ⟨h1, h2⟩ | ⟨h1, h2, h3⟩
  · subst h2
    refine ⟨fun x rest' er => ?_, fun er => ?_⟩
    · subst er; simp only [rgo, h1]
    · subst er; simp only [rgo, h1]
  · subst h3
    refine ⟨fun x rest' er => ?_, fun er => ?_⟩
    · subst er; simp only [rgo, h1, h2]
    · subst er; simp only [rgo, h1, h2]
theorem rgo_good {m : Nat} {l : List Nat} (hm : 1 ≤ m) : ∀ (n : Nat) (mem : List (Nat × Nat)) (rest : List Nat) (run : Nat) (R : List (List Nat)), RInv m l n mem rest run R → RGood m l (rgo n mem rest run R) := by
  intro n
  induction n with
  | zero =>
    intro mem rest run R ⟨i1, i2, i3, i4, i5, i6, i7, i8, i9, i10, i11, i12, i13⟩
    have e1 : mem = [] := List.length_eq_zero_iff.mp (by omega)
    have e2 : rest = [] := List.length_eq_zero_iff.mp (by omega)
    subst e1 e2
    simp only [List.map_nil, List.append_nil] at i5
    exact ⟨i5, i6, i8, i13⟩
  | succ n ih =>
    intro mem rest run R hI
    obtain ⟨b, q, h1, h2, h3, h4, h5⟩ := rgo_next hm hI
    obtain ⟨e1, e2⟩ := rgo_eq (n := n) (rest := rest) (R := R) h1
    cases hr : rest with
    | nil => rw [hr] at e2 h5; rw [e2 rfl]; exact ih _ _ _ _ (h5 rfl)
    | cons x rest' => rw [hr] at e1 h4; rw [e1 x rest' rfl]; exact ih _ _ _ _ (h4 x rest' rfl)
theorem RInv_init {m : Nat} {l : List Nat} (hm : 1 ≤ m) : RInv m l l.length ((l.take m).map (fun x => (x, 0))) (l.drop m) 0 [] := by
  have hlen : ((l.take m).map (fun x => (x, 0))).length = min m l.length := by rw [List.length_map, List.length_take]
  have hs : ∀ s ∈ (l.take m).map (fun x => (x, 0)), s.2 = 0 := by
    intro s hs
    obtain ⟨x, -, rfl⟩ := List.mem_map.mp hs
    rfl
  refine ⟨by rw [hlen, List.length_drop]; omega, fun q => ?_, fun s h => Or.inl (hs s h), Or.inr ⟨rfl, rfl⟩, ?_, fun r hr => absurd hr (by simp), fun q => absurd rfl q, fun k hk => absurd hk (by simp), ?_, ?_, by rw [List.length_drop]; omega, fun s h => ?_, Nat.zero_le _⟩
  · rw [hlen]
    have : m < l.length := by
      rcases Nat.lt_or_ge m l.length with h | h
      · exact h
      · exact absurd (List.drop_of_length_le h) q
    omega
  · rw [List.map_map]
    have e : (Prod.fst ∘ fun x : Nat => (x, 0)) = id := rfl
    rw [e, List.map_id, List.take_append_drop]
    exact List.Perm.refl _
  · by_cases c : m ≤ l.length
    · left
      have : ((l.take m).map (fun x => (x, 0))).countP (fun s => s.2 == 0) = ((l.take m).map (fun x => (x, 0))).length := by
        rw [List.countP_eq_length]
        intro s h
        rw [hs s h]; rfl
      rw [this, hlen]
      show m ≤ 0 + _
      omega
    · exact Or.inr ⟨List.drop_of_length_le (by omega), hs⟩
  · rw [List.length_drop]
    by_cases c : m ≤ l.length
    · rw [show l.length - (l.length - m) = m by omega]
    · rw [List.drop_of_length_le (by omega), List.drop_of_length_le (by omega)]
  · obtain ⟨x, hx, rfl⟩ := List.mem_map.mp h
    obtain ⟨j, hj, rfl⟩ := mem_getD (d := 0) hx
    have hj2 : j < m ∧ j < l.length := by rw [List.length_take] at hj; omega
    refine ⟨j, by rw [List.length_drop]; omega, ?_, ?_⟩
    · show l.getD j 0 = (l.take m).getD j 0
      rw [List.getD_eq_getElem?_getD, List.getD_eq_getElem?_getD, List.getElem?_take, if_pos hj2.1]
    · show 0 + 1 ≤ _
      rw [take_snoc hj2.2]
      exact Nat.le_trans (cN_step _ _).2.2 (Nat.le_refl _)
theorem replR_good {m : Nat} (l : List Nat) (hm : 1 ≤ m) : RGood m l (replR m l) := rgo_good hm _ _ _ _ _ (RInv_init hm)
theorem msort_perm (l : List Nat) : l.mergeSort.Perm l := List.mergeSort_perm l _
theorem msort_sorted (l : List Nat) : l.mergeSort.Pairwise (· ≤ ·) := by
  have h := List.pairwise_mergeSort (le := fun a b => decide (a ≤ b)) (fun a b c h1 h2 => by simp only [decide_eq_true_eq] at *; omega) (fun a b => by simp only [Bool.or_eq_true, decide_eq_true_eq]; omega) l
  exact h.imp (fun q => by simpa using q)
theorem sort_uniq {a b : List Nat} (h : a.Perm b) (ha : a.Pairwise (· ≤ ·)) (hb : b.Pairwise (· ≤ ·)) : a = b :=
  List.Perm.eq_of_pairwise (fun x y _ _ h1 h2 => Nat.le_antisymm h1 h2) ha hb h
theorem msort_of {a l : List Nat} (h : a.Perm l) (ha : a.Pairwise (· ≤ ·)) : a = l.mergeSort := sort_uniq (h.trans (msort_perm l).symm) ha (msort_sorted l)
/-- what full memories make -/
theorem fullR_ok {m : Nat} (hm : 1 ≤ m) : ∀ (n : Nat) (l : List Nat), l.length ≤ n → (fullR m n l).flatten.Perm l ∧ (∀ r ∈ fullR m n l, r ≠ [] ∧ r.Pairwise (· ≤ ·)) ∧ ∀ k, k < (fullR m n l).length → ((fullR m n l).getD k []).length = min m (l.length - k * m) := by
  intro n
  induction n with
  | zero =>
    intro l hl
    have e : l = [] := List.length_eq_zero_iff.mp (by omega)
    subst e
    exact ⟨List.Perm.refl _, fun r hr => absurd hr (by simp [fullR]), fun k hk => absurd hk (by simp [fullR])⟩
  | succ n ih =>
    intro l hl
    unfold fullR
    by_cases e : l = []
    · rw [if_pos e, e]
      exact ⟨List.Perm.refl _, fun r hr => absurd hr (by simp), fun k hk => absurd hk (by simp)⟩
    · rw [if_neg e]
      have hpos : 0 < l.length := List.length_pos_iff.mpr e
      obtain ⟨h1, h2, h3⟩ := ih (l.drop m) (by rw [List.length_drop]; omega)
      refine ⟨?_, fun r hr => ?_, fun k hk => ?_⟩
      · rw [List.flatten_cons]
        have := (msort_perm (l.take m)).append h1
        rwa [List.take_append_drop] at this
      · rcases List.mem_cons.mp hr with q | q
        · subst q
          refine ⟨fun q => ?_, msort_sorted _⟩
          have := (msort_perm (l.take m)).length_eq
          rw [q, List.length_take] at this
          simp at this; omega
        · exact h2 r q
      · cases k with
        | zero =>
          show ((l.take m).mergeSort).length = _
          rw [(msort_perm _).length_eq, List.length_take]; omega
        | succ k =>
          have q := h3 k (by simpa using hk)
          show ((fullR m n (l.drop m)).getD k []).length = _
          rw [q, List.length_drop, Nat.add_mul]
          omega
