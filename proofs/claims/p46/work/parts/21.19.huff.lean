/-! the least moves of merging two by two -/
/-- the depths of a tree of merges, in any order -/
def VD : Nat → List Nat → Prop
  | 0, ds => ds = [0]
  | n + 1, ds => ∃ (k : Nat) (r : List Nat), ds.Perm ((k + 1) :: (k + 1) :: r) ∧ VD n (k :: r)
theorem VD.perm : ∀ {n : Nat} {ds ds' : List Nat}, ds.Perm ds' → VD n ds → VD n ds'
  | 0, ds, ds', h, e => by
    have e1 : ds = [0] := e
    subst e1
    exact List.perm_singleton.mp h.symm
  | _ + 1, _, _, h, ⟨k, r, p, v⟩ => ⟨k, r, h.symm.trans p, v⟩
theorem VD.len : ∀ {n : Nat} {ds : List Nat}, VD n ds → ds.length = n + 1
  | 0, ds, e => by
    have e1 : ds = [0] := e
    subst e1; rfl
  | n + 1, ds, ⟨k, r, p, v⟩ => by
    have h1 := p.length_eq
    have h2 := VD.len v
    simp only [List.length_cons] at h1 h2
    omega
theorem VD.top : ∀ (n : Nat) (ds : List Nat) (K : Nat), VD (n + 1) ds → K ∈ ds → (∀ d ∈ ds, d ≤ K) → ∃ r : List Nat, ds.Perm (K :: K :: r) ∧ VD n ((K - 1) :: r) ∧ 1 ≤ K := by
  intro n
  induction n with
  | zero =>
    intro ds K ⟨k, r, p, v⟩ hK hm
    have e : k :: r = [0] := v
    have e1 : k = 0 := by have := congrArg List.head? e; simpa using this
    have e2 : r = [] := by have := congrArg List.tail e; simpa using this
    subst e1 e2
    have hK2 := p.mem_iff.mp hK
    have e3 : K = 1 := by simpa using hK2
    subst e3
    exact ⟨[], p, rfl, Nat.le_refl _⟩
  | succ m ih =>
    intro ds K ⟨k, r, p, v⟩ hK hm
    have hk1 : k + 1 ≤ K := hm _ (p.mem_iff.mpr List.mem_cons_self)
    by_cases e : k + 1 = K
    · subst e
      exact ⟨r, p, v, by omega⟩
    · have hKr : K ∈ r := by
        have hK2 := p.mem_iff.mp hK
        simp only [List.mem_cons] at hK2
        rcases hK2 with h | h | h
        · exact absurd h.symm e
        · exact absurd h.symm e
        · exact h
      obtain ⟨r2, p2, v2, h1⟩ := ih (k :: r) K v (List.mem_cons_of_mem _ hKr) (fun d hd => by
        rcases List.mem_cons.mp hd with h | h
        · omega
        · exact hm d (p.mem_iff.mpr (List.mem_cons_of_mem _ (List.mem_cons_of_mem _ h))))
      have hk2 : k ∈ r2 := by
        have h := p2.mem_iff.mp (List.mem_cons_self (a := k) (l := r))
        simp only [List.mem_cons] at h
        rcases h with h | h | h
        · omega
        · omega
        · exact h
      have p3 := List.perm_cons_erase hk2
      have p4 : r.Perm (K :: K :: r2.erase k) := by
        refine List.Perm.cons_inv (a := k) (p2.trans ?_)
        refine (List.Perm.cons K (List.Perm.cons K p3)).trans ?_
        refine (List.Perm.cons K (List.Perm.swap k K _)).trans ?_
        exact List.Perm.swap k K _
      refine ⟨(k + 1) :: (k + 1) :: r2.erase k, ?_, ⟨k, (K - 1) :: r2.erase k, ?_, ?_⟩, h1⟩
      · refine p.trans ?_
        refine (List.Perm.cons _ (List.Perm.cons _ p4)).trans ?_
        have q : ∀ (a b : Nat) (l : List Nat), (a :: a :: b :: b :: l).Perm (b :: b :: a :: a :: l) := fun a b l =>
          (List.Perm.cons a (List.Perm.swap b a _)).trans ((List.Perm.swap b a _).trans ((List.Perm.cons b ((List.Perm.cons a (List.Perm.swap b a _)).trans (List.Perm.swap b a _)))))
        exact q _ _ _
      · refine (List.Perm.swap _ _ _).trans (List.Perm.cons _ (List.Perm.swap _ _ _))
      · refine VD.perm ?_ v2
        refine (List.Perm.cons _ p3).trans (List.Perm.swap _ _ _)
/-- the cost of merging by the shortest two, again and again -/
def hf : Nat → List Nat → Nat
  | 0, _ => 0
  | n + 1, l => match l.mergeSort with
    | a :: b :: t => a + b + hf n ((a + b) :: t)
    | _ => 0
theorem ms_eq {l l' : List Nat} (h : l.Perm l') : l.mergeSort = l'.mergeSort := by
  have tr : ∀ a b c : Nat, decide (a ≤ b) = true → decide (b ≤ c) = true → decide (a ≤ c) = true := by
    intro a b c h1 h2; simp only [decide_eq_true_eq] at *; omega
  have tt : ∀ a b : Nat, (decide (a ≤ b) || decide (b ≤ a)) = true := by
    intro a b; simp only [Bool.or_eq_true, decide_eq_true_eq]; omega
  refine List.Perm.eq_of_pairwise (le := fun a b => decide (a ≤ b) = true) ?_ (List.pairwise_mergeSort tr tt l) (List.pairwise_mergeSort tr tt l') ((List.mergeSort_perm l _).trans (h.trans (List.mergeSort_perm l' _).symm))
  intro a b _ _ h1 h2
  simp only [decide_eq_true_eq] at h1 h2
  omega
theorem hf_perm : ∀ {n : Nat} {l l' : List Nat}, l.Perm l' → hf n l = hf n l'
  | 0, _, _, _ => rfl
  | n + 1, l, l', h => by simp only [hf]; rw [ms_eq h]
/-- two least ones in front: the cost's own step -/
theorem hf_step {n : Nat} {l t : List Nat} {a b : Nat} (h : l.Perm (a :: b :: t)) (hab : a ≤ b) (hb : ∀ x ∈ t, b ≤ x) : hf (n + 1) l = a + b + hf n ((a + b) :: t) := by
  have tr : ∀ a b c : Nat, decide (a ≤ b) = true → decide (b ≤ c) = true → decide (a ≤ c) = true := by
    intro a b c h1 h2; simp only [decide_eq_true_eq] at *; omega
  have tt : ∀ a b : Nat, (decide (a ≤ b) || decide (b ≤ a)) = true := by
    intro a b; simp only [Bool.or_eq_true, decide_eq_true_eq]; omega
  have e : l.mergeSort = a :: b :: t.mergeSort := by
    refine List.Perm.eq_of_pairwise (le := fun a b => decide (a ≤ b) = true) ?_ (List.pairwise_mergeSort tr tt l) ?_ ((List.mergeSort_perm l _).trans (h.trans (List.Perm.cons _ (List.Perm.cons _ (List.mergeSort_perm t _).symm))))
    · intro a b _ _ h1 h2
      simp only [decide_eq_true_eq] at h1 h2
      omega
    · refine List.pairwise_cons.mpr ⟨fun x hx => ?_, List.pairwise_cons.mpr ⟨fun x hx => ?_, List.pairwise_mergeSort tr tt t⟩⟩
      · rcases List.mem_cons.mp hx with q | q
        · subst q; simpa using hab
        · have := hb x ((List.mergeSort_perm t _).mem_iff.mp q)
          simp only [decide_eq_true_eq]; omega
      · have := hb x ((List.mergeSort_perm t _).mem_iff.mp hx)
        simpa using this
  have e2 : hf (n + 1) l = (match l.mergeSort with
    | a :: b :: t => a + b + hf n ((a + b) :: t)
    | _ => 0) := rfl
  rw [e2, e]
  show a + b + hf n ((a + b) :: t.mergeSort) = _
  rw [hf_perm (List.Perm.cons (a + b) (List.mergeSort_perm t _))]
def cst (P : List (Nat × Nat)) : Nat := (P.map (fun p => p.1 * p.2)).sum
theorem cst_perm {P P' : List (Nat × Nat)} (h : P.Perm P') : cst P = cst P' := (h.map _).sum_nat
theorem cst_cons (p : Nat × Nat) (P : List (Nat × Nat)) : cst (p :: P) = p.1 * p.2 + cst P := by simp [cst]
/-- a part of a mapped list, taken out of the list -/
theorem map_out {α β : Type} [DecidableEq β] (f : α → β) : ∀ (P : List α) (b : β) (l : List β), (P.map f).Perm (b :: l) → ∃ (p : α) (P' : List α), P.Perm (p :: P') ∧ f p = b ∧ (P'.map f).Perm l := by
  intro P b l h
  obtain ⟨p, hp, e⟩ := List.mem_map.mp (h.mem_iff.mpr List.mem_cons_self)
  obtain ⟨s, t, rfl⟩ := List.append_of_mem hp
  refine ⟨p, s ++ t, List.perm_middle, e, ?_⟩
  refine List.Perm.cons_inv (a := b) ?_
  refine List.Perm.trans ?_ h
  rw [List.map_append, List.map_append, List.map_cons, e]
  exact List.perm_middle.symm
theorem xch {a x d K : Nat} (h1 : a ≤ x) (h2 : d ≤ K) : a * K + x * d ≤ x * K + a * d := by
  obtain ⟨u, rfl⟩ := Nat.exists_eq_add_of_le h1
  obtain ⟨v, rfl⟩ := Nat.exists_eq_add_of_le h2
  simp only [Nat.mul_add, Nat.add_mul]
  omega
/-- the least weight comes to the greatest depth, and nothing costs more -/
theorem to_top {P Pr : List (Nat × Nat)} {x a K : Nat} (hP : P.Perm ((x, K) :: Pr)) (hK : ∀ p ∈ P, p.2 ≤ K) (ha : a ∈ P.map Prod.fst) (hm : ∀ p ∈ P, a ≤ p.1) : ∃ Pr' : List (Nat × Nat), (Pr'.map Prod.snd).Perm (Pr.map Prod.snd) ∧ (a :: Pr'.map Prod.fst).Perm (P.map Prod.fst) ∧ a * K + cst Pr' ≤ cst P := by
  have hc := cst_perm hP
  rw [cst_cons] at hc
  by_cases e : a = x
  · subst e
    exact ⟨Pr, List.Perm.refl _, (hP.map Prod.fst).symm, by rw [hc]; exact Nat.le_refl _⟩
  · obtain ⟨p, hp, e1⟩ := List.mem_map.mp ha
    have hp2 := hP.mem_iff.mp hp
    rcases List.mem_cons.mp hp2 with h | h
    · subst h; exact absurd e1.symm e
    · obtain ⟨s, t, e2⟩ := List.append_of_mem h
      have hax : a ≤ x := hm (x, K) (hP.mem_iff.mpr List.mem_cons_self)
      have hd : p.2 ≤ K := hK p hp
      have q1 : Pr.Perm (p :: (s ++ t)) := by rw [e2]; exact List.perm_middle
      refine ⟨(x, p.2) :: (s ++ t), ?_, ?_, ?_⟩
      · exact (q1.map Prod.snd).symm
      · refine List.Perm.trans ?_ (hP.map Prod.fst).symm
        refine List.Perm.trans ?_ (List.Perm.cons x (q1.map Prod.fst)).symm
        rw [List.map_cons, List.map_cons, e1]
        exact List.Perm.swap _ _ _
      · rw [hc, cst_perm q1, cst_cons, cst_cons, e1]
        have := xch (K := K) hax hd
        show a * K + (x * p.2 + cst (s ++ t)) ≤ x * K + (a * p.2 + cst (s ++ t))
        omega
theorem mx_of : ∀ (l : List Nat), l ≠ [] → ∃ K ∈ l, ∀ d ∈ l, d ≤ K
  | [], h => absurd rfl h
  | [a], _ => ⟨a, List.mem_cons_self, fun d hd => by simp at hd; omega⟩
  | a :: b :: l, _ => by
    obtain ⟨K, h1, h2⟩ := mx_of (b :: l) (by simp)
    by_cases h : a ≤ K
    · exact ⟨K, List.mem_cons_of_mem _ h1, fun d hd => by
        rcases List.mem_cons.mp hd with q | q
        · omega
        · exact h2 d q⟩
    · exact ⟨a, List.mem_cons_self, fun d hd => by
        rcases List.mem_cons.mp hd with q | q
        · omega
        · have := h2 d q; omega⟩
theorem sorted2 {l : List Nat} (h : 2 ≤ l.length) : ∃ a b t, l.Perm (a :: b :: t) ∧ a ≤ b ∧ ∀ x ∈ t, b ≤ x := by
  have tr : ∀ a b c : Nat, decide (a ≤ b) = true → decide (b ≤ c) = true → decide (a ≤ c) = true := by
    intro a b c h1 h2; simp only [decide_eq_true_eq] at *; omega
  have tt : ∀ a b : Nat, (decide (a ≤ b) || decide (b ≤ a)) = true := by
    intro a b; simp only [Bool.or_eq_true, decide_eq_true_eq]; omega
  have hs := List.pairwise_mergeSort tr tt l
  have hp := List.mergeSort_perm l (fun a b => decide (a ≤ b))
  have hl := hp.length_eq
  cases e : l.mergeSort (fun a b => decide (a ≤ b)) with
  | nil => rw [e] at hl; simp at hl; omega
  | cons a t1 =>
    cases e2 : t1 with
    | nil => rw [e, e2] at hl; simp at hl; omega
    | cons b t =>
      subst e2
      rw [e] at hs hp
      have h1 := List.pairwise_cons.mp hs
      have h2 := List.pairwise_cons.mp h1.2
      refine ⟨a, b, t, hp.symm, ?_, fun x hx => ?_⟩
      · have := h1.1 b List.mem_cons_self
        simpa using this
      · have := h2.1 x hx
        simpa using this
theorem hf_le : ∀ (n : Nat) (P : List (Nat × Nat)), VD n (P.map Prod.snd) → hf n (P.map Prod.fst) ≤ cst P := by
  intro n
  induction n with
  | zero => intro P _; exact Nat.zero_le _
  | succ n ih =>
    intro P hv
    have hlen := VD.len hv
    rw [List.length_map] at hlen
    obtain ⟨K, hK, hKm⟩ := mx_of (P.map Prod.snd) (by intro q; rw [List.map_eq_nil_iff] at q; subst q; simp at hlen)
    obtain ⟨r, p1, v1, hK1⟩ := VD.top n _ K hv hK hKm
    obtain ⟨p, Pr, q1, e1, q2⟩ := map_out Prod.snd P K _ p1
    obtain ⟨x, dx⟩ := p
    have e1 : dx = K := e1
    subst e1
    obtain ⟨a, b, t, s1, hab, hbt⟩ := sorted2 (l := P.map Prod.fst) (by rw [List.length_map]; omega)
    have hPK : ∀ p ∈ P, p.2 ≤ dx := fun p hp => hKm _ (List.mem_map.mpr ⟨p, hp, rfl⟩)
    have hPa : ∀ p ∈ P, a ≤ p.1 := fun p hp => by
      have h := s1.mem_iff.mp (List.mem_map.mpr ⟨p, hp, rfl⟩)
      rcases List.mem_cons.mp h with h | h
      · omega
      · rcases List.mem_cons.mp h with h | h
        · omega
        · have := hbt _ h; omega
    obtain ⟨P1, t1, t2, t3⟩ := to_top q1 hPK (s1.mem_iff.mpr List.mem_cons_self) hPa
    have t4 : (P1.map Prod.snd).Perm (dx :: r) := t1.trans q2
    have t5 : (P1.map Prod.fst).Perm (b :: t) := List.Perm.cons_inv (a := a) (t2.trans s1)
    obtain ⟨p', Pr', u1, e2, u2⟩ := map_out Prod.snd P1 dx _ t4
    obtain ⟨y, dy⟩ := p'
    have e2 : dy = dx := e2
    subst e2
    have hP1K : ∀ p ∈ P1, p.2 ≤ dy := fun p hp => by
      have h := t4.mem_iff.mp (List.mem_map.mpr ⟨p, hp, rfl⟩)
      exact hKm _ (p1.mem_iff.mpr (List.mem_cons_of_mem _ h))
    have hP1b : ∀ p ∈ P1, b ≤ p.1 := fun p hp => by
      have h := t5.mem_iff.mp (List.mem_map.mpr ⟨p, hp, rfl⟩)
      rcases List.mem_cons.mp h with h | h
      · omega
      · exact hbt _ h
    obtain ⟨P2, w1, w2, w3⟩ := to_top u1 hP1K (t5.mem_iff.mpr List.mem_cons_self) hP1b
    have w4 : (P2.map Prod.snd).Perm r := w1.trans u2
    have w5 : (P2.map Prod.fst).Perm t := List.Perm.cons_inv (a := b) (w2.trans t5)
    have hi := ih ((a + b, dy - 1) :: P2) (VD.perm (List.Perm.cons _ w4.symm) v1)
    rw [cst_cons, List.map_cons] at hi
    rw [hf_step s1 hab hbt, hf_perm (List.Perm.cons (a + b) w5.symm)]
    have hK2 : (a + b) * dy = (a + b) + (a + b) * (dy - 1) := by
      obtain ⟨k, rfl⟩ := Nat.exists_eq_add_of_le hK1
      rw [Nat.add_sub_cancel_left, Nat.mul_add, Nat.mul_one]
    rw [Nat.add_mul] at hK2
    have hi : hf n ((a + b) :: P2.map Prod.fst) ≤ (a + b) * (dy - 1) + cst P2 := hi
    omega
/-- merging two by two in any order: the cost -/
def MC : Nat → List Nat → Nat → Prop
  | 0, l, c => l.length = 1 ∧ c = 0
  | n + 1, l, c => ∃ (a b : Nat) (t : List Nat) (c' : Nat), l.Perm (a :: b :: t) ∧ MC n ((a + b) :: t) c' ∧ c = a + b + c'
theorem MC.tree : ∀ (n : Nat) (l : List Nat) (c : Nat), MC n l c → ∃ P : List (Nat × Nat), (P.map Prod.fst).Perm l ∧ VD n (P.map Prod.snd) ∧ c = cst P := by
  intro n
  induction n with
  | zero =>
    intro l c ⟨h1, h2⟩
    obtain ⟨x, rfl⟩ := List.length_eq_one_iff.mp h1
    exact ⟨[(x, 0)], List.Perm.refl _, rfl, by rw [h2]; simp [cst]⟩
  | succ n ih =>
    intro l c ⟨a, b, t, c', h1, h2, h3⟩
    obtain ⟨P, q1, q2, q3⟩ := ih _ _ h2
    obtain ⟨p, P', u1, u2, u3⟩ := map_out Prod.fst P (a + b) t q1
    obtain ⟨x, k⟩ := p
    have u2 : x = a + b := u2
    subst u2
    refine ⟨(a, k + 1) :: (b, k + 1) :: P', ?_, ⟨k, P'.map Prod.snd, List.Perm.refl _, VD.perm (u1.map Prod.snd) q2⟩, ?_⟩
    · exact List.Perm.trans (List.Perm.cons a (List.Perm.cons b u3)) h1.symm
    · rw [h3, q3, cst_perm u1, cst_cons, cst_cons, cst_cons]
      show a + b + ((a + b) * k + cst P') = a * (k + 1) + (b * (k + 1) + cst P')
      simp only [Nat.add_mul, Nat.mul_add, Nat.mul_one]
      omega
theorem hf_best {n : Nat} {l : List Nat} {c : Nat} (h : MC n l c) : hf n l ≤ c := by
  obtain ⟨P, h1, h2, h3⟩ := MC.tree n l c h
  rw [h3, ← hf_perm h1]
  exact hf_le n P h2
