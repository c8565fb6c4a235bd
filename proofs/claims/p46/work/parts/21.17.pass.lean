/-! passes: which runs are merged with one another, on any rows -/
def pick {α : Type} : (Nat → Bool) → List α → List α
  | _, [] => []
  | p, a :: l => if p 0 then a :: pick (fun i => p (i + 1)) l else pick (fun i => p (i + 1)) l
theorem pick_nil {α : Type} (p : Nat → Bool) : pick p ([] : List α) = [] := rfl
theorem pick_cons {α : Type} (p : Nat → Bool) (a : α) (l : List α) : pick p (a :: l) = (if p 0 then [a] else []) ++ pick (fun i => p (i + 1)) l := by
  show (if p 0 = true then a :: pick (fun i => p (i + 1)) l else pick (fun i => p (i + 1)) l) = _
  by_cases h : p 0 = true
  · rw [if_pos h, if_pos h]; rfl
  · rw [if_neg h, if_neg h]; rfl
theorem pick_map {α β : Type} (f : α → β) : ∀ (l : List α) (p : Nat → Bool), pick p (l.map f) = (pick p l).map f
  | [], _ => rfl
  | a :: l, p => by
    rw [List.map_cons, pick_cons, pick_cons, List.map_append, pick_map f l]
    by_cases h : p 0 = true
    · rw [if_pos h, if_pos h]; rfl
    · rw [if_neg h, if_neg h]; rfl
theorem pick_app {α : Type} : ∀ (l r : List α) (p : Nat → Bool), pick p (l ++ r) = pick p l ++ pick (fun i => p (i + l.length)) r
  | [], r, p => rfl
  | a :: l, r, p => by
    rw [List.cons_append, pick_cons, pick_cons, pick_app l r, List.append_assoc]
    rfl
theorem pick_congr {α : Type} : ∀ (l : List α) (p q : Nat → Bool), (∀ i, i < l.length → p i = q i) → pick p l = pick q l
  | [], _, _, _ => rfl
  | a :: l, p, q, h => by
    rw [pick_cons, pick_cons, h 0 (by simp), pick_congr l _ (fun i => q (i + 1)) (fun i hi => h (i + 1) (by simpa using hi))]
theorem pick_snoc {α : Type} (l : List α) (x : α) (p : Nat → Bool) : pick p (l ++ [x]) = pick p l ++ (if p l.length then [x] else []) := by
  rw [pick_app, pick_cons, pick_nil, List.append_nil, Nat.zero_add]
theorem pick_all {α : Type} : ∀ (l : List α) (p : Nat → Bool), (∀ i, i < l.length → p i = true) → pick p l = l
  | [], _, _ => rfl
  | a :: l, p, h => by
    rw [pick_cons, if_pos (h 0 (by simp)), pick_all l _ (fun i hi => h (i + 1) (by simpa using hi))]; rfl
theorem pick_none {α : Type} : ∀ (l : List α) (p : Nat → Bool), (∀ i, i < l.length → p i = false) → pick p l = []
  | [], _, _ => rfl
  | a :: l, p, h => by
    rw [pick_cons, if_neg (by rw [h 0 (by simp)]; simp), pick_none l _ (fun i hi => h (i + 1) (by simpa using hi))]; rfl
theorem pick_or {α : Type} : ∀ (l : List α) (p q r : Nat → Bool), (∀ i, i < l.length → (p i = true ∧ q i = false ∧ r i = true) ∨ (p i = false ∧ r i = q i)) → (pick p l ++ pick q l).Perm (pick r l)
  | [], _, _, _, _ => List.Perm.refl _
  | a :: l, p, q, r, h => by
    have ih := pick_or l (fun i => p (i + 1)) (fun i => q (i + 1)) (fun i => r (i + 1)) (fun i hi => h (i + 1) (by simpa using hi))
    rw [pick_cons, pick_cons, pick_cons]
    rcases h 0 (by simp) with ⟨h1, h2, h3⟩ | ⟨h1, h2⟩
    · rw [if_pos h1, if_neg (by rw [h2]; simp), if_pos h3]
      exact List.Perm.cons a ih
    · rw [if_neg (by rw [h1]; simp), h2]
      by_cases c : q 0 = true
      · rw [if_pos c]
        exact List.perm_middle.trans (List.Perm.cons a ih)
      · rw [if_neg c]; exact ih
theorem pick_len {α : Type} : ∀ (l : List α) (p : Nat → Bool), (pick p l).length ≤ l.length
  | [], _ => Nat.le_refl _
  | a :: l, p => by
    have := pick_len l (fun i => p (i + 1))
    rw [pick_cons, List.length_append, List.length_cons]
    by_cases c : p 0 = true
    · rw [if_pos c, List.length_cons, List.length_nil]; omega
    · rw [if_neg c, List.length_nil]; omega
theorem pick_sub {α : Type} : ∀ (l : List α) (p : Nat → Bool), (pick p l).Sublist l
  | [], _ => List.Sublist.slnil
  | a :: l, p => by
    rw [pick_cons]
    by_cases c : p 0 = true
    · rw [if_pos c]; exact (pick_sub l _).cons₂ a
    · rw [if_neg c]; exact (pick_sub l _).cons a
theorem pick_take {α : Type} {l : List α} {i : Nat} {d : α} (p : Nat → Bool) (h : i < l.length) : pick p (l.take (i + 1)) = pick p (l.take i) ++ (if p i then [l.getD i d] else []) := by
  have e : l.take (i + 1) = l.take i ++ [l.getD i d] := by
    rw [List.take_succ, List.getD_eq_getElem?_getD, List.getElem?_eq_getElem h]; rfl
  rw [e, pick_snoc]
  congr 2
  rw [List.length_take, Nat.min_eq_left (by omega)]
/-- what a pass makes of a row: as says of each run which merge takes it -/
def isM (as : Nat → Option Nat) (j : Nat) (i : Nat) : Bool := as i == some j
def isN (as : Nat → Option Nat) (i : Nat) : Bool := as i == none
def grp {α : Type} (mg : Nat) (as : Nat → Option Nat) (l : List α) : List (List α) := (List.range mg).map (fun j => pick (isM as j) l)
def stepL {α : Type} (comb : List α → α) (way mg : Nat) (as : Nat → Option Nat) (l : List α) : List α :=
  if way = 1 then pick (isN as) l ++ (grp mg as l).map comb else (grp mg as l).map comb ++ pick (isN as) l
theorem grp_map {α β : Type} (f : α → β) (mg : Nat) (as : Nat → Option Nat) (l : List α) : grp mg as (l.map f) = (grp mg as l).map (List.map f) := by
  unfold grp
  rw [List.map_map]
  exact List.map_congr_left (fun j _ => pick_map f l _)
theorem stepL_map {α β : Type} (f : α → β) (ca : List α → α) (cb : List β → β) (h : ∀ l, f (ca l) = cb (l.map f)) (way mg : Nat) (as : Nat → Option Nat) (l : List α) : (stepL ca way mg as l).map f = stepL cb way mg as (l.map f) := by
  have e : ((grp mg as l).map ca).map f = (grp mg as (l.map f)).map cb := by
    rw [grp_map, List.map_map, List.map_map]
    exact List.map_congr_left (fun z _ => h z)
  unfold stepL
  by_cases c : way = 1
  · rw [if_pos c, if_pos c, List.map_append, e, pick_map]
  · rw [if_neg c, if_neg c, List.map_append, e, pick_map]
theorem grp_perm {α : Type} (as : Nat → Option Nat) (l : List α) : ∀ (mg : Nat), (∀ i, i < l.length → ∀ j, as i = some j → j < mg) → ((grp mg as l).flatten ++ pick (isN as) l).Perm l := by
  intro mg h
  have key : ∀ n, ((grp n as l).flatten ++ pick (fun i => match as i with | none => true | some j => decide (n ≤ j)) l).Perm l := by
    intro n
    induction n with
    | zero =>
      refine List.Perm.of_eq ?_
      show [] ++ _ = l
      rw [List.nil_append, pick_all]
      intro i _
      cases as i <;> simp
    | succ n ih =>
      refine List.Perm.trans ?_ ih
      unfold grp
      rw [List.range_succ, List.map_append, List.flatten_append, List.append_assoc]
      refine List.Perm.append_left _ ?_
      show (pick (isM as n) l ++ [] ++ _).Perm _
      rw [List.append_nil]
      refine pick_or l _ _ _ (fun i _ => ?_)
      unfold isM
      cases as i with
      | none => right; simp
      | some j =>
        by_cases c : j = n
        · left; subst c; simp
        · right
          refine ⟨by simp [c], ?_⟩
          by_cases c2 : n ≤ j
          · simp [c2, show n + 1 ≤ j by omega]
          · simp [c2, show ¬ n + 1 ≤ j by omega]
  refine List.Perm.trans (List.Perm.of_eq ?_) (key mg)
  congr 1
  refine pick_congr l _ _ (fun i hi => ?_)
  unfold isN
  cases e : as i with
  | none => rfl
  | some j =>
    have := h i hi j e
    simp; omega
/-- the first of the least ones that p takes -/
def lsS (p : Nat → Bool) (l : List Nat) (b : Option Nat) (i : Nat) : Option Nat :=
  if p i then (match b with
    | none => some i
    | some k => if l.getD i 0 < l.getD k 0 then some i else some k) else b
def ls1 (p : Nat → Bool) (l : List Nat) : Option Nat := (List.range l.length).foldl (lsS p l) none
/-- the merge that takes a run, by the numbers of the rows -/
def hAs : List Nat → Nat → Nat → Option Nat
  | [], _, _ => none
  | r :: rs, mg, i => if i < r then (if i < mg then some i else none) else hAs rs mg (i - r)
/-- the two shortest -/
def sh1 (ls : List Nat) : Option Nat := ls1 (fun _ => true) ls
def sh2 (ls : List Nat) : Option Nat := ls1 (fun q => !(sh1 ls == some q)) ls
/-- the merges of a pass (0 balanced, 1 the shortest, 2 polyphase) over runs of these lengths: how many, and which takes a run -/
def chM (way k : Nat) (rows ls : List Nat) : Nat := if way = 0 then (ls.length + k - 2) / k else if way = 1 then 1 else rows.getD (k - 1) 0
def chA (way k : Nat) (rows ls : List Nat) (i : Nat) : Option Nat :=
  if ls.length ≤ i then none else
  if way = 0 then (if i / k < (ls.length + k - 2) / k then some (i / k) else none)
  else if way = 1 then (if sh1 ls = some i ∨ sh2 ls = some i then some 0 else none)
  else hAs rows (rows.getD (k - 1) 0) i
/-- the rows' numbers behind a pass -/
def clR (mg : Nat) (rows : List Nat) : List Nat := mg :: rows.dropLast.map (fun r => r - mg)
/-- the rows' numbers at the next level -/
def upR (rows : List Nat) : List Nat := (rows.drop 1).map (fun r => rows.headD 0 + r) ++ [rows.headD 0]
def lvR (k : Nat) : Nat → List Nat
  | 0 => 1 :: List.replicate (k - 1) 0
  | n + 1 => upR (lvR k n)
def lvGo (k runs : Nat) : Nat → Nat → Nat
  | 0, n => n
  | f + 1, n => if runs ≤ (lvR k n).sum then n else lvGo k runs f (n + 1)
def lvN (k runs : Nat) : Nat := lvGo k runs 200 0
theorem lvR_len {k : Nat} (hk : 1 ≤ k) : ∀ n, (lvR k n).length = k
  | 0 => by simp [lvR]; omega
  | n + 1 => by
    have := lvR_len hk n
    simp only [lvR, upR, List.length_append, List.length_map, List.length_drop, List.length_cons, List.length_nil]
    omega
/-- enough levels: for at most 100 runs no more than 200 in all (checked one by one) -/
theorem lv_ok : ∀ k, k < 7 → 2 ≤ k → ∀ r, r < 101 → r ≤ (lvR k (lvN k r)).sum ∧ (lvR k (lvN k r)).sum ≤ 200 ∧ lvN k r ≤ 20 ∧ ∀ n, n < lvN k r → (lvR k n).sum < r := by decide +kernel
theorem upR_getD {k : Nat} {rows : List Nat} (hl : rows.length = k) {i : Nat} (hi : i < k) : (upR rows).getD i 0 = if i + 1 < k then rows.getD 0 0 + rows.getD (i + 1) 0 else rows.getD 0 0 := by
  have h0 : rows.headD 0 = rows.getD 0 0 := by cases rows <;> rfl
  unfold upR
  by_cases c : i + 1 < k
  · rw [if_pos c, getD_app_l (by simp; omega), List.getD_eq_getElem?_getD, List.getElem?_map, List.getElem?_drop, Nat.add_comm 1 i, List.getElem?_eq_getElem (by omega), List.getD_eq_getElem?_getD (l := rows) (i := i + 1), List.getElem?_eq_getElem (by omega), h0]; rfl
  · rw [if_neg c, getD_app_r (by simp; omega)]
    have : i - ((rows.drop 1).map (fun r => rows.headD 0 + r)).length = 0 := by simp; omega
    rw [this, h0]; rfl
theorem upR_last {k : Nat} {rows : List Nat} (hk : 1 ≤ k) (hl : rows.length = k) : (upR rows).getD (k - 1) 0 = rows.getD 0 0 := by
  rw [upR_getD hl (by omega), if_neg (by omega)]
/-- closing a pass goes a level down -/
theorem clR_up {k : Nat} {rows : List Nat} (hk : 1 ≤ k) (hl : rows.length = k) : clR (rows.getD 0 0) (upR rows) = rows := by
  obtain ⟨a, t, rfl⟩ : ∃ a t, rows = a :: t := by
    cases rows with
    | nil => simp at hl; omega
    | cons a t => exact ⟨a, t, rfl⟩
  unfold clR upR
  show a :: (((t.map (fun r => a + r)) ++ [a]).dropLast).map (fun r => r - a) = a :: t
  rw [List.dropLast_concat, List.map_map]
  congr 1
  have e : (fun r => r - a) ∘ (fun r => a + r) = (id : Nat → Nat) := by funext r; simp
  rw [e, List.map_id]
/-- polyphase: each row gives one run to each merge -/
theorem pick_hAs {α : Type} : ∀ (rows : List Nat) (mg : Nat) (l : List α) (j : Nat), l.length = rows.sum → (∀ r ∈ rows, mg ≤ r) → j < mg → (pick (isM (hAs rows mg) j) l).length = rows.length ∧ ∀ i, i < l.length → ∀ q, hAs rows mg i = some q → q < mg
  | [], mg, l, j, hl, _, _ => by
    have e : l = [] := List.length_eq_zero_iff.mp (by simpa using hl)
    subst e
    exact ⟨rfl, fun i hi => absurd hi (by simp)⟩
  | r :: rows, mg, l, j, hl, hm, hj => by
    have hmr := hm r List.mem_cons_self
    rw [List.sum_cons] at hl
    obtain ⟨ih1, ih2⟩ := pick_hAs rows mg (l.drop r) j (by rw [List.length_drop]; omega) (fun q hq => hm q (List.mem_cons_of_mem _ hq)) hj
    have hsp : l = l.take r ++ l.drop r := (List.take_append_drop r l).symm
    have hlt : (l.take r).length = r := by rw [List.length_take]; omega
    refine ⟨?_, fun i hi q hq => ?_⟩
    · rw [hsp, pick_app, List.length_append, hlt]
      have e2 : pick (fun i => isM (hAs (r :: rows) mg) j (i + r)) (l.drop r) = pick (isM (hAs rows mg) j) (l.drop r) := by
        refine pick_congr _ _ _ (fun i _ => ?_)
        unfold isM
        have : hAs (r :: rows) mg (i + r) = hAs rows mg i := by
          show (if i + r < r then _ else hAs rows mg (i + r - r)) = _
          rw [if_neg (by omega), Nat.add_sub_cancel]
        rw [this]
      have e1 : (pick (isM (hAs (r :: rows) mg) j) (l.take r)).length = 1 := by
        have hsp2 : l.take r = (l.take r).take j ++ ((l.take r).getD j (l[0]'(by omega)) :: (l.take r).drop (j + 1)) := by
          have h1 := (List.take_append_drop j (l.take r)).symm
          have h2 : (l.take r).drop j = (l.take r).getD j (l[0]'(by omega)) :: (l.take r).drop (j + 1) := by
            rw [List.drop_eq_getElem_cons (by omega), List.getD_eq_getElem?_getD, List.getElem?_eq_getElem (by omega)]; rfl
          rwa [h2] at h1
        have hat : ∀ i, i < r → isM (hAs (r :: rows) mg) j i = (i == j) := by
          intro i hi
          unfold isM
          show ((if i < r then (if i < mg then some i else none) else _) == some j) = _
          rw [if_pos hi]
          by_cases c : i < mg
          · rw [if_pos c]; by_cases c2 : i = j <;> simp [c2]
          · rw [if_neg c]; simp; omega
        rw [hsp2, pick_app, pick_none, pick_cons, if_pos, pick_none]
        · rfl
        · intro i hi
          rw [List.length_drop, hlt] at hi
          show isM _ j (i + 1 + ((l.take r).take j).length) = false
          rw [List.length_take, hlt, hat _ (by omega)]
          simp; omega
        · show isM _ j (0 + ((l.take r).take j).length) = true
          rw [List.length_take, hlt, hat _ (by omega)]
          simp; omega
        · intro i hi
          rw [List.length_take, hlt] at hi
          rw [hat _ (by omega)]
          simp; omega
      rw [e2, ih1, e1, List.length_cons]
      omega
    · have hq2 : (if i < r then (if i < mg then some i else none) else hAs rows mg (i - r)) = some q := hq
      by_cases c : i < r
      · rw [if_pos c] at hq2
        by_cases c2 : i < mg
        · rw [if_pos c2] at hq2
          injection hq2 with e
          omega
        · rw [if_neg c2] at hq2; cases hq2
      · rw [if_neg c] at hq2
        exact ih2 (i - r) (by rw [List.length_drop]; omega) q hq2
