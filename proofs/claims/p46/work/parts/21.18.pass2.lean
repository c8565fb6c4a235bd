/-! what the merges of a pass take -/
theorem ls_spec (p : Nat → Bool) (l : List Nat) (n : Nat) : ((List.range n).foldl (lsS p l) none = none → ∀ i, i < n → p i = false) ∧ ∀ a, (List.range n).foldl (lsS p l) none = some a → a < n ∧ p a = true ∧ (∀ i, i < n → p i = true → l.getD a 0 ≤ l.getD i 0) ∧ ∀ i, i < a → p i = true → l.getD a 0 < l.getD i 0 := by
  refine range_ind (lsS p l) none (P := fun k o => (o = none → ∀ i, i < k → p i = false) ∧ ∀ a, o = some a → a < k ∧ p a = true ∧ (∀ i, i < k → p i = true → l.getD a 0 ≤ l.getD i 0) ∧ ∀ i, i < a → p i = true → l.getD a 0 < l.getD i 0) ⟨fun _ i h => absurd h (by omega), fun a h => by cases h⟩ ?_ n
  intro k o ⟨h1, h2⟩
  unfold lsS
  by_cases c : p k = true
  · rw [if_pos c]
    cases o with
    | none =>
      refine ⟨fun q => by simp at q, fun a q => ?_⟩
      simp at q; subst q
      refine ⟨by omega, c, fun i hi hr => ?_, fun i hi hr => ?_⟩
      · by_cases e : i = k
        · rw [e]; exact Nat.le_refl _
        · rw [h1 rfl i (by omega)] at hr; simp at hr
      · rw [h1 rfl i hi] at hr; simp at hr
    | some b =>
      obtain ⟨g1, g2, g3, g4⟩ := h2 b rfl
      by_cases c2 : l.getD k 0 < l.getD b 0
      · simp only [c2, if_true]
        refine ⟨fun q => by simp at q, fun a q => ?_⟩
        simp at q; subst q
        refine ⟨by omega, c, fun i hi hr => ?_, fun i hi hr => ?_⟩
        · by_cases e : i = k
          · rw [e]; exact Nat.le_refl _
          · have := g3 i (by omega) hr; omega
        · have := g3 i hi hr; omega
      · simp only [c2, if_false]
        refine ⟨fun q => by simp at q, fun a q => ?_⟩
        simp at q; subst q
        refine ⟨by omega, g2, fun i hi hr => ?_, g4⟩
        by_cases e : i = k
        · rw [e]; omega
        · exact g3 i (by omega) hr
  · rw [if_neg c]
    refine ⟨fun q i hi => ?_, fun a q => ?_⟩
    · by_cases e : i = k
      · rw [e]; simpa using c
      · exact h1 q i (by omega)
    · obtain ⟨g1, g2, g3, g4⟩ := h2 a q
      refine ⟨by omega, g2, fun i hi hr => ?_, g4⟩
      by_cases e : i = k
      · subst e; exact absurd hr c
      · exact g3 i (by omega) hr
theorem ls1_ex {p : Nat → Bool} {l : List Nat} {i : Nat} (hi : i < l.length) (hp : p i = true) : ∃ a, ls1 p l = some a ∧ a < l.length ∧ p a = true ∧ (∀ i, i < l.length → p i = true → l.getD a 0 ≤ l.getD i 0) ∧ ∀ i, i < a → p i = true → l.getD a 0 < l.getD i 0 := by
  obtain ⟨h1, h2⟩ := ls_spec p l l.length
  cases e : ls1 p l with
  | none =>
    have := h1 e i hi
    rw [hp] at this; simp at this
  | some a => exact ⟨a, rfl, h2 a e⟩
/-- the two shortest of at least two -/
theorem sh_spec {l : List Nat} (hl : 2 ≤ l.length) : ∃ a b, sh1 l = some a ∧ sh2 l = some b ∧ a ≠ b ∧ a < l.length ∧ b < l.length ∧ (∀ i, i < l.length → l.getD a 0 ≤ l.getD i 0) ∧ (∀ i, i < a → l.getD a 0 < l.getD i 0) ∧ (∀ i, i < l.length → i ≠ a → l.getD b 0 ≤ l.getD i 0) ∧ (∀ i, i < b → i ≠ a → l.getD b 0 < l.getD i 0) := by
  obtain ⟨a, a1, a2, -, a4, a5⟩ := ls1_ex (p := fun _ => true) (l := l) (i := 0) (by omega) rfl
  have hex : ∃ i, i < l.length ∧ (!(sh1 l == some i)) = true := by
    unfold sh1
    rw [a1]
    by_cases c : a = 0
    · exact ⟨1, by omega, by subst c; rfl⟩
    · exact ⟨0, by omega, by simp [c]⟩
  obtain ⟨i, hi, hp⟩ := hex
  obtain ⟨b, b1, b2, b3, b4, b5⟩ := ls1_ex (p := fun q => !(sh1 l == some q)) hi hp
  have ha : sh1 l = some a := a1
  have hne : ∀ i, i ≠ a → (!(sh1 l == some i)) = true := by
    intro i h
    rw [ha]
    simp; omega
  refine ⟨a, b, a1, b1, fun e => ?_, a2, b2, fun i hi => a4 i hi rfl, fun i hi => a5 i hi rfl, fun i hi h => b4 i hi (hne i h), fun i hi h => b5 i hi (hne i h)⟩
  subst e
  rw [ha] at b3
  simp at b3
theorem pick_one {α : Type} {d : α} : ∀ (l : List α) (a : Nat), pick (fun i => i == a) l = if a < l.length then [l.getD a d] else []
  | [], a => by rw [pick_nil, if_neg (by simp)]
  | x :: l, 0 => by
    rw [pick_cons, if_pos (show ((0 : Nat) == 0) = true from rfl), pick_none, if_pos (by simp)]
    · rfl
    · intro i _; simp
  | x :: l, a + 1 => by
    rw [pick_cons, if_neg (by simp)]
    have e : pick (fun i => i + 1 == a + 1) l = pick (fun i => i == a) l := pick_congr l _ _ (fun i _ => by by_cases c : i = a <;> simp [c])
    rw [List.nil_append, e, pick_one l a]
    by_cases c : a < l.length
    · rw [if_pos c, if_pos (by simpa using c)]; rfl
    · rw [if_neg c, if_neg (by simpa using c)]
theorem pick_two {α : Type} {d : α} {l : List α} {a b : Nat} (ha : a < l.length) (hb : b < l.length) (hab : a ≠ b) {p : Nat → Bool} (hp : ∀ i, i < l.length → p i = (i == a || i == b)) : (pick p l).Perm [l.getD a d, l.getD b d] := by
  have h := pick_or l (fun i => i == a) (fun i => i == b) p (fun i hi => by
    rw [hp i hi]
    by_cases c : i = a
    · left; subst c; simp; omega
    · right; simp [c])
  rw [pick_one (d := d), pick_one (d := d), if_pos ha, if_pos hb] at h
  exact h.symm
theorem pick_rng {α : Type} : ∀ (l : List α) (a b : Nat) (p : Nat → Bool), (∀ i, i < l.length → p i = decide (a ≤ i ∧ i < b)) → pick p l = (l.drop a).take (b - a)
  | [], a, b, p, _ => by simp [pick_nil]
  | x :: l, 0, b, p, h => by
    rw [pick_cons, h 0 (by simp)]
    cases b with
    | zero =>
      rw [pick_none]
      · simp
      · intro i hi
        rw [h (i + 1) (by simpa using hi)]; simp
    | succ b =>
      rw [pick_rng l 0 b _ (fun i hi => by rw [h (i + 1) (by simpa using hi)]; simp)]
      simp
  | x :: l, a + 1, b, p, h => by
    rw [pick_cons, h 0 (by simp), if_neg (by simp)]
    rw [pick_rng l a (b - 1) _ (fun i hi => by rw [h (i + 1) (by simpa using hi)]; congr 1; exact propext ⟨fun q => by omega, fun q => by omega⟩)]
    show (l.drop a).take _ = (l.drop a).take _
    congr 1
    omega
/-- what holds of the merges of a pass over n > 1 runs -/
def GA (mg : Nat) (as : Nat → Option Nat) (n : Nat) : Prop :=
  (∀ i j, as i = some j → j < mg) ∧ 1 ≤ mg ∧ mg ≤ n ∧ (∀ i, n ≤ i → as i = none) ∧ ∀ (α : Type) (l : List α), l.length = n → (∀ j, j < mg → 2 ≤ (pick (isM as j) l).length ∧ (pick (isM as j) l).length ≤ 6) ∧ 2 * mg + (pick (isN as) l).length ≤ n
theorem grp_len {α : Type} (as : Nat → Option Nat) (l : List α) : ∀ mg, (∀ j, j < mg → 2 ≤ (pick (isM as j) l).length) → 2 * mg ≤ (grp mg as l).flatten.length := by
  intro mg
  induction mg with
  | zero => intro _; exact Nat.zero_le _
  | succ n ih =>
    intro h
    have h1 := ih (fun j hj => h j (by omega))
    have h2 := h n (by omega)
    have e : (grp (n + 1) as l).flatten.length = (grp n as l).flatten.length + (pick (isM as n) l).length := by
      unfold grp
      rw [List.range_succ, List.map_append, List.flatten_append, List.length_append]
      congr 1
      show (pick (isM as n) l ++ []).length = _
      rw [List.append_nil]
    omega
theorem GA.of {mg n : Nat} {as : Nat → Option Nat} (h1 : ∀ i j, as i = some j → j < mg) (h2 : 1 ≤ mg) (h4 : ∀ i, n ≤ i → as i = none) (h5 : ∀ (α : Type) (l : List α), l.length = n → ∀ j, j < mg → 2 ≤ (pick (isM as j) l).length ∧ (pick (isM as j) l).length ≤ 6) : GA mg as n := by
  have key : ∀ (α : Type) (l : List α), l.length = n → 2 * mg + (pick (isN as) l).length ≤ n := by
    intro α l hl
    have q1 := (grp_perm as l mg (fun i _ j e => h1 i j e)).length_eq
    have q2 := grp_len as l mg (fun j hj => (h5 α l hl j hj).1)
    rw [List.length_append] at q1
    omega
  have hn := key Nat (List.replicate n 0) (by simp)
  exact ⟨h1, h2, by omega, h4, fun α l hl => ⟨h5 α l hl, key α l hl⟩⟩
theorem ga_bal {k : Nat} {rw' ls : List Nat} (hk : 2 ≤ k) (hk6 : k ≤ 6) (hn : 2 ≤ ls.length) : GA (chM 0 k rw' ls) (chA 0 k rw' ls) ls.length := by
  have hmg : chM 0 k rw' ls = (ls.length + k - 2) / k := rfl
  have has : ∀ i, chA 0 k rw' ls i = if ls.length ≤ i then none else if i / k < (ls.length + k - 2) / k then some (i / k) else none := fun i => rfl
  rw [hmg]
  have hdiv : ∀ j, j < (ls.length + k - 2) / k → j * k + 2 ≤ ls.length := by
    intro j hj
    have h1 : j + 1 ≤ (ls.length + k - 2) / k := hj
    have h2 := (Nat.le_div_iff_mul_le (by omega)).mp h1
    rw [Nat.add_mul] at h2
    omega
  refine GA.of (fun i j e => ?_) ?_ (fun i hi => by rw [has, if_pos hi]) (fun α l hl j hj => ?_)
  · rw [has] at e
    by_cases c : ls.length ≤ i
    · rw [if_pos c] at e; cases e
    · rw [if_neg c] at e
      by_cases c2 : i / k < (ls.length + k - 2) / k
      · rw [if_pos c2] at e; injection e with e; omega
      · rw [if_neg c2] at e; cases e
  · exact (Nat.le_div_iff_mul_le (by omega)).mpr (by omega)
  · have e : pick (isM (chA 0 k rw' ls) j) l = (l.drop (j * k)).take (j * k + k - j * k) := by
      refine pick_rng l _ _ _ (fun i hi => ?_)
      unfold isM
      rw [has, if_neg (by omega)]
      have hiff : i / k = j ↔ j * k ≤ i ∧ i < j * k + k := by
        constructor
        · intro q
          subst q
          exact ⟨Nat.div_mul_le_self i k, by have := Nat.lt_div_mul_add (a := i) (b := k) (by omega); omega⟩
        · intro ⟨q1, q2⟩
          exact (Nat.div_eq_iff (by omega)).mpr ⟨q1, by omega⟩
      by_cases c : i / k < (ls.length + k - 2) / k
      · rw [if_pos c]
        by_cases c2 : i / k = j
        · rw [c2]; simp [hiff.mp c2]
        · have : ¬ (j * k ≤ i ∧ i < j * k + k) := fun q => c2 (hiff.mpr q)
          simp [c2, this]
      · rw [if_neg c]
        have : ¬ (j * k ≤ i ∧ i < j * k + k) := fun q => by have := hiff.mpr q; omega
        simp [this]
    have := hdiv j hj
    rw [e, List.length_take, List.length_drop, hl]
    omega
theorem ga_sho {k : Nat} {rw' ls : List Nat} (hn : 2 ≤ ls.length) : GA (chM 1 k rw' ls) (chA 1 k rw' ls) ls.length := by
  have hmg : chM 1 k rw' ls = 1 := rfl
  have has : ∀ i, chA 1 k rw' ls i = if ls.length ≤ i then none else if sh1 ls = some i ∨ sh2 ls = some i then some 0 else none := fun i => rfl
  obtain ⟨a, b, a1, b1, hab, ha, hb, -⟩ := sh_spec hn
  rw [hmg]
  refine GA.of (fun i j e => ?_) (Nat.le_refl _) (fun i hi => by rw [has, if_pos hi]) (fun α l hl j hj => ?_)
  · rw [has] at e
    by_cases c : ls.length ≤ i
    · rw [if_pos c] at e; cases e
    · rw [if_neg c] at e
      by_cases c2 : sh1 ls = some i ∨ sh2 ls = some i
      · rw [if_pos c2] at e; injection e with e; omega
      · rw [if_neg c2] at e; cases e
  · obtain rfl : j = 0 := by omega
    have hd : ∃ d : α, True := ⟨l[0]'(by omega), trivial⟩
    obtain ⟨d, -⟩ := hd
    have h := pick_two (d := d) (l := l) (a := a) (b := b) (by omega) (by omega) hab (p := isM (chA 1 k rw' ls) 0) (fun i hi => by
      unfold isM
      rw [has, if_neg (by omega), a1, b1]
      by_cases c : a = i
      · subst c; simp
      · by_cases c2 : b = i
        · subst c2; simp
        · have : ¬ (some a = some i ∨ some b = some i) := by simp [c, c2]
          rw [if_neg this]
          simp; omega)
    rw [h.length_eq]
    exact ⟨Nat.le_refl _, by simp⟩
theorem ga_pol {k lev : Nat} {ls : List Nat} (hk : 2 ≤ k) (hk6 : k ≤ 6) (hn : ls.length = (lvR k (lev + 1)).sum) (hn2 : 2 ≤ ls.length) : GA (chM 2 k (lvR k (lev + 1)) ls) (chA 2 k (lvR k (lev + 1)) ls) ls.length := by
  have hl := lvR_len (k := k) (by omega) lev
  have hl1 := lvR_len (k := k) (by omega) (lev + 1)
  have hmg : chM 2 k (lvR k (lev + 1)) ls = (lvR k lev).getD 0 0 := upR_last (by omega) hl
  have has : ∀ i, chA 2 k (lvR k (lev + 1)) ls i = if ls.length ≤ i then none else hAs (lvR k (lev + 1)) ((lvR k lev).getD 0 0) i := fun i => by
    show (if ls.length ≤ i then none else hAs (lvR k (lev + 1)) ((lvR k (lev + 1)).getD (k - 1) 0) i) = _
    have : (lvR k (lev + 1)).getD (k - 1) 0 = (lvR k lev).getD 0 0 := upR_last (by omega) hl
    rw [this]
  have hge : ∀ r ∈ lvR k (lev + 1), (lvR k lev).getD 0 0 ≤ r := by
    intro r hr
    obtain ⟨i, hi, rfl⟩ := mem_getD (d := 0) hr
    have := upR_getD hl (i := i) (by omega)
    show _ ≤ (upR (lvR k lev)).getD i 0
    rw [this]
    by_cases c : i + 1 < k
    · rw [if_pos c]; omega
    · rw [if_neg c]; omega
  have hpos : 1 ≤ (lvR k lev).getD 0 0 := by
    have : ∀ n, 1 ≤ (lvR k n).getD 0 0 := by
      intro n
      induction n with
      | zero => show 1 ≤ (1 :: List.replicate (k - 1) 0).getD 0 0; exact Nat.le_refl _
      | succ n ih =>
        have h := upR_getD (lvR_len (k := k) (by omega) n) (i := 0) (by omega)
        show 1 ≤ (upR (lvR k n)).getD 0 0
        rw [h, if_pos (by omega)]; omega
    exact this lev
  rw [hmg]
  refine GA.of (fun i j e => ?_) hpos (fun i hi => by rw [has, if_pos hi]) (fun α l hl2 j hj => ?_)
  · rw [has] at e
    by_cases c : ls.length ≤ i
    · rw [if_pos c] at e; cases e
    · rw [if_neg c] at e
      exact (pick_hAs (lvR k (lev + 1)) _ ls 0 hn hge hpos).2 i (by omega) j e
  · have h := (pick_hAs (lvR k (lev + 1)) _ l j (by rw [hl2, hn]) hge hj).1
    have e : pick (isM (chA 2 k (lvR k (lev + 1)) ls) j) l = pick (isM (hAs (lvR k (lev + 1)) ((lvR k lev).getD 0 0)) j) l := by
      refine pick_congr _ _ _ (fun i hi => ?_)
      unfold isM
      rw [has, if_neg (by omega)]
    rw [e, h, hl1]
    omega
/-- the rows' numbers of a pass over n runs: any, but for polyphase -/
def RW (w k : Nat) (rw' : List Nat) (n : Nat) : Prop := w = 2 → n = 0 ∨ ∃ lev, rw' = lvR k lev ∧ n = (lvR k lev).sum
theorem sum_rep0 (n : Nat) : (List.replicate n 0).sum = 0 := by
  induction n with
  | zero => rfl
  | succ n ih => rw [List.replicate_succ, List.sum_cons, ih]
theorem ga {w k : Nat} {rw' ls : List Nat} (hw : w < 3) (hk : 2 ≤ k) (hk6 : k ≤ 6) (hn : 2 ≤ ls.length) (hr : RW w k rw' ls.length) : GA (chM w k rw' ls) (chA w k rw' ls) ls.length := by
  by_cases c0 : w = 0
  · subst c0; exact ga_bal hk hk6 hn
  · by_cases c1 : w = 1
    · subst c1; exact ga_sho hn
    · obtain rfl : w = 2 := by omega
      rcases hr rfl with h | ⟨lev, h1, h2⟩
      · omega
      · cases lev with
        | zero =>
          exfalso
          rw [h2] at hn
          simp only [lvR, List.sum_cons, sum_rep0] at hn
          omega
        | succ lev => subst h1; exact ga_pol hk hk6 h2 hn
theorem grp_lenN {α : Type} (as : Nat → Option Nat) (l : List α) (mg : Nat) : (grp mg as l).length = mg := by unfold grp; rw [List.length_map, List.length_range]
theorem snoc_ind' {α : Type} {P : List α → Prop} (h0 : P []) (h1 : ∀ l x, P l → P (l ++ [x])) : ∀ l, P l := snoc_ind h0 h1
theorem stepL_len {α : Type} (comb : List α → α) (way mg : Nat) (as : Nat → Option Nat) (l : List α) : (stepL comb way mg as l).length = mg + (pick (isN as) l).length := by
  unfold stepL
  by_cases c : way = 1
  · rw [if_pos c, List.length_append, List.length_map, grp_lenN]; omega
  · rw [if_neg c, List.length_append, List.length_map, grp_lenN]
theorem pick_cnt {α : Type} : ∀ (l : List α) (p : Nat → Bool), (pick p l).length = (List.range l.length).countP p := by
  refine fun l => snoc_ind' (P := fun l => ∀ p : Nat → Bool, (pick p l).length = (List.range l.length).countP p) (fun _ => rfl) (fun l x ih p => ?_) l
  rw [pick_snoc, List.length_append, ih p, List.length_append, List.length_cons, List.length_nil, List.range_succ, List.countP_append, List.countP_cons, List.countP_nil]
  by_cases c : p l.length = true
  · rw [if_pos c, if_pos c]; rfl
  · rw [if_neg c, if_neg c]; rfl
