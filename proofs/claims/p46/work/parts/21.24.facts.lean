/-! what plans come to: balanced passes, the shortest two -/
def cdP (k : Nat) : Nat → Nat → Nat
  | 0, _ => 0
  | f + 1, n => if n ≤ 1 then 0 else cdP k f ((n + k - 1) / k) + 1
def pnG (k n : Nat) : Nat → Nat → Nat → Nat
  | 0, _, p => p
  | f + 1, r, p => if n ≤ r then p else pnG k n f (r * k) (p + 1)
theorem pn_ok : ∀ k, k < 7 → 2 ≤ k → ∀ n, n < 201 → pnG k n 20 1 0 = cdP k 200 n ∧ cdP k 200 n ≤ 10 := by decide +kernel
theorem cd_len : ∀ k, k < 7 → 2 ≤ k → ∀ n, n < 201 → 2 ≤ n → (n + k - 2) / k + (n - (n + k - 2) / k * k) = (n + k - 1) / k := by decide +kernel
theorem bal_none {k : Nat} {rw' ls : List Nat} (hk : 2 ≤ k) : (pick (isN (chA 0 k rw' ls)) ls).length = ls.length - chM 0 k rw' ls * k := by
  have hmg : chM 0 k rw' ls = (ls.length + k - 2) / k := rfl
  have has : ∀ i, chA 0 k rw' ls i = if ls.length ≤ i then none else if i / k < (ls.length + k - 2) / k then some (i / k) else none := fun i => rfl
  rw [hmg]
  have e : pick (isN (chA 0 k rw' ls)) ls = (ls.drop ((ls.length + k - 2) / k * k)).take (ls.length - (ls.length + k - 2) / k * k) := by
    refine pick_rng ls _ _ _ (fun i hi => ?_)
    unfold isN
    rw [has, if_neg (by omega)]
    have hiff : i / k < (ls.length + k - 2) / k ↔ i < (ls.length + k - 2) / k * k := Nat.div_lt_iff_lt_mul (by omega)
    by_cases c : i / k < (ls.length + k - 2) / k
    · rw [if_pos c]
      have := hiff.mp c
      simp; omega
    · rw [if_neg c]
      have := fun q => c (hiff.mpr q)
      simp; omega
  rw [e, List.length_take, List.length_drop]
  omega
theorem bal_pass {k : Nat} (hk : 2 ≤ k) (hk6 : k ≤ 6) : ∀ (f : Nat) (rw' ls : List Nat), ls.length ≤ 200 → (plGo 0 k f rw' ls).1 = cdP k f ls.length
  | 0, _, _, _ => rfl
  | f + 1, rw', ls, hl => by
    show (if ls.length ≤ 1 then ((0, 0, 0) : Nat × Nat × Nat) else _).1 = (if ls.length ≤ 1 then 0 else _)
    by_cases c : ls.length ≤ 1
    · rw [if_pos c, if_pos c]
    · rw [if_neg c, if_neg c]
      show (plGo 0 k f _ (nxL 0 k rw' ls)).1 + 1 = _
      have hmg : chM 0 k rw' ls = (ls.length + k - 2) / k := rfl
      have e : (nxL 0 k rw' ls).length = (ls.length + k - 1) / k := by
        rw [nxL_len, bal_none hk, hmg]
        exact cd_len k (by omega) hk _ (by omega) (by omega)
      have h1 : (ls.length + k - 1) / k ≤ 200 := by
        refine Nat.div_le_of_le_mul ?_
        have : 2 * 200 ≤ k * 200 := Nat.mul_le_mul_right _ hk
        have : ls.length + k - 1 ≤ 200 + k := by omega
        have : k * 200 = 200 * k := Nat.mul_comm _ _
        omega
      rw [bal_pass hk hk6 f _ _ (by rw [e]; exact h1), e]
theorem pick_mem {α : Type} {d : α} : ∀ (l : List α) (p : Nat → Bool) (y : α), y ∈ pick p l → ∃ i, i < l.length ∧ p i = true ∧ l.getD i d = y
  | [], _, _, h => absurd h (by simp [pick_nil])
  | a :: l, p, y, h => by
    rw [pick_cons] at h
    rcases List.mem_append.mp h with q | q
    · by_cases c : p 0 = true
      · rw [if_pos c] at q
        simp at q
        exact ⟨0, by simp, c, q.symm⟩
      · rw [if_neg c] at q; simp at q
    · obtain ⟨i, h1, h2, h3⟩ := pick_mem (d := d) l _ y q
      exact ⟨i + 1, by simpa using h1, h2, h3⟩
/-- the shortest way takes the two least lengths -/
theorem sho_step {k : Nat} {rw' ls : List Nat} (hn : 2 ≤ ls.length) : ∃ a b t, ls.Perm (a :: b :: t) ∧ a ≤ b ∧ (∀ x ∈ t, b ≤ x) ∧ nxL 1 k rw' ls = t ++ [a + b] ∧ (grS (chM 1 k rw' ls) (chA 1 k rw' ls) ls).sum = a + b := by
  obtain ⟨a, b, a1, b1, hab, ha, hb, hm, -, hm2, -⟩ := sh_spec hn
  have hmg : chM 1 k rw' ls = 1 := rfl
  have has : ∀ i, chA 1 k rw' ls i = if ls.length ≤ i then none else if sh1 ls = some i ∨ sh2 ls = some i then some 0 else none := fun i => rfl
  have hiff : ∀ i, i < ls.length → (isM (chA 1 k rw' ls) 0) i = (i == a || i == b) := by
    intro i hi
    unfold isM
    rw [has, if_neg (by omega), a1, b1]
    by_cases c : a = i
    · subst c; simp
    · by_cases c2 : b = i
      · subst c2; simp
      · have : ¬ (some a = some i ∨ some b = some i) := by simp [c, c2]
        rw [if_neg this]
        simp; omega
  have h2 := pick_two (d := 0) ha hb hab hiff
  have hga := ga_sho (k := k) (rw' := rw') hn
  have hp := grp_perm (chA 1 k rw' ls) ls _ (fun i _ j e => hga.1 i j e)
  have hg : (grp (chM 1 k rw' ls) (chA 1 k rw' ls) ls).flatten = pick (isM (chA 1 k rw' ls) 0) ls := by
    rw [hmg]
    show pick (isM (chA 1 k rw' ls) 0) ls ++ [] = _
    rw [List.append_nil]
  rw [hg] at hp
  have hpp : ls.Perm (ls.getD a 0 :: ls.getD b 0 :: pick (isN (chA 1 k rw' ls)) ls) := (h2.symm.append_right _ |>.trans hp).symm
  have hgs : grS (chM 1 k rw' ls) (chA 1 k rw' ls) ls = [ls.getD a 0 + ls.getD b 0] := by
    rw [hmg]
    show [(pick (isM (chA 1 k rw' ls) 0) ls).sum] = _
    rw [h2.sum_nat]
    simp
  refine ⟨ls.getD a 0, ls.getD b 0, _, hpp, hm b hb, fun x hx => ?_, ?_, ?_⟩
  · obtain ⟨i, h3, h4, rfl⟩ := pick_mem (d := 0) ls _ x hx
    refine hm2 i h3 (fun e => ?_)
    subst e
    unfold isN at h4
    rw [has, if_neg (by omega), a1, if_pos (Or.inl rfl)] at h4
    simp at h4
  · rw [nxL_eq, if_pos rfl, hgs]
  · rw [hgs]; simp
theorem sho_moves {k : Nat} : ∀ (f : Nat) (rw' ls : List Nat), ls.length ≤ f → (plGo 1 k f rw' ls).2.1 = hf (ls.length - 1) ls
  | 0, _, ls, hl => by
    rw [show ls.length - 1 = 0 by omega]; rfl
  | f + 1, rw', ls, hl => by
    show (if ls.length ≤ 1 then ((0, 0, 0) : Nat × Nat × Nat) else _).2.1 = _
    by_cases c : ls.length ≤ 1
    · rw [if_pos c, show ls.length - 1 = 0 by omega]; rfl
    · rw [if_neg c]
      show (plGo 1 k f _ (nxL 1 k rw' ls)).2.1 + _ = _
      obtain ⟨a, b, t, h1, h2, h3, h4, h5⟩ := sho_step (k := k) (rw' := rw') (ls := ls) (by omega)
      have hl2 := h1.length_eq
      simp only [List.length_cons] at hl2
      have hnl : (nxL 1 k rw' ls).length = t.length + 1 := by rw [h4]; simp
      rw [sho_moves f _ _ (by omega), h5, hnl, h4, Nat.add_sub_cancel, show ls.length - 1 = t.length + 1 by omega, hf_step h1 h2 h3, hf_perm (List.perm_append_singleton (a + b) t)]
      omega
theorem toL_ne2 {w k : Nat} (hw : w ≠ 2) (ls : List Nat) : toL w k ls = ls := by
  unfold toL arN
  rw [if_neg (fun q => hw q.1), Nat.sub_self]
  exact List.append_nil ls
theorem plan_sho {k : Nat} {ls : List Nat} (hl : ls.length ≤ 200) : (planOf 1 k ls).2.1 = hf (ls.length - 1) ls := by
  unfold planOf
  rw [toL_ne2 (by omega), sho_moves 200 _ ls hl]
theorem plan_bal {k : Nat} {ls : List Nat} (hk : 2 ≤ k) (hk6 : k ≤ 6) (hl : ls.length ≤ 200) : (planOf 0 k ls).1 = pnG k ls.length 20 1 0 := by
  unfold planOf
  rw [toL_ne2 (by omega), bal_pass hk hk6 200 _ ls hl, (pn_ok k (by omega) hk ls.length (by omega)).1]
theorem plan_le {w k : Nat} (hw : w < 3) (hk : 2 ≤ k) (hk6 : k ≤ 6) : ∀ (f : Nat) (rw' ls : List Nat), ls.length ≤ f → RW w k rw' ls.length → (plGo w k f rw' ls).1 ≤ f ∧ (plGo w k f rw' ls).2.1 ≤ f * ls.sum ∧ (plGo w k f rw' ls).2.2 + 1 ≤ ls.length + 1
  | 0, rw', ls, hl, _ => ⟨Nat.le_refl _, Nat.zero_le _, by show 0 + 1 ≤ _; omega⟩
  | f + 1, rw', ls, hl, hr => by
    show (if ls.length ≤ 1 then ((0, 0, 0) : Nat × Nat × Nat) else _).1 ≤ _ ∧ (if ls.length ≤ 1 then ((0, 0, 0) : Nat × Nat × Nat) else _).2.1 ≤ _ ∧ (if ls.length ≤ 1 then ((0, 0, 0) : Nat × Nat × Nat) else _).2.2 + 1 ≤ _
    by_cases c : ls.length ≤ 1
    · rw [if_pos c]
      exact ⟨Nat.zero_le _, Nat.zero_le _, by show 0 + 1 ≤ _; omega⟩
    · rw [if_neg c]
      have hga := ga hw hk hk6 (by omega) hr
      have g6 := (hga.2.2.2.2 Nat ls rfl).2
      have g2 := hga.2.1
      have hnl := nxL_len (w := w) (k := k) (rw' := rw') (ls := ls)
      have hRW := RW.next hk hk6 (by omega) hr
      rw [← hnl] at hRW
      obtain ⟨q1, q2, q3⟩ := plan_le hw hk hk6 f _ (nxL w k rw' ls) (by omega) hRW
      rw [nxL_sum hga] at q2
      have hgs := grS_sum (as := chA w k rw' ls) (ls := ls) (mg := chM w k rw' ls) (fun i _ j e => hga.1 i j e)
      refine ⟨?_, ?_, ?_⟩
      · show _ + 1 ≤ _; omega
      · show _ + _ ≤ _
        rw [Nat.add_mul]
        omega
      · show _ + _ + 1 ≤ _
        omega
