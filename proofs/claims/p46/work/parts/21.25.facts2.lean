/-! a pass by hand: the chunks of a balanced one, the rows of polyphase -/
def chS (k : Nat) (ls : List Nat) (j : Nat) : Nat := ((ls.drop (j * k)).take k).sum
theorem div_is {i j k : Nat} (hk : 0 < k) : (j * k ≤ i ∧ i < j * k + k) ↔ i / k = j := by
  have h1 := Nat.le_div_iff_mul_le (x := j) (y := i) hk
  have h2 := Nat.div_lt_iff_lt_mul (x := i) (y := j + 1) hk
  rw [Nat.add_mul, Nat.one_mul] at h2
  constructor
  · rintro ⟨a, b⟩
    have := h1.mpr a
    have := h2.mpr b
    omega
  · intro e
    exact ⟨h1.mp (by omega), h2.mp (by omega)⟩
theorem bal_grp {k j : Nat} {rw' ls : List Nat} (hk : 2 ≤ k) (hj : j < chM 0 k rw' ls) : pick (isM (chA 0 k rw' ls) j) ls = (ls.drop (j * k)).take k := by
  have hj : j < (ls.length + k - 2) / k := hj
  have := pick_rng ls (j * k) (j * k + k) (isM (chA 0 k rw' ls) j) (fun i hi => by
    rw [show decide (j * k ≤ i ∧ i < j * k + k) = decide (i / k = j) from decide_eq_decide.mpr (div_is (by omega))]
    unfold isM chA
    rw [if_neg (by omega), if_pos rfl]
    by_cases c : i / k < (ls.length + k - 2) / k
    · rw [if_pos c]
      by_cases c2 : i / k = j
      · simp [c2]
      · simp [c2]
    · rw [if_neg c]
      have c2 : ¬ i / k = j := by omega
      simp [c2])
  rw [this, Nat.add_sub_cancel_left]
theorem bal_rest {k : Nat} {rw' ls : List Nat} (hk : 2 ≤ k) : pick (isN (chA 0 k rw' ls)) ls = ls.drop (chM 0 k rw' ls * k) := by
  have hm : chM 0 k rw' ls = (ls.length + k - 2) / k := rfl
  have := pick_rng ls ((ls.length + k - 2) / k * k) ls.length (isN (chA 0 k rw' ls)) (fun i hi => by
    have h1 := Nat.le_div_iff_mul_le (x := (ls.length + k - 2) / k) (y := i) (k := k) (by omega)
    unfold isN chA
    rw [if_neg (by omega), if_pos rfl]
    by_cases c : i / k < (ls.length + k - 2) / k
    · rw [if_pos c, decide_eq_false (fun q => absurd (h1.mpr q.1) (by omega))]; rfl
    · rw [if_neg c, decide_eq_true ⟨h1.mp (by omega), hi⟩]; rfl)
  rw [this, hm, List.take_of_length_le (by rw [List.length_drop]; omega)]
theorem bal_grS {k : Nat} {rw' ls : List Nat} (hk : 2 ≤ k) : grS (chM 0 k rw' ls) (chA 0 k rw' ls) ls = (List.range (chM 0 k rw' ls)).map (chS k ls) := by
  unfold grS grp
  rw [List.map_map]
  refine List.map_congr_left (fun j hj => ?_)
  have hj := List.mem_range.mp hj
  show (pick (isM (chA 0 k rw' ls) j) ls).sum = chS k ls j
  rw [bal_grp hk hj]; rfl
/-- a balanced pass: the sums of the chunks -/
theorem bal_nx {k : Nat} {rw' ls : List Nat} (hk : 2 ≤ k) (hn : 2 ≤ ls.length) : nxL 0 k rw' ls = (List.range ((ls.length + k - 1) / k)).map (chS k ls) := by
  rw [nxL_eq, if_neg (by omega), bal_grS hk, bal_rest hk]
  have hm : chM 0 k rw' ls = (ls.length + k - 2) / k := rfl
  rw [hm]
  generalize hq : (ls.length + k - 2) / k = mg
  have d1 := (div_is (i := ls.length + k - 2) (j := mg) (k := k) (by omega)).mpr hq
  by_cases c : ls.length ≤ mg * k
  · have e : (ls.length + k - 1) / k = mg := (div_is (by omega)).mp ⟨by omega, by omega⟩
    rw [e, List.drop_of_length_le c, List.append_nil]
  · have e : (ls.length + k - 1) / k = mg + 1 := (div_is (by omega)).mp ⟨by rw [Nat.add_mul, Nat.one_mul]; omega, by rw [Nat.add_mul, Nat.one_mul]; omega⟩
    rw [e, List.range_succ, List.map_append]
    congr 1
    have hl : (ls.drop (mg * k)).length = 1 := by rw [List.length_drop]; omega
    obtain ⟨x, hx⟩ : ∃ x, ls.drop (mg * k) = [x] := List.length_eq_one_iff.mp hl
    show ls.drop (mg * k) = [((ls.drop (mg * k)).take k).sum]
    rw [hx]
    obtain ⟨k', rfl⟩ : ∃ k', k = k' + 1 := ⟨k - 1, by omega⟩
    simp
/-- the j-th chunk holds at least two -/
theorem bal_two {k n j : Nat} (hk : 2 ≤ k) (hn : 2 ≤ n) : j < (n + k - 2) / k ↔ j * k + 1 < n := by
  have h := Nat.le_div_iff_mul_le (x := j + 1) (y := n + k - 2) (k := k) (by omega)
  rw [Nat.add_mul, Nat.one_mul] at h
  constructor
  · intro q
    have := h.mp (by omega)
    omega
  · intro q
    have := h.mpr (by omega)
    omega
/-- polyphase: the class's list is the rows one behind another -/
theorem pick_hR {α : Type} {d : α} {mg j : Nat} (hj : j < mg) : ∀ (R : List (List α)), (∀ r ∈ R, mg ≤ r.length) → pick (isM (hAs (R.map List.length) mg) j) R.flatten = R.map (fun r => r.getD j d)
  | [], _ => rfl
  | r :: R, h => by
    have hr := h r List.mem_cons_self
    rw [List.flatten_cons, pick_app]
    have e1 : pick (isM (hAs ((r :: R).map List.length) mg) j) r = [r.getD j d] := by
      rw [pick_congr r _ (fun i => i == j) (fun i hi => ?_), pick_one (d := d), if_pos (by omega)]
      show (hAs (r.length :: R.map List.length) mg i == some j) = (i == j)
      unfold hAs
      rw [if_pos hi]
      by_cases c : i < mg
      · rw [if_pos c]; simp
      · rw [if_neg c]
        have c2 : ¬ i = j := by omega
        simp [c2]
    have e2 : pick (fun i => isM (hAs ((r :: R).map List.length) mg) j (i + r.length)) R.flatten = pick (isM (hAs (R.map List.length) mg) j) R.flatten := by
      refine pick_congr _ _ _ (fun i _ => ?_)
      show (hAs (r.length :: R.map List.length) mg (i + r.length) == some j) = _
      rw [show hAs (r.length :: R.map List.length) mg (i + r.length) = hAs (R.map List.length) mg i by
        rw [hAs, if_neg (by omega), Nat.add_sub_cancel]]
      rfl
    rw [e1, e2, pick_hR hj R (fun q hq => h q (List.mem_cons_of_mem _ hq))]
    rfl
theorem pick_hN {α : Type} {mg : Nat} : ∀ (R : List (List α)), (∀ r ∈ R, mg ≤ r.length) → pick (isN (hAs (R.map List.length) mg)) R.flatten = (R.map (List.drop mg)).flatten
  | [], _ => rfl
  | r :: R, h => by
    have hr := h r List.mem_cons_self
    rw [List.flatten_cons, pick_app]
    have e1 : pick (isN (hAs ((r :: R).map List.length) mg)) r = r.drop mg := by
      rw [pick_rng r mg r.length _ (fun i hi => ?_), List.take_of_length_le (by rw [List.length_drop]; omega)]
      show (hAs (r.length :: R.map List.length) mg i == none) = _
      rw [hAs, if_pos hi]
      by_cases c : i < mg
      · rw [if_pos c, decide_eq_false (by omega)]; rfl
      · rw [if_neg c, decide_eq_true ⟨by omega, hi⟩]; rfl
    have e2 : pick (fun i => isN (hAs ((r :: R).map List.length) mg) (i + r.length)) R.flatten = pick (isN (hAs (R.map List.length) mg)) R.flatten := by
      refine pick_congr _ _ _ (fun i _ => ?_)
      show (hAs (r.length :: R.map List.length) mg (i + r.length) == none) = _
      rw [show hAs (r.length :: R.map List.length) mg (i + r.length) = hAs (R.map List.length) mg i by
        rw [hAs, if_neg (by omega), Nat.add_sub_cancel]]
      rfl
    rw [e1, e2, pick_hN R (fun q hq => h q (List.mem_cons_of_mem _ hq))]
    rfl
/-- a step of polyphase by rows -/
def ppM (R : List (List Nat)) (mg : Nat) : List Nat := (List.range mg).map (fun j => (R.map (fun r => r.getD j 0)).sum)
def ppS (R : List (List Nat)) (mg : Nat) : List (List Nat) := ppM R mg :: R.dropLast.map (List.drop mg)
theorem pp_chA {k i : Nat} {R : List (List Nat)} (hi : i < R.flatten.length) : chA 2 k (R.map List.length) R.flatten i = hAs (R.map List.length) ((R.map List.length).getD (k - 1) 0) i := by
  unfold chA
  rw [if_neg (by omega), if_neg (by omega), if_neg (by omega)]
theorem pp_grS {k mg : Nat} {R : List (List Nat)} (hm : (R.map List.length).getD (k - 1) 0 = mg) (h : ∀ r ∈ R, mg ≤ r.length) : grS (chM 2 k (R.map List.length) R.flatten) (chA 2 k (R.map List.length) R.flatten) R.flatten = ppM R mg := by
  have hc : chM 2 k (R.map List.length) R.flatten = mg := hm
  rw [hc]
  unfold grS grp ppM
  rw [List.map_map]
  refine List.map_congr_left (fun j hj => ?_)
  have hj := List.mem_range.mp hj
  show (pick (isM (chA 2 k (R.map List.length) R.flatten) j) R.flatten).sum = _
  rw [pick_congr R.flatten _ (isM (hAs (R.map List.length) mg) j) (fun i hi => by unfold isM; rw [pp_chA hi, hm]), pick_hR (d := 0) hj R h]
theorem pp_nx {k mg : Nat} {R : List (List Nat)} (hk : R.length = k) (hk2 : 2 ≤ k) (hm : (R.map List.length).getD (k - 1) 0 = mg) (h : ∀ r ∈ R, mg ≤ r.length) : nxL 2 k (R.map List.length) R.flatten = (ppS R mg).flatten := by
  rw [nxL_eq, if_neg (by omega), pp_grS hm h, pick_congr R.flatten _ (isN (hAs (R.map List.length) mg)) (fun i hi => by unfold isN; rw [pp_chA hi, hm]), pick_hN R h]
  unfold ppS
  rw [List.flatten_cons]
  congr 1
  obtain ⟨R0, r0, rfl⟩ : ∃ R0 r0, R = R0 ++ [r0] := split_last (by intro e; rw [e] at hk; simp at hk; omega)
  have hl : r0.length = mg := by
    rw [List.length_append, List.length_singleton] at hk
    rw [List.map_append, getD_app_r (by rw [List.length_map]; omega), List.length_map, show k - 1 - R0.length = 0 by omega] at hm
    exact hm
  rw [List.dropLast_concat, List.map_append, List.flatten_append]
  simp [← hl]
theorem pp_len {k mg : Nat} {R : List (List Nat)} (h : ∀ r ∈ R, mg ≤ r.length) : (ppS R mg).map List.length = clR mg (R.map List.length) := by
  unfold ppS clR
  rw [List.map_cons]
  congr 1
  · unfold ppM; rw [List.length_map, List.length_range]
  · rw [← List.map_dropLast, List.map_map, List.map_map]
    refine List.map_congr_left (fun r _ => ?_)
    show (r.drop mg).length = r.length - mg
    exact List.length_drop
