/-! the choice of a pass's merges -/
def MtOk (mt : Nat → Int32) (as : Nat → Option Nat) : Prop := ∀ i, i < 200 → mt i = oI (as i)
/-- lengths in an array -/
def LOk (ln : Nat → Int32) (ls : List Nat) : Prop := ls.length ≤ 200 ∧ (∀ i, i < ls.length → ln i = nI (ls.getD i 0)) ∧ ls.sum < 2 ^ 20
theorem LOk.lt {ln : Nat → Int32} {ls : List Nat} (h : LOk ln ls) (i : Nat) : ls.getD i 0 < 2 ^ 20 := Nat.lt_of_le_of_lt (getD_le_sum ls i) h.2.2
theorem mergeOf_s {mt : Nat → Int32} {as : Nat → Option Nat} {i : Nat} {Q : Int32 → Prop} (h : MtOk mt as) (hi : i < 200) (hQ : Q (oI (as i))) : wp_X3_mergeOf mt (nI i) Q := by
  unfold wp_X3_mergeOf
  refine pk_lt i 0 (fun q => absurd q (by omega)) (fun _ => ?_)
  refine pk_le 200 i (fun q => absurd q (by omega)) (fun _ => ?_)
  refine ⟨pk_in i 200 (by omega), nm_r (e' := oI (as i)) (by rw [cl_n (by omega)]; exact h i hi) ?_⟩
  exact hQ
theorem chooseGroups_s {mt : Nat → Int32} {k : Nat} {m0 : Int32} {rw' ls : List Nat} {Q : Int32 → (Nat → Int32) → Prop} (hk : 2 ≤ k) (hk6 : k ≤ 6) (hn : 2 ≤ ls.length) (hn2 : ls.length ≤ 200) (hm : MtOk mt (fun _ => none)) (h : ∀ m, MtOk m (chA 0 k rw' ls) → Q (nI (chM 0 k rw' ls)) m) : wp_X3_chooseGroups (nI k) m0 mt (nI ls.length) Q := by
  have hmg : chM 0 k rw' ls = (ls.length + k - 2) / k := rfl
  have has : ∀ i, chA 0 k rw' ls i = if ls.length ≤ i then none else if i / k < (ls.length + k - 2) / k then some (i / k) else none := fun i => rfl
  rw [hmg] at h
  have hmb : (ls.length + k - 2) / k ≤ 300 := Nat.le_trans (Nat.div_le_self _ _) (by omega)
  have hk0 : ¬ nI k = 0 := nI_ne0 (by omega) (by omega)
  unfold wp_X3_chooseGroups
  refine pk_le 2 k (fun _ => ?_) (fun q => absurd q (by omega))
  refine nm_r (e' := nI (ls.length + k)) (nI_add _ _) ?_
  refine nm_r (e' := nI (ls.length + k - 2)) (pk_sub (b := 2) (by omega)) ?_
  refine ⟨hk0, ?_⟩
  refine nm_r (e' := nI ((ls.length + k - 2) / k)) (pk_div (by omega) (by omega) (by omega)) ?_
  refine ⟨ls.length + 1, ?_⟩
  have key : ∀ (d i : Nat) (m : Nat → Int32), i + d = ls.length → (∀ q, q < i → m q = oI (chA 0 k rw' ls q)) → (∀ q, i ≤ q → q < 200 → m q = -1) → wl_X3_chooseGroups_28 (nI k) (nI ls.length) (nI ((ls.length + k - 2) / k)) (wx_X3_chooseGroups_28_72 Q (nI ((ls.length + k - 2) / k))) (d + 1) (nI i) m := by
    intro d
    induction d with
    | zero =>
      intro i m hi a1 a2
      rw [wl_X3_chooseGroups_28_s]
      refine pk_le ls.length i (fun _ => ?_) (fun q => absurd q (by omega))
      unfold wx_X3_chooseGroups_28_72
      refine h m (fun q hq => ?_)
      by_cases c : q < i
      · exact a1 q c
      · rw [a2 q (by omega) hq, has, if_pos (by omega)]; rfl
    | succ d ih =>
      intro i m hi a1 a2
      rw [wl_X3_chooseGroups_28_s]
      refine pk_le ls.length i (fun q => absurd q (by omega)) (fun _ => ?_)
      refine pk_le 200 i (fun q => absurd q (by omega)) (fun _ => ?_)
      refine ⟨hk0, ?_⟩
      have hdb : i / k ≤ i := Nat.div_le_self _ _
      have hchA := has i
      rw [if_neg (by omega)] at hchA
      refine nm_r (e' := nI (i / k)) (pk_div (by omega) (by omega) (by omega)) ?_
      refine pk_le ((ls.length + k - 2) / k) (i / k) (fun c => ?_) (fun c => ?_)
      · refine ⟨pk_in i 200 (by omega), ?_⟩
        refine nm_r (e' := nI (i + 1)) (nI_1 _) ?_
        rw [cl_n (by omega)]
        refine ih (i + 1) _ (by omega) (fun q hq => ?_) (fun q hq hq2 => ?_)
        · by_cases c9 : q = i
          · rw [c9, up_s, hchA, if_neg (by omega)]; rfl
          · rw [up_n _ c9]; exact a1 q (by omega)
        · rw [up_n _ (by omega)]; exact a2 q (by omega) hq2
      · refine ⟨pk_in i 200 (by omega), ?_⟩
        refine nm_r (e' := nI (i + 1)) (nI_1 _) ?_
        rw [cl_n (by omega)]
        refine ih (i + 1) _ (by omega) (fun q hq => ?_) (fun q hq hq2 => ?_)
        · by_cases c9 : q = i
          · rw [c9, up_s, hchA, if_pos (by omega)]; rfl
          · rw [up_n _ c9]; exact a1 q (by omega)
        · rw [up_n _ (by omega)]; exact a2 q (by omega) hq2
  exact key ls.length 0 mt (by omega) (fun q hq => absurd hq (by omega)) (fun q _ hq => hm q hq)
theorem lsS_rng {p : Nat → Bool} {l : List Nat} {n a : Nat} (h : (List.range n).foldl (lsS p l) none = some a) : a < n := ((ls_spec p l n).2 a h).1
theorem shortest_in {mt ln : Nat → Int32} {p : Nat → Bool} {ls : List Nat} {E : Int32 → Prop} (hL : LOk ln ls) (hp : ∀ i, i < ls.length → mt i = if p i then -1 else 0) (h : E (oI (ls1 p ls))) : wl_X3_chooseShortest_18 ln (nI ls.length) mt E (ls.length + 1) 0 (-1) := by
  obtain ⟨h1, h2, h3⟩ := hL
  have key : ∀ (d i : Nat), i + d = ls.length → wl_X3_chooseShortest_18 ln (nI ls.length) mt E (d + 1) (nI i) (oI ((List.range i).foldl (lsS p ls) none)) := by
    intro d
    induction d with
    | zero =>
      intro i hi
      rw [wl_X3_chooseShortest_18_s]
      refine pk_le ls.length i (fun _ => ?_) (fun q => absurd q (by omega))
      obtain rfl : i = ls.length := by omega
      exact h
    | succ d ih =>
      intro i hi
      rw [wl_X3_chooseShortest_18_s]
      refine pk_le ls.length i (fun q => absurd q (by omega)) (fun _ => ?_)
      refine pk_le 200 i (fun q => absurd q (by omega)) (fun _ => ?_)
      refine pk_le 200 i (fun q => absurd q (by omega)) (fun _ => ?_)
      have it := ih (i + 1) (by omega)
      have hb : ∀ a, (List.range i).foldl (lsS p ls) none = some a → a < i := fun a => lsS_rng
      rw [List.range_succ, List.foldl_append] at it
      generalize (List.range i).foldl (lsS p ls) none = o at it hb ⊢
      have it : wl_X3_chooseShortest_18 ln (nI ls.length) mt E (d + 1) (nI (i + 1)) (oI (lsS p ls o i)) := it
      unfold lsS at it
      have hpi := hp i (by omega)
      by_cases c : p i = true
      · rw [if_pos c] at hpi it
        refine ⟨pk_in i 200 (by omega), nm_r (e' := -1) (by rw [cl_n (by omega)]; exact hpi) ?_⟩
        refine ⟨fun _ => ?_, fun q => absurd rfl q⟩
        cases o with
        | none =>
          refine ⟨fun _ => ?_, fun q => absurd rfl q⟩
          refine nm_r (e' := nI (i + 1)) (nI_1 _) ?_
          exact it
        | some b =>
          have hbi := hb b rfl
          have l1 := Nat.lt_of_le_of_lt (getD_le_sum ls i) h3
          have l2 := Nat.lt_of_le_of_lt (getD_le_sum ls b) h3
          refine ⟨fun q => absurd q (nI_m1 (by omega)), fun _ => ?_⟩
          refine ⟨pk_in i 200 (by omega), nm_r (e' := nI (ls.getD i 0)) (by rw [cl_n (by omega)]; exact h2 i (by omega)) ?_⟩
          refine ⟨pk_in b 200 (by omega), nm_r (e' := nI (ls.getD b 0)) (by rw [oI_some, cl_n (by omega)]; exact h2 b (by omega)) ?_⟩
          refine pk_le (ls.getD b 0) (ls.getD i 0) (fun c2 => ?_) (fun c2 => ?_)
          · refine nm_r (e' := nI (i + 1)) (nI_1 _) ?_
            simp only [show ¬ ls.getD i 0 < ls.getD b 0 by omega, if_false] at it
            exact it
          · refine nm_r (e' := nI (i + 1)) (nI_1 _) ?_
            simp only [c2, if_true] at it
            exact it
      · rw [if_neg c] at hpi it
        refine ⟨pk_in i 200 (by omega), nm_r (e' := 0) (by rw [cl_n (by omega)]; exact hpi) ?_⟩
        refine ⟨fun q => absurd q (by decide), fun _ => ?_⟩
        refine nm_r (e' := nI (i + 1)) (nI_1 _) ?_
        exact it
  exact key ls.length 0 (by omega)
theorem chooseShortest_s {mt ln : Nat → Int32} {k : Nat} {rw' ls : List Nat} {Q : Int32 → (Nat → Int32) → Prop} (hn : 2 ≤ ls.length) (hL : LOk ln ls) (hm : MtOk mt (fun _ => none)) (h : ∀ m, MtOk m (chA 1 k rw' ls) → Q (nI (chM 1 k rw' ls)) m) : wp_X3_chooseShortest mt ln (nI ls.length) Q := by
  obtain ⟨a, b, a1, b1, hab, ha, hb, -⟩ := sh_spec hn
  have has : ∀ i, chA 1 k rw' ls i = if ls.length ≤ i then none else if sh1 ls = some i ∨ sh2 ls = some i then some 0 else none := fun i => rfl
  have hl2 := hL.1
  have hm : ∀ i, i < 200 → mt i = -1 := hm
  unfold wp_X3_chooseShortest
  refine ⟨3, ?_⟩
  show wl_X3_chooseShortest_7 ln (nI ls.length) (wx_X3_chooseShortest_7_96 Q) (2 + 1) (nI 0) mt
  rw [wl_X3_chooseShortest_7_s]
  refine pk_le 2 0 (fun q => absurd q (by omega)) (fun _ => ?_)
  refine ⟨ls.length + 1, shortest_in hL (p := fun _ => true) (fun i hi => hm i (by omega)) ?_⟩
  have e1 : ls1 (fun _ => true) ls = some a := a1
  rw [e1, oI_some]
  unfold wx_X3_chooseShortest_18_77
  refine pk_lt a 0 (fun q => absurd q (by omega)) (fun _ => ?_)
  refine ⟨pk_in a 200 (by omega), ?_⟩
  refine nm_r (e' := nI (0 + 1)) (nI_1 _) ?_
  rw [cl_n (by omega)]
  show wl_X3_chooseShortest_7 ln (nI ls.length) (wx_X3_chooseShortest_7_96 Q) (1 + 1) (nI 1) _
  rw [wl_X3_chooseShortest_7_s]
  refine pk_le 2 1 (fun q => absurd q (by omega)) (fun _ => ?_)
  refine ⟨ls.length + 1, shortest_in hL (p := fun q => !(sh1 ls == some q)) (fun i hi => ?_) ?_⟩
  · rw [a1]
    by_cases c : i = a
    · subst c; rw [up_s]; simp
    · rw [up_n _ c, hm i (by omega)]
      have : (!(some a == some i)) = true := by simp; omega
      rw [if_pos this]
  have e2 : ls1 (fun q => !(sh1 ls == some q)) ls = some b := b1
  rw [e2, oI_some]
  unfold wx_X3_chooseShortest_18_77
  refine pk_lt b 0 (fun q => absurd q (by omega)) (fun _ => ?_)
  refine ⟨pk_in b 200 (by omega), ?_⟩
  refine nm_r (e' := nI (1 + 1)) (nI_1 _) ?_
  rw [cl_n (by omega)]
  show wl_X3_chooseShortest_7 ln (nI ls.length) (wx_X3_chooseShortest_7_96 Q) (0 + 1) (nI 2) _
  rw [wl_X3_chooseShortest_7_s]
  refine pk_le 2 2 (fun _ => ?_) (fun q => absurd q (by omega))
  unfold wx_X3_chooseShortest_7_96
  refine h _ (fun i hi => ?_)
  rw [has, a1, b1]
  by_cases c : i = b
  · subst c
    rw [up_s, if_neg (by omega), if_pos (Or.inr rfl)]; rfl
  · rw [up_n _ c]
    by_cases c2 : i = a
    · subst c2
      rw [up_s, if_neg (by omega), if_pos (Or.inl rfl)]; rfl
    · rw [up_n _ c2, hm i hi]
      by_cases c3 : ls.length ≤ i
      · rw [if_pos c3]; rfl
      · rw [if_neg c3, if_neg]
        · rfl
        · rintro (q | q)
          · injection q with q; omega
          · injection q with q; omega
theorem hAs_at {mg : Nat} : ∀ (rows : List Nat) (row i : Nat), row < rows.length → i < rows.getD row 0 → hAs rows mg ((rows.take row).sum + i) = if i < mg then some i else none
  | [], row, i, h, _ => absurd h (by simp)
  | r :: rows, 0, i, _, hi => by
    have hi : i < r := hi
    show (if 0 + i < r then (if 0 + i < mg then some (0 + i) else none) else _) = _
    rw [Nat.zero_add, if_pos hi]
  | r :: rows, row + 1, i, h, hi => by
    have ih := hAs_at (mg := mg) rows row i (by simpa using h) hi
    show hAs (r :: rows) mg ((r :: rows.take row).sum + i) = _
    rw [List.sum_cons]
    show (if r + (rows.take row).sum + i < r then _ else hAs rows mg (r + (rows.take row).sum + i - r)) = _
    rw [if_neg (by omega), show r + (rows.take row).sum + i - r = (rows.take row).sum + i by omega]
    exact ih
theorem chooseHeads_s {mt rows : Nat → Int32} {k : Nat} {l ls : List Nat} {Q : Int32 → (Nat → Int32) → Prop} (hk : 2 ≤ k) (hk6 : k ≤ 6) (hR : RwOk rows k l) (hs : l.sum = ls.length) (hn2 : ls.length ≤ 200) (hm : MtOk mt (fun _ => none)) (h : ∀ m, MtOk m (chA 2 k l ls) → Q (nI (chM 2 k l ls)) m) : wp_X3_chooseHeads (nI k) rows mt (nI ls.length) Q := by
  obtain ⟨h1, h2, h3⟩ := hR
  have hmg : chM 2 k l ls = l.getD (k - 1) 0 := rfl
  have has : ∀ i, chA 2 k l ls i = if ls.length ≤ i then none else hAs l (l.getD (k - 1) 0) i := fun i => rfl
  rw [hmg] at h
  have hm : ∀ i, i < 200 → mt i = -1 := hm
  have hb := getD_le_sum l (k - 1)
  unfold wp_X3_chooseHeads
  refine nm_r (e' := nI (k - 1)) (pk_sub (b := 1) (by omega)) ?_
  refine pk_lt (k - 1) 0 (fun q => absurd q (by omega)) (fun _ => ?_)
  refine pk_le 6 (k - 1) (fun q => absurd q (by omega)) (fun _ => ?_)
  refine ⟨pk_in (k - 1) 6 (by omega), nm_r (e' := nI (l.getD (k - 1) 0)) (by rw [cl_n (by omega)]; exact h3 _ (by omega)) ?_⟩
  unfold wj_X3_chooseHeads_28
  refine ⟨k + 1, ?_⟩
  have outer : ∀ (d row : Nat) (m : Nat → Int32), row + d = k → (∀ q, q < (l.take row).sum → m q = oI (hAs l (l.getD (k - 1) 0) q)) → (∀ q, (l.take row).sum ≤ q → q < 200 → m q = -1) → wl_X3_chooseHeads_36 (nI k) rows (nI ls.length) (nI (l.getD (k - 1) 0)) (wx_X3_chooseHeads_36_115 Q (nI (l.getD (k - 1) 0))) (d + 1) (nI row) (nI (l.take row).sum) m := by
    intro d
    induction d with
    | zero =>
      intro row m hi a1 a2
      rw [wl_X3_chooseHeads_36_s]
      refine pk_le k row (fun _ => ?_) (fun q => absurd q (by omega))
      unfold wx_X3_chooseHeads_36_115
      rw [List.take_of_length_le (by omega)] at a1 a2
      refine h m (fun q hq => ?_)
      rw [has]
      by_cases c : ls.length ≤ q
      · rw [if_pos c, a2 q (by omega) hq]; rfl
      · rw [if_neg c]; exact a1 q (by omega)
    | succ d ih =>
      intro row m hi a1 a2
      rw [wl_X3_chooseHeads_36_s]
      refine pk_le k row (fun q => absurd q (by omega)) (fun _ => ?_)
      refine pk_le 6 row (fun q => absurd q (by omega)) (fun _ => ?_)
      have hsum := sum_take_s (l := l) (i := row) (by omega)
      have hle := sum_take_le l (row + 1)
      refine ⟨l.getD row 0 + 1, ?_⟩
      have inner : ∀ (e i : Nat) (m : Nat → Int32), i + e = l.getD row 0 → (∀ q, q < (l.take row).sum + i → m q = oI (hAs l (l.getD (k - 1) 0) q)) → (∀ q, (l.take row).sum + i ≤ q → q < 200 → m q = -1) → wl_X3_chooseHeads_55 rows (nI ls.length) (nI (l.getD (k - 1) 0)) (nI row) (wx_X3_chooseHeads_55_109 (nI row) (wl_X3_chooseHeads_36 (nI k) rows (nI ls.length) (nI (l.getD (k - 1) 0)) (wx_X3_chooseHeads_36_115 Q (nI (l.getD (k - 1) 0))) (d + 1))) (e + 1) (nI i) (nI ((l.take row).sum + i)) m := by
        intro e
        induction e with
        | zero =>
          intro i m hie b1 b2
          rw [wl_X3_chooseHeads_55_s]
          refine ⟨pk_in row 6 (by omega), nm_r (e' := nI (l.getD row 0)) (by rw [cl_n (by omega)]; exact h3 row (by omega)) ?_⟩
          refine pk_le (l.getD row 0) i (fun _ => ?_) (fun q => absurd q (by omega))
          unfold wx_X3_chooseHeads_55_109
          refine nm_r (e' := nI (row + 1)) (nI_1 _) ?_
          have q1 : (l.take row).sum + i = (l.take (row + 1)).sum := by omega
          rw [q1] at b1 b2 ⊢
          exact ih (row + 1) m (by omega) b1 b2
        | succ e ihe =>
          intro i m hie b1 b2
          rw [wl_X3_chooseHeads_55_s]
          refine ⟨pk_in row 6 (by omega), nm_r (e' := nI (l.getD row 0)) (by rw [cl_n (by omega)]; exact h3 row (by omega)) ?_⟩
          refine pk_le (l.getD row 0) i (fun q => absurd q (by omega)) (fun _ => ?_)
          refine pk_le ls.length ((l.take row).sum + i) (fun q => absurd q (by omega)) (fun _ => ?_)
          refine pk_le 200 ((l.take row).sum + i) (fun q => absurd q (by omega)) (fun _ => ?_)
          have hat := hAs_at (mg := l.getD (k - 1) 0) l row i (by omega) (by omega)
          refine pk_le (l.getD (k - 1) 0) i (fun c => ?_) (fun c => ?_)
          · refine ⟨pk_in ((l.take row).sum + i) 200 (by omega), ?_⟩
            refine nm_r (e' := nI (((l.take row).sum + i) + 1)) (nI_1 _) ?_
            refine nm_r (e' := nI (i + 1)) (nI_1 _) ?_
            rw [cl_n (by omega)]
            refine ihe (i + 1) _ (by omega) (fun q hq => ?_) (fun q hq hq2 => ?_)
            · by_cases c9 : q = (l.take row).sum + i
              · rw [c9, up_s, hat, if_neg (by omega)]; rfl
              · rw [up_n _ c9]; exact b1 q (by omega)
            · rw [up_n _ (by omega)]; exact b2 q (by omega) hq2
          · refine ⟨pk_in ((l.take row).sum + i) 200 (by omega), ?_⟩
            refine nm_r (e' := nI (((l.take row).sum + i) + 1)) (nI_1 _) ?_
            refine nm_r (e' := nI (i + 1)) (nI_1 _) ?_
            rw [cl_n (by omega)]
            refine ihe (i + 1) _ (by omega) (fun q hq => ?_) (fun q hq hq2 => ?_)
            · by_cases c9 : q = (l.take row).sum + i
              · rw [c9, up_s, hat, if_pos (by omega)]; rfl
              · rw [up_n _ c9]; exact b1 q (by omega)
            · rw [up_n _ (by omega)]; exact b2 q (by omega) hq2
      exact inner _ 0 m (by omega) a1 a2
  exact outer k 0 mt (by omega) (fun q hq => absurd hq (by simp)) (fun q _ hq => hm q hq)
theorem choose_s {mt ln rows : Nat → Int32} {w k : Nat} {m0 : Int32} {l ls : List Nat} {Q : Int32 → (Nat → Int32) → Prop} (hw : w < 3) (hk : 2 ≤ k) (hk6 : k ≤ 6) (hn : 2 ≤ ls.length) (hL : LOk ln ls) (hR : w = 2 → RwOk rows k l ∧ l.sum = ls.length) (h : ∀ m, MtOk m (chA w k l ls) → Q (nI (chM w k l ls)) m) : wp_X3_choose (nI w) (nI k) m0 rows mt ln (nI ls.length) Q := by
  have hn2 := hL.1
  have fin : ∀ m, MtOk m (fun _ => none) → wx_X3_choose_2_22 (nI w) (nI k) m0 rows ln (nI ls.length) Q m := by
    intro m hm
    unfold wx_X3_choose_2_22
    refine nm_r (e' := nI ls.length) (min200 hn2) ?_
    refine pk_eq w 0 (fun c => ?_) (fun c => ?_)
    · subst c; exact chooseGroups_s (rw' := l) hk hk6 hn hn2 hm h
    · refine pk_eq w 1 (fun c2 => ?_) (fun c2 => ?_)
      · subst c2; exact chooseShortest_s (k := k) (rw' := l) hn hL hm h
      · obtain rfl : w = 2 := by omega
        obtain ⟨r1, r2⟩ := hR rfl
        exact chooseHeads_s hk hk6 r1 r2 hn2 hm h
  unfold wp_X3_choose
  refine ⟨201, ?_⟩
  have key : ∀ (d i : Nat) (m : Nat → Int32), i + d = 200 → (∀ q, q < i → m q = -1) → wl_X3_choose_2 (wx_X3_choose_2_22 (nI w) (nI k) m0 rows ln (nI ls.length) Q) (d + 1) (nI i) m := by
    intro d
    induction d with
    | zero =>
      intro i m hi a1
      rw [wl_X3_choose_2_s]
      refine pk_le 200 i (fun _ => ?_) (fun q => absurd q (by omega))
      exact fin m (fun q hq => a1 q (by omega))
    | succ d ih =>
      intro i m hi a1
      rw [wl_X3_choose_2_s]
      refine pk_le 200 i (fun q => absurd q (by omega)) (fun _ => ?_)
      refine ⟨pk_in i 200 (by omega), ?_⟩
      refine nm_r (e' := nI (i + 1)) (nI_1 _) ?_
      rw [cl_n (by omega)]
      refine ih (i + 1) _ (by omega) (fun q hq => ?_)
      by_cases c9 : q = i
      · rw [c9, up_s]
      · rw [up_n _ c9]; exact a1 q (by omega)
  exact key 200 0 mt (by omega) (fun q hq => absurd hq (by omega))
theorem close_any {rows : Nat → Int32} {k : Nat} {mg : Int32} {Q : (Nat → Int32) → Prop} (hk : 2 ≤ k) (hk6 : k ≤ 6) (h : ∀ r, r 0 = mg → (∀ i, 0 < i → i < k → r i = rows (i - 1) - mg) → Q r) : wp_X3_close (nI k) mg rows Q := by
  unfold wp_X3_close
  refine nm_r (e' := nI k) (min6 hk6) ?_
  refine nm_r (e' := nI (k - 1)) (pk_sub (b := 1) (by omega)) ?_
  refine ⟨k, ?_⟩
  have key : ∀ (i : Nat) (r : Nat → Int32), i < k → (∀ q, q ≤ i → r q = rows q) → (∀ q, i < q → q < k → r q = rows (q - 1) - mg) → wl_X3_close_12 mg (wx_X3_close_12_41 mg Q) (i + 1) (nI i) r := by
    intro i
    induction i with
    | zero =>
      intro r hi a1 a2
      rw [wl_X3_close_12_s]
      refine pk_le 0 0 (fun _ => ?_) (fun q => absurd q (by omega))
      unfold wx_X3_close_12_41
      refine h _ ?_ (fun q hq hq2 => ?_)
      · rw [show (0 : Int32).toNatClampNeg = 0 from rfl, up_s]
      · rw [show (0 : Int32).toNatClampNeg = 0 from rfl, up_n _ (by omega)]
        exact a2 q hq hq2
    | succ i ih =>
      intro r hi a1 a2
      rw [wl_X3_close_12_s]
      refine pk_le (i + 1) 0 (fun q => absurd q (by omega)) (fun _ => ?_)
      refine nm_r (e' := nI i) (nI_pred i) ?_
      refine ⟨pk_in i 6 (by omega), nm_r (e' := rows i) (by rw [cl_n (by omega)]; exact a1 i (by omega)) ?_⟩
      refine nm_r rfl ?_
      refine ⟨pk_in (i + 1) 6 (by omega), ?_⟩
      refine nm_r (e' := nI i) (pk_m1 i) ?_
      rw [cl_n (by omega)]
      refine ih _ (by omega) (fun q hq => ?_) (fun q hq hq2 => ?_)
      · rw [up_n _ (by omega)]; exact a1 q (by omega)
      · by_cases c9 : q = i + 1
        · rw [c9, up_s]; rfl
        · rw [up_n _ c9]; exact a2 q (by omega) hq2
  obtain ⟨k0, rfl⟩ : ∃ z, k = z + 1 := ⟨k - 1, by omega⟩
  exact key k0 rows (by omega) (fun _ _ => rfl) (fun q hq hq2 => absurd hq (by omega))
/-- closing a pass of polyphase -/
theorem RwOk.close {rows r : Nat → Int32} {k mg : Nat} {l : List Nat} (hk : 2 ≤ k) (hR : RwOk rows k l) (hmg : mg < 2 ^ 20) (hge : ∀ i, i + 1 < k → mg ≤ l.getD i 0) (hs : (clR mg l).sum < 2 ^ 20) (h0 : r 0 = nI mg) (h1 : ∀ i, 0 < i → i < k → r i = rows (i - 1) - nI mg) : RwOk r k (clR mg l) := by
  obtain ⟨g1, g2, g3⟩ := hR
  refine ⟨by unfold clR; simp; omega, hs, fun i hi => ?_⟩
  cases i with
  | zero => rw [h0]; rfl
  | succ i =>
    rw [h1 (i + 1) (by omega) hi]
    show rows i - nI mg = nI ((l.dropLast.map (fun r => r - mg)).getD i 0)
    have e : (l.dropLast.map (fun r => r - mg)).getD i 0 = l.getD i 0 - mg := by
      rw [List.getD_eq_getElem?_getD, List.getElem?_map, List.getElem?_dropLast, if_pos (by omega), List.getD_eq_getElem?_getD (l := l), List.getElem?_eq_getElem (by omega)]; rfl
    rw [e, g3 i (by omega)]
    exact pk_sub (hge i hi)
