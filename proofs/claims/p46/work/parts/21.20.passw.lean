/-! the pass's methods -/
theorem sum_mapadd (f : Nat) : ∀ t : List Nat, (t.map (fun r => f + r)).sum = t.length * f + t.sum
  | [] => by simp
  | a :: t => by
    rw [List.map_cons, List.sum_cons, sum_mapadd f t, List.sum_cons, List.length_cons, Nat.add_mul]
    omega
theorem upR_sum {k : Nat} {rows : List Nat} (hk : 1 ≤ k) (hl : rows.length = k) : (upR rows).sum + rows.getD 0 0 = k * rows.getD 0 0 + rows.sum := by
  obtain ⟨a, t, rfl⟩ : ∃ a t, rows = a :: t := by
    cases rows with
    | nil => simp at hl; omega
    | cons a t => exact ⟨a, t, rfl⟩
  show ((t.map (fun r => a + r)) ++ [a]).sum + a = k * a + (a :: t).sum
  rw [List.sum_append_nat, sum_mapadd, List.sum_cons, List.sum_cons, List.sum_nil]
  rw [List.length_cons] at hl
  subst hl
  rw [Nat.add_mul]
  omega
theorem grp_lenE {α : Type} (as : Nat → Option Nat) (l : List α) (k : Nat) : ∀ mg, (∀ j, j < mg → (pick (isM as j) l).length = k) → (grp mg as l).flatten.length = mg * k := by
  intro mg
  induction mg with
  | zero => intro _; rw [Nat.zero_mul]; rfl
  | succ n ih =>
    intro h
    have h1 := ih (fun j hj => h j (by omega))
    have h2 := h n (by omega)
    have e : (grp (n + 1) as l).flatten.length = (grp n as l).flatten.length + (pick (isM as n) l).length := by
      unfold grp
      rw [List.range_succ, List.map_append, List.flatten_append, List.length_append]
      congr 1
      show (pick (isM as n) l ++ []).length = _
      rw [List.append_nil]
    rw [e, h1, h2, Nat.add_mul, Nat.one_mul]
theorem RW.next {w k : Nat} {rw' ls : List Nat} (hk : 2 ≤ k) (hk6 : k ≤ 6) (hn : 2 ≤ ls.length) (h : RW w k rw' ls.length) : RW w k (clR (chM w k rw' ls) rw') (chM w k rw' ls + (pick (isN (chA w k rw' ls)) ls).length) := by
  intro hw
  subst hw
  rcases h rfl with q | ⟨lev, h1, h2⟩
  · omega
  · cases lev with
    | zero =>
      exfalso
      rw [h2] at hn
      simp only [lvR, List.sum_cons, sum_rep0] at hn
      omega
    | succ lev =>
      subst h1
      right
      have hl := lvR_len (k := k) (by omega) lev
      have hl1 := lvR_len (k := k) (by omega) (lev + 1)
      have hmg : chM 2 k (lvR k (lev + 1)) ls = (lvR k lev).getD 0 0 := upR_last (by omega) hl
      have hga := ga_pol (k := k) (lev := lev) hk hk6 h2 hn
      obtain ⟨g1, g2, -, -, -⟩ := hga
      have hge : ∀ r ∈ lvR k (lev + 1), (lvR k lev).getD 0 0 ≤ r := by
        intro r hr
        obtain ⟨i, hi, rfl⟩ := mem_getD (d := 0) hr
        have := upR_getD hl (i := i) (by omega)
        show _ ≤ (upR (lvR k lev)).getD i 0
        rw [this]
        by_cases c : i + 1 < k
        · rw [if_pos c]; omega
        · rw [if_neg c]; omega
      have hpk : ∀ j, j < chM 2 k (lvR k (lev + 1)) ls → (pick (isM (chA 2 k (lvR k (lev + 1)) ls) j) ls).length = k := by
        intro j hj
        rw [hmg] at hj
        have h := (pick_hAs (lvR k (lev + 1)) _ ls j h2 hge hj).1
        have e : pick (isM (chA 2 k (lvR k (lev + 1)) ls) j) ls = pick (isM (hAs (lvR k (lev + 1)) ((lvR k lev).getD 0 0)) j) ls := by
          refine pick_congr _ _ _ (fun i hi => ?_)
          unfold isM
          show ((if ls.length ≤ i then none else hAs (lvR k (lev + 1)) ((lvR k (lev + 1)).getD (k - 1) 0) i) == some j) = _
          have e2 : (lvR k (lev + 1)).getD (k - 1) 0 = (lvR k lev).getD 0 0 := upR_last (by omega) hl
          rw [if_neg (by omega), e2]
        rw [e, h, hl1]
      have q1 := (grp_perm _ ls _ (fun i _ j e => g1 i j e)).length_eq
      rw [List.length_append, grp_lenE _ ls k _ hpk, hmg, h2] at q1
      have q2 := upR_sum (k := k) (by omega) hl
      have q2 : (lvR k (lev + 1)).sum + (lvR k lev).getD 0 0 = k * (lvR k lev).getD 0 0 + (lvR k lev).sum := q2
      refine ⟨lev, by rw [hmg]; exact clR_up (by omega) hl, ?_⟩
      rw [hmg]
      rw [Nat.mul_comm] at q2
      omega
/-- the rows' numbers stand in their array -/
def RwOk (rows : Nat → Int32) (k : Nat) (l : List Nat) : Prop := l.length = k ∧ l.sum < 2 ^ 20 ∧ ∀ i, i < k → rows i = nI (l.getD i 0)
theorem getD_le_sum : ∀ (l : List Nat) (i : Nat), l.getD i 0 ≤ l.sum
  | [], i => by rw [List.getD_eq_getElem?_getD]; simp
  | a :: l, 0 => by show a ≤ _; rw [List.sum_cons]; omega
  | a :: l, i + 1 => by
    have := getD_le_sum l i
    show l.getD i 0 ≤ _
    rw [List.sum_cons]; omega
theorem sum_take_s {l : List Nat} {i : Nat} (h : i < l.length) : (l.take (i + 1)).sum = (l.take i).sum + l.getD i 0 := by
  rw [take_snoc h, List.sum_append_nat, List.sum_cons, List.sum_nil, Nat.add_zero]
theorem sum_take_le (l : List Nat) (i : Nat) : (l.take i).sum ≤ l.sum := by
  have h : (l.take i ++ l.drop i).sum = l.sum := by rw [List.take_append_drop]
  rw [List.sum_append_nat] at h
  omega
theorem raiseLevel_s {rows : Nat → Int32} {k : Nat} {l : List Nat} {Q : Int32 → (Nat → Int32) → Prop} (hk : 2 ≤ k) (hk6 : k ≤ 6) (hR : RwOk rows k l) (hs : (upR l).sum < 2 ^ 20) (h : ∀ r, RwOk r k (upR l) → Q (nI (upR l).sum) r) : wp_X3_raiseLevel (nI k) rows Q := by
  obtain ⟨h1, h2, h3⟩ := hR
  have hul : (upR l).length = k := by
    simp only [upR, List.length_append, List.length_map, List.length_drop, List.length_cons, List.length_nil]
    omega
  unfold wp_X3_raiseLevel
  refine nm_r (e' := nI (l.getD 0 0)) (h3 0 (by omega)) ?_
  refine ⟨k + 1, ?_⟩
  have key : ∀ (d i : Nat) (r : Nat → Int32), i + d = k → (∀ q, q < i → r q = nI ((upR l).getD q 0)) → (∀ q, i ≤ q → r q = rows q) → wl_X3_raiseLevel_11 (nI k) (nI (l.getD 0 0)) (wx_X3_raiseLevel_11_90 Q) (d + 1) (nI i) (nI ((upR l).take i).sum) r := by
    intro d
    induction d with
    | zero =>
      intro i r hi a1 a2
      rw [wl_X3_raiseLevel_11_s]
      refine pk_le k i (fun _ => ?_) (fun q => absurd q (by omega))
      unfold wx_X3_raiseLevel_11_90
      rw [List.take_of_length_le (by omega)]
      exact h r ⟨hul, hs, fun q hq => a1 q (by omega)⟩
    | succ d ih =>
      intro i r hi a1 a2
      rw [wl_X3_raiseLevel_11_s]
      refine pk_le k i (fun q => absurd q (by omega)) (fun _ => ?_)
      refine pk_le 6 i (fun q => absurd q (by omega)) (fun _ => ?_)
      have hu := upR_getD h1 (i := i) (by omega)
      have b0 := getD_le_sum l 0
      have b1 := getD_le_sum l (i + 1)
      have b2 := getD_le_sum (upR l) i
      have b3 := sum_take_le (upR l) i
      have fin : wj_X3_raiseLevel_74 (nI i) (nI ((upR l).take i).sum) r (wl_X3_raiseLevel_11 (nI k) (nI (l.getD 0 0)) (wx_X3_raiseLevel_11_90 Q) (d + 1)) (nI ((upR l).getD i 0)) := by
        unfold wj_X3_raiseLevel_74
        refine ⟨pk_in i 6 (by omega), ?_⟩
        refine ⟨pk_in i 6 (by omega), ?_⟩
        rw [cl_n (by omega)]
        refine nm_r (e' := nI ((upR l).getD i 0)) (up_s _ _ _) ?_
        refine nm_r (e' := nI ((upR l).take (i + 1)).sum) (by rw [nI_add, sum_take_s (by omega)]) ?_
        refine nm_r (e' := nI (i + 1)) (nI_1 _) ?_
        refine ih (i + 1) _ (by omega) (fun q hq => ?_) (fun q hq => ?_)
        · by_cases c : q = i
          · rw [c, up_s]
          · rw [up_n _ c]; exact a1 q (by omega)
        · rw [up_n _ (by omega)]; exact a2 q (by omega)
      refine nm_r (e' := nI (i + 1)) (nI_1 _) ?_
      refine pk_le k (i + 1) (fun c => ?_) (fun c => ?_)
      · unfold wj_X3_raiseLevel_43 wj_X3_raiseLevel_48
        refine ⟨fun q => (by cases q), fun _ => ?_⟩
        rw [if_neg (by omega)] at hu
        rw [hu] at fin
        exact fin
      · refine nm_r (e' := nI (i + 1)) (nI_1 _) ?_
        refine pk_lt (i + 1) 6 (fun _ => ?_) (fun q => absurd q (by omega))
        unfold wj_X3_raiseLevel_48
        refine ⟨fun _ => ?_, fun q => by cases q⟩
        refine nm_r (e' := nI (i + 1)) (nI_1 _) ?_
        refine ⟨pk_in (i + 1) 6 (by omega), ?_⟩
        rw [cl_n (by omega)]
        refine nm_r (e' := nI (l.getD (i + 1) 0)) (by rw [a2 _ (by omega)]; exact h3 _ (by omega)) ?_
        refine nm_r (e' := nI ((upR l).getD i 0)) (by rw [nI_add, hu, if_pos (by omega)]) ?_
        exact fin
  exact key k 0 rows (by omega) (fun q hq => absurd hq (by omega)) (fun _ _ => rfl)
theorem lvGo_le {k r : Nat} : ∀ f n, lvGo k r f n ≤ n + f ∧ n ≤ lvGo k r f n
  | 0, n => ⟨Nat.le_refl _, Nat.le_refl _⟩
  | f + 1, n => by
    have h := lvGo_le (k := k) (r := r) f (n + 1)
    show (if r ≤ (lvR k n).sum then n else lvGo k r f (n + 1)) ≤ _ ∧ n ≤ (if r ≤ (lvR k n).sum then n else lvGo k r f (n + 1))
    by_cases c : r ≤ (lvR k n).sum
    · rw [if_pos c]; omega
    · rw [if_neg c]; omega
/-- how many runs there are to merge, and the rows' numbers at first -/
def arN (w k n : Nat) : Nat := if w = 2 ∧ n ≠ 0 then (lvR k (lvN k n)).sum else n
def arL (w k n : Nat) : Nat := if w = 2 ∧ n ≠ 0 then lvN k n else 0
def arR (k n : Nat) : List Nat := lvR k (lvN k n)
theorem arN_ok {w k n : Nat} (hk : 2 ≤ k) (hk6 : k ≤ 6) (hn : n ≤ 100) : n ≤ arN w k n ∧ arN w k n ≤ 200 ∧ (arN w k n ≤ 1 ↔ n ≤ 1) ∧ RW w k (arR k n) (arN w k n) := by
  obtain ⟨h1, h2, h3, h4⟩ := lv_ok k (by omega) hk n (by omega)
  unfold arN
  by_cases c : w = 2 ∧ n ≠ 0
  · rw [if_pos c]
    refine ⟨h1, h2, ⟨fun q => by omega, fun q => ?_⟩, fun _ => Or.inr ⟨_, rfl, rfl⟩⟩
    have e : lvN k n = 0 := by
      unfold lvN
      show (if n ≤ (lvR k 0).sum then 0 else _) = 0
      have : (lvR k 0).sum = 1 := by simp only [lvR, List.sum_cons, sum_rep0]
      rw [if_pos (by omega)]
    rw [e]
    simp only [lvR, List.sum_cons, sum_rep0]
    omega
  · rw [if_neg c]
    refine ⟨Nat.le_refl _, by omega, Iff.rfl, fun hw => Or.inl ?_⟩
    rcases Nat.eq_zero_or_pos n with q | q
    · exact q
    · exact absurd ⟨hw, by omega⟩ c
theorem min6 {k : Nat} (h : k ≤ 6) : (if 6 < nI k then 6 else nI k) = nI k := if_neg (nI_nlt (b := k) (a := 6) h (by decide))
theorem max2 {k : Nat} (h : 2 ≤ k) (h2 : k ≤ 6) : (if 2 < nI k then nI k else 2) = nI k := by
  by_cases e : k = 2
  · subst e; rfl
  · exact if_pos (nI_lt (a := 2) (b := k) (by omega) (by omega))
theorem min200 {m : Nat} (h : m ≤ 200) : (if 200 < nI m then 200 else nI m) = nI m := if_neg (nI_nlt (b := m) (a := 200) h (by decide))
theorem arrange_s {rows : Nat → Int32} {w k n : Nat} {Q : Int32 → Int32 → Int32 → Int32 → Int32 → (Nat → Int32) → Prop} (hw : w < 3) (hk : 2 ≤ k) (hk6 : k ≤ 6) (hn : n ≤ 100) (h : ∀ r, (w = 2 → n ≠ 0 → RwOk r k (arR k n)) → Q (nI (arN w k n)) (nI w) (nI k) 0 (nI (arL w k n)) r) : wp_X3_arrange rows (nI w) (nI k) (nI n) Q := by
  obtain ⟨g1, g2, g3, g4⟩ := lv_ok k (by omega) hk n (by omega)
  unfold wp_X3_arrange
  refine nm_r (e' := nI k) (min6 hk6) ?_
  refine nm_r (e' := nI k) (max2 hk hk6) ?_
  refine pk_eq w 2 (fun c => ?_) (fun c => ?_)
  · refine pk_eq n 0 (fun c => ?_) (fun c => ?_)
    · have e1 : arN w k n = n := by unfold arN; rw [if_neg (fun q => q.2 (by assumption))]
      have e2 : arL w k n = 0 := by unfold arL; rw [if_neg (fun q => q.2 (by assumption))]
      have := h rows (fun _ q => absurd (by assumption) q)
      rw [e1, e2] at this
      exact this
    · refine ⟨7, ?_⟩
      have hn0 : n ≠ 0 := by assumption
      have hw2 : w = 2 := by assumption
      have raise : ∀ (r : Nat → Int32), RwOk r k (lvR k 0) → wx_X3_arrange_51_78 (nI w) (nI n) Q (nI k) r := by
        intro r hr
        unfold wx_X3_arrange_51_78
        refine ⟨201, ?_⟩
        have loop : ∀ (f lev : Nat) (r : Nat → Int32), RwOk r k (lvR k lev) → lvGo k n f lev = lvN k n → lev + f = 200 → (∀ q, q < lev → (lvR k q).sum < n) → wl_X3_arrange_80 (nI n) (nI k) (wx_X3_arrange_80_113 (nI w) Q (nI k)) (f + 1) (nI (lvR k lev).sum) (nI lev) r := by
          intro f
          induction f with
          | zero =>
            intro lev r hr hg hl _
            have hg : lev = lvN k n := hg
            omega
          | succ f ih =>
            intro lev r hr hg hl hq
            rw [wl_X3_arrange_80_s]
            have hg2 : (if n ≤ (lvR k lev).sum then lev else lvGo k n f (lev + 1)) = lvN k n := hg
            have hb := hr.2.1
            refine pk_le n ((lvR k lev).sum) (fun c => ?_) (fun c => ?_)
            · unfold wx_X3_arrange_80_113
              rw [if_pos (by assumption)] at hg2
              have e1 : arN w k n = (lvR k lev).sum := by unfold arN; rw [if_pos ⟨hw2, hn0⟩, hg2]
              have e2 : arL w k n = lev := by unfold arL; rw [if_pos ⟨hw2, hn0⟩, hg2]
              have e3 : arR k n = lvR k lev := by unfold arR; rw [hg2]
              have := h r (fun _ _ => by rw [e3]; exact hr)
              rw [e1, e2] at this
              exact this
            · rw [if_neg (by omega)] at hg2
              refine pk_le 200 lev (fun q => absurd q (by omega)) (fun _ => ?_)
              have hlen := lvR_len (k := k) (by omega) lev
              have hu := upR_sum (k := k) (by omega) hlen
              have hd0 := getD_le_sum (lvR k lev) 0
              have hk0 : k * (lvR k lev).getD 0 0 ≤ 6 * (lvR k lev).getD 0 0 := Nat.mul_le_mul_right _ hk6
              refine raiseLevel_s hk hk6 hr (by omega) (fun r2 hr2 => ?_)
              refine nm_r (e' := nI (lev + 1)) (nI_1 _) ?_
              exact ih (lev + 1) r2 hr2 hg2 (by omega) (fun q hq2 => by
                by_cases c5 : q = lev
                · rw [c5]; omega
                · exact hq q (by omega))
        have := loop 200 0 r hr rfl (by omega) (fun q hq => absurd hq (by omega))
        have e0 : (lvR k 0).sum = 1 := by simp only [lvR, List.sum_cons, sum_rep0]
        rw [e0] at this
        exact this
      have init : ∀ (d i : Nat) (r : Nat → Int32), i + d = 6 → (∀ q, q < i → r q = nI ((lvR k 0).getD q 0)) → wl_X3_arrange_51 (wx_X3_arrange_51_78 (nI w) (nI n) Q (nI k)) (d + 1) (nI i) r := by
        intro d
        induction d with
        | zero =>
          intro i r hi a1
          rw [wl_X3_arrange_51_s]
          refine pk_le 6 i (fun _ => ?_) (fun q => absurd q (by omega))
          refine raise r ⟨lvR_len (by omega) 0, ?_, fun q hq => a1 q (by omega)⟩
          simp only [lvR, List.sum_cons, sum_rep0]
          omega
        | succ d ih =>
          intro i r hi a1
          rw [wl_X3_arrange_51_s]
          refine pk_le 6 i (fun q => absurd q (by omega)) (fun _ => ?_)
          have hz : ∀ q, 0 < q → (lvR k 0).getD q 0 = 0 := by
            intro q hq
            obtain ⟨q, rfl⟩ : ∃ z, q = z + 1 := ⟨q - 1, by omega⟩
            show (List.replicate (k - 1) 0).getD q 0 = 0
            rw [List.getD_eq_getElem?_getD, List.getElem?_replicate]
            by_cases c9 : q < k - 1
            · rw [if_pos c9]; rfl
            · rw [if_neg c9]; rfl
          refine pk_eq i 0 (fun c3 => ?_) (fun c3 => ?_)
          · refine ⟨pk_in i 6 (by omega), ?_⟩
            refine nm_r (e' := nI (i + 1)) (nI_1 _) ?_
            rw [cl_n (by omega)]
            refine ih (i + 1) _ (by omega) (fun q hq => ?_)
            obtain rfl : q = i := by omega
            subst c3
            rw [up_s]; rfl
          · refine ⟨pk_in i 6 (by omega), ?_⟩
            refine nm_r (e' := nI (i + 1)) (nI_1 _) ?_
            rw [cl_n (by omega)]
            refine ih (i + 1) _ (by omega) (fun q hq => ?_)
            by_cases c9 : q = i
            · subst c9
              rw [up_s, hz q (by omega)]; rfl
            · rw [up_n _ c9]; exact a1 q (by omega)
      exact init 6 0 rows (by omega) (fun q hq => absurd hq (by omega))
  · have e1 : arN w k n = n := by unfold arN; rw [if_neg (fun q => absurd q.1 (by assumption))]
    have e2 : arL w k n = 0 := by unfold arL; rw [if_neg (fun q => absurd q.1 (by assumption))]
    have := h rows (fun q => absurd q (by assumption))
    rw [e1, e2] at this
    exact this
