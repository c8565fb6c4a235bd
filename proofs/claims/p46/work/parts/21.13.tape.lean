/-! the book and the tapes, as lists -/
def KOk (K : Nat → Int32) (ks : Nat → Int) : Prop := ∀ i, i < 200 → K i = zI (ks i) ∧ -999 ≤ ks i ∧ ks i ≤ 999
/-- a record's rank in an order -/
def rk (ks : Nat → Int) (o r : Nat) : Nat := (if o = 0 then ks r + 999 else 999 - ks r).toNat * 256 + r
theorem rankOf_s {K : Nat → Int32} {ks : Nat → Int} {r o : Nat} {Q : Int32 → Prop} (hK : KOk K ks) (hr : r < 200) (ho : o < 2) (h : Q (nI (rk ks o r))) : wp_X0_rankOf K (nI r) (nI o) Q := by
  obtain ⟨h1, h2, h3⟩ := hK r hr
  have fin : ∀ (z : Int), 0 ≤ z → z ≤ 1998 → (if o = 0 then ks r + 999 else 999 - ks r) = z → (wj_X0_rankOf_40 (nI r) Q) (zI z) := by
    intro z z1 z2 e
    unfold wj_X0_rankOf_40
    refine nm_r (e' := zI (z * 256)) (by rw [lit_z, zI_m]; rfl) (nm_r (e' := nI (rk ks o r)) ?_ h)
    rw [zI_n, zI_a, zI_n]
    congr 1
    unfold rk
    rw [e]
    omega
  unfold wp_X0_rankOf
  refine pk_lt r 0 (fun q => absurd q (by omega)) (fun _ => ?_)
  refine pk_lt r 200 (fun _ => ?_) (fun q => absurd q (by omega))
  refine pk_eq o 0 (fun q => ?_) (fun q => ?_)
  · refine ⟨pk_in r 200 hr, nm_r (e' := zI (ks r)) (by rw [cl_n (by omega)]; exact h1) ?_⟩
    refine nm_r (e' := zI (ks r + 999)) (by rw [lit_z, zI_a]; rfl) (fin _ (by omega) (by omega) (by rw [if_pos q]))
  · refine ⟨pk_in r 200 hr, nm_r (e' := zI (ks r)) (by rw [cl_n (by omega)]; exact h1) ?_⟩
    refine nm_r (e' := zI (999 - ks r)) (by rw [lit_z, zI_s]; rfl) (fin _ (by omega) (by omega) (by rw [if_neg q]))
theorem keyOf_s {K : Nat → Int32} {ks : Nat → Int} {r : Nat} {Q : Int32 → Prop} (hK : KOk K ks) (hr : r < 200) (h : Q (zI (ks r))) : wp_X0_keyOf K (nI r) Q := by
  obtain ⟨h1, h2, h3⟩ := hK r hr
  unfold wp_X0_keyOf
  refine pk_lt r 0 (fun q => absurd q (by omega)) (fun _ => ?_)
  refine pk_le 200 r (fun q => absurd q (by omega)) (fun _ => ?_)
  exact ⟨pk_in r 200 hr, nm_r (e' := zI (ks r)) (by rw [cl_n (by omega)]; exact h1) h⟩
/-- a tape's row and length hold this list of records -/
def TOk (F : Nat → Int32) (n : Int32) (L : List Nat) : Prop := n = nI L.length ∧ L.length ≤ 100 ∧ (∀ i, i < L.length → F i = nI (L.getD i 0)) ∧ ∀ r ∈ L, r < 200
def POk (F : Nat → Nat → Int32) (n : Nat → Int32) (T : Nat → List Nat) : Prop := ∀ j, j < 18 → TOk (F j) (n j) (T j)
theorem getD_mem {L : List Nat} {i : Nat} (h : i < L.length) : L.getD i 0 ∈ L := by
  rw [List.getD_eq_getElem?_getD, List.getElem?_eq_getElem h]; exact List.getElem_mem h
theorem recordAt_s {F : Nat → Nat → Int32} {n : Nat → Int32} {T : Nat → List Nat} {j i : Nat} {Q : Int32 → Prop} (hP : POk F n T) (hj : j < 18) (hi : i < (T j).length) (h : Q (nI ((T j).getD i 0))) : wp_X9_recordAt j (nI i) F n Q := by
  obtain ⟨h1, h2, h3, h4⟩ := hP j hj
  unfold wp_X9_recordAt
  refine pk_lt i 0 (fun q => absurd q (by omega)) (fun _ => ?_)
  refine pk_le (T j).length i (fun q => absurd q (by omega)) (fun _ => ?_) h1
  refine pk_le 100 i (fun q => absurd q (by omega)) (fun _ => ?_)
  exact ⟨pk_in i 100 (by omega), nm_r (e' := nI ((T j).getD i 0)) (by rw [cl_n (by omega)]; exact h3 i hi) h⟩
theorem recordAt_n {F : Nat → Nat → Int32} {n : Nat → Int32} {T : Nat → List Nat} {j i : Nat} {Q : Int32 → Prop} (hP : POk F n T) (hj : j < 18) (hi : (T j).length ≤ i) (hi2 : i < 2 ^ 31) (h : Q (-1)) : wp_X9_recordAt j (nI i) F n Q := by
  obtain ⟨h1, h2, h3, h4⟩ := hP j hj
  unfold wp_X9_recordAt
  refine pk_lt i 0 (fun q => absurd q (by omega)) (fun _ => ?_)
  exact pk_le (T j).length i (fun _ => h) (fun q => absurd q (by omega)) h1
theorem keyAt_s {K : Nat → Int32} {ks : Nat → Int} {F : Nat → Nat → Int32} {n : Nat → Int32} {T : Nat → List Nat} {j i : Nat} {Q : Int32 → Prop} (hK : KOk K ks) (hP : POk F n T) (hj : j < 18) (hi : i < (T j).length) (h : Q (zI (ks ((T j).getD i 0)))) : wp_X9_keyAt K j (nI i) F n Q := by
  unfold wp_X9_keyAt
  exact recordAt_s hP hj hi (keyOf_s hK ((hP j hj).2.2.2 _ (getD_mem hi)) h)
theorem va_up_same {α : Type} (f : Nat → α) (j : Nat) : va_up f j (f j) = f := by
  funext k
  by_cases e : k = j
  · subst e; rw [va_up_self]
  · rw [va_up_ne _ _ e]
theorem POk.put {F : Nat → Nat → Int32} {n : Nat → Int32} {T : Nat → List Nat} {j : Nat} {f : Nat → Int32} {m : Int32} {L : List Nat} (h : POk F n T) (hj : TOk f m L) : POk (va_up F j f) (va_up n j m) (va_up T j L) := by
  intro k hk
  by_cases e : k = j
  · subst e; rw [va_up_self, va_up_self, va_up_self]; exact hj
  · rw [va_up_ne _ _ e, va_up_ne _ _ e, va_up_ne _ _ e]; exact h k hk
theorem TOk.push {F : Nat → Int32} {n : Int32} {L : List Nat} {r : Nat} (h : TOk F n L) (hl : L.length < 100) (hr : r < 200) : TOk (upd F L.length (nI r)) (nI (L.length + 1)) (L ++ [r]) := by
  obtain ⟨h1, h2, h3, h4⟩ := h
  refine ⟨by simp, by simp; omega, fun i hi => ?_, fun q hq => ?_⟩
  · simp only [List.length_append, List.length_cons, List.length_nil] at hi
    by_cases e : i = L.length
    · subst e; rw [up_s, List.getD_eq_getElem?_getD, List.getElem?_append_right (Nat.le_refl _)]; simp
    · rw [up_n _ e, h3 i (by omega), List.getD_eq_getElem?_getD, List.getD_eq_getElem?_getD, List.getElem?_append_left (by omega)]
  · rcases List.mem_append.mp hq with q1 | q1
    · exact h4 q q1
    · simp at q1; omega
theorem empty_s {F : Nat → Nat → Int32} {n : Nat → Int32} {T : Nat → List Nat} {j : Nat} {Q : (Nat → Int32) → Prop} (hP : POk F n T) (h : ∀ n', POk F n' (va_up T j []) → Q n') : wp_X9_empty j n Q := by
  unfold wp_X9_empty
  refine h _ ?_
  have := hP.put (j := j) (f := F j) (m := 0) (L := []) ⟨rfl, by simp, fun i hi => absurd hi (by simp), fun r hr => absurd hr (by simp)⟩
  rwa [va_up_same] at this
theorem add_s {F : Nat → Nat → Int32} {n : Nat → Int32} {T : Nat → List Nat} {j r : Nat} {Q : (Nat → Nat → Int32) → (Nat → Int32) → Prop} (hP : POk F n T) (hj : j < 18) (hl : (T j).length < 100) (hr : r < 200) (h : ∀ F' n', POk F' n' (va_up T j (T j ++ [r])) → Q F' n') : wp_X9_add j (nI r) F n Q := by
  have hT := hP j hj
  have h1 := hT.1
  unfold wp_X9_add
  refine pk_lt (T j).length 0 (fun q => absurd q (by omega)) (fun _ => ?_) h1
  refine pk_le 100 (T j).length (fun q => absurd q (by omega)) (fun _ => ?_) rfl h1
  refine ⟨pk_in (T j).length 100 hl h1, nm_r (e' := nI ((T j).length + 1)) (by rw [h1]; exact nI_1 _) ?_⟩
  rw [pk_cl (T j).length h1]
  exact h _ _ (hP.put (hT.push hl hr))
theorem POk.of {F F' : Nat → Nat → Int32} {n n' : Nat → Int32} {T : Nat → List Nat} {j : Nat} {L : List Nat} (h : POk F n T) (hF : ∀ k, k ≠ j → F' k = F k) (hn : ∀ k, k ≠ j → n' k = n k) (hj : TOk (F' j) (n' j) L) : POk F' n' (va_up T j L) := by
  intro k hk
  by_cases e : k = j
  · subst e; rw [va_up_self]; exact hj
  · rw [va_up_ne _ _ e, hF k e, hn k e]; exact h k hk
theorem min100 {n : Int32} {m : Nat} (h : n = nI m) (hm : m ≤ 100) : (if 100 < n then 100 else n) = nI m := by
  rw [if_neg (by rw [h]; exact nI_nlt (b := m) (a := 100) hm (by decide)), h]
theorem takeOver_s {F : Nat → Nat → Int32} {n : Nat → Int32} {T : Nat → List Nat} {j other : Nat} {Q : (Nat → Nat → Int32) → (Nat → Int32) → Prop} (hP : POk F n T) (hj : j < 18) (ho : other < 18) (h : ∀ F' n', POk F' n' (va_up T j (T other)) → Q F' n') : wp_X9_takeOver j other F n Q := by
  obtain ⟨h1, h2, h3, h4⟩ := hP other ho
  unfold wp_X9_takeOver
  refine nm_r (e' := nI (T other).length) (min100 h1 h2) ⟨(T other).length + 1, ?_⟩
  have key : ∀ (d i : Nat) (F1 : Nat → Nat → Int32), i + d = (T other).length → (∀ k, k ≠ j → F1 k = F k) → (∀ q, q < i → F1 j q = F other q) → (∀ q, i ≤ q → F1 j q = F j q) → wl_X9_takeOver_12 j other (nI (T other).length) (wx_X9_takeOver_12_35 j n Q (nI (T other).length)) (d + 1) (nI i) F1 := by
    intro d
    induction d with
    | zero =>
      intro i F1 hi a1 a2 a3
      rw [wl_X9_takeOver_12_s]
      refine pk_le (T other).length i (fun _ => ?_) (fun q => absurd q (by omega))
      unfold wx_X9_takeOver_12_35
      refine h _ _ (hP.of a1 (fun k hk => va_up_ne _ _ hk) ⟨by rw [va_up_self], h2, fun q hq => ?_, h4⟩)
      rw [a2 q (by omega)]; exact h3 q hq
    | succ d ih =>
      intro i F1 hi a1 a2 a3
      rw [wl_X9_takeOver_12_s]
      refine pk_le (T other).length i (fun q => absurd q (by omega)) (fun _ => ?_)
      have e1 : F1 other i = F other i := by
        by_cases e : other = j
        · rw [e]; exact a3 i (Nat.le_refl _)
        · rw [a1 other e]
      refine ⟨pk_in i 100 (by omega), nm_r (e' := F other i) (by rw [cl_n (by omega)]; exact e1) ⟨pk_in i 100 (by omega), nm_r (e' := nI (i + 1)) (nI_1 _) ?_⟩⟩
      rw [cl_n (by omega)]
      refine ih (i + 1) _ (by omega) (fun k hk => by rw [va_up_ne _ _ hk, a1 k hk]) (fun q hq => ?_) (fun q hq => ?_)
      · rw [va_up_self]
        by_cases e : q = i
        · rw [e, up_s]
        · rw [up_n _ e]; exact a2 q (by omega)
      · rw [va_up_self, up_n _ (by omega)]; exact a3 q (by omega)
  exact key _ 0 F (by omega) (fun _ _ => rfl) (fun q hq => absurd hq (by omega)) (fun _ _ => rfl)
theorem reverse_s {F : Nat → Nat → Int32} {n : Nat → Int32} {T : Nat → List Nat} {j : Nat} {Q : (Nat → Nat → Int32) → Prop} (hP : POk F n T) (hj : j < 18) (h : ∀ F', POk F' n (va_up T j (T j).reverse) → Q F') : wp_X9_reverse j F n Q := by
  obtain ⟨h1, h2, h3, h4⟩ := hP j hj
  unfold wp_X9_reverse
  refine nm_r (e' := nI (T j).length) (min100 h1 h2) ⟨(T j).length / 2 + 1, ?_⟩
  have key : ∀ (d i : Nat) (F1 : Nat → Nat → Int32), i + d = (T j).length / 2 → (∀ k, k ≠ j → F1 k = F k) → (∀ q, q < i → F1 j q = F j ((T j).length - 1 - q) ∧ F1 j ((T j).length - 1 - q) = F j q) → (∀ q, i ≤ q → q < (T j).length - i → F1 j q = F j q) → wl_X9_reverse_12 j (nI (T j).length) (wx_X9_reverse_12_59 Q) (d + 1) (nI i) F1 := by
    intro d
    induction d with
    | zero =>
      intro i F1 hi a1 a2 a3
      rw [wl_X9_reverse_12_s]
      refine nm_r (e' := nI ((T j).length / 2)) (pk_div (d := 2) (by omega) (by omega) (by omega)) ?_
      refine pk_le ((T j).length / 2) i (fun _ => ?_) (fun q => absurd q (by omega))
      unfold wx_X9_reverse_12_59
      refine h _ (hP.of a1 (fun _ _ => rfl) ⟨by rw [h1, List.length_reverse], by rw [List.length_reverse]; exact h2, fun q hq => ?_, fun r hr => h4 r (List.mem_reverse.mp hr)⟩)
      rw [List.length_reverse] at hq
      have e : (T j).reverse.getD q 0 = (T j).getD ((T j).length - 1 - q) 0 := by
        rw [List.getD_eq_getElem?_getD, List.getD_eq_getElem?_getD, List.getElem?_reverse hq]
      rw [e, ← h3 _ (by omega)]
      by_cases c : q < i
      · exact (a2 q c).1
      · by_cases c2 : (T j).length - 1 - q < i
        · have := (a2 _ c2).2
          rwa [show (T j).length - 1 - ((T j).length - 1 - q) = q by omega] at this
        · have e2 : q = (T j).length - 1 - q := by omega
          rw [a3 q (by omega) (by omega), ← e2]
    | succ d ih =>
      intro i F1 hi a1 a2 a3
      rw [wl_X9_reverse_12_s]
      refine nm_r (e' := nI ((T j).length / 2)) (pk_div (d := 2) (by omega) (by omega) (by omega)) ?_
      refine pk_le ((T j).length / 2) i (fun q => absurd q (by omega)) (fun _ => ?_)
      have e8 : nI (T j).length - 1 = nI ((T j).length - 1) := pk_sub (b := 1) (by omega)
      have e9 : nI ((T j).length - 1) - nI i = nI ((T j).length - 1 - i) := pk_sub (by omega)
      refine ⟨pk_in i 100 (by omega), nm_r (e' := F j i) (by rw [cl_n (by omega)]; exact a3 i (Nat.le_refl _) (by omega)) (nm_r (e' := nI ((T j).length - 1)) e8 (nm_r (e' := nI ((T j).length - 1 - i)) e9 ?_))⟩
      refine ⟨pk_in ((T j).length - 1 - i) 100 (by omega), nm_r (e' := F j ((T j).length - 1 - i)) (by rw [cl_n (by omega)]; exact a3 _ (by omega) (by omega)) ⟨pk_in i 100 (by omega), nm_r (e' := nI ((T j).length - 1)) e8 (nm_r (e' := nI ((T j).length - 1 - i)) e9 ⟨pk_in ((T j).length - 1 - i) 100 (by omega), nm_r (e' := nI (i + 1)) (nI_1 _) ?_⟩)⟩⟩
      rw [cl_n (n := i) (by omega), cl_n (n := (T j).length - 1 - i) (by omega), va_up_self]
      refine ih (i + 1) _ (by omega) (fun k hk => by rw [va_up_ne _ _ hk, va_up_ne _ _ hk, a1 k hk]) (fun q hq => ?_) (fun q hq1 hq2 => ?_)
      · rw [va_up_self]
        by_cases e : q = i
        · subst e
          refine ⟨?_, ?_⟩
          · rw [up_n _ (by omega), up_s]
          · rw [up_s]
        · obtain ⟨b1, b2⟩ := a2 q (by omega)
          rw [up_n _ (by omega), up_n _ e, up_n _ (by omega), up_n _ (by omega)]
          exact ⟨b1, b2⟩
      · rw [va_up_self, up_n _ (by omega), up_n _ (by omega)]
        exact a3 q (by omega) (by omega)
  exact key _ 0 F (by omega) (fun _ _ => rfl) (fun q hq => absurd hq (by omega)) (fun _ _ _ => rfl)
/-- the records of a row are in order -/
def ordB (ks : Nat → Int) (o : Nat) (L : List Nat) : Bool := (L.map (rk ks o)).zip ((L.map (rk ks o)).drop 1) |>.all (fun p => decide (p.1 ≤ p.2))
theorem ordB_iff {ks : Nat → Int} {o : Nat} {L : List Nat} : ordB ks o L = true ↔ ∀ i, i + 1 < L.length → rk ks o (L.getD i 0) ≤ rk ks o (L.getD (i + 1) 0) := by
  unfold ordB
  rw [List.all_eq_true]
  have g : ∀ i, i < L.length → (L.map (rk ks o))[i]? = some (rk ks o (L.getD i 0)) := fun i hi => by
    rw [List.getElem?_map, List.getD_eq_getElem?_getD, List.getElem?_eq_getElem hi]; rfl
  constructor
  · intro h i hi
    have hm : (rk ks o (L.getD i 0), rk ks o (L.getD (i + 1) 0)) ∈ (L.map (rk ks o)).zip ((L.map (rk ks o)).drop 1) := by
      refine List.mem_of_getElem? (i := i) ?_
      rw [List.getElem?_zip_eq_some]
      exact ⟨g i (by omega), by rw [List.getElem?_drop, Nat.add_comm 1 i]; exact g (i + 1) hi⟩
    have := h _ hm
    simpa using this
  · intro h p hp
    obtain ⟨i, hi⟩ := List.getElem?_of_mem hp
    rw [List.getElem?_zip_eq_some] at hi
    obtain ⟨q1, q2⟩ := hi
    rw [List.getElem?_drop, Nat.add_comm 1 i] at q2
    have hl := (List.getElem?_eq_some_iff.mp q2).1
    rw [List.length_map] at hl
    rw [g i (by omega)] at q1
    rw [g (i + 1) hl] at q2
    have := h i hl
    rw [← Option.some.inj q1, ← Option.some.inj q2]
    simpa using this
theorem rk_lt {ks : Nat → Int} {K : Nat → Int32} (hK : KOk K ks) {o r : Nat} (hr : r < 200) : rk ks o r < 2 ^ 20 := by
  obtain ⟨-, h2, h3⟩ := hK r hr
  unfold rk
  by_cases e : o = 0
  · rw [if_pos e]; omega
  · rw [if_neg e]; omega
theorem isInOrder_s {K : Nat → Int32} {ks : Nat → Int} {F : Nat → Nat → Int32} {n : Nat → Int32} {T : Nat → List Nat} {j o : Nat} {Q : Bool → Prop} (hK : KOk K ks) (hP : POk F n T) (hj : j < 18) (ho : o < 2) (h : Q (ordB ks o (T j))) : wp_X9_isInOrder K j (nI o) F n Q := by
  obtain ⟨h1, h2, h3, h4⟩ := hP j hj
  unfold wp_X9_isInOrder
  refine ⟨(T j).length + 1, ?_⟩
  have key : ∀ (d i : Nat), (T j).length ≤ i + d → 1 ≤ i → i ≤ (T j).length + 1 → (∀ q, q + 1 < i → q + 1 < (T j).length → rk ks o ((T j).getD q 0) ≤ rk ks o ((T j).getD (q + 1) 0)) → wl_X9_isInOrder_2 K j (nI o) F n (wx_X9_isInOrder_2_35 Q) (wx_X9_isInOrder_2_43 Q) (d + 1) (nI i) := by
    intro d
    induction d with
    | zero =>
      intro i hi h0 h9 hq
      rw [wl_X9_isInOrder_2_s]
      refine pk_le (T j).length i (fun _ => ?_) (fun q => absurd q (by omega)) h1
      unfold wx_X9_isInOrder_2_43
      rwa [ordB_iff.mpr (fun q hq2 => hq q (by omega) hq2)] at h
    | succ d ih =>
      intro i hi h0 h9 hq
      rw [wl_X9_isInOrder_2_s]
      refine pk_le (T j).length i (fun _ => ?_) (fun c => ?_) h1
      · unfold wx_X9_isInOrder_2_43
        rwa [ordB_iff.mpr (fun q hq2 => hq q (by omega) hq2)] at h
      · have m1 := h4 _ (getD_mem (L := T j) c)
        have m2 := h4 _ (getD_mem (L := T j) (i := i - 1) (by omega))
        refine recordAt_s hP hj c (rankOf_s hK m1 ho ?_)
        refine nm_r (e' := nI (i - 1)) (pk_sub (b := 1) h0) ?_
        refine recordAt_s hP hj (by omega) (rankOf_s hK m2 ho ?_)
        have l1 := rk_lt hK (o := o) m1
        have l2 := rk_lt hK (o := o) m2
        refine pk_le (rk ks o ((T j).getD (i - 1) 0)) (rk ks o ((T j).getD i 0)) (fun c2 => ?_) (fun c2 => ?_)
        · refine nm_r (e' := nI (i + 1)) (nI_1 _) ?_
          refine ih (i + 1) (by omega) (by omega) (by omega) (fun q hq1 hq2 => ?_)
          by_cases e : q + 1 = i
          · subst e; exact c2
          · exact hq q (by omega) hq2
        · unfold wx_X9_isInOrder_2_35
          have e : ordB ks o (T j) = false := by
            cases hb : ordB ks o (T j) with
            | false => rfl
            | true =>
              have := ordB_iff.mp hb (i - 1) (by omega)
              rw [show i - 1 + 1 = i by omega] at this
              omega
          rwa [e] at h
  exact key _ 1 (by omega) (by omega) (by omega) (fun q hq => absurd hq (by omega))
/-- how many records have keys that p takes -/
theorem countBelow_s {K : Nat → Int32} {ks : Nat → Int} {F : Nat → Nat → Int32} {n : Nat → Int32} {T : Nat → List Nat} {j : Nat} {key : Int32} {Q : Int32 → Prop} (hK : KOk K ks) (hP : POk F n T) (hj : j < 18) (h : Q (nI ((T j).countP (fun r => decide (ks r < key.toInt))))) : wp_X9_countBelow K j key F n Q := by
  obtain ⟨h1, h2, h3, h4⟩ := hP j hj
  unfold wp_X9_countBelow
  refine ⟨(T j).length + 1, ?_⟩
  have ky : ∀ (d i : Nat), i + d = (T j).length → wl_X9_countBelow_5 K j key F n (wx_X9_countBelow_5_39 Q) (d + 1) (nI i) (nI (((T j).take i).countP (fun r => decide (ks r < key.toInt)))) := by
    intro d
    induction d with
    | zero =>
      intro i hi
      rw [wl_X9_countBelow_5_s]
      refine pk_le (T j).length i (fun _ => ?_) (fun q => absurd q (by omega)) h1
      unfold wx_X9_countBelow_5_39
      rwa [List.take_of_length_le (by omega)]
    | succ d ih =>
      intro i hi
      rw [wl_X9_countBelow_5_s]
      refine pk_le (T j).length i (fun q => absurd q (by omega)) (fun _ => ?_) h1
      refine keyAt_s hK hP hj (by omega) ?_
      have hi2 : i < (T j).length := by omega
      obtain ⟨-, k1, k2⟩ := hK _ (h4 _ (getD_mem (L := T j) hi2))
      have e := take_snoc (l := T j) hi2
      have it := ih (i + 1) (by omega)
      rw [e, List.countP_append] at it
      have z1 := zI_t (z := ks ((T j).getD i 0)) (by omega) (by omega)
      refine ⟨fun c => ?_, fun c => ?_⟩
      · rw [Int32.le_iff_toInt_le, z1] at c
        refine nm_r (e' := nI (((T j).take i).countP (fun r => decide (ks r < key.toInt)))) (Int32.add_zero _) (nm_r (e' := nI (i + 1)) (nI_1 _) ?_)
        have e0 : [(T j).getD i 0].countP (fun r => decide (ks r < key.toInt)) = 0 := by
          rw [List.countP_cons_of_neg (by rw [decide_eq_true_eq]; omega)]; rfl
        rw [e0] at it
        exact it
      · rw [Int32.le_iff_toInt_le, z1] at c
        refine nm_r (e' := nI (((T j).take i).countP (fun r => decide (ks r < key.toInt)) + 1)) (nI_1 _) (nm_r (e' := nI (i + 1)) (nI_1 _) ?_)
        have e0 : [(T j).getD i 0].countP (fun r => decide (ks r < key.toInt)) = 1 := by
          rw [List.countP_cons_of_pos (by rw [decide_eq_true_eq]; omega)]; rfl
        rw [e0] at it
        exact it
  exact ky _ 0 (by omega)
