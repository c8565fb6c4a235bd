/-! texts and their words -/
def TxOk (sz : Int32) (by' : Nat → Int32) (t : List Nat) : Prop := sz = nI t.length ∧ t.length ≤ 160 ∧ (∀ i, i < t.length → by' i = nI (t.getD i 0)) ∧ ∀ x ∈ t, 1 ≤ x ∧ x ≤ 255
theorem TxOk.le {sz : Int32} {by' : Nat → Int32} {t : List Nat} (h : TxOk sz by' t) (i : Nat) : t.getD i 0 ≤ 255 := by
  rcases Nat.lt_or_ge i t.length with c | c
  · exact (h.2.2.2 _ (getD_mem c)).2
  · rw [getD_ge c]; omega
theorem byteAt_s {sz : Int32} {by' : Nat → Int32} {t : List Nat} {i : Nat} {Q : Int32 → Prop} (hT : TxOk sz by' t) (hi : i < 2 ^ 20) (h : Q (nI (t.getD i 0))) : wp_X10_byteAt sz by' (nI i) Q := by
  obtain ⟨h1, h2, h3, h4⟩ := hT
  unfold wp_X10_byteAt
  refine pk_lt i 0 (fun q => absurd q (by omega)) (fun _ => ?_)
  refine pk_le t.length i (fun c => ?_) (fun c => ?_) h1
  · rw [getD_ge c] at h; exact h
  · refine pk_le 160 i (fun q => absurd q (by omega)) (fun _ => ?_)
    refine ⟨pk_in i 160 (by omega), nm_r (e' := nI (t.getD i 0)) (by rw [cl_n (by omega)]; exact h3 i c) ?_⟩
    exact h
theorem txAdd_s {sz : Int32} {by' : Nat → Int32} {t : List Nat} {x : Nat} {Q : Int32 → (Nat → Int32) → Prop} (hT : TxOk sz by' t) (hl : t.length < 160) (hx : 1 ≤ x) (hx2 : x ≤ 255) (h : ∀ s b, TxOk s b (t ++ [x]) → Q s b) : wp_X10_add sz by' (nI x) Q := by
  obtain ⟨h1, h2, h3, h4⟩ := hT
  unfold wp_X10_add
  refine pk_lt t.length 0 (fun q => absurd q (by omega)) (fun _ => ?_) h1
  refine pk_le 160 t.length (fun q => absurd q (by omega)) (fun _ => ?_) rfl h1
  refine ⟨pk_in t.length 160 (by omega) h1, ?_⟩
  refine nm_r (e' := nI (t.length + 1)) (by rw [h1]; exact nI_1 _) ?_
  rw [pk_cl t.length h1]
  refine h _ _ ⟨by simp, by simp; omega, fun i hi => ?_, fun y hy => ?_⟩
  · simp only [List.length_append, List.length_cons, List.length_nil] at hi
    by_cases c : i = t.length
    · rw [c, up_s, getD_app_r (Nat.le_refl _), Nat.sub_self]; rfl
    · rw [up_n _ c, getD_app_l (by omega)]; exact h3 i (by omega)
  · rcases List.mem_append.mp hy with q | q
    · exact h4 y q
    · simp at q; omega
/-- the kinds of words -/
def kd (x : Nat) : Nat := if x = 0 then 0 else if 97 ≤ x ∧ x ≤ 122 then 1 else if 48 ≤ x ∧ x ≤ 57 then 2 else if x = 59 then 3 else 4
theorem kd_lt (x : Nat) : kd x < 5 := by
  unfold kd
  repeat' split
  all_goals omega
theorem kindOf_s {x : Nat} {Q : Int32 → Prop} (hx : x < 2 ^ 20) (h : Q (nI (kd x))) : wp_X5_kindOf (nI x) Q := by
  have c34 : ¬ x = 0 → ¬ (97 ≤ x ∧ x ≤ 122) → ¬ (48 ≤ x ∧ x ≤ 57) → wj_X5_kindOf_34 (nI x) Q := by
    intro c0 c1 c2
    unfold wj_X5_kindOf_34
    unfold kd at h
    rw [if_neg c0, if_neg c1, if_neg c2] at h
    refine pk_eq x 59 (fun c => ?_) (fun c => ?_)
    · rw [if_pos c] at h; exact h
    · rw [if_neg c] at h; exact h
  have c20 : ¬ x = 0 → ¬ (97 ≤ x ∧ x ≤ 122) → wj_X5_kindOf_20 (nI x) Q := by
    intro c0 c1
    unfold wj_X5_kindOf_20
    refine pk_lt x 48 (fun c => ?_) (fun c => ?_)
    · exact c34 c0 c1 (by omega)
    · refine pk_lt 57 x (fun c2 => ?_) (fun c2 => ?_)
      · exact c34 c0 c1 (by omega)
      · unfold kd at h
        rw [if_neg c0, if_neg c1, if_pos ⟨c, c2⟩] at h
        exact h
  unfold wp_X5_kindOf
  refine pk_eq x 0 (fun c => ?_) (fun c0 => ?_)
  · unfold kd at h
    rw [if_pos c] at h; exact h
  · refine pk_lt x 97 (fun c => ?_) (fun c => ?_)
    · exact c20 c0 (by omega)
    · refine pk_lt 122 x (fun c2 => ?_) (fun c2 => ?_)
      · exact c20 c0 (by omega)
      · unfold kd at h
        rw [if_neg c0, if_pos ⟨c, c2⟩] at h
        exact h
/-- from p on, the next word goes from b to e -/
abbrev Lex (t : List Nat) (p b e : Nat) : Prop := p ≤ b ∧ b ≤ t.length ∧ (∀ i, i < b → p ≤ i → t.getD i 0 = 32) ∧ t.getD b 0 ≠ 32 ∧ b ≤ e ∧ e ≤ t.length ∧ (kd (t.getD b 0) = 0 → e = b) ∧ (3 ≤ kd (t.getD b 0) → e = b + 1) ∧ ((kd (t.getD b 0) = 1 ∨ kd (t.getD b 0) = 2) → (∀ i, i < e → b ≤ i → kd (t.getD i 0) = kd (t.getD b 0)) ∧ kd (t.getD e 0) ≠ kd (t.getD b 0))
theorem readWord_s {sz : Int32} {by' : Nat → Int32} {t : List Nat} {p b e : Nat} {Q : Int32 → Int32 → Int32 → Prop} (hT : TxOk sz by' t) (hL : Lex t p b e) (h : Q (nI (kd (t.getD b 0))) (nI b) (nI e)) : wp_X5_readWord (nI p) sz by' Q := by
  have ht := hT.1
  have hl := hT.2.1
  obtain ⟨l1, l2, l3, l4, l5, l6, l7, l8, l9⟩ := hL
  have hle := hT.le
  have hk := kd_lt (t.getD b 0)
  have hlb := hle b
  unfold wp_X5_readWord
  refine ⟨b - p + 1, ?_⟩
  have fin : wx_X5_readWord_8_51 sz by' Q (nI b) := by
    unfold wx_X5_readWord_8_51
    refine byteAt_s hT (by omega) (kindOf_s (by omega) ?_)
    have word : kd (t.getD b 0) = 1 ∨ kd (t.getD b 0) = 2 → wj_X5_readWord_93 sz by' Q (nI b) (nI (kd (t.getD b 0))) := by
      intro hk12
      obtain ⟨w1, w2⟩ := l9 hk12
      unfold wj_X5_readWord_93
      refine ⟨e - b + 1, ?_⟩
      have loop : ∀ (d i : Nat), i + d = e → b ≤ i → wl_X5_readWord_93 sz by' (nI (kd (t.getD b 0))) (wx_X5_readWord_93_158 Q (nI b) (nI (kd (t.getD b 0)))) (d + 1) (nI i) := by
        intro d
        induction d with
        | zero =>
          intro i hi hbi
          obtain rfl : i = e := by omega
          have hli := hle i
          have hki := kd_lt (t.getD i 0)
          rw [wl_X5_readWord_93_s]
          refine pk_le t.length i (fun _ => ?_) (fun _ => ?_) ht
          · exact h
          · refine byteAt_s hT (by omega) (kindOf_s (by omega) ?_)
            refine pk_eq (kd (t.getD i 0)) (kd (t.getD b 0)) (fun q => absurd q w2) (fun _ => ?_)
            exact h
        | succ d ih =>
          intro i hi hbi
          have hli := hle i
          have hki := kd_lt (t.getD i 0)
          rw [wl_X5_readWord_93_s]
          refine pk_le t.length i (fun q => absurd q (by omega)) (fun _ => ?_) ht
          refine byteAt_s hT (by omega) (kindOf_s (by omega) ?_)
          refine pk_eq (kd (t.getD i 0)) (kd (t.getD b 0)) (fun _ => ?_) (fun q => absurd (w1 i (by omega) hbi) q)
          refine nm_r (e' := nI (i + 1)) (nI_1 _) ?_
          exact ih (i + 1) (by omega) (by omega)
      exact loop (e - b) b (by omega) (Nat.le_refl _)
    refine pk_eq (kd (t.getD b 0)) 1 (fun c => word (Or.inl c)) (fun c1 => ?_)
    refine pk_eq (kd (t.getD b 0)) 2 (fun c => word (Or.inr c)) (fun c2 => ?_)
    refine pk_eq (kd (t.getD b 0)) 0 (fun c => ?_) (fun c0 => ?_)
    · have he := l7 c
      rw [he] at h; exact h
    · have he := l8 (by omega)
      refine nm_r (e' := nI (b + 1)) (nI_1 _) ?_
      rw [he] at h; exact h
  have loop : ∀ (d i : Nat), i + d = b → p ≤ i → wl_X5_readWord_8 sz by' (wx_X5_readWord_8_51 sz by' Q) (d + 1) (nI i) := by
    intro d
    induction d with
    | zero =>
      intro i hi hpi
      obtain rfl : i = b := by omega
      rw [wl_X5_readWord_8_s]
      refine pk_le t.length i (fun _ => fin) (fun _ => ?_) ht
      refine byteAt_s hT (by omega) ?_
      refine pk_eq (t.getD i 0) 32 (fun q => absurd q l4) (fun _ => fin)
    | succ d ih =>
      intro i hi hpi
      rw [wl_X5_readWord_8_s]
      refine pk_le t.length i (fun q => absurd q (by omega)) (fun _ => ?_) ht
      refine byteAt_s hT (by omega) ?_
      have hb32 := l3 i (by omega) hpi
      refine pk_eq (t.getD i 0) 32 (fun _ => ?_) (fun q => absurd hb32 q)
      refine nm_r (e' := nI (i + 1)) (nI_1 _) ?_
      exact ih (i + 1) (by omega) (by omega)
  exact loop (b - p) p (by omega) (Nat.le_refl _)
/-- a place in a text whose front and rest are known -/
theorem getD_mid {a c : List Nat} (i : Nat) : (a ++ c).getD (a.length + i) 0 = c.getD i 0 := by
  rw [getD_app_r (by omega), Nat.add_sub_cancel_left]
theorem getD_rep {n i : Nat} {c : List Nat} : (List.replicate n 32 ++ c).getD i 0 = if i < n then 32 else c.getD (i - n) 0 := by
  by_cases h : i < n
  · rw [if_pos h, getD_app_l (by rw [List.length_replicate]; exact h), List.getD_eq_getElem?_getD, List.getElem?_replicate, if_pos h]; rfl
  · rw [if_neg h, getD_app_r (by rw [List.length_replicate]; omega), List.length_replicate]
/-- blanks, then a word of one kind, then something else -/
theorem lex_of {pre w r : List Nat} {n : Nat} (hw : w ≠ []) (hk : (∀ x ∈ w, kd x = 1) ∨ (∀ x ∈ w, kd x = 2) ∨ (w.length = 1 ∧ ∀ x ∈ w, 3 ≤ kd x ∧ x ≠ 32)) (hr : r = [] ∨ kd (r.headD 0) ≠ kd (w.headD 0) ∨ 3 ≤ kd (w.headD 0)) (hr0 : ∀ x ∈ r, x ≠ 0) :
    Lex (pre ++ (List.replicate n 32 ++ (w ++ r))) pre.length (pre.length + n) (pre.length + n + w.length) := by
  obtain ⟨x, w', rfl⟩ : ∃ x w', w = x :: w' := by
    cases w with
    | nil => exact absurd rfl hw
    | cons x w' => exact ⟨x, w', rfl⟩
  have at' : ∀ i, (pre ++ (List.replicate n 32 ++ ((x :: w') ++ r))).getD (pre.length + n + i) 0 = ((x :: w') ++ r).getD i 0 := by
    intro i
    rw [show pre.length + n + i = pre.length + (n + i) by omega, getD_mid, getD_rep, if_neg (by omega), Nat.add_sub_cancel_left]
  have atb := at' 0
  rw [Nat.add_zero] at atb
  have atb : (pre ++ (List.replicate n 32 ++ ((x :: w') ++ r))).getD (pre.length + n) 0 = x := atb
  have hkx : kd x = 1 ∨ kd x = 2 ∨ (3 ≤ kd x ∧ x ≠ 32 ∧ w' = []) := by
    rcases hk with q | q | ⟨q1, q2⟩
    · exact Or.inl (q x List.mem_cons_self)
    · exact Or.inr (Or.inl (q x List.mem_cons_self))
    · exact Or.inr (Or.inr ⟨(q2 x List.mem_cons_self).1, (q2 x List.mem_cons_self).2, List.length_eq_zero_iff.mp (by simpa using q1)⟩)
  have k32 : kd 32 = 4 := by decide
  have hx0 : x ≠ 32 := by
    rcases hkx with q | q | q
    · intro e; rw [e, k32] at q; omega
    · intro e; rw [e, k32] at q; omega
    · exact q.2.1
  have hlen : (pre ++ (List.replicate n 32 ++ ((x :: w') ++ r))).length = pre.length + n + (x :: w').length + r.length := by
    rw [List.length_append, List.length_append, List.length_append, List.length_replicate]; omega
  have hwl : (x :: w').length = w'.length + 1 := rfl
  refine ⟨by omega, by omega, fun i h2 h1 => ?_, by rw [atb]; exact hx0, by omega, by omega, fun q => ?_, fun q => ?_, fun q => ?_⟩
  · obtain ⟨k, rfl⟩ : ∃ k, i = pre.length + k := ⟨i - pre.length, by omega⟩
    rw [getD_mid, getD_rep, if_pos (by omega)]
  · rw [atb] at q
    rcases hkx with z | z | z <;> omega
  · rw [atb] at q
    rcases hkx with z | z | ⟨z, -, z2⟩
    · omega
    · omega
    · rw [z2]; rfl
  · rw [atb] at q ⊢
    have hsame : ∀ y ∈ x :: w', kd y = kd x := by
      intro y hy
      rcases hk with z | z | ⟨z1, z2⟩
      · rw [z y hy, z x List.mem_cons_self]
      · rw [z y hy, z x List.mem_cons_self]
      · have := (z2 x List.mem_cons_self).1; omega
    refine ⟨fun i h2 h1 => ?_, ?_⟩
    · obtain ⟨k, rfl⟩ : ∃ k, i = pre.length + n + k := ⟨i - (pre.length + n), by omega⟩
      rw [at' k, getD_app_l (by omega)]
      exact hsame _ (getD_mem (by omega))
    · rw [at' (x :: w').length, getD_app_r (Nat.le_refl _), Nat.sub_self]
      have h0 : r.getD 0 0 = r.headD 0 := by cases r <;> rfl
      rw [h0]
      rcases hr with z | z | z
      · rw [z]
        have : kd 0 = 0 := by decide
        show kd 0 ≠ _
        omega
      · exact z
      · have z : 3 ≤ kd x := z
        omega
/-- nothing but blanks is left -/
theorem lex_end {pre : List Nat} {n : Nat} : Lex (pre ++ List.replicate n 32) pre.length (pre.length + n) (pre.length + n) := by
  have hlen : (pre ++ List.replicate n 32).length = pre.length + n := by rw [List.length_append, List.length_replicate]
  have h0 : (pre ++ List.replicate n 32).getD (pre.length + n) 0 = 0 := getD_ge (by omega)
  have k0 : kd 0 = 0 := by decide
  refine ⟨by omega, by omega, fun i h2 h1 => ?_, by rw [h0]; omega, Nat.le_refl _, by omega, fun _ => rfl, fun q => ?_, fun q => ?_⟩
  · obtain ⟨k, rfl⟩ : ∃ k, i = pre.length + k := ⟨i - pre.length, by omega⟩
    rw [getD_mid, List.getD_eq_getElem?_getD, List.getElem?_replicate, if_pos (by omega)]; rfl
  · rw [h0, k0] at q; omega
  · rw [h0, k0] at q; omega
/-- is it this word? -/
theorem tb_and (k i : Nat) : tb k i &&& 255 = nI ((wd k).getD i 0) := by
  unfold tb
  have h : (wd k).getD i 0 ≤ 255 := by
    have h1 : ∀ w ∈ wdL, ∀ x ∈ w, x ≤ 255 := by decide
    rcases Nat.lt_or_ge i (wd k).length with c | c
    · have h2 : wd k ∈ wdL ∨ wd k = [] := by
        unfold wd
        rcases Nat.lt_or_ge k wdL.length with c2 | c2
        · exact Or.inl (getD_mem2 c2)
        · exact Or.inr (getD_ge c2)
      rcases h2 with q | q
      · exact h1 _ q _ (getD_mem c)
      · rw [q] at c; simp at c
    · rw [getD_ge c]; omega
  rw [pk_andN (by omega) 8 (by decide), Nat.mod_eq_of_lt (by omega)]
theorem tn_le (k : Nat) : tn k ≤ 20 := by
  unfold tn wd
  rcases Nat.lt_or_ge k wdL.length with c | c
  · have h1 : ∀ w ∈ wdL, w.length ≤ 20 := by decide
    exact h1 _ (getD_mem2 c)
  · rw [getD_ge c]; simp
def isW (t : List Nat) (b e k : Nat) : Bool := kd (t.getD b 0) == 1 && (t.drop b).take (e - b) == wd k
theorem getD_dt {t : List Nat} {b n i : Nat} (h : i < n) : ((t.drop b).take n).getD i 0 = t.getD (b + i) 0 := by
  rw [List.getD_eq_getElem?_getD, List.getElem?_take, if_pos h, List.getElem?_drop, ← List.getD_eq_getElem?_getD]
theorem list_ext {a b : List Nat} (hl : a.length = b.length) (h : ∀ i, i < a.length → a.getD i 0 = b.getD i 0) : a = b := by
  refine List.ext_getElem hl (fun i h1 h2 => ?_)
  have := h i h1
  rw [List.getD_eq_getElem?_getD, List.getD_eq_getElem?_getD, List.getElem?_eq_getElem h1, List.getElem?_eq_getElem h2] at this
  exact this
theorem isWord_s {sz : Int32} {by' : Nat → Int32} {t : List Nat} {b e k kk : Nat} {Q : Bool → Prop} (hT : TxOk sz by' t) (hbe : b ≤ e) (he : e ≤ t.length) (hkk : kk = kd (t.getD b 0)) (h : Q (isW t b e k)) : wp_X5_isWord (nI kk) (nI b) (nI e) sz by' (tn k) (tb k) Q := by
  have hl := hT.2.1
  have htn := tn_le k
  have hkd := kd_lt (t.getD b 0)
  subst hkk
  unfold wp_X5_isWord
  refine pk_eq (kd (t.getD b 0)) 1 (fun c1 => ?_) (fun c1 => ?_)
  · refine nm_r (e' := nI (e - b)) (pk_sub hbe) ?_
    refine ⟨by omega, ?_⟩
    have hlen : ((t.drop b).take (e - b)).length = e - b := by rw [List.length_take, List.length_drop]; omega
    refine pk_eq (e - b) (tn k) (fun c2 => ?_) (fun c2 => ?_)
    · refine ⟨tn k + 1, ?_⟩
      have no : ∀ i, i < tn k → t.getD (b + i) 0 ≠ (wd k).getD i 0 → Q false := by
        intro i hi hne
        have : isW t b e k = false := by
          unfold isW
          have hx : ¬ (t.drop b).take (e - b) = wd k := by
            intro q
            have := congrArg (fun z => z.getD i 0) q
            rw [getD_dt (by omega)] at this
            exact hne this
          rw [Bool.and_eq_false_iff]
          right
          simpa using hx
        rwa [this] at h
      have loop : ∀ (d i : Nat), i + d = tn k → (∀ q, q < i → t.getD (b + q) 0 = (wd k).getD q 0) → wl_X5_isWord_28 (nI b) sz by' (tn k) (tb k) (wx_X5_isWord_28_57 Q) (wx_X5_isWord_28_65 Q) (d + 1) (nI i) := by
        intro d
        induction d with
        | zero =>
          intro i hi ha
          rw [wl_X5_isWord_28_s]
          refine pk_le (tn k) i (fun _ => ?_) (fun q => absurd q (by omega))
          unfold wx_X5_isWord_28_65
          have hx : (t.drop b).take (e - b) = wd k := by
            refine list_ext (by rw [hlen]; exact c2) (fun q hq => ?_)
            rw [hlen] at hq
            rw [getD_dt hq]
            exact ha q (by omega)
          have : isW t b e k = true := by
            unfold isW
            rw [c1, hx]
            simp
          rwa [this] at h
        | succ d ih =>
          intro i hi ha
          rw [wl_X5_isWord_28_s]
          refine pk_le (tn k) i (fun q => absurd q (by omega)) (fun _ => ?_)
          refine nm_r (nI_add _ _) ?_
          have h1 := hT.le (b + i)
          have h2 : (wd k).getD i 0 < 2 ^ 31 := by
            have := tb_and k i
            have h3 : ∀ w ∈ wdL, ∀ x ∈ w, x ≤ 255 := by decide
            have h4 : i < (wd k).length := by have : tn k = (wd k).length := rfl; omega
            unfold wd at h4 ⊢
            rcases Nat.lt_or_ge k wdL.length with c3 | c3
            · have := h3 _ (getD_mem2 (d := []) c3) _ (getD_mem h4); omega
            · rw [getD_ge c3] at h4; simp at h4
          refine byteAt_s hT (by omega) ?_
          refine ⟨pk_in i (tn k) (by omega), ?_⟩
          refine nm_r (e' := nI ((wd k).getD i 0)) (by rw [cl_n (by omega)]; exact tb_and k i) ?_
          refine pk_eq (t.getD (b + i) 0) ((wd k).getD i 0) (fun c3 => ?_) (fun c3 => ?_)
          · refine nm_r (e' := nI (i + 1)) (nI_1 _) ?_
            refine ih (i + 1) (by omega) (fun q hq => ?_)
            by_cases c4 : q = i
            · rw [c4]; exact c3
            · exact ha q (by omega)
          · unfold wx_X5_isWord_28_57
            exact no i (by omega) c3
      exact loop (tn k) 0 (by omega) (fun q hq => absurd hq (by omega))
    · have hx : ¬ (t.drop b).take (e - b) = wd k := by
        intro q
        have := congrArg List.length q
        rw [hlen] at this
        exact c2 this
      have : isW t b e k = false := by
        unfold isW
        rw [Bool.and_eq_false_iff]
        right
        simpa using hx
      rwa [this] at h
  · have : isW t b e k = false := by
      unfold isW
      rw [Bool.and_eq_false_iff]
      left
      simpa using c1
    rwa [this] at h
/-- the number that digits tell, at most 1000 -/
def numG (w : List Nat) : Nat := w.foldl (fun n x => min 1000 (n * 10 + x - 48)) 0
theorem readNumber_s {sz : Int32} {by' : Nat → Int32} {t : List Nat} {p b e lo hi : Nat} {nu fk fp : Int32} {Q : Bool → Int32 → Int32 → Int32 → Int32 → Int32 → Int32 → Prop} (hT : TxOk sz by' t) (hL : Lex t p b e) (hlo : lo < 2 ^ 20) (hhi : hi < 2 ^ 20)
    (hg : kd (t.getD b 0) = 2 → lo ≤ numG ((t.drop b).take (e - b)) → numG ((t.drop b).take (e - b)) ≤ hi → Q true 2 (nI b) (nI e) (nI (numG ((t.drop b).take (e - b)))) fk fp)
    (hr : kd (t.getD b 0) = 2 → ¬ (lo ≤ numG ((t.drop b).take (e - b)) ∧ numG ((t.drop b).take (e - b)) ≤ hi) → Q false 2 (nI b) (nI e) (nI (numG ((t.drop b).take (e - b)))) 2 (nI b))
    (hn : kd (t.getD b 0) ≠ 2 → Q false (nI (kd (t.getD b 0))) (nI b) (nI e) nu 1 (nI b)) : wp_X5_readNumber (nI p) nu fk fp sz by' (nI lo) (nI hi) Q := by
  have hl := hT.2.1
  have hk := kd_lt (t.getD b 0)
  have hL2 := hL
  obtain ⟨l1, l2, l3, l4, l5, l6, l7, l8, l9⟩ := hL2
  have hlen : ((t.drop b).take (e - b)).length = e - b := by rw [List.length_take, List.length_drop]; omega
  unfold wp_X5_readNumber
  refine readWord_s hT hL ?_
  refine pk_eq (kd (t.getD b 0)) 2 (fun c => ?_) (fun c => ?_)
  · obtain ⟨w1, w2⟩ := l9 (Or.inr c)
    rw [c]
    refine ⟨e - b + 1, ?_⟩
    have bad : ¬ (lo ≤ numG ((t.drop b).take (e - b)) ∧ numG ((t.drop b).take (e - b)) ≤ hi) → wj_X5_readNumber_87 Q (nI 2) (nI b) (nI e) (nI (numG ((t.drop b).take (e - b)))) := by
      intro q
      unfold wj_X5_readNumber_87 wp_X5_refuse
      exact ⟨fun _ => hr c q, fun z => by cases z⟩
    have loop : ∀ (d i n : Nat), i + d = e - b → n = numG (((t.drop b).take (e - b)).take i) → n ≤ 1000 → wl_X5_readNumber_28 sz by' (nI e) (wx_X5_readNumber_28_71 fk fp (nI lo) (nI hi) Q (nI 2) (nI b) (nI e)) (d + 1) (nI (b + i)) (nI n) := by
      intro d
      induction d with
      | zero =>
        intro i n hi2 hn2 hn3
        rw [wl_X5_readNumber_28_s]
        refine pk_le e (b + i) (fun _ => ?_) (fun q => absurd q (by omega))
        unfold wx_X5_readNumber_28_71
        rw [List.take_of_length_le (by omega)] at hn2
        subst hn2
        refine pk_lt (numG ((t.drop b).take (e - b))) lo (fun q => bad (by omega)) (fun q1 => ?_)
        refine pk_le (numG ((t.drop b).take (e - b))) hi (fun q2 => ?_) (fun q2 => bad (by omega))
        exact hg c q1 q2
      | succ d ih =>
        intro i n hi2 hn2 hn3
        rw [wl_X5_readNumber_28_s]
        refine pk_le e (b + i) (fun q => absurd q (by omega)) (fun _ => ?_)
        have hb1 := hT.le (b + i)
        have hb2 : 48 ≤ t.getD (b + i) 0 := by
          have := w1 (b + i) (by omega) (by omega)
          rw [c] at this
          unfold kd at this
          split at this
          · omega
          · split at this
            · omega
            · split at this
              · omega
              · split at this <;> omega
        refine nm_r (e' := nI (n * 10)) (pk_mul _ _) ?_
        refine byteAt_s hT (by omega) ?_
        refine nm_r (nI_add _ _) ?_
        refine nm_r (e' := nI (n * 10 + t.getD (b + i) 0 - 48)) (pk_sub (b := 48) (by omega)) ?_
        have hmin : (if nI (n * 10 + t.getD (b + i) 0 - 48) < 1000 then nI (n * 10 + t.getD (b + i) 0 - 48) else 1000) = nI (min 1000 (n * 10 + t.getD (b + i) 0 - 48)) := pk_mn 1000 (n * 10 + t.getD (b + i) 0 - 48) rfl rfl (by omega) (by omega)
        refine nm_r hmin ?_
        refine nm_r (e' := nI ((b + i) + 1)) (nI_1 _) ?_
        rw [Nat.add_assoc]
        refine ih (i + 1) _ (by omega) ?_ (by omega)
        rw [take_snoc (by omega), getD_dt (by omega)]
        unfold numG at hn2 ⊢
        rw [List.foldl_append, ← hn2]
        rfl
    exact loop (e - b) 0 0 (by omega) rfl (by omega)
  · unfold wp_X5_refuse
    exact hn c
