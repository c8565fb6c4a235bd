/-! reading a text whose words are known -/
def At (t : List Nat) (p : Nat) (s : List Nat) : Prop := p ≤ t.length ∧ t.drop p = s
/-- a word: letters, digits, or a sign; what stands behind it is of another kind -/
def Wd (w r : List Nat) : Prop := w ≠ [] ∧ ((∀ x ∈ w, kd x = 1) ∨ (∀ x ∈ w, kd x = 2) ∨ (w.length = 1 ∧ ∀ x ∈ w, 3 ≤ kd x ∧ x ≠ 32)) ∧ (r = [] ∨ kd (r.headD 0) ≠ kd (w.headD 0) ∨ 3 ≤ kd (w.headD 0))
theorem tok {sz : Int32} {by' : Nat → Int32} {t w r : List Nat} {p n : Nat} (hT : TxOk sz by' t) (hA : At t p (List.replicate n 32 ++ (w ++ r))) (hw : Wd w r) : Lex t p (p + n) (p + n + w.length) ∧ t.getD (p + n) 0 = w.headD 0 ∧ (t.drop (p + n)).take (p + n + w.length - (p + n)) = w ∧ At t (p + n + w.length) r ∧ p + n + w.length ≤ t.length := by
  obtain ⟨h1, h2⟩ := hA
  obtain ⟨w1, w2, w3⟩ := hw
  have ht : t = t.take p ++ (List.replicate n 32 ++ (w ++ r)) := by rw [← h2, List.take_append_drop]
  have hl : (t.take p).length = p := by rw [List.length_take]; omega
  have hr0 : ∀ x ∈ r, x ≠ 0 := by
    intro x hx
    have hm : x ∈ t := by
      rw [ht]
      exact List.mem_append_right _ (List.mem_append_right _ (List.mem_append_right _ hx))
    have := (hT.2.2.2 x hm).1
    omega
  have hlex := lex_of (pre := t.take p) (n := n) w1 w2 w3 hr0
  rw [← ht, hl] at hlex
  have hlen : t.length = p + n + w.length + r.length := by
    have := congrArg List.length ht
    rw [List.length_append, List.length_append, List.length_append, List.length_replicate, hl] at this
    omega
  have hdrop : t.drop (p + n) = w ++ r := by
    rw [← List.drop_drop, h2]
    exact List.drop_left' (List.length_replicate)
  have hdrop2 : t.drop (p + n + w.length) = r := by
    rw [← List.drop_drop, hdrop]
    exact List.drop_left
  refine ⟨hlex, ?_, ?_, ⟨by omega, hdrop2⟩, by omega⟩
  · have : t.getD (p + n) 0 = (t.drop (p + n)).getD 0 0 := by
      rw [List.getD_eq_getElem?_getD, List.getD_eq_getElem?_getD, List.getElem?_drop, Nat.add_zero]
    rw [this, hdrop]
    cases w with
    | nil => exact absurd rfl w1
    | cons a w => rfl
  · rw [hdrop, Nat.add_sub_cancel_left]
    exact List.take_left
theorem readWord_t {sz : Int32} {by' : Nat → Int32} {t w r : List Nat} {p n : Nat} {Q : Int32 → Int32 → Int32 → Prop} (hT : TxOk sz by' t) (hA : At t p (List.replicate n 32 ++ (w ++ r))) (hw : Wd w r) (h : Q (nI (kd (w.headD 0))) (nI (p + n)) (nI (p + n + w.length))) : wp_X5_readWord (nI p) sz by' Q := by
  obtain ⟨t1, t2, -, -, -⟩ := tok hT hA hw
  refine readWord_s hT t1 ?_
  rw [t2]; exact h
theorem isWord_t {sz : Int32} {by' : Nat → Int32} {t w r : List Nat} {p n k : Nat} {Q : Bool → Prop} (hT : TxOk sz by' t) (hA : At t p (List.replicate n 32 ++ (w ++ r))) (hw : Wd w r) (h : Q (kd (w.headD 0) == 1 && w == wd k)) : wp_X5_isWord (nI (kd (w.headD 0))) (nI (p + n)) (nI (p + n + w.length)) sz by' (tn k) (tb k) Q := by
  obtain ⟨t1, t2, t3, -, t5⟩ := tok hT hA hw
  refine isWord_s hT (by omega) t5 (by rw [t2]) ?_
  unfold isW
  rw [t2, t3]; exact h
theorem readSign_t {sz : Int32} {by' : Nat → Int32} {t r : List Nat} {p n : Nat} {fk fp : Int32} {Q : Bool → Int32 → Int32 → Int32 → Int32 → Int32 → Prop} (hT : TxOk sz by' t) (hA : At t p (List.replicate n 32 ++ ([59] ++ r))) (h : Q true 3 (nI (p + n)) (nI (p + n + 1)) fk fp) : wp_X5_readSign (nI p) fk fp sz by' Q := by
  have hw : Wd [59] r := ⟨by simp, Or.inr (Or.inr ⟨rfl, by decide⟩), Or.inr (Or.inr (by decide))⟩
  unfold wp_X5_readSign
  refine readWord_t hT hA hw ?_
  exact ⟨fun _ => h, fun q => absurd rfl q⟩
theorem wd9 : Wd (wd 9) [] := ⟨by decide, Or.inl (by decide), Or.inl rfl⟩
theorem readInto_t {sz : Int32} {by' : Nat → Int32} {t r : List Nat} {p n : Nat} {fk fp : Int32} {Q : Bool → Int32 → Int32 → Int32 → Int32 → Int32 → Prop} (hT : TxOk sz by' t) (hA : At t p (List.replicate n 32 ++ (wd 9 ++ r))) (hr : r = [] ∨ kd (r.headD 0) ≠ 1) (h : Q true 1 (nI (p + n)) (nI (p + n + 4)) fk fp) : wp_X5_readInto (nI p) fk fp sz by' Q := by
  have hw : Wd (wd 9) r := ⟨by decide, Or.inl (by decide), hr.elim Or.inl (fun q => Or.inr (Or.inl q))⟩
  unfold wp_X5_readInto
  refine readWord_t hT hA hw ?_
  refine isWord_t hT hA hw ?_
  exact ⟨fun q => absurd q (by decide), fun _ => h⟩
/-- digits that tell a number -/
def Dg (ds : List Nat) (v : Nat) : Prop := ds ≠ [] ∧ (∀ x ∈ ds, kd x = 2) ∧ numG ds = v
theorem kd_head {ds : List Nat} {k : Nat} (h : ds ≠ []) (h2 : ∀ x ∈ ds, kd x = k) : kd (ds.headD 0) = k := by
  cases ds with
  | nil => exact absurd rfl h
  | cons a t => exact h2 a List.mem_cons_self
theorem readNumber_t {sz : Int32} {by' : Nat → Int32} {t ds r : List Nat} {p n v lo hi : Nat} {nu fk fp : Int32} {Q : Bool → Int32 → Int32 → Int32 → Int32 → Int32 → Int32 → Prop} (hT : TxOk sz by' t) (hA : At t p (List.replicate n 32 ++ (ds ++ r))) (hd : Dg ds v) (hr : r = [] ∨ kd (r.headD 0) ≠ 2) (hlo : lo < 2 ^ 20) (hhi : hi < 2 ^ 20) (hv : lo ≤ v ∧ v ≤ hi) (h : Q true 2 (nI (p + n)) (nI (p + n + ds.length)) (nI v) fk fp) : wp_X5_readNumber (nI p) nu fk fp sz by' (nI lo) (nI hi) Q := by
  obtain ⟨d1, d2, d3⟩ := hd
  have hk := kd_head d1 d2
  have hw : Wd ds r := ⟨d1, Or.inr (Or.inl d2), hr.elim Or.inl (fun q => Or.inr (Or.inl (by rw [hk]; exact q)))⟩
  obtain ⟨t1, t2, t3, -, -⟩ := tok hT hA hw
  refine readNumber_s hT t1 hlo hhi (fun _ _ _ => ?_) (fun _ q => ?_) (fun q => ?_)
  · rw [t3, d3]; exact h
  · rw [t3, d3] at q; exact absurd hv q
  · rw [t2, hk] at q; exact absurd rfl q
theorem readTape_t {sz : Int32} {by' op : Nat → Int32} {t ds r : List Nat} {p n v i : Nat} {nu fk fp : Int32} {Q : Bool → Int32 → Int32 → Int32 → Int32 → Int32 → Int32 → (Nat → Int32) → Prop} (hT : TxOk sz by' t) (hA : At t p (List.replicate n 32 ++ (ds ++ r))) (hd : Dg ds v) (hr : r = [] ∨ kd (r.headD 0) ≠ 2) (hv : v < 8) (hi : i < 3) (h : Q true 2 (nI (p + n)) (nI (p + n + ds.length)) (nI v) fk fp (upd op i (nI v))) : wp_X5_readTape (nI p) nu fk fp sz op by' (nI i) Q := by
  unfold wp_X5_readTape
  refine readNumber_t (lo := 0) (hi := 7) hT hA hd hr (by omega) (by omega) ⟨Nat.zero_le _, by omega⟩ ?_
  refine ⟨fun q => (by cases q), fun _ => ?_⟩
  refine pk_lt i 0 (fun q => absurd q (by omega)) (fun _ => ?_)
  refine pk_le 3 i (fun q => absurd q (by omega)) (fun _ => ?_)
  refine ⟨pk_in i 3 (by omega), ?_⟩
  rw [cl_n (by omega)]
  exact h
theorem at_tok {sz : Int32} {by' : Nat → Int32} {t w r : List Nat} {p n : Nat} (hT : TxOk sz by' t) (hA : At t p (List.replicate n 32 ++ (w ++ r))) (hw : Wd w r) : At t (p + n + w.length) r := (tok hT hA hw).2.2.2.1
theorem wd_dg {ds r : List Nat} {v : Nat} (hd : Dg ds v) (hr : r = [] ∨ kd (r.headD 0) ≠ 2) : Wd ds r := ⟨hd.1, Or.inr (Or.inl hd.2.1), hr.elim Or.inl (fun q => Or.inr (Or.inl (by rw [kd_head hd.1 hd.2.1]; exact q)))⟩
theorem wd_into {r : List Nat} (hr : r = [] ∨ kd (r.headD 0) ≠ 1) : Wd (wd 9) r := ⟨by decide, Or.inl (by decide), hr.elim Or.inl (fun q => Or.inr (Or.inl q))⟩
theorem wd_sign (r : List Nat) : Wd [59] r := ⟨by simp, Or.inr (Or.inr ⟨rfl, by decide⟩), Or.inr (Or.inr (by decide))⟩
theorem hd_rep {n : Nat} {w r : List Nat} {k : Nat} (hw : w ≠ []) (h0 : kd (w.headD 0) ≠ k) (hk : k ≠ 4) : kd ((List.replicate n 32 ++ (w ++ r)).headD 0) ≠ k := by
  cases n with
  | zero =>
    cases w with
    | nil => exact absurd rfl hw
    | cons a w => exact h0
  | succ n =>
    rw [List.replicate_succ]
    show kd 32 ≠ k
    have : kd 32 = 4 := by decide
    omega
/-- where a statement ends, its parts one behind another: 'd1 into d2' -/
theorem readTransfer_t {sz : Int32} {by' op : Nat → Int32} {t d1 d2 r : List Nat} {p n1 n2 n3 v1 v2 wh : Nat} {nu fk fp : Int32} {Q : Bool → Int32 → Int32 → Int32 → Int32 → Int32 → Int32 → Int32 → (Nat → Int32) → Prop} (hT : TxOk sz by' t) (hA : At t p (List.replicate n1 32 ++ (d1 ++ (List.replicate n2 32 ++ (wd 9 ++ (List.replicate n3 32 ++ (d2 ++ r))))))) (h1 : Dg d1 v1) (h2 : Dg d2 v2) (hv1 : v1 < 8) (hv2 : v2 < 8) (hr : r = [] ∨ kd (r.headD 0) ≠ 2)
    (h : ∀ p', At t p' r → Q true 2 (nI (p' - d2.length)) (nI p') (nI v2) (nI wh) fk fp (upd (upd op 0 (nI v1)) 2 (nI v2))) : wp_X5_readTransfer (nI p) nu fk fp sz op by' (nI wh) Q := by
  have k9 : kd ((wd 9).headD 0) = 1 := by decide
  have hr1 : kd ((List.replicate n2 32 ++ (wd 9 ++ (List.replicate n3 32 ++ (d2 ++ r)))).headD 0) ≠ 2 := hd_rep (by decide) (by rw [k9]; decide) (by decide)
  have hr2 : kd ((List.replicate n3 32 ++ (d2 ++ r)).headD 0) ≠ 1 := hd_rep h2.1 (by rw [kd_head h2.1 h2.2.1]; decide) (by decide)
  have a1 := at_tok hT hA (wd_dg h1 (Or.inr hr1))
  have a2 := at_tok hT a1 (wd_into (Or.inr hr2))
  have a3 := at_tok hT a2 (wd_dg h2 hr)
  unfold wp_X5_readTransfer
  refine readTape_t (i := 0) hT hA h1 (Or.inr hr1) hv1 (by omega) ?_
  refine ⟨fun q => (by cases q), fun _ => ?_⟩
  refine readInto_t hT a1 (Or.inr hr2) ?_
  refine ⟨fun q => (by cases q), fun _ => ?_⟩
  refine readTape_t (i := 2) hT a2 h2 hr hv2 (by omega) ?_
  refine ⟨fun q => (by cases q), fun _ => ?_⟩
  have := h _ a3
  rw [Nat.add_sub_cancel] at this
  exact this
theorem readSingle_t {sz : Int32} {by' op : Nat → Int32} {t d1 r : List Nat} {p n1 n2 v1 wh : Nat} {nu fk fp : Int32} {Q : Bool → Int32 → Int32 → Int32 → Int32 → Int32 → Int32 → Int32 → (Nat → Int32) → Prop} (hT : TxOk sz by' t) (hA : At t p (List.replicate n1 32 ++ (d1 ++ (List.replicate n2 32 ++ ([59] ++ r))))) (h1 : Dg d1 v1) (hv1 : v1 < 8)
    (h : ∀ p', At t p' r → Q true 3 (nI (p' - 1)) (nI p') (nI v1) (nI wh) fk fp (upd op 0 (nI v1))) : wp_X5_readSingle (nI p) nu fk fp sz op by' (nI wh) Q := by
  have hr1 : kd ((List.replicate n2 32 ++ ([59] ++ r)).headD 0) ≠ 2 := hd_rep (by simp) (by decide) (by decide)
  have a1 := at_tok hT hA (wd_dg h1 (Or.inr hr1))
  have a2 := at_tok hT a1 (wd_sign r)
  unfold wp_X5_readSingle
  refine readTape_t (i := 0) hT hA h1 (Or.inr hr1) hv1 (by omega) ?_
  refine ⟨fun q => (by cases q), fun _ => ?_⟩
  refine readSign_t hT a1 ?_
  refine ⟨fun q => (by cases q), fun _ => ?_⟩
  have := h _ a2
  rw [show ([59] : List Nat).length = 1 from rfl, Nat.add_sub_cancel] at this
  exact this
theorem readCombining_t {sz : Int32} {by' op : Nat → Int32} {t d1 d2 d3 r : List Nat} {p n1 n2 n3 n4 n5 v1 v2 v3 td : Nat} {nu fk fp : Int32} {Q : Bool → Int32 → Int32 → Int32 → Int32 → Int32 → Int32 → Int32 → Int32 → (Nat → Int32) → Prop} (hT : TxOk sz by' t) (hA : At t p (List.replicate n1 32 ++ (d1 ++ (List.replicate (n2 + 1) 32 ++ (d2 ++ (List.replicate n3 32 ++ (wd 9 ++ (List.replicate n4 32 ++ (d3 ++ (List.replicate n5 32 ++ ([59] ++ r))))))))))) (h1 : Dg d1 v1) (h2 : Dg d2 v2) (h3 : Dg d3 v3) (hv1 : v1 < 8) (hv2 : v2 < 8) (hv3 : v3 < 8)
    (h : ∀ p', At t p' r → Q true 3 (nI (p' - 1)) (nI p') (nI v3) 1 (nI td) fk fp (upd (upd (upd op 0 (nI v1)) 1 (nI v2)) 2 (nI v3))) : wp_X5_readCombining (nI p) nu fk fp sz op by' (nI td) Q := by
  have k9 : kd ((wd 9).headD 0) = 1 := by decide
  have hr1 : kd ((List.replicate (n2 + 1) 32 ++ (d2 ++ (List.replicate n3 32 ++ (wd 9 ++ (List.replicate n4 32 ++ (d3 ++ (List.replicate n5 32 ++ ([59] ++ r)))))))).headD 0) ≠ 2 := by
    rw [List.replicate_succ]
    show kd 32 ≠ 2
    decide
  have hr2 : kd ((List.replicate n3 32 ++ (wd 9 ++ (List.replicate n4 32 ++ (d3 ++ (List.replicate n5 32 ++ ([59] ++ r)))))).headD 0) ≠ 2 := hd_rep (by decide) (by rw [k9]; decide) (by decide)
  have hr3 : kd ((List.replicate n4 32 ++ (d3 ++ (List.replicate n5 32 ++ ([59] ++ r)))).headD 0) ≠ 1 := hd_rep h3.1 (by rw [kd_head h3.1 h3.2.1]; decide) (by decide)
  have hr4 : kd ((List.replicate n5 32 ++ ([59] ++ r)).headD 0) ≠ 2 := hd_rep (by simp) (by decide) (by decide)
  have a1 := at_tok hT hA (wd_dg h1 (Or.inr hr1))
  have a2 := at_tok hT a1 (wd_dg h2 (Or.inr hr2))
  have a3 := at_tok hT a2 (wd_into (Or.inr hr3))
  have a4 := at_tok hT a3 (wd_dg h3 (Or.inr hr4))
  have a5 := at_tok hT a4 (wd_sign r)
  unfold wp_X5_readCombining
  refine readTape_t (i := 0) hT hA h1 (Or.inr hr1) hv1 (by omega) ?_
  refine ⟨fun q => (by cases q), fun _ => ?_⟩
  refine readTape_t (i := 1) hT a1 h2 (Or.inr hr2) hv2 (by omega) ?_
  refine ⟨fun q => (by cases q), fun _ => ?_⟩
  refine readInto_t hT a2 (Or.inr hr3) ?_
  refine ⟨fun q => (by cases q), fun _ => ?_⟩
  refine readTape_t (i := 2) hT a3 h3 (Or.inr hr4) hv3 (by omega) ?_
  refine ⟨fun q => (by cases q), fun _ => ?_⟩
  refine readSign_t hT a4 ?_
  refine ⟨fun q => (by cases q), fun _ => ?_⟩
  have := h _ a5
  rw [show ([59] : List Nat).length = 1 from rfl, Nat.add_sub_cancel] at this
  exact this
