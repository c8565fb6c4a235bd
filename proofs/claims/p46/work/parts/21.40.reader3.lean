/-! options and statements -/
theorem isWord_y {sz : Int32} {by' : Nat → Int32} {t r : List Nat} {p n k : Nat} {Q : Bool → Prop} (hT : TxOk sz by' t) (hA : At t p (List.replicate n 32 ++ (wd k ++ r))) (hw : Wd (wd k) r) (h1 : kd ((wd k).headD 0) = 1) (h : Q true) : wp_X5_isWord (nI (kd ((wd k).headD 0))) (nI (p + n)) (nI (p + n + (wd k).length)) sz by' (tn k) (tb k) Q := by
  refine isWord_t hT hA hw ?_
  have : (kd ((wd k).headD 0) == 1 && wd k == wd k) = true := by rw [h1]; simp
  rw [this]; exact h
theorem isWord_n {sz : Int32} {by' : Nat → Int32} {t r : List Nat} {p n k j : Nat} {Q : Bool → Prop} (hT : TxOk sz by' t) (hA : At t p (List.replicate n 32 ++ (wd k ++ r))) (hw : Wd (wd k) r) (hn : wd k ≠ wd j) (h : Q false) : wp_X5_isWord (nI (kd ((wd k).headD 0))) (nI (p + n)) (nI (p + n + (wd k).length)) sz by' (tn j) (tb j) Q := by
  refine isWord_t hT hA hw ?_
  have : (kd ((wd k).headD 0) == 1 && wd k == wd j) = false := by
    rw [Bool.and_eq_false_iff]
    right
    simpa using hn
  rw [this]; exact h
theorem wd_k {k : Nat} {r : List Nat} (h1 : wd k ≠ []) (h2 : ∀ x ∈ wd k, kd x = 1) (hr : r = [] ∨ kd (r.headD 0) ≠ 1) : Wd (wd k) r := ⟨h1, Or.inl h2, hr.elim Or.inl (fun q => Or.inr (Or.inl (by rw [kd_head h1 h2]; exact q)))⟩
/-- what a statement tells of the settings: order, way of runs, memory, way to merge, ways -/
abbrev Tl : Type := Int32 × Int32 × Int32 × Int32 × Int32
abbrev Tl.o (T : Tl) : Int32 := T.1
abbrev Tl.r (T : Tl) : Int32 := T.2.1
abbrev Tl.m (T : Tl) : Int32 := T.2.2.1
abbrev Tl.w (T : Tl) : Int32 := T.2.2.2.1
abbrev Tl.y (T : Tl) : Int32 := T.2.2.2.2
theorem readOption_10 {sz : Int32} {by' : Nat → Int32} {t r : List Nat} {p n : Nat} {nu fk fp : Int32} {T : Tl} {Q : Bool → Int32 → Int32 → Int32 → Int32 → Int32 → Int32 → Int32 → Int32 → Int32 → Int32 → Int32 → Prop} (hT : TxOk sz by' t) (hA : At t p (List.replicate n 32 ++ (wd 10 ++ r))) (hr : r = [] ∨ kd (r.headD 0) ≠ 1) (h : Q true (nI (kd ((wd 10).headD 0))) (nI (p + n)) (nI (p + n + (wd 10).length)) nu fk fp 0 T.r T.m T.w T.y) : wp_X5_readOption (nI (kd ((wd 10).headD 0))) (nI (p + n)) (nI (p + n + (wd 10).length)) nu fk fp sz T.o T.r T.m T.w T.y by' Q := by
  have hw := wd_k (k := 10) (by decide) (by decide) hr
  unfold wp_X5_readOption
  refine isWord_y hT hA hw (by decide) ?_
  refine ⟨fun q => (by cases q), fun _ => ?_⟩
  unfold wj_X5_readOption_18
  refine isWord_y hT hA hw (by decide) ?_
  refine ⟨fun q => (by cases q), fun _ => ?_⟩
  exact h
theorem readOption_11 {sz : Int32} {by' : Nat → Int32} {t r : List Nat} {p n : Nat} {nu fk fp : Int32} {T : Tl} {Q : Bool → Int32 → Int32 → Int32 → Int32 → Int32 → Int32 → Int32 → Int32 → Int32 → Int32 → Int32 → Prop} (hT : TxOk sz by' t) (hA : At t p (List.replicate n 32 ++ (wd 11 ++ r))) (hr : r = [] ∨ kd (r.headD 0) ≠ 1) (h : Q true (nI (kd ((wd 11).headD 0))) (nI (p + n)) (nI (p + n + (wd 11).length)) nu fk fp 1 T.r T.m T.w T.y) : wp_X5_readOption (nI (kd ((wd 11).headD 0))) (nI (p + n)) (nI (p + n + (wd 11).length)) nu fk fp sz T.o T.r T.m T.w T.y by' Q := by
  have hw := wd_k (k := 11) (by decide) (by decide) hr
  unfold wp_X5_readOption
  refine isWord_n (j := 10) hT hA hw (by decide) ?_
  refine ⟨fun _ => ?_, fun q => by cases q⟩
  refine isWord_y hT hA hw (by decide) ?_
  refine ⟨fun q => (by cases q), fun _ => ?_⟩
  unfold wj_X5_readOption_18
  refine isWord_n (j := 10) hT hA hw (by decide) ?_
  refine ⟨fun _ => ?_, fun q => by cases q⟩
  exact h
theorem readOption_12 {sz : Int32} {by' : Nat → Int32} {t r : List Nat} {p n : Nat} {nu fk fp : Int32} {T : Tl} {Q : Bool → Int32 → Int32 → Int32 → Int32 → Int32 → Int32 → Int32 → Int32 → Int32 → Int32 → Int32 → Prop} (hT : TxOk sz by' t) (hA : At t p (List.replicate n 32 ++ (wd 12 ++ r))) (hr : r = [] ∨ kd (r.headD 0) ≠ 1) (h : Q true (nI (kd ((wd 12).headD 0))) (nI (p + n)) (nI (p + n + (wd 12).length)) nu fk fp T.o 2 T.m T.w T.y) : wp_X5_readOption (nI (kd ((wd 12).headD 0))) (nI (p + n)) (nI (p + n + (wd 12).length)) nu fk fp sz T.o T.r T.m T.w T.y by' Q := by
  have hw := wd_k (k := 12) (by decide) (by decide) hr
  unfold wp_X5_readOption
  refine isWord_n (j := 10) hT hA hw (by decide) ?_
  refine ⟨fun _ => ?_, fun q => by cases q⟩
  refine isWord_n (j := 11) hT hA hw (by decide) ?_
  refine ⟨fun _ => ?_, fun q => by cases q⟩
  refine isWord_y hT hA hw (by decide) ?_
  refine ⟨fun q => (by cases q), fun _ => ?_⟩
  exact h
theorem readOption_13 {sz : Int32} {by' : Nat → Int32} {t ds r : List Nat} {p n n1 v : Nat} {nu fk fp : Int32} {T : Tl} {Q : Bool → Int32 → Int32 → Int32 → Int32 → Int32 → Int32 → Int32 → Int32 → Int32 → Int32 → Int32 → Prop} (hT : TxOk sz by' t) (hA : At t p (List.replicate n 32 ++ (wd 13 ++ (List.replicate n1 32 ++ (ds ++ r))))) (hd : Dg ds v) (hr : r = [] ∨ kd (r.headD 0) ≠ 2) (hv : 1 ≤ v ∧ v ≤ 50) (h : Q true 2 (nI (p + n + (wd 13).length + n1)) (nI (p + n + (wd 13).length + n1 + ds.length)) (nI v) fk fp T.o (b2i false) (nI v) T.w T.y) : wp_X5_readOption (nI (kd ((wd 13).headD 0))) (nI (p + n)) (nI (p + n + (wd 13).length)) nu fk fp sz T.o T.r T.m T.w T.y by' Q := by
  have hr0 : kd ((List.replicate n1 32 ++ (ds ++ r)).headD 0) ≠ 1 := hd_rep hd.1 (by rw [kd_head hd.1 hd.2.1]; decide) (by decide)
  have hw := wd_k (k := 13) (by decide) (by decide) (Or.inr hr0)
  have a1 := at_tok hT hA hw
  unfold wp_X5_readOption
  refine isWord_n (j := 10) hT hA hw (by decide) ?_
  refine ⟨fun _ => ?_, fun q => by cases q⟩
  refine isWord_n (j := 11) hT hA hw (by decide) ?_
  refine ⟨fun _ => ?_, fun q => by cases q⟩
  refine isWord_n (j := 12) hT hA hw (by decide) ?_
  refine ⟨fun _ => ?_, fun q => by cases q⟩
  refine isWord_y hT hA hw (by decide) ?_
  refine ⟨fun q => (by cases q), fun _ => ?_⟩
  unfold wj_X5_readOption_78
  refine isWord_y hT hA hw (by decide) ?_
  refine ⟨fun q => (by cases q), fun _ => ?_⟩
  unfold wj_X5_readOption_96
  refine readNumber_t (lo := 1) (hi := 50) hT a1 hd hr (by omega) (by omega) hv ?_
  exact h
theorem readOption_14 {sz : Int32} {by' : Nat → Int32} {t ds r : List Nat} {p n n1 v : Nat} {nu fk fp : Int32} {T : Tl} {Q : Bool → Int32 → Int32 → Int32 → Int32 → Int32 → Int32 → Int32 → Int32 → Int32 → Int32 → Int32 → Prop} (hT : TxOk sz by' t) (hA : At t p (List.replicate n 32 ++ (wd 14 ++ (List.replicate n1 32 ++ (ds ++ r))))) (hd : Dg ds v) (hr : r = [] ∨ kd (r.headD 0) ≠ 2) (hv : 1 ≤ v ∧ v ≤ 50) (h : Q true 2 (nI (p + n + (wd 14).length + n1)) (nI (p + n + (wd 14).length + n1 + ds.length)) (nI v) fk fp T.o (b2i true) (nI v) T.w T.y) : wp_X5_readOption (nI (kd ((wd 14).headD 0))) (nI (p + n)) (nI (p + n + (wd 14).length)) nu fk fp sz T.o T.r T.m T.w T.y by' Q := by
  have hr0 : kd ((List.replicate n1 32 ++ (ds ++ r)).headD 0) ≠ 1 := hd_rep hd.1 (by rw [kd_head hd.1 hd.2.1]; decide) (by decide)
  have hw := wd_k (k := 14) (by decide) (by decide) (Or.inr hr0)
  have a1 := at_tok hT hA hw
  unfold wp_X5_readOption
  refine isWord_n (j := 10) hT hA hw (by decide) ?_
  refine ⟨fun _ => ?_, fun q => by cases q⟩
  refine isWord_n (j := 11) hT hA hw (by decide) ?_
  refine ⟨fun _ => ?_, fun q => by cases q⟩
  refine isWord_n (j := 12) hT hA hw (by decide) ?_
  refine ⟨fun _ => ?_, fun q => by cases q⟩
  refine isWord_n (j := 13) hT hA hw (by decide) ?_
  refine ⟨fun _ => ?_, fun q => by cases q⟩
  refine isWord_y hT hA hw (by decide) ?_
  refine ⟨fun q => (by cases q), fun _ => ?_⟩
  unfold wj_X5_readOption_78
  refine isWord_n (j := 13) hT hA hw (by decide) ?_
  refine ⟨fun _ => ?_, fun q => by cases q⟩
  unfold wj_X5_readOption_96
  refine readNumber_t (lo := 1) (hi := 50) hT a1 hd hr (by omega) (by omega) hv ?_
  exact h
theorem readOption_15 {sz : Int32} {by' : Nat → Int32} {t r : List Nat} {p n : Nat} {nu fk fp : Int32} {T : Tl} {Q : Bool → Int32 → Int32 → Int32 → Int32 → Int32 → Int32 → Int32 → Int32 → Int32 → Int32 → Int32 → Prop} (hT : TxOk sz by' t) (hA : At t p (List.replicate n 32 ++ (wd 15 ++ r))) (hr : r = [] ∨ kd (r.headD 0) ≠ 1) (h : Q true (nI (kd ((wd 15).headD 0))) (nI (p + n)) (nI (p + n + (wd 15).length)) nu fk fp T.o T.r T.m 1 T.y) : wp_X5_readOption (nI (kd ((wd 15).headD 0))) (nI (p + n)) (nI (p + n + (wd 15).length)) nu fk fp sz T.o T.r T.m T.w T.y by' Q := by
  have hw := wd_k (k := 15) (by decide) (by decide) hr
  unfold wp_X5_readOption
  refine isWord_n (j := 10) hT hA hw (by decide) ?_
  refine ⟨fun _ => ?_, fun q => by cases q⟩
  refine isWord_n (j := 11) hT hA hw (by decide) ?_
  refine ⟨fun _ => ?_, fun q => by cases q⟩
  refine isWord_n (j := 12) hT hA hw (by decide) ?_
  refine ⟨fun _ => ?_, fun q => by cases q⟩
  refine isWord_n (j := 13) hT hA hw (by decide) ?_
  refine ⟨fun _ => ?_, fun q => by cases q⟩
  refine isWord_n (j := 14) hT hA hw (by decide) ?_
  refine ⟨fun _ => ?_, fun q => by cases q⟩
  refine isWord_y hT hA hw (by decide) ?_
  refine ⟨fun q => (by cases q), fun _ => ?_⟩
  exact h
theorem readOption_16 {sz : Int32} {by' : Nat → Int32} {t ds r : List Nat} {p n n1 v : Nat} {nu fk fp : Int32} {T : Tl} {Q : Bool → Int32 → Int32 → Int32 → Int32 → Int32 → Int32 → Int32 → Int32 → Int32 → Int32 → Int32 → Prop} (hT : TxOk sz by' t) (hA : At t p (List.replicate n 32 ++ (wd 16 ++ (List.replicate n1 32 ++ (ds ++ r))))) (hd : Dg ds v) (hr : r = [] ∨ kd (r.headD 0) ≠ 2) (hv : 2 ≤ v ∧ v ≤ 6) (h : Q true 2 (nI (p + n + (wd 16).length + n1)) (nI (p + n + (wd 16).length + n1 + ds.length)) (nI v) fk fp T.o T.r T.m 0 (nI v)) : wp_X5_readOption (nI (kd ((wd 16).headD 0))) (nI (p + n)) (nI (p + n + (wd 16).length)) nu fk fp sz T.o T.r T.m T.w T.y by' Q := by
  have hr0 : kd ((List.replicate n1 32 ++ (ds ++ r)).headD 0) ≠ 1 := hd_rep hd.1 (by rw [kd_head hd.1 hd.2.1]; decide) (by decide)
  have hw := wd_k (k := 16) (by decide) (by decide) (Or.inr hr0)
  have a1 := at_tok hT hA hw
  unfold wp_X5_readOption
  refine isWord_n (j := 10) hT hA hw (by decide) ?_
  refine ⟨fun _ => ?_, fun q => by cases q⟩
  refine isWord_n (j := 11) hT hA hw (by decide) ?_
  refine ⟨fun _ => ?_, fun q => by cases q⟩
  refine isWord_n (j := 12) hT hA hw (by decide) ?_
  refine ⟨fun _ => ?_, fun q => by cases q⟩
  refine isWord_n (j := 13) hT hA hw (by decide) ?_
  refine ⟨fun _ => ?_, fun q => by cases q⟩
  refine isWord_n (j := 14) hT hA hw (by decide) ?_
  refine ⟨fun _ => ?_, fun q => by cases q⟩
  refine isWord_n (j := 15) hT hA hw (by decide) ?_
  refine ⟨fun _ => ?_, fun q => by cases q⟩
  refine isWord_y hT hA hw (by decide) ?_
  refine ⟨fun q => (by cases q), fun _ => ?_⟩
  unfold wj_X5_readOption_157
  refine isWord_n (j := 17) hT hA hw (by decide) ?_
  refine ⟨fun _ => ?_, fun q => by cases q⟩
  unfold wj_X5_readOption_175
  refine readNumber_t (lo := 2) (hi := 6) hT a1 hd hr (by omega) (by omega) hv ?_
  exact h
theorem readOption_17 {sz : Int32} {by' : Nat → Int32} {t ds r : List Nat} {p n n1 v : Nat} {nu fk fp : Int32} {T : Tl} {Q : Bool → Int32 → Int32 → Int32 → Int32 → Int32 → Int32 → Int32 → Int32 → Int32 → Int32 → Int32 → Prop} (hT : TxOk sz by' t) (hA : At t p (List.replicate n 32 ++ (wd 17 ++ (List.replicate n1 32 ++ (ds ++ r))))) (hd : Dg ds v) (hr : r = [] ∨ kd (r.headD 0) ≠ 2) (hv : 2 ≤ v ∧ v ≤ 6) (h : Q true 2 (nI (p + n + (wd 17).length + n1)) (nI (p + n + (wd 17).length + n1 + ds.length)) (nI v) fk fp T.o T.r T.m 2 (nI v)) : wp_X5_readOption (nI (kd ((wd 17).headD 0))) (nI (p + n)) (nI (p + n + (wd 17).length)) nu fk fp sz T.o T.r T.m T.w T.y by' Q := by
  have hr0 : kd ((List.replicate n1 32 ++ (ds ++ r)).headD 0) ≠ 1 := hd_rep hd.1 (by rw [kd_head hd.1 hd.2.1]; decide) (by decide)
  have hw := wd_k (k := 17) (by decide) (by decide) (Or.inr hr0)
  have a1 := at_tok hT hA hw
  unfold wp_X5_readOption
  refine isWord_n (j := 10) hT hA hw (by decide) ?_
  refine ⟨fun _ => ?_, fun q => by cases q⟩
  refine isWord_n (j := 11) hT hA hw (by decide) ?_
  refine ⟨fun _ => ?_, fun q => by cases q⟩
  refine isWord_n (j := 12) hT hA hw (by decide) ?_
  refine ⟨fun _ => ?_, fun q => by cases q⟩
  refine isWord_n (j := 13) hT hA hw (by decide) ?_
  refine ⟨fun _ => ?_, fun q => by cases q⟩
  refine isWord_n (j := 14) hT hA hw (by decide) ?_
  refine ⟨fun _ => ?_, fun q => by cases q⟩
  refine isWord_n (j := 15) hT hA hw (by decide) ?_
  refine ⟨fun _ => ?_, fun q => by cases q⟩
  refine isWord_n (j := 16) hT hA hw (by decide) ?_
  refine ⟨fun _ => ?_, fun q => by cases q⟩
  refine isWord_y hT hA hw (by decide) ?_
  refine ⟨fun q => (by cases q), fun _ => ?_⟩
  unfold wj_X5_readOption_157
  refine isWord_y hT hA hw (by decide) ?_
  refine ⟨fun q => (by cases q), fun _ => ?_⟩
  unfold wj_X5_readOption_175
  refine readNumber_t (lo := 2) (hi := 6) hT a1 hd hr (by omega) (by omega) hv ?_
  exact h
/-- options as they stand in a text, up to the sign; so many of them -/
def Opts : Nat → List Nat → Tl → List Nat → Tl → Prop
  | 0, s, T, r, T2 => ∃ n, s = List.replicate n 32 ++ ([59] ++ r) ∧ T2 = T
  | c + 1, s, T, r, T2 => (∃ (n : Nat) (s2 : List Nat), s = List.replicate n 32 ++ (wd 10 ++ s2) ∧ (s2 = [] ∨ kd (s2.headD 0) ≠ 1) ∧ Opts c s2 (0, T.r, T.m, T.w, T.y) r T2) ∨ (∃ (n : Nat) (s2 : List Nat), s = List.replicate n 32 ++ (wd 11 ++ s2) ∧ (s2 = [] ∨ kd (s2.headD 0) ≠ 1) ∧ Opts c s2 (1, T.r, T.m, T.w, T.y) r T2) ∨ (∃ (n : Nat) (s2 : List Nat), s = List.replicate n 32 ++ (wd 12 ++ s2) ∧ (s2 = [] ∨ kd (s2.headD 0) ≠ 1) ∧ Opts c s2 (T.o, 2, T.m, T.w, T.y) r T2) ∨ (∃ (n n1 v : Nat) (ds s2 : List Nat), s = List.replicate n 32 ++ (wd 13 ++ (List.replicate n1 32 ++ (ds ++ s2))) ∧ Dg ds v ∧ (1 ≤ v ∧ v ≤ 50) ∧ (s2 = [] ∨ kd (s2.headD 0) ≠ 2) ∧ Opts c s2 (T.o, b2i false, nI v, T.w, T.y) r T2) ∨ (∃ (n n1 v : Nat) (ds s2 : List Nat), s = List.replicate n 32 ++ (wd 14 ++ (List.replicate n1 32 ++ (ds ++ s2))) ∧ Dg ds v ∧ (1 ≤ v ∧ v ≤ 50) ∧ (s2 = [] ∨ kd (s2.headD 0) ≠ 2) ∧ Opts c s2 (T.o, b2i true, nI v, T.w, T.y) r T2) ∨ (∃ (n : Nat) (s2 : List Nat), s = List.replicate n 32 ++ (wd 15 ++ s2) ∧ (s2 = [] ∨ kd (s2.headD 0) ≠ 1) ∧ Opts c s2 (T.o, T.r, T.m, 1, T.y) r T2) ∨ (∃ (n n1 v : Nat) (ds s2 : List Nat), s = List.replicate n 32 ++ (wd 16 ++ (List.replicate n1 32 ++ (ds ++ s2))) ∧ Dg ds v ∧ (2 ≤ v ∧ v ≤ 6) ∧ (s2 = [] ∨ kd (s2.headD 0) ≠ 2) ∧ Opts c s2 (T.o, T.r, T.m, 0, nI v) r T2) ∨ (∃ (n n1 v : Nat) (ds s2 : List Nat), s = List.replicate n 32 ++ (wd 17 ++ (List.replicate n1 32 ++ (ds ++ s2))) ∧ Dg ds v ∧ (2 ≤ v ∧ v ≤ 6) ∧ (s2 = [] ∨ kd (s2.headD 0) ≠ 2) ∧ Opts c s2 (T.o, T.r, T.m, 2, nI v) r T2)
theorem Opts.fin (n : Nat) (r : List Nat) (T : Tl) : Opts 0 (List.replicate n 32 ++ ([59] ++ r)) T r T := ⟨n, rfl, rfl⟩
theorem Opts.up (n c : Nat) (s r : List Nat) (T T2 : Tl) (hs : s = [] ∨ kd (s.headD 0) ≠ 1) (h : Opts c s (0, T.r, T.m, T.w, T.y) r T2) : Opts (c + 1) (List.replicate n 32 ++ (wd 10 ++ s)) T r T2 := Or.inl (⟨n, s, rfl, hs, h⟩)
theorem Opts.down (n c : Nat) (s r : List Nat) (T T2 : Tl) (hs : s = [] ∨ kd (s.headD 0) ≠ 1) (h : Opts c s (1, T.r, T.m, T.w, T.y) r T2) : Opts (c + 1) (List.replicate n 32 ++ (wd 11 ++ s)) T r T2 := Or.inr (Or.inl (⟨n, s, rfl, hs, h⟩))
theorem Opts.nat (n c : Nat) (s r : List Nat) (T T2 : Tl) (hs : s = [] ∨ kd (s.headD 0) ≠ 1) (h : Opts c s (T.o, 2, T.m, T.w, T.y) r T2) : Opts (c + 1) (List.replicate n 32 ++ (wd 12 ++ s)) T r T2 := Or.inr (Or.inr (Or.inl (⟨n, s, rfl, hs, h⟩)))
theorem Opts.full (n n1 v c : Nat) (ds s r : List Nat) (T T2 : Tl) (hd : Dg ds v) (hv : 1 ≤ v ∧ v ≤ 50) (hs : s = [] ∨ kd (s.headD 0) ≠ 2) (h : Opts c s (T.o, b2i false, nI v, T.w, T.y) r T2) : Opts (c + 1) (List.replicate n 32 ++ (wd 13 ++ (List.replicate n1 32 ++ (ds ++ s)))) T r T2 := Or.inr (Or.inr (Or.inr (Or.inl (⟨n, n1, v, ds, s, rfl, hd, hv, hs, h⟩))))
theorem Opts.repl (n n1 v c : Nat) (ds s r : List Nat) (T T2 : Tl) (hd : Dg ds v) (hv : 1 ≤ v ∧ v ≤ 50) (hs : s = [] ∨ kd (s.headD 0) ≠ 2) (h : Opts c s (T.o, b2i true, nI v, T.w, T.y) r T2) : Opts (c + 1) (List.replicate n 32 ++ (wd 14 ++ (List.replicate n1 32 ++ (ds ++ s)))) T r T2 := Or.inr (Or.inr (Or.inr (Or.inr (Or.inl (⟨n, n1, v, ds, s, rfl, hd, hv, hs, h⟩)))))
theorem Opts.sho (n c : Nat) (s r : List Nat) (T T2 : Tl) (hs : s = [] ∨ kd (s.headD 0) ≠ 1) (h : Opts c s (T.o, T.r, T.m, 1, T.y) r T2) : Opts (c + 1) (List.replicate n 32 ++ (wd 15 ++ s)) T r T2 := Or.inr (Or.inr (Or.inr (Or.inr (Or.inr (Or.inl (⟨n, s, rfl, hs, h⟩))))))
theorem Opts.bal (n n1 v c : Nat) (ds s r : List Nat) (T T2 : Tl) (hd : Dg ds v) (hv : 2 ≤ v ∧ v ≤ 6) (hs : s = [] ∨ kd (s.headD 0) ≠ 2) (h : Opts c s (T.o, T.r, T.m, 0, nI v) r T2) : Opts (c + 1) (List.replicate n 32 ++ (wd 16 ++ (List.replicate n1 32 ++ (ds ++ s)))) T r T2 := Or.inr (Or.inr (Or.inr (Or.inr (Or.inr (Or.inr (Or.inl (⟨n, n1, v, ds, s, rfl, hd, hv, hs, h⟩)))))))
theorem Opts.poly (n n1 v c : Nat) (ds s r : List Nat) (T T2 : Tl) (hd : Dg ds v) (hv : 2 ≤ v ∧ v ≤ 6) (hs : s = [] ∨ kd (s.headD 0) ≠ 2) (h : Opts c s (T.o, T.r, T.m, 2, nI v) r T2) : Opts (c + 1) (List.replicate n 32 ++ (wd 17 ++ (List.replicate n1 32 ++ (ds ++ s)))) T r T2 := Or.inr (Or.inr (Or.inr (Or.inr (Or.inr (Or.inr (Or.inr (⟨n, n1, v, ds, s, rfl, hd, hv, hs, h⟩)))))))
theorem readOptions_t {sz : Int32} {by' : Nat → Int32} {t s r : List Nat} {T T2 : Tl} {p c : Nat} {wk wp nu fk fp : Int32} {Q : Bool → Int32 → Int32 → Int32 → Int32 → Int32 → Int32 → Int32 → Int32 → Int32 → Int32 → Int32 → Prop} (hT : TxOk sz by' t) (hO : Opts c s T r T2) (hA : At t p s) (hc : c ≤ 100)
    (h : ∀ wk wp nu p', At t p' r → Q true wk wp (nI p') nu fk fp T2.o T2.r T2.m T2.w T2.y) : wp_X5_readOptions wk wp (nI p) nu fk fp sz T.o T.r T.m T.w T.y by' Q := by
  have loop : ∀ (c : Nat) (s : List Nat) (T : Tl), Opts c s T r T2 → ∀ (p i : Nat) (wk wp nu : Int32), At t p s → i + c ≤ 100 → wl_X5_readOptions_2 sz by' (wx_X5_readOptions_2_21 Q) (wx_X5_readOptions_2_30 Q) (wx_X5_readOptions_2_38 Q) (c + 1) (nI i) wk wp (nI p) nu fk fp T.o T.r T.m T.w T.y := by
    intro c
    induction c with
    | zero =>
      intro s T hO p i wk wp nu hA hi
      obtain ⟨n, rfl, rfl⟩ := hO
      rw [wl_X5_readOptions_2_s]
      refine pk_lt 160 i (fun q => absurd q (by omega)) (fun _ => ?_)
      refine readWord_t hT hA (wd_sign r) ?_
      have a1 := at_tok hT hA (wd_sign r)
      exact ⟨fun _ => h _ _ _ _ a1, fun q => absurd rfl q⟩
    | succ c ih =>
      intro s T hO p i wk wp nu hA hi
      rcases hO with ⟨n, s2, rfl, hs, hO⟩ | ⟨n, s2, rfl, hs, hO⟩ | ⟨n, s2, rfl, hs, hO⟩ | ⟨n, n1, v, ds, s2, rfl, hd, hv, hs, hO⟩ | ⟨n, n1, v, ds, s2, rfl, hd, hv, hs, hO⟩ | ⟨n, s2, rfl, hs, hO⟩ | ⟨n, n1, v, ds, s2, rfl, hd, hv, hs, hO⟩ | ⟨n, n1, v, ds, s2, rfl, hd, hv, hs, hO⟩
      · have hw := wd_k (k := 10) (by decide) (by decide) hs
        have a1 := at_tok hT hA hw
        rw [wl_X5_readOptions_2_s]
        refine pk_lt 160 i (fun q => absurd q (by omega)) (fun _ => ?_)
        refine readWord_t hT hA hw ?_
        refine ⟨fun q => absurd q (by decide), fun _ => ?_⟩
        refine readOption_10 hT hA hs ?_
        refine ⟨fun q => (by cases q), fun _ => ?_⟩
        refine nm_r (e' := nI (i + 1)) (nI_1 _) ?_
        exact ih _ _ hO _ (i + 1) _ _ _ a1 (by omega)
      · have hw := wd_k (k := 11) (by decide) (by decide) hs
        have a1 := at_tok hT hA hw
        rw [wl_X5_readOptions_2_s]
        refine pk_lt 160 i (fun q => absurd q (by omega)) (fun _ => ?_)
        refine readWord_t hT hA hw ?_
        refine ⟨fun q => absurd q (by decide), fun _ => ?_⟩
        refine readOption_11 hT hA hs ?_
        refine ⟨fun q => (by cases q), fun _ => ?_⟩
        refine nm_r (e' := nI (i + 1)) (nI_1 _) ?_
        exact ih _ _ hO _ (i + 1) _ _ _ a1 (by omega)
      · have hw := wd_k (k := 12) (by decide) (by decide) hs
        have a1 := at_tok hT hA hw
        rw [wl_X5_readOptions_2_s]
        refine pk_lt 160 i (fun q => absurd q (by omega)) (fun _ => ?_)
        refine readWord_t hT hA hw ?_
        refine ⟨fun q => absurd q (by decide), fun _ => ?_⟩
        refine readOption_12 hT hA hs ?_
        refine ⟨fun q => (by cases q), fun _ => ?_⟩
        refine nm_r (e' := nI (i + 1)) (nI_1 _) ?_
        exact ih _ _ hO _ (i + 1) _ _ _ a1 (by omega)
      · have hr0 : kd ((List.replicate n1 32 ++ (ds ++ s2)).headD 0) ≠ 1 := hd_rep hd.1 (by rw [kd_head hd.1 hd.2.1]; decide) (by decide)
        have hw := wd_k (k := 13) (by decide) (by decide) (Or.inr hr0)
        have a1 := at_tok hT hA hw
        have a2 := at_tok hT a1 (wd_dg hd hs)
        rw [wl_X5_readOptions_2_s]
        refine pk_lt 160 i (fun q => absurd q (by omega)) (fun _ => ?_)
        refine readWord_t hT hA hw ?_
        refine ⟨fun q => absurd q (by decide), fun _ => ?_⟩
        refine readOption_13 hT hA hd hs hv ?_
        refine ⟨fun q => (by cases q), fun _ => ?_⟩
        refine nm_r (e' := nI (i + 1)) (nI_1 _) ?_
        exact ih _ _ hO _ (i + 1) _ _ _ a2 (by omega)
      · have hr0 : kd ((List.replicate n1 32 ++ (ds ++ s2)).headD 0) ≠ 1 := hd_rep hd.1 (by rw [kd_head hd.1 hd.2.1]; decide) (by decide)
        have hw := wd_k (k := 14) (by decide) (by decide) (Or.inr hr0)
        have a1 := at_tok hT hA hw
        have a2 := at_tok hT a1 (wd_dg hd hs)
        rw [wl_X5_readOptions_2_s]
        refine pk_lt 160 i (fun q => absurd q (by omega)) (fun _ => ?_)
        refine readWord_t hT hA hw ?_
        refine ⟨fun q => absurd q (by decide), fun _ => ?_⟩
        refine readOption_14 hT hA hd hs hv ?_
        refine ⟨fun q => (by cases q), fun _ => ?_⟩
        refine nm_r (e' := nI (i + 1)) (nI_1 _) ?_
        exact ih _ _ hO _ (i + 1) _ _ _ a2 (by omega)
      · have hw := wd_k (k := 15) (by decide) (by decide) hs
        have a1 := at_tok hT hA hw
        rw [wl_X5_readOptions_2_s]
        refine pk_lt 160 i (fun q => absurd q (by omega)) (fun _ => ?_)
        refine readWord_t hT hA hw ?_
        refine ⟨fun q => absurd q (by decide), fun _ => ?_⟩
        refine readOption_15 hT hA hs ?_
        refine ⟨fun q => (by cases q), fun _ => ?_⟩
        refine nm_r (e' := nI (i + 1)) (nI_1 _) ?_
        exact ih _ _ hO _ (i + 1) _ _ _ a1 (by omega)
      · have hr0 : kd ((List.replicate n1 32 ++ (ds ++ s2)).headD 0) ≠ 1 := hd_rep hd.1 (by rw [kd_head hd.1 hd.2.1]; decide) (by decide)
        have hw := wd_k (k := 16) (by decide) (by decide) (Or.inr hr0)
        have a1 := at_tok hT hA hw
        have a2 := at_tok hT a1 (wd_dg hd hs)
        rw [wl_X5_readOptions_2_s]
        refine pk_lt 160 i (fun q => absurd q (by omega)) (fun _ => ?_)
        refine readWord_t hT hA hw ?_
        refine ⟨fun q => absurd q (by decide), fun _ => ?_⟩
        refine readOption_16 hT hA hd hs hv ?_
        refine ⟨fun q => (by cases q), fun _ => ?_⟩
        refine nm_r (e' := nI (i + 1)) (nI_1 _) ?_
        exact ih _ _ hO _ (i + 1) _ _ _ a2 (by omega)
      · have hr0 : kd ((List.replicate n1 32 ++ (ds ++ s2)).headD 0) ≠ 1 := hd_rep hd.1 (by rw [kd_head hd.1 hd.2.1]; decide) (by decide)
        have hw := wd_k (k := 17) (by decide) (by decide) (Or.inr hr0)
        have a1 := at_tok hT hA hw
        have a2 := at_tok hT a1 (wd_dg hd hs)
        rw [wl_X5_readOptions_2_s]
        refine pk_lt 160 i (fun q => absurd q (by omega)) (fun _ => ?_)
        refine readWord_t hT hA hw ?_
        refine ⟨fun q => absurd q (by decide), fun _ => ?_⟩
        refine readOption_17 hT hA hd hs hv ?_
        refine ⟨fun q => (by cases q), fun _ => ?_⟩
        refine nm_r (e' := nI (i + 1)) (nI_1 _) ?_
        exact ih _ _ hO _ (i + 1) _ _ _ a2 (by omega)
  unfold wp_X5_readOptions
  exact ⟨c + 1, loop c s T hO p 0 wk wp nu hA (by omega)⟩
/-- a statement as it stands in a text: its word's number k, its tapes, what it tells of the settings; n blanks ahead of it -/
def Stm (s : List Nat) (T : Tl) (r : List Nat) (T2 : Tl) (k v1 v2 v3 n : Nat) : Prop :=
  (∃ (n1 n2 n3 c : Nat) (d1 d2 s2 : List Nat), k = 0 ∧ v2 = 0 ∧ s = List.replicate n 32 ++ (wd 0 ++ (List.replicate n1 32 ++ (d1 ++ (List.replicate n2 32 ++ (wd 9 ++ (List.replicate n3 32 ++ (d2 ++ s2))))))) ∧ Dg d1 v1 ∧ Dg d2 v3 ∧ v1 < 8 ∧ v3 < 8 ∧ (s2 = [] ∨ kd (s2.headD 0) ≠ 2) ∧ c ≤ 100 ∧ Opts c s2 T r T2) ∨
  (∃ (n1 n2 n3 n4 : Nat) (d1 d2 : List Nat), k = 1 ∧ v2 = 0 ∧ T2 = T ∧ s = List.replicate n 32 ++ (wd 1 ++ (List.replicate n1 32 ++ (d1 ++ (List.replicate n2 32 ++ (wd 9 ++ (List.replicate n3 32 ++ (d2 ++ (List.replicate n4 32 ++ ([59] ++ r))))))))) ∧ Dg d1 v1 ∧ Dg d2 v3 ∧ v1 < 8 ∧ v3 < 8) ∨
  (∃ (n1 n2 n3 n4 n5 : Nat) (d1 d2 d3 : List Nat), (k = 2 ∨ k = 3 ∨ k = 4) ∧ T2 = T ∧ s = List.replicate n 32 ++ (wd k ++ (List.replicate n1 32 ++ (d1 ++ (List.replicate (n2 + 1) 32 ++ (d2 ++ (List.replicate n3 32 ++ (wd 9 ++ (List.replicate n4 32 ++ (d3 ++ (List.replicate n5 32 ++ ([59] ++ r))))))))))) ∧ Dg d1 v1 ∧ Dg d2 v2 ∧ Dg d3 v3 ∧ v1 < 8 ∧ v2 < 8 ∧ v3 < 8) ∨
  (∃ (n1 n2 : Nat) (d1 : List Nat), (k = 5 ∨ k = 6 ∨ k = 7 ∨ k = 8) ∧ v2 = 0 ∧ v3 = 0 ∧ T2 = T ∧ s = List.replicate n 32 ++ (wd k ++ (List.replicate n1 32 ++ (d1 ++ (List.replicate n2 32 ++ ([59] ++ r))))) ∧ Dg d1 v1 ∧ v1 < 8)
theorem Stm.sort (n n1 n2 n3 v1 v2 c : Nat) (d1 d2 s r : List Nat) (T T2 : Tl) (h1 : Dg d1 v1) (h2 : Dg d2 v2) (hv1 : v1 < 8) (hv2 : v2 < 8) (hs : s = [] ∨ kd (s.headD 0) ≠ 2) (hc : c ≤ 100) (hO : Opts c s T r T2) : Stm (List.replicate n 32 ++ (wd 0 ++ (List.replicate n1 32 ++ (d1 ++ (List.replicate n2 32 ++ (wd 9 ++ (List.replicate n3 32 ++ (d2 ++ s)))))))) T r T2 0 v1 0 v2 n :=
  Or.inl ⟨n1, n2, n3, c, d1, d2, s, rfl, rfl, rfl, h1, h2, hv1, hv2, hs, hc, hO⟩
theorem Stm.copy (n n1 n2 n3 n4 v1 v2 : Nat) (d1 d2 r : List Nat) (T : Tl) (h1 : Dg d1 v1) (h2 : Dg d2 v2) (hv1 : v1 < 8) (hv2 : v2 < 8) : Stm (List.replicate n 32 ++ (wd 1 ++ (List.replicate n1 32 ++ (d1 ++ (List.replicate n2 32 ++ (wd 9 ++ (List.replicate n3 32 ++ (d2 ++ (List.replicate n4 32 ++ ([59] ++ r)))))))))) T r T 1 v1 0 v2 n :=
  Or.inr (Or.inl ⟨n1, n2, n3, n4, d1, d2, rfl, rfl, rfl, rfl, h1, h2, hv1, hv2⟩)
theorem Stm.comb (k n n1 n2 n3 n4 n5 v1 v2 v3 : Nat) (d1 d2 d3 r : List Nat) (T : Tl) (hk : k = 2 ∨ k = 3 ∨ k = 4) (h1 : Dg d1 v1) (h2 : Dg d2 v2) (h3 : Dg d3 v3) (hv1 : v1 < 8) (hv2 : v2 < 8) (hv3 : v3 < 8) : Stm (List.replicate n 32 ++ (wd k ++ (List.replicate n1 32 ++ (d1 ++ (List.replicate (n2 + 1) 32 ++ (d2 ++ (List.replicate n3 32 ++ (wd 9 ++ (List.replicate n4 32 ++ (d3 ++ (List.replicate n5 32 ++ ([59] ++ r)))))))))))) T r T k v1 v2 v3 n :=
  Or.inr (Or.inr (Or.inl ⟨n1, n2, n3, n4, n5, d1, d2, d3, hk, rfl, rfl, h1, h2, h3, hv1, hv2, hv3⟩))
theorem Stm.one (k n n1 n2 v1 : Nat) (d1 r : List Nat) (T : Tl) (hk : k = 5 ∨ k = 6 ∨ k = 7 ∨ k = 8) (h1 : Dg d1 v1) (hv1 : v1 < 8) : Stm (List.replicate n 32 ++ (wd k ++ (List.replicate n1 32 ++ (d1 ++ (List.replicate n2 32 ++ ([59] ++ r)))))) T r T k v1 0 0 n :=
  Or.inr (Or.inr (Or.inr ⟨n1, n2, d1, hk, rfl, rfl, rfl, rfl, h1, hv1⟩))
/-- what the reader holds behind a statement -/
def actN (k : Nat) : Nat := if k = 0 then 0 else if k = 1 then 2 else if k < 5 then 1 else if k < 7 then 3 else k - 3
def StR (k v1 v2 v3 : Nat) (op : Nat → Int32) (act how : Int32) (isLast : Bool) (op' : Nat → Int32) : Prop := act = nI (actN k) ∧ ((k = 2 ∨ k = 3 ∨ k = 4) → how = nI (k - 2) ∧ op' 1 = nI v2) ∧ ((k = 5 ∨ k = 6) → isLast = decide (k = 5)) ∧ op' 0 = nI v1 ∧ (k < 5 → op' 2 = nI v3) ∧ (5 ≤ k → op' 2 = op 2) ∧ ((k < 2 ∨ 5 ≤ k) → op' 1 = op 1)
theorem readStatement_t {sz : Int32} {by' op : Nat → Int32} {t s r : List Nat} {T T2 : Tl} {p k v1 v2 v3 n : Nat} {nu sp act how fk fp to' tr tm tw ty : Int32} {il : Bool} {Q : Bool → Int32 → Int32 → Int32 → Int32 → Int32 → Int32 → Int32 → Bool → Int32 → Int32 → Int32 → Int32 → Int32 → Int32 → Int32 → (Nat → Int32) → Prop} (hT : TxOk sz by' t) (hS : Stm s T r T2 k v1 v2 v3 n) (hA : At t p s)
    (h : ∀ wk wp nu p' act' how' il' op', At t p' r → StR k v1 v2 v3 op act' how' il' op' → Q true wk wp (nI p') nu (nI (p + n)) act' how' il' fk fp T2.o T2.r T2.m T2.w T2.y op') : wp_X5_readStatement (nI p) nu sp act how il fk fp sz to' tr tm tw ty op by' T.o T.r T.m T.w T.y Q := by
  rcases hS with ⟨n1, n2, n3, c, d1, d2, s2, rfl, rfl, rfl, h1, h2, hv1, hv2, hs, hc, hO⟩ | ⟨n1, n2, n3, n4, d1, d2, rfl, rfl, rfl, rfl, h1, h2, hv1, hv2⟩ | ⟨n1, n2, n3, n4, n5, d1, d2, d3, hk, rfl, rfl, h1, h2, h3, hv1, hv2, hv3⟩ | ⟨n1, n2, d1, hk, rfl, rfl, rfl, rfl, h1, hv1⟩
  · skip
    have hr0 : kd ((List.replicate n1 32 ++ (d1 ++ (List.replicate n2 32 ++ (wd 9 ++ (List.replicate n3 32 ++ (d2 ++ s2)))))).headD 0) ≠ 1 := hd_rep h1.1 (by rw [kd_head h1.1 h1.2.1]; decide) (by decide)
    have hw := wd_k (k := 0) (by decide) (by decide) (Or.inr hr0)
    have a1 := at_tok hT hA hw
    unfold wp_X5_readStatement
    refine readWord_t hT hA hw ?_
    refine ⟨fun q => absurd q (by decide), fun _ => ?_⟩
    unfold wp_X8_takeOver
    refine isWord_y hT hA hw (by decide) ?_
    refine ⟨fun q => (by cases q), fun _ => ?_⟩
    refine readTransfer_t (wh := 0) hT a1 h1 h2 hv1 hv2 hs (fun p2 a2 => ?_)
    refine ⟨fun q => (by cases q), fun _ => ?_⟩
    refine readOptions_t hT hO a2 hc (fun wk wp nu p3 a3 => ?_)
    refine ⟨fun q => (by cases q), fun _ => ?_⟩
    refine h _ _ _ _ _ _ _ _ a3 ⟨rfl, fun q => absurd q (by omega), fun q => absurd q (by omega), ?_, fun _ => ?_, fun q => absurd q (by omega), fun _ => ?_⟩
    · rw [up_n _ (by decide), up_s]
    · rw [up_s]
    · rw [up_n _ (by decide), up_n _ (by decide)]
  · skip
    have hr0 : kd ((List.replicate n1 32 ++ (d1 ++ (List.replicate n2 32 ++ (wd 9 ++ (List.replicate n3 32 ++ (d2 ++ (List.replicate n4 32 ++ ([59] ++ r)))))))).headD 0) ≠ 1 := hd_rep h1.1 (by rw [kd_head h1.1 h1.2.1]; decide) (by decide)
    have hs : kd ((List.replicate n4 32 ++ ([59] ++ r)).headD 0) ≠ 2 := hd_rep (by simp) (by decide) (by decide)
    have hw := wd_k (k := 1) (by decide) (by decide) (Or.inr hr0)
    have a1 := at_tok hT hA hw
    unfold wp_X5_readStatement
    refine readWord_t hT hA hw ?_
    refine ⟨fun q => absurd q (by decide), fun _ => ?_⟩
    unfold wp_X8_takeOver
    refine isWord_n (j := 0) hT hA hw (by decide) ?_
    refine ⟨fun _ => ?_, fun q => by cases q⟩
    refine isWord_y hT hA hw (by decide) ?_
    refine ⟨fun q => (by cases q), fun _ => ?_⟩
    refine readTransfer_t (wh := 2) hT a1 h1 h2 hv1 hv2 (Or.inr hs) (fun p2 a2 => ?_)
    refine ⟨fun q => (by cases q), fun _ => ?_⟩
    refine readSign_t hT a2 ?_
    refine ⟨fun q => (by cases q), fun _ => ?_⟩
    refine h _ _ _ _ _ _ _ _ (at_tok hT a2 (wd_sign r)) ⟨rfl, fun q => absurd q (by omega), fun q => absurd q (by omega), ?_, fun _ => ?_, fun q => absurd q (by omega), fun _ => ?_⟩
    · rw [up_n _ (by decide), up_s]
    · rw [up_s]
    · rw [up_n _ (by decide), up_n _ (by decide)]
  · skip
    have hr0 : kd ((List.replicate n1 32 ++ (d1 ++ (List.replicate (n2 + 1) 32 ++ (d2 ++ (List.replicate n3 32 ++ (wd 9 ++ (List.replicate n4 32 ++ (d3 ++ (List.replicate n5 32 ++ ([59] ++ r)))))))))).headD 0) ≠ 1 := hd_rep h1.1 (by rw [kd_head h1.1 h1.2.1]; decide) (by decide)
    rcases hk with rfl | rfl | rfl
    · have hw := wd_k (k := 2) (by decide) (by decide) (Or.inr hr0)
      have a1 := at_tok hT hA hw
      unfold wp_X5_readStatement
      refine readWord_t hT hA hw ?_
      refine ⟨fun q => absurd q (by decide), fun _ => ?_⟩
      unfold wp_X8_takeOver
      refine isWord_n (j := 0) hT hA hw (by decide) ?_
      refine ⟨fun _ => ?_, fun q => by cases q⟩
      refine isWord_n (j := 1) hT hA hw (by decide) ?_
      refine ⟨fun _ => ?_, fun q => by cases q⟩
      refine isWord_y hT hA hw (by decide) ?_
      refine ⟨fun q => (by cases q), fun _ => ?_⟩
      refine readCombining_t (td := 0) hT a1 h1 h2 h3 hv1 hv2 hv3 (fun p2 a2 => ?_)
      refine h _ _ _ _ _ _ _ _ a2 ⟨rfl, fun _ => ⟨rfl, ?_⟩, fun q => absurd q (by omega), ?_, fun _ => ?_, fun q => absurd q (by omega), fun q => absurd q (by omega)⟩
      · rw [up_n _ (by decide), up_s]
      · rw [up_n _ (by decide), up_n _ (by decide), up_s]
      · rw [up_s]
    · have hw := wd_k (k := 3) (by decide) (by decide) (Or.inr hr0)
      have a1 := at_tok hT hA hw
      unfold wp_X5_readStatement
      refine readWord_t hT hA hw ?_
      refine ⟨fun q => absurd q (by decide), fun _ => ?_⟩
      unfold wp_X8_takeOver
      refine isWord_n (j := 0) hT hA hw (by decide) ?_
      refine ⟨fun _ => ?_, fun q => by cases q⟩
      refine isWord_n (j := 1) hT hA hw (by decide) ?_
      refine ⟨fun _ => ?_, fun q => by cases q⟩
      refine isWord_n (j := 2) hT hA hw (by decide) ?_
      refine ⟨fun _ => ?_, fun q => by cases q⟩
      refine isWord_y hT hA hw (by decide) ?_
      refine ⟨fun q => (by cases q), fun _ => ?_⟩
      refine readCombining_t (td := 1) hT a1 h1 h2 h3 hv1 hv2 hv3 (fun p2 a2 => ?_)
      refine h _ _ _ _ _ _ _ _ a2 ⟨rfl, fun _ => ⟨rfl, ?_⟩, fun q => absurd q (by omega), ?_, fun _ => ?_, fun q => absurd q (by omega), fun q => absurd q (by omega)⟩
      · rw [up_n _ (by decide), up_s]
      · rw [up_n _ (by decide), up_n _ (by decide), up_s]
      · rw [up_s]
    · have hw := wd_k (k := 4) (by decide) (by decide) (Or.inr hr0)
      have a1 := at_tok hT hA hw
      unfold wp_X5_readStatement
      refine readWord_t hT hA hw ?_
      refine ⟨fun q => absurd q (by decide), fun _ => ?_⟩
      unfold wp_X8_takeOver
      refine isWord_n (j := 0) hT hA hw (by decide) ?_
      refine ⟨fun _ => ?_, fun q => by cases q⟩
      refine isWord_n (j := 1) hT hA hw (by decide) ?_
      refine ⟨fun _ => ?_, fun q => by cases q⟩
      refine isWord_n (j := 2) hT hA hw (by decide) ?_
      refine ⟨fun _ => ?_, fun q => by cases q⟩
      refine isWord_n (j := 3) hT hA hw (by decide) ?_
      refine ⟨fun _ => ?_, fun q => by cases q⟩
      refine isWord_y hT hA hw (by decide) ?_
      refine ⟨fun q => (by cases q), fun _ => ?_⟩
      refine readCombining_t (td := 2) hT a1 h1 h2 h3 hv1 hv2 hv3 (fun p2 a2 => ?_)
      refine h _ _ _ _ _ _ _ _ a2 ⟨rfl, fun _ => ⟨rfl, ?_⟩, fun q => absurd q (by omega), ?_, fun _ => ?_, fun q => absurd q (by omega), fun q => absurd q (by omega)⟩
      · rw [up_n _ (by decide), up_s]
      · rw [up_n _ (by decide), up_n _ (by decide), up_s]
      · rw [up_s]
  · skip
    have hr0 : kd ((List.replicate n1 32 ++ (d1 ++ (List.replicate n2 32 ++ ([59] ++ r)))).headD 0) ≠ 1 := hd_rep h1.1 (by rw [kd_head h1.1 h1.2.1]; decide) (by decide)
    rcases hk with rfl | rfl | rfl | rfl
    · have hw := wd_k (k := 5) (by decide) (by decide) (Or.inr hr0)
      have a1 := at_tok hT hA hw
      unfold wp_X5_readStatement
      refine readWord_t hT hA hw ?_
      refine ⟨fun q => absurd q (by decide), fun _ => ?_⟩
      unfold wp_X8_takeOver
      refine isWord_n (j := 0) hT hA hw (by decide) ?_
      refine ⟨fun _ => ?_, fun q => by cases q⟩
      refine isWord_n (j := 1) hT hA hw (by decide) ?_
      refine ⟨fun _ => ?_, fun q => by cases q⟩
      refine isWord_n (j := 2) hT hA hw (by decide) ?_
      refine ⟨fun _ => ?_, fun q => by cases q⟩
      refine isWord_n (j := 3) hT hA hw (by decide) ?_
      refine ⟨fun _ => ?_, fun q => by cases q⟩
      refine isWord_n (j := 4) hT hA hw (by decide) ?_
      refine ⟨fun _ => ?_, fun q => by cases q⟩
      refine isWord_y hT hA hw (by decide) ?_
      refine ⟨fun q => (by cases q), fun _ => ?_⟩
      unfold wj_X5_readStatement_160
      refine readSingle_t (wh := 3) hT a1 h1 hv1 (fun p2 a2 => ?_)
      refine h _ _ _ _ _ _ _ _ a2 ⟨rfl, fun q => absurd q (by omega), fun q => rfl, ?_, fun q => absurd q (by omega), fun _ => ?_, fun _ => ?_⟩
      · rw [up_s]
      · rw [up_n _ (by decide)]
      · rw [up_n _ (by decide)]
    · have hw := wd_k (k := 6) (by decide) (by decide) (Or.inr hr0)
      have a1 := at_tok hT hA hw
      unfold wp_X5_readStatement
      refine readWord_t hT hA hw ?_
      refine ⟨fun q => absurd q (by decide), fun _ => ?_⟩
      unfold wp_X8_takeOver
      refine isWord_n (j := 0) hT hA hw (by decide) ?_
      refine ⟨fun _ => ?_, fun q => by cases q⟩
      refine isWord_n (j := 1) hT hA hw (by decide) ?_
      refine ⟨fun _ => ?_, fun q => by cases q⟩
      refine isWord_n (j := 2) hT hA hw (by decide) ?_
      refine ⟨fun _ => ?_, fun q => by cases q⟩
      refine isWord_n (j := 3) hT hA hw (by decide) ?_
      refine ⟨fun _ => ?_, fun q => by cases q⟩
      refine isWord_n (j := 4) hT hA hw (by decide) ?_
      refine ⟨fun _ => ?_, fun q => by cases q⟩
      refine isWord_n (j := 5) hT hA hw (by decide) ?_
      refine ⟨fun _ => ?_, fun q => by cases q⟩
      refine isWord_y hT hA hw (by decide) ?_
      refine ⟨fun q => (by cases q), fun _ => ?_⟩
      unfold wj_X5_readStatement_160
      refine readSingle_t (wh := 3) hT a1 h1 hv1 (fun p2 a2 => ?_)
      refine h _ _ _ _ _ _ _ _ a2 ⟨rfl, fun q => absurd q (by omega), fun q => rfl, ?_, fun q => absurd q (by omega), fun _ => ?_, fun _ => ?_⟩
      · rw [up_s]
      · rw [up_n _ (by decide)]
      · rw [up_n _ (by decide)]
    · have hw := wd_k (k := 7) (by decide) (by decide) (Or.inr hr0)
      have a1 := at_tok hT hA hw
      unfold wp_X5_readStatement
      refine readWord_t hT hA hw ?_
      refine ⟨fun q => absurd q (by decide), fun _ => ?_⟩
      unfold wp_X8_takeOver
      refine isWord_n (j := 0) hT hA hw (by decide) ?_
      refine ⟨fun _ => ?_, fun q => by cases q⟩
      refine isWord_n (j := 1) hT hA hw (by decide) ?_
      refine ⟨fun _ => ?_, fun q => by cases q⟩
      refine isWord_n (j := 2) hT hA hw (by decide) ?_
      refine ⟨fun _ => ?_, fun q => by cases q⟩
      refine isWord_n (j := 3) hT hA hw (by decide) ?_
      refine ⟨fun _ => ?_, fun q => by cases q⟩
      refine isWord_n (j := 4) hT hA hw (by decide) ?_
      refine ⟨fun _ => ?_, fun q => by cases q⟩
      refine isWord_n (j := 5) hT hA hw (by decide) ?_
      refine ⟨fun _ => ?_, fun q => by cases q⟩
      refine isWord_n (j := 6) hT hA hw (by decide) ?_
      refine ⟨fun _ => ?_, fun q => by cases q⟩
      refine isWord_y hT hA hw (by decide) ?_
      refine ⟨fun q => (by cases q), fun _ => ?_⟩
      refine readSingle_t (wh := 4) hT a1 h1 hv1 (fun p2 a2 => ?_)
      refine h _ _ _ _ _ _ _ _ a2 ⟨rfl, fun q => absurd q (by omega), fun q => absurd q (by omega), ?_, fun q => absurd q (by omega), fun _ => ?_, fun _ => ?_⟩
      · rw [up_s]
      · rw [up_n _ (by decide)]
      · rw [up_n _ (by decide)]
    · have hw := wd_k (k := 8) (by decide) (by decide) (Or.inr hr0)
      have a1 := at_tok hT hA hw
      unfold wp_X5_readStatement
      refine readWord_t hT hA hw ?_
      refine ⟨fun q => absurd q (by decide), fun _ => ?_⟩
      unfold wp_X8_takeOver
      refine isWord_n (j := 0) hT hA hw (by decide) ?_
      refine ⟨fun _ => ?_, fun q => by cases q⟩
      refine isWord_n (j := 1) hT hA hw (by decide) ?_
      refine ⟨fun _ => ?_, fun q => by cases q⟩
      refine isWord_n (j := 2) hT hA hw (by decide) ?_
      refine ⟨fun _ => ?_, fun q => by cases q⟩
      refine isWord_n (j := 3) hT hA hw (by decide) ?_
      refine ⟨fun _ => ?_, fun q => by cases q⟩
      refine isWord_n (j := 4) hT hA hw (by decide) ?_
      refine ⟨fun _ => ?_, fun q => by cases q⟩
      refine isWord_n (j := 5) hT hA hw (by decide) ?_
      refine ⟨fun _ => ?_, fun q => by cases q⟩
      refine isWord_n (j := 6) hT hA hw (by decide) ?_
      refine ⟨fun _ => ?_, fun q => by cases q⟩
      refine isWord_n (j := 7) hT hA hw (by decide) ?_
      refine ⟨fun _ => ?_, fun q => by cases q⟩
      refine isWord_y hT hA hw (by decide) ?_
      refine ⟨fun q => (by cases q), fun _ => ?_⟩
      refine readSingle_t (wh := 5) hT a1 h1 hv1 (fun p2 a2 => ?_)
      refine h _ _ _ _ _ _ _ _ a2 ⟨rfl, fun q => absurd q (by omega), fun q => absurd q (by omega), ?_, fun q => absurd q (by omega), fun _ => ?_, fun _ => ?_⟩
      · rw [up_s]
      · rw [up_n _ (by decide)]
      · rw [up_n _ (by decide)]
/-- nothing is left: no statement -/
theorem readStatement_e {sz : Int32} {by' op : Nat → Int32} {t : List Nat} {p n : Nat} {nu sp act how fk fp to' tr tm tw ty a b c d e : Int32} {il : Bool} {Q : Bool → Int32 → Int32 → Int32 → Int32 → Int32 → Int32 → Int32 → Bool → Int32 → Int32 → Int32 → Int32 → Int32 → Int32 → Int32 → (Nat → Int32) → Prop} (hT : TxOk sz by' t) (hA : At t p (List.replicate n 32))
    (h : ∀ wk wp we, Q false wk wp we nu sp act how il fk fp to' tr tm tw ty op) : wp_X5_readStatement (nI p) nu sp act how il fk fp sz to' tr tm tw ty op by' a b c d e Q := by
  obtain ⟨h1, h2⟩ := hA
  have ht : t = t.take p ++ List.replicate n 32 := by rw [← h2, List.take_append_drop]
  have hl : (t.take p).length = p := by rw [List.length_take]; omega
  have hlex := lex_end (pre := t.take p) (n := n)
  rw [← ht, hl] at hlex
  have hlen : t.length = p + n := by
    have := congrArg List.length ht
    rw [List.length_append, List.length_replicate, hl] at this
    exact this
  unfold wp_X5_readStatement
  refine readWord_s hT hlex ?_
  rw [getD_ge (by omega)]
  exact ⟨fun _ => h _ _ _, fun q => absurd rfl q⟩
