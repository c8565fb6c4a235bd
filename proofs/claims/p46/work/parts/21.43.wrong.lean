/-! wrong texts -/
theorem isWd {sz : Int32} {by' : Nat → Int32} {t : List Nat} {b e k : Nat} {Q : Bool → Prop} (hT : TxOk sz by' t) (hbe : b ≤ e) (he : e ≤ t.length) (x : Bool) (hx : isW t b e k = x) (h : Q x) : wp_X5_isWord (nI (kd (t.getD b 0))) (nI b) (nI e) sz by' (tn k) (tb k) Q := by
  refine isWord_s hT hbe he rfl ?_
  rw [hx]; exact h
theorem opk_up {op : Nat → Int32} {i v : Nat} (h : OpOk op) (hv : v < 8) : OpOk (upd op i (nI v)) := by
  intro j hj
  by_cases e : j = i
  · rw [e, up_s]; exact ⟨v, hv, rfl⟩
  · rw [up_n _ e]; exact h j hj
theorem readNumber_x {sz : Int32} {by' : Nat → Int32} {t : List Nat} {p b e lo hi v : Nat} {nu fk fp : Int32} {Q : Bool → Int32 → Int32 → Int32 → Int32 → Int32 → Int32 → Prop} (hT : TxOk sz by' t) (hL : Lex t p b e) (hk : kd (t.getD b 0) = 2) (hn : numG ((t.drop b).take (e - b)) = v) (hlo : lo < 2 ^ 20) (hhi : hi < 2 ^ 20) (hv : ¬ (lo ≤ v ∧ v ≤ hi)) (h : Q false 2 (nI b) (nI e) (nI v) 2 (nI b)) : wp_X5_readNumber (nI p) nu fk fp sz by' (nI lo) (nI hi) Q := by
  subst hn
  exact readNumber_s hT hL hlo hhi (fun _ q1 q2 => absurd ⟨q1, q2⟩ hv) (fun _ _ => h) (fun q => absurd hk q)
theorem readTape_c {sz : Int32} {by' op : Nat → Int32} {t : List Nat} {p b e v i : Nat} {nu fk fp : Int32} {Q : Bool → Int32 → Int32 → Int32 → Int32 → Int32 → Int32 → (Nat → Int32) → Prop} (hT : TxOk sz by' t) (hL : Lex t p b e) (hk : kd (t.getD b 0) = 2) (hn : numG ((t.drop b).take (e - b)) = v) (hv : v < 8) (hi : i < 3) (h : Q true 2 (nI b) (nI e) (nI v) fk fp (upd op i (nI v))) : wp_X5_readTape (nI p) nu fk fp sz op by' (nI i) Q := by
  unfold wp_X5_readTape
  refine readNumber_s (lo := 0) (hi := 7) hT hL (by omega) (by omega) (fun _ _ _ => ?_) (fun _ q => absurd (by omega) q) (fun q => absurd hk q)
  refine ⟨fun q => (by cases q), fun _ => ?_⟩
  refine pk_lt i 0 (fun q => absurd q (by omega)) (fun _ => ?_)
  refine pk_le 3 i (fun q => absurd q (by omega)) (fun _ => ?_)
  refine ⟨pk_in i 3 (by omega), ?_⟩
  rw [cl_n (by omega), hn]
  exact h
theorem readTape_x {sz : Int32} {by' op : Nat → Int32} {t : List Nat} {p b e v i : Nat} {nu fk fp : Int32} {Q : Bool → Int32 → Int32 → Int32 → Int32 → Int32 → Int32 → (Nat → Int32) → Prop} (hT : TxOk sz by' t) (hL : Lex t p b e) (hk : kd (t.getD b 0) = 2) (hn : numG ((t.drop b).take (e - b)) = v) (hv : ¬ v < 8) (h : Q false 2 (nI b) (nI e) (nI v) 2 (nI b) op) : wp_X5_readTape (nI p) nu fk fp sz op by' (nI i) Q := by
  unfold wp_X5_readTape
  refine readNumber_x (lo := 0) (hi := 7) hT hL hk hn (by omega) (by omega) (by omega) ?_
  exact ⟨fun _ => h, fun q => by cases q⟩
theorem readTape_n {sz : Int32} {by' op : Nat → Int32} {t : List Nat} {p b e i : Nat} {nu fk fp : Int32} {Q : Bool → Int32 → Int32 → Int32 → Int32 → Int32 → Int32 → (Nat → Int32) → Prop} (hT : TxOk sz by' t) (hL : Lex t p b e) (hk : kd (t.getD b 0) ≠ 2) (h : Q false (nI (kd (t.getD b 0))) (nI b) (nI e) nu 1 (nI b) op) : wp_X5_readTape (nI p) nu fk fp sz op by' (nI i) Q := by
  unfold wp_X5_readTape
  refine readNumber_s (lo := 0) (hi := 7) hT hL (by omega) (by omega) (fun q _ _ => absurd q hk) (fun q _ => absurd q hk) (fun _ => ?_)
  exact ⟨fun _ => h, fun q => by cases q⟩
theorem readSign_x {sz : Int32} {by' : Nat → Int32} {t : List Nat} {p b e : Nat} {fk fp : Int32} {Q : Bool → Int32 → Int32 → Int32 → Int32 → Int32 → Prop} (hT : TxOk sz by' t) (hL : Lex t p b e) (hk : nI (kd (t.getD b 0)) ≠ 3) (h : Q false (nI (kd (t.getD b 0))) (nI b) (nI e) 1 (nI b)) : wp_X5_readSign (nI p) fk fp sz by' Q := by
  unfold wp_X5_readSign
  refine readWord_s hT hL ?_
  refine ⟨fun q => absurd q hk, fun _ => ?_⟩
  unfold wp_X5_refuse
  exact ⟨fun _ => h, fun q => by cases q⟩
theorem readInto_c {sz : Int32} {by' : Nat → Int32} {t : List Nat} {p b e : Nat} {fk fp : Int32} {Q : Bool → Int32 → Int32 → Int32 → Int32 → Int32 → Prop} (hT : TxOk sz by' t) (hL : Lex t p b e) (hw : isW t b e 9 = true) (h : Q true (nI (kd (t.getD b 0))) (nI b) (nI e) fk fp) : wp_X5_readInto (nI p) fk fp sz by' Q := by
  unfold wp_X5_readInto
  refine readWord_s hT hL ?_
  refine isWd hT hL.2.2.2.2.1 hL.2.2.2.2.2.1 true hw ?_
  exact ⟨fun q => (by cases q), fun _ => h⟩
theorem readInto_x {sz : Int32} {by' : Nat → Int32} {t : List Nat} {p b e : Nat} {fk fp : Int32} {Q : Bool → Int32 → Int32 → Int32 → Int32 → Int32 → Prop} (hT : TxOk sz by' t) (hL : Lex t p b e) (hw : isW t b e 9 = false) (h : Q false (nI (kd (t.getD b 0))) (nI b) (nI e) 1 (nI b)) : wp_X5_readInto (nI p) fk fp sz by' Q := by
  unfold wp_X5_readInto
  refine readWord_s hT hL ?_
  refine isWd hT hL.2.2.2.2.1 hL.2.2.2.2.2.1 false hw ?_
  refine ⟨fun _ => ?_, fun q => by cases q⟩
  unfold wp_X5_refuse
  exact ⟨fun _ => h, fun q => by cases q⟩
def xt0 : List Nat := [115, 111, 114, 116, 32, 48, 32, 105, 110, 116, 111, 32, 56, 59]
theorem bad0 (T : Tl) : Bad xt0 T 0 2 12 := by
  intro sz by' nu sp ac hw to tr tm tw ty il op Q hT ho h
  unfold wp_X5_readStatement
  refine readWord_s (p := 0) (b := 0) (e := 4) hT (by decide) ?_
  refine ⟨fun q => absurd q (by decide), fun _ => ?_⟩
  unfold wp_X8_takeOver
  refine isWd (b := 0) (e := 4) (k := 0) hT (by decide) (by decide) true (by decide) ?_
  refine ⟨fun q => (by cases q), fun _ => ?_⟩
  unfold wp_X5_readTransfer
  refine readTape_c (p := 4) (b := 5) (e := 6) (v := 0) (i := 0) hT (by decide) (by decide) (by decide) (by decide) (by decide) ?_
  refine ⟨fun q => (by cases q), fun _ => ?_⟩
  refine readInto_c (p := 6) (b := 7) (e := 11) hT (by decide) (by decide) ?_
  refine ⟨fun q => (by cases q), fun _ => ?_⟩
  refine readTape_x (p := 11) (b := 12) (e := 13) (v := 8) (i := 2) hT (by decide) (by decide) (by decide) (by decide) ?_
  repeat refine ⟨fun _ => ?_, fun q => by cases q⟩
  exact h _ _ _ _ _ _ _ _ _ _ _ _ _ _ (opk_up (v := 0) ho (by decide))
theorem prgB0 (T : Tl) : PrgB xt0 T 2 12 xt0 0 := PrgB.bad _ 0 ⟨by decide, by decide⟩ (bad0 T)
def xt1 : List Nat := [116, 117, 114, 110, 32, 49, 59, 32, 115, 111, 114, 116, 115, 32, 49, 59]
theorem bad1 (T : Tl) : Bad xt1 T 7 1 8 := by
  intro sz by' nu sp ac hw to tr tm tw ty il op Q hT ho h
  unfold wp_X5_readStatement
  refine readWord_s (p := 7) (b := 8) (e := 13) hT (by decide) ?_
  refine ⟨fun q => absurd q (by decide), fun _ => ?_⟩
  unfold wp_X8_takeOver
  refine isWd (b := 8) (e := 13) (k := 0) hT (by decide) (by decide) false (by decide) ?_
  refine ⟨fun _ => ?_, fun q => by cases q⟩
  refine isWd (b := 8) (e := 13) (k := 1) hT (by decide) (by decide) false (by decide) ?_
  refine ⟨fun _ => ?_, fun q => by cases q⟩
  refine isWd (b := 8) (e := 13) (k := 2) hT (by decide) (by decide) false (by decide) ?_
  refine ⟨fun _ => ?_, fun q => by cases q⟩
  refine isWd (b := 8) (e := 13) (k := 3) hT (by decide) (by decide) false (by decide) ?_
  refine ⟨fun _ => ?_, fun q => by cases q⟩
  refine isWd (b := 8) (e := 13) (k := 4) hT (by decide) (by decide) false (by decide) ?_
  refine ⟨fun _ => ?_, fun q => by cases q⟩
  refine isWd (b := 8) (e := 13) (k := 5) hT (by decide) (by decide) false (by decide) ?_
  refine ⟨fun _ => ?_, fun q => by cases q⟩
  refine isWd (b := 8) (e := 13) (k := 6) hT (by decide) (by decide) false (by decide) ?_
  refine ⟨fun _ => ?_, fun q => by cases q⟩
  refine isWd (b := 8) (e := 13) (k := 7) hT (by decide) (by decide) false (by decide) ?_
  refine ⟨fun _ => ?_, fun q => by cases q⟩
  refine isWd (b := 8) (e := 13) (k := 8) hT (by decide) (by decide) false (by decide) ?_
  refine ⟨fun _ => ?_, fun q => by cases q⟩
  unfold wp_X5_refuse
  repeat refine ⟨fun _ => ?_, fun q => by cases q⟩
  exact h _ _ _ _ _ _ _ _ _ _ _ _ _ _ ho
theorem prgB1 (T : Tl) : PrgB xt1 T 1 8 xt1 1 :=
  show PrgB xt1 T 1 8 (List.replicate 0 32 ++ (wd 7 ++ (List.replicate 1 32 ++ ([49] ++ (List.replicate 0 32 ++ ([59] ++ [32, 115, 111, 114, 116, 115, 32, 49, 59])))))) 1 from
  PrgB.cons _ [32, 115, 111, 114, 116, 115, 32, 49, 59] T 7 1 0 0 0 0 (Stm.one 7 0 1 0 1 [49] [32, 115, 111, 114, 116, 115, 32, 49, 59] T (by omega) ⟨by decide, by decide, by decide⟩ (by omega)) (PrgB.bad [32, 115, 111, 114, 116, 115, 32, 49, 59] 7 ⟨by decide, by decide⟩ (bad1 T))
def xt2 : List Nat := [115, 111, 114, 116, 32, 48, 32, 105, 110, 116, 111, 32, 49, 32, 102, 117, 108, 108, 32, 53, 49, 32, 117, 112, 59]
theorem bad2 (T : Tl) : Bad xt2 T 0 2 19 := by
  intro sz by' nu sp ac hw to tr tm tw ty il op Q hT ho h
  unfold wp_X5_readStatement
  refine readWord_s (p := 0) (b := 0) (e := 4) hT (by decide) ?_
  refine ⟨fun q => absurd q (by decide), fun _ => ?_⟩
  unfold wp_X8_takeOver
  refine isWd (b := 0) (e := 4) (k := 0) hT (by decide) (by decide) true (by decide) ?_
  refine ⟨fun q => (by cases q), fun _ => ?_⟩
  unfold wp_X5_readTransfer
  refine readTape_c (p := 4) (b := 5) (e := 6) (v := 0) (i := 0) hT (by decide) (by decide) (by decide) (by decide) (by decide) ?_
  refine ⟨fun q => (by cases q), fun _ => ?_⟩
  refine readInto_c (p := 6) (b := 7) (e := 11) hT (by decide) (by decide) ?_
  refine ⟨fun q => (by cases q), fun _ => ?_⟩
  refine readTape_c (p := 11) (b := 12) (e := 13) (v := 1) (i := 2) hT (by decide) (by decide) (by decide) (by decide) (by decide) ?_
  refine ⟨fun q => (by cases q), fun _ => ?_⟩
  refine ⟨fun q => (by cases q), fun _ => ?_⟩
  unfold wp_X5_readOptions
  refine ⟨3, ?_⟩
  rw [wl_X5_readOptions_2_s]
  refine pk_lt 160 0 (fun q => absurd q (by omega)) (fun _ => ?_)
  refine readWord_s (p := 13) (b := 14) (e := 18) hT (by decide) ?_
  refine ⟨fun q => absurd q (by decide), fun _ => ?_⟩
  unfold wp_X5_readOption
  refine isWd (b := 14) (e := 18) (k := 10) hT (by decide) (by decide) false (by decide) ?_
  refine ⟨fun _ => ?_, fun q => by cases q⟩
  refine isWd (b := 14) (e := 18) (k := 11) hT (by decide) (by decide) false (by decide) ?_
  refine ⟨fun _ => ?_, fun q => by cases q⟩
  refine isWd (b := 14) (e := 18) (k := 12) hT (by decide) (by decide) false (by decide) ?_
  refine ⟨fun _ => ?_, fun q => by cases q⟩
  refine isWd (b := 14) (e := 18) (k := 13) hT (by decide) (by decide) true (by decide) ?_
  refine ⟨fun q => (by cases q), fun _ => ?_⟩
  unfold wj_X5_readOption_78
  refine isWd (b := 14) (e := 18) (k := 13) hT (by decide) (by decide) true (by decide) ?_
  refine ⟨fun q => (by cases q), fun _ => ?_⟩
  unfold wj_X5_readOption_96
  refine readNumber_x (p := 18) (b := 19) (e := 21) (lo := 1) (hi := 50) (v := 51) hT (by decide) (by decide) (by decide) (by decide) (by decide) (by decide) ?_
  repeat refine ⟨fun _ => ?_, fun q => by cases q⟩
  exact h _ _ _ _ _ _ _ _ _ _ _ _ _ _ (opk_up (v := 1) (opk_up (v := 0) ho (by decide)) (by decide))
theorem prgB2 (T : Tl) : PrgB xt2 T 2 19 xt2 0 := PrgB.bad _ 0 ⟨by decide, by decide⟩ (bad2 T)
def xt3 : List Nat := [115, 111, 114, 116, 32, 48, 32, 105, 110, 116, 111, 32, 49, 32, 112, 111, 108, 121, 32, 49, 59]
theorem bad3 (T : Tl) : Bad xt3 T 0 2 19 := by
  intro sz by' nu sp ac hw to tr tm tw ty il op Q hT ho h
  unfold wp_X5_readStatement
  refine readWord_s (p := 0) (b := 0) (e := 4) hT (by decide) ?_
  refine ⟨fun q => absurd q (by decide), fun _ => ?_⟩
  unfold wp_X8_takeOver
  refine isWd (b := 0) (e := 4) (k := 0) hT (by decide) (by decide) true (by decide) ?_
  refine ⟨fun q => (by cases q), fun _ => ?_⟩
  unfold wp_X5_readTransfer
  refine readTape_c (p := 4) (b := 5) (e := 6) (v := 0) (i := 0) hT (by decide) (by decide) (by decide) (by decide) (by decide) ?_
  refine ⟨fun q => (by cases q), fun _ => ?_⟩
  refine readInto_c (p := 6) (b := 7) (e := 11) hT (by decide) (by decide) ?_
  refine ⟨fun q => (by cases q), fun _ => ?_⟩
  refine readTape_c (p := 11) (b := 12) (e := 13) (v := 1) (i := 2) hT (by decide) (by decide) (by decide) (by decide) (by decide) ?_
  refine ⟨fun q => (by cases q), fun _ => ?_⟩
  refine ⟨fun q => (by cases q), fun _ => ?_⟩
  unfold wp_X5_readOptions
  refine ⟨3, ?_⟩
  rw [wl_X5_readOptions_2_s]
  refine pk_lt 160 0 (fun q => absurd q (by omega)) (fun _ => ?_)
  refine readWord_s (p := 13) (b := 14) (e := 18) hT (by decide) ?_
  refine ⟨fun q => absurd q (by decide), fun _ => ?_⟩
  unfold wp_X5_readOption
  refine isWd (b := 14) (e := 18) (k := 10) hT (by decide) (by decide) false (by decide) ?_
  refine ⟨fun _ => ?_, fun q => by cases q⟩
  refine isWd (b := 14) (e := 18) (k := 11) hT (by decide) (by decide) false (by decide) ?_
  refine ⟨fun _ => ?_, fun q => by cases q⟩
  refine isWd (b := 14) (e := 18) (k := 12) hT (by decide) (by decide) false (by decide) ?_
  refine ⟨fun _ => ?_, fun q => by cases q⟩
  refine isWd (b := 14) (e := 18) (k := 13) hT (by decide) (by decide) false (by decide) ?_
  refine ⟨fun _ => ?_, fun q => by cases q⟩
  refine isWd (b := 14) (e := 18) (k := 14) hT (by decide) (by decide) false (by decide) ?_
  refine ⟨fun _ => ?_, fun q => by cases q⟩
  refine isWd (b := 14) (e := 18) (k := 15) hT (by decide) (by decide) false (by decide) ?_
  refine ⟨fun _ => ?_, fun q => by cases q⟩
  refine isWd (b := 14) (e := 18) (k := 16) hT (by decide) (by decide) false (by decide) ?_
  refine ⟨fun _ => ?_, fun q => by cases q⟩
  refine isWd (b := 14) (e := 18) (k := 17) hT (by decide) (by decide) true (by decide) ?_
  refine ⟨fun q => (by cases q), fun _ => ?_⟩
  unfold wj_X5_readOption_157
  refine isWd (b := 14) (e := 18) (k := 17) hT (by decide) (by decide) true (by decide) ?_
  refine ⟨fun q => (by cases q), fun _ => ?_⟩
  unfold wj_X5_readOption_175
  refine readNumber_x (p := 18) (b := 19) (e := 20) (lo := 2) (hi := 6) (v := 1) hT (by decide) (by decide) (by decide) (by decide) (by decide) (by decide) ?_
  repeat refine ⟨fun _ => ?_, fun q => by cases q⟩
  exact h _ _ _ _ _ _ _ _ _ _ _ _ _ _ (opk_up (v := 1) (opk_up (v := 0) ho (by decide)) (by decide))
theorem prgB3 (T : Tl) : PrgB xt3 T 2 19 xt3 0 := PrgB.bad _ 0 ⟨by decide, by decide⟩ (bad3 T)
def xt4 : List Nat := [99, 111, 112, 121, 32, 49, 32, 50, 59]
theorem bad4 (T : Tl) : Bad xt4 T 0 1 7 := by
  intro sz by' nu sp ac hw to tr tm tw ty il op Q hT ho h
  unfold wp_X5_readStatement
  refine readWord_s (p := 0) (b := 0) (e := 4) hT (by decide) ?_
  refine ⟨fun q => absurd q (by decide), fun _ => ?_⟩
  unfold wp_X8_takeOver
  refine isWd (b := 0) (e := 4) (k := 0) hT (by decide) (by decide) false (by decide) ?_
  refine ⟨fun _ => ?_, fun q => by cases q⟩
  refine isWd (b := 0) (e := 4) (k := 1) hT (by decide) (by decide) true (by decide) ?_
  refine ⟨fun q => (by cases q), fun _ => ?_⟩
  unfold wp_X5_readTransfer
  refine readTape_c (p := 4) (b := 5) (e := 6) (v := 1) (i := 0) hT (by decide) (by decide) (by decide) (by decide) (by decide) ?_
  refine ⟨fun q => (by cases q), fun _ => ?_⟩
  refine readInto_x (p := 6) (b := 7) (e := 8) hT (by decide) (by decide) ?_
  repeat refine ⟨fun _ => ?_, fun q => by cases q⟩
  exact h _ _ _ _ _ _ _ _ _ _ _ _ _ _ (opk_up (v := 1) ho (by decide))
theorem prgB4 (T : Tl) : PrgB xt4 T 1 7 xt4 0 := PrgB.bad _ 0 ⟨by decide, by decide⟩ (bad4 T)
def xt5 : List Nat := [102, 105, 114, 115, 116, 32]
theorem bad5 (T : Tl) : Bad xt5 T 0 1 6 := by
  intro sz by' nu sp ac hw to tr tm tw ty il op Q hT ho h
  unfold wp_X5_readStatement
  refine readWord_s (p := 0) (b := 0) (e := 5) hT (by decide) ?_
  refine ⟨fun q => absurd q (by decide), fun _ => ?_⟩
  unfold wp_X8_takeOver
  refine isWd (b := 0) (e := 5) (k := 0) hT (by decide) (by decide) false (by decide) ?_
  refine ⟨fun _ => ?_, fun q => by cases q⟩
  refine isWd (b := 0) (e := 5) (k := 1) hT (by decide) (by decide) false (by decide) ?_
  refine ⟨fun _ => ?_, fun q => by cases q⟩
  refine isWd (b := 0) (e := 5) (k := 2) hT (by decide) (by decide) false (by decide) ?_
  refine ⟨fun _ => ?_, fun q => by cases q⟩
  refine isWd (b := 0) (e := 5) (k := 3) hT (by decide) (by decide) false (by decide) ?_
  refine ⟨fun _ => ?_, fun q => by cases q⟩
  refine isWd (b := 0) (e := 5) (k := 4) hT (by decide) (by decide) false (by decide) ?_
  refine ⟨fun _ => ?_, fun q => by cases q⟩
  refine isWd (b := 0) (e := 5) (k := 5) hT (by decide) (by decide) false (by decide) ?_
  refine ⟨fun _ => ?_, fun q => by cases q⟩
  refine isWd (b := 0) (e := 5) (k := 6) hT (by decide) (by decide) true (by decide) ?_
  refine ⟨fun q => (by cases q), fun _ => ?_⟩
  unfold wj_X5_readStatement_160
  unfold wp_X5_readSingle
  refine readTape_n (p := 5) (b := 6) (e := 6) (i := 0) hT (by decide) (by decide) ?_
  repeat refine ⟨fun _ => ?_, fun q => by cases q⟩
  exact h _ _ _ _ _ _ _ _ _ _ _ _ _ _ ho
theorem prgB5 (T : Tl) : PrgB xt5 T 1 6 xt5 0 := PrgB.bad _ 0 ⟨by decide, by decide⟩ (bad5 T)
def xt6 : List Nat := [99, 108, 101, 97, 114, 32, 50, 32, 10, 59]
theorem bad6 (T : Tl) : Bad xt6 T 0 1 8 := by
  intro sz by' nu sp ac hw to tr tm tw ty il op Q hT ho h
  unfold wp_X5_readStatement
  refine readWord_s (p := 0) (b := 0) (e := 5) hT (by decide) ?_
  refine ⟨fun q => absurd q (by decide), fun _ => ?_⟩
  unfold wp_X8_takeOver
  refine isWd (b := 0) (e := 5) (k := 0) hT (by decide) (by decide) false (by decide) ?_
  refine ⟨fun _ => ?_, fun q => by cases q⟩
  refine isWd (b := 0) (e := 5) (k := 1) hT (by decide) (by decide) false (by decide) ?_
  refine ⟨fun _ => ?_, fun q => by cases q⟩
  refine isWd (b := 0) (e := 5) (k := 2) hT (by decide) (by decide) false (by decide) ?_
  refine ⟨fun _ => ?_, fun q => by cases q⟩
  refine isWd (b := 0) (e := 5) (k := 3) hT (by decide) (by decide) false (by decide) ?_
  refine ⟨fun _ => ?_, fun q => by cases q⟩
  refine isWd (b := 0) (e := 5) (k := 4) hT (by decide) (by decide) false (by decide) ?_
  refine ⟨fun _ => ?_, fun q => by cases q⟩
  refine isWd (b := 0) (e := 5) (k := 5) hT (by decide) (by decide) false (by decide) ?_
  refine ⟨fun _ => ?_, fun q => by cases q⟩
  refine isWd (b := 0) (e := 5) (k := 6) hT (by decide) (by decide) false (by decide) ?_
  refine ⟨fun _ => ?_, fun q => by cases q⟩
  refine isWd (b := 0) (e := 5) (k := 7) hT (by decide) (by decide) false (by decide) ?_
  refine ⟨fun _ => ?_, fun q => by cases q⟩
  refine isWd (b := 0) (e := 5) (k := 8) hT (by decide) (by decide) true (by decide) ?_
  refine ⟨fun q => (by cases q), fun _ => ?_⟩
  unfold wp_X5_readSingle
  refine readTape_c (p := 5) (b := 6) (e := 7) (v := 2) (i := 0) hT (by decide) (by decide) (by decide) (by decide) (by decide) ?_
  refine ⟨fun q => (by cases q), fun _ => ?_⟩
  refine readSign_x (p := 7) (b := 8) (e := 9) hT (by decide) (by decide) ?_
  repeat refine ⟨fun _ => ?_, fun q => by cases q⟩
  exact h _ _ _ _ _ _ _ _ _ _ _ _ _ _ (opk_up (v := 2) ho (by decide))
theorem prgB6 (T : Tl) : PrgB xt6 T 1 8 xt6 0 := PrgB.bad _ 0 ⟨by decide, by decide⟩ (bad6 T)
def xt7 : List Nat := [117, 110, 105, 116, 101, 32, 48, 32, 49, 32, 105, 110, 116, 111, 32, 50, 32, 105, 110, 116, 111, 59]
theorem bad7 (T : Tl) : Bad xt7 T 0 1 17 := by
  intro sz by' nu sp ac hw to tr tm tw ty il op Q hT ho h
  unfold wp_X5_readStatement
  refine readWord_s (p := 0) (b := 0) (e := 5) hT (by decide) ?_
  refine ⟨fun q => absurd q (by decide), fun _ => ?_⟩
  unfold wp_X8_takeOver
  refine isWd (b := 0) (e := 5) (k := 0) hT (by decide) (by decide) false (by decide) ?_
  refine ⟨fun _ => ?_, fun q => by cases q⟩
  refine isWd (b := 0) (e := 5) (k := 1) hT (by decide) (by decide) false (by decide) ?_
  refine ⟨fun _ => ?_, fun q => by cases q⟩
  refine isWd (b := 0) (e := 5) (k := 2) hT (by decide) (by decide) true (by decide) ?_
  refine ⟨fun q => (by cases q), fun _ => ?_⟩
  unfold wp_X5_readCombining
  refine readTape_c (p := 5) (b := 6) (e := 7) (v := 0) (i := 0) hT (by decide) (by decide) (by decide) (by decide) (by decide) ?_
  refine ⟨fun q => (by cases q), fun _ => ?_⟩
  refine readTape_c (p := 7) (b := 8) (e := 9) (v := 1) (i := 1) hT (by decide) (by decide) (by decide) (by decide) (by decide) ?_
  refine ⟨fun q => (by cases q), fun _ => ?_⟩
  refine readInto_c (p := 9) (b := 10) (e := 14) hT (by decide) (by decide) ?_
  refine ⟨fun q => (by cases q), fun _ => ?_⟩
  refine readTape_c (p := 14) (b := 15) (e := 16) (v := 2) (i := 2) hT (by decide) (by decide) (by decide) (by decide) (by decide) ?_
  refine ⟨fun q => (by cases q), fun _ => ?_⟩
  refine readSign_x (p := 16) (b := 17) (e := 21) hT (by decide) (by decide) ?_
  repeat refine ⟨fun _ => ?_, fun q => by cases q⟩
  exact h _ _ _ _ _ _ _ _ _ _ _ _ _ _ (opk_up (v := 2) (opk_up (v := 1) (opk_up (v := 0) ho (by decide)) (by decide)) (by decide))
theorem prgB7 (T : Tl) : PrgB xt7 T 1 17 xt7 0 := PrgB.bad _ 0 ⟨by decide, by decide⟩ (bad7 T)
def xt8 : List Nat := [115, 111, 114, 116, 32, 48, 32, 105, 110, 116, 111, 32, 49, 32, 117, 112, 32, 68, 111, 119, 110, 59]
theorem bad8 (T : Tl) : Bad xt8 T 0 1 17 := by
  intro sz by' nu sp ac hw to tr tm tw ty il op Q hT ho h
  unfold wp_X5_readStatement
  refine readWord_s (p := 0) (b := 0) (e := 4) hT (by decide) ?_
  refine ⟨fun q => absurd q (by decide), fun _ => ?_⟩
  unfold wp_X8_takeOver
  refine isWd (b := 0) (e := 4) (k := 0) hT (by decide) (by decide) true (by decide) ?_
  refine ⟨fun q => (by cases q), fun _ => ?_⟩
  unfold wp_X5_readTransfer
  refine readTape_c (p := 4) (b := 5) (e := 6) (v := 0) (i := 0) hT (by decide) (by decide) (by decide) (by decide) (by decide) ?_
  refine ⟨fun q => (by cases q), fun _ => ?_⟩
  refine readInto_c (p := 6) (b := 7) (e := 11) hT (by decide) (by decide) ?_
  refine ⟨fun q => (by cases q), fun _ => ?_⟩
  refine readTape_c (p := 11) (b := 12) (e := 13) (v := 1) (i := 2) hT (by decide) (by decide) (by decide) (by decide) (by decide) ?_
  refine ⟨fun q => (by cases q), fun _ => ?_⟩
  refine ⟨fun q => (by cases q), fun _ => ?_⟩
  unfold wp_X5_readOptions
  refine ⟨3, ?_⟩
  rw [wl_X5_readOptions_2_s]
  refine pk_lt 160 0 (fun q => absurd q (by omega)) (fun _ => ?_)
  refine readWord_s (p := 13) (b := 14) (e := 16) hT (by decide) ?_
  refine ⟨fun q => absurd q (by decide), fun _ => ?_⟩
  unfold wp_X5_readOption
  refine isWd (b := 14) (e := 16) (k := 10) hT (by decide) (by decide) true (by decide) ?_
  refine ⟨fun q => (by cases q), fun _ => ?_⟩
  unfold wj_X5_readOption_18
  refine isWd (b := 14) (e := 16) (k := 10) hT (by decide) (by decide) true (by decide) ?_
  refine ⟨fun q => (by cases q), fun _ => ?_⟩
  refine ⟨fun q => (by cases q), fun _ => ?_⟩
  refine nm_r (e' := nI 1) (by decide) ?_
  rw [wl_X5_readOptions_2_s]
  refine pk_lt 160 1 (fun q => absurd q (by omega)) (fun _ => ?_)
  refine readWord_s (p := 16) (b := 17) (e := 18) hT (by decide) ?_
  refine ⟨fun q => absurd q (by decide), fun _ => ?_⟩
  unfold wp_X5_readOption
  refine isWd (b := 17) (e := 18) (k := 10) hT (by decide) (by decide) false (by decide) ?_
  refine ⟨fun _ => ?_, fun q => by cases q⟩
  refine isWd (b := 17) (e := 18) (k := 11) hT (by decide) (by decide) false (by decide) ?_
  refine ⟨fun _ => ?_, fun q => by cases q⟩
  refine isWd (b := 17) (e := 18) (k := 12) hT (by decide) (by decide) false (by decide) ?_
  refine ⟨fun _ => ?_, fun q => by cases q⟩
  refine isWd (b := 17) (e := 18) (k := 13) hT (by decide) (by decide) false (by decide) ?_
  refine ⟨fun _ => ?_, fun q => by cases q⟩
  refine isWd (b := 17) (e := 18) (k := 14) hT (by decide) (by decide) false (by decide) ?_
  refine ⟨fun _ => ?_, fun q => by cases q⟩
  refine isWd (b := 17) (e := 18) (k := 15) hT (by decide) (by decide) false (by decide) ?_
  refine ⟨fun _ => ?_, fun q => by cases q⟩
  refine isWd (b := 17) (e := 18) (k := 16) hT (by decide) (by decide) false (by decide) ?_
  refine ⟨fun _ => ?_, fun q => by cases q⟩
  refine isWd (b := 17) (e := 18) (k := 17) hT (by decide) (by decide) false (by decide) ?_
  refine ⟨fun _ => ?_, fun q => by cases q⟩
  unfold wp_X5_refuse
  repeat refine ⟨fun _ => ?_, fun q => by cases q⟩
  exact h _ _ _ _ _ _ _ _ _ _ _ _ _ _ (opk_up (v := 1) (opk_up (v := 0) ho (by decide)) (by decide))
theorem prgB8 (T : Tl) : PrgB xt8 T 1 17 xt8 0 := PrgB.bad _ 0 ⟨by decide, by decide⟩ (bad8 T)
def xt9 : List Nat := [116, 117, 114, 110, 32, 49, 59, 126]
theorem bad9 (T : Tl) : Bad xt9 T 7 1 7 := by
  intro sz by' nu sp ac hw to tr tm tw ty il op Q hT ho h
  unfold wp_X5_readStatement
  refine readWord_s (p := 7) (b := 7) (e := 8) hT (by decide) ?_
  refine ⟨fun q => absurd q (by decide), fun _ => ?_⟩
  unfold wp_X8_takeOver
  refine isWd (b := 7) (e := 8) (k := 0) hT (by decide) (by decide) false (by decide) ?_
  refine ⟨fun _ => ?_, fun q => by cases q⟩
  refine isWd (b := 7) (e := 8) (k := 1) hT (by decide) (by decide) false (by decide) ?_
  refine ⟨fun _ => ?_, fun q => by cases q⟩
  refine isWd (b := 7) (e := 8) (k := 2) hT (by decide) (by decide) false (by decide) ?_
  refine ⟨fun _ => ?_, fun q => by cases q⟩
  refine isWd (b := 7) (e := 8) (k := 3) hT (by decide) (by decide) false (by decide) ?_
  refine ⟨fun _ => ?_, fun q => by cases q⟩
  refine isWd (b := 7) (e := 8) (k := 4) hT (by decide) (by decide) false (by decide) ?_
  refine ⟨fun _ => ?_, fun q => by cases q⟩
  refine isWd (b := 7) (e := 8) (k := 5) hT (by decide) (by decide) false (by decide) ?_
  refine ⟨fun _ => ?_, fun q => by cases q⟩
  refine isWd (b := 7) (e := 8) (k := 6) hT (by decide) (by decide) false (by decide) ?_
  refine ⟨fun _ => ?_, fun q => by cases q⟩
  refine isWd (b := 7) (e := 8) (k := 7) hT (by decide) (by decide) false (by decide) ?_
  refine ⟨fun _ => ?_, fun q => by cases q⟩
  refine isWd (b := 7) (e := 8) (k := 8) hT (by decide) (by decide) false (by decide) ?_
  refine ⟨fun _ => ?_, fun q => by cases q⟩
  unfold wp_X5_refuse
  repeat refine ⟨fun _ => ?_, fun q => by cases q⟩
  exact h _ _ _ _ _ _ _ _ _ _ _ _ _ _ ho
theorem prgB9 (T : Tl) : PrgB xt9 T 1 7 xt9 1 :=
  show PrgB xt9 T 1 7 (List.replicate 0 32 ++ (wd 7 ++ (List.replicate 1 32 ++ ([49] ++ (List.replicate 0 32 ++ ([59] ++ [126])))))) 1 from
  PrgB.cons _ [126] T 7 1 0 0 0 0 (Stm.one 7 0 1 0 1 [49] [126] T (by omega) ⟨by decide, by decide, by decide⟩ (by omega)) (PrgB.bad [126] 7 ⟨by decide, by decide⟩ (bad9 T))
def xt10 : List Nat := [115, 111, 114, 116, 32, 49, 32, 105, 110, 116, 111, 32, 50, 32, 51, 59]
theorem bad10 (T : Tl) : Bad xt10 T 0 1 14 := by
  intro sz by' nu sp ac hw to tr tm tw ty il op Q hT ho h
  unfold wp_X5_readStatement
  refine readWord_s (p := 0) (b := 0) (e := 4) hT (by decide) ?_
  refine ⟨fun q => absurd q (by decide), fun _ => ?_⟩
  unfold wp_X8_takeOver
  refine isWd (b := 0) (e := 4) (k := 0) hT (by decide) (by decide) true (by decide) ?_
  refine ⟨fun q => (by cases q), fun _ => ?_⟩
  unfold wp_X5_readTransfer
  refine readTape_c (p := 4) (b := 5) (e := 6) (v := 1) (i := 0) hT (by decide) (by decide) (by decide) (by decide) (by decide) ?_
  refine ⟨fun q => (by cases q), fun _ => ?_⟩
  refine readInto_c (p := 6) (b := 7) (e := 11) hT (by decide) (by decide) ?_
  refine ⟨fun q => (by cases q), fun _ => ?_⟩
  refine readTape_c (p := 11) (b := 12) (e := 13) (v := 2) (i := 2) hT (by decide) (by decide) (by decide) (by decide) (by decide) ?_
  refine ⟨fun q => (by cases q), fun _ => ?_⟩
  refine ⟨fun q => (by cases q), fun _ => ?_⟩
  unfold wp_X5_readOptions
  refine ⟨3, ?_⟩
  rw [wl_X5_readOptions_2_s]
  refine pk_lt 160 0 (fun q => absurd q (by omega)) (fun _ => ?_)
  refine readWord_s (p := 13) (b := 14) (e := 15) hT (by decide) ?_
  refine ⟨fun q => absurd q (by decide), fun _ => ?_⟩
  unfold wp_X5_readOption
  refine isWd (b := 14) (e := 15) (k := 10) hT (by decide) (by decide) false (by decide) ?_
  refine ⟨fun _ => ?_, fun q => by cases q⟩
  refine isWd (b := 14) (e := 15) (k := 11) hT (by decide) (by decide) false (by decide) ?_
  refine ⟨fun _ => ?_, fun q => by cases q⟩
  refine isWd (b := 14) (e := 15) (k := 12) hT (by decide) (by decide) false (by decide) ?_
  refine ⟨fun _ => ?_, fun q => by cases q⟩
  refine isWd (b := 14) (e := 15) (k := 13) hT (by decide) (by decide) false (by decide) ?_
  refine ⟨fun _ => ?_, fun q => by cases q⟩
  refine isWd (b := 14) (e := 15) (k := 14) hT (by decide) (by decide) false (by decide) ?_
  refine ⟨fun _ => ?_, fun q => by cases q⟩
  refine isWd (b := 14) (e := 15) (k := 15) hT (by decide) (by decide) false (by decide) ?_
  refine ⟨fun _ => ?_, fun q => by cases q⟩
  refine isWd (b := 14) (e := 15) (k := 16) hT (by decide) (by decide) false (by decide) ?_
  refine ⟨fun _ => ?_, fun q => by cases q⟩
  refine isWd (b := 14) (e := 15) (k := 17) hT (by decide) (by decide) false (by decide) ?_
  refine ⟨fun _ => ?_, fun q => by cases q⟩
  unfold wp_X5_refuse
  repeat refine ⟨fun _ => ?_, fun q => by cases q⟩
  exact h _ _ _ _ _ _ _ _ _ _ _ _ _ _ (opk_up (v := 2) (opk_up (v := 1) ho (by decide)) (by decide))
theorem prgB10 (T : Tl) : PrgB xt10 T 1 14 xt10 0 := PrgB.bad _ 0 ⟨by decide, by decide⟩ (bad10 T)
