/-! carrying out a text -/
abbrev SI : Type := Nat × Nat × Nat × Nat × Nat × Nat
def OpOk (op : Nat → Int32) : Prop := ∀ i, i < 3 → ∃ v, v < 8 ∧ op i = nI v
def TlOk (T : Tl) : Prop := (∃ a, T.o = nI a ∧ a < 2) ∧ (∃ b, T.r = nI b ∧ b < 3) ∧ (∃ c, T.m = nI c ∧ 1 ≤ c ∧ c ≤ 50) ∧ (∃ d, T.w = nI d ∧ d < 3) ∧ ∃ e, T.y = nI e ∧ 2 ≤ e ∧ e ≤ 6
theorem opts_ok {r : List Nat} {T2 : Tl} : ∀ (c : Nat) (s : List Nat) (T : Tl), Opts c s T r T2 → TlOk T → TlOk T2
  | 0, s, T, h, hT => by
    obtain ⟨-, -, e⟩ := h
    rw [e]; exact hT
  | c + 1, s, T, h, ⟨a, b, c', d, e⟩ => by
    rcases h with ⟨-, s2, -, -, hO⟩ | ⟨-, s2, -, -, hO⟩ | ⟨-, s2, -, -, hO⟩ | ⟨-, -, v, -, s2, -, -, hv, -, hO⟩ | ⟨-, -, v, -, s2, -, -, hv, -, hO⟩ | ⟨-, s2, -, -, hO⟩ | ⟨-, -, v, -, s2, -, -, hv, -, hO⟩ | ⟨-, -, v, -, s2, -, -, hv, -, hO⟩
    · exact opts_ok c s2 _ hO ⟨⟨0, rfl, by omega⟩, b, c', d, e⟩
    · exact opts_ok c s2 _ hO ⟨⟨1, rfl, by omega⟩, b, c', d, e⟩
    · exact opts_ok c s2 _ hO ⟨a, ⟨2, rfl, by omega⟩, c', d, e⟩
    · exact opts_ok c s2 _ hO ⟨a, ⟨0, rfl, by omega⟩, ⟨_, rfl, hv.1, hv.2⟩, d, e⟩
    · exact opts_ok c s2 _ hO ⟨a, ⟨1, rfl, by omega⟩, ⟨_, rfl, hv.1, hv.2⟩, d, e⟩
    · exact opts_ok c s2 _ hO ⟨a, b, c', ⟨1, rfl, by omega⟩, e⟩
    · exact opts_ok c s2 _ hO ⟨a, b, c', ⟨0, rfl, by omega⟩, ⟨_, rfl, hv.1, hv.2⟩⟩
    · exact opts_ok c s2 _ hO ⟨a, b, c', ⟨2, rfl, by omega⟩, ⟨_, rfl, hv.1, hv.2⟩⟩
theorem stm_ok {s r : List Nat} {T T2 : Tl} {k v1 v2 v3 n : Nat} (h : Stm s T r T2 k v1 v2 v3 n) : k < 9 ∧ v1 < 8 ∧ v2 < 8 ∧ v3 < 8 ∧ (TlOk T → TlOk T2) := by
  rcases h with ⟨-, -, -, c, -, -, s2, hk, h2, -, -, -, h1, h3, -, -, hO⟩ | ⟨-, -, -, -, -, -, hk, h2, hT, -, -, -, h1, h3⟩ | ⟨-, -, -, -, -, -, -, -, hk, hT, -, -, -, -, h1, h2, h3⟩ | ⟨-, -, -, hk, h2, h3, hT, -, -, h1⟩
  · exact ⟨by omega, h1, by omega, h3, opts_ok c s2 T hO⟩
  · exact ⟨by omega, h1, by omega, h3, fun z => by rw [hT]; exact z⟩
  · exact ⟨by omega, h1, h2, h3, fun z => by rw [hT]; exact z⟩
  · exact ⟨by omega, h1, by omega, by omega, fun z => by rw [hT]; exact z⟩
theorem str_op {k v1 v2 v3 : Nat} {op op' : Nat → Int32} {act how : Int32} {il : Bool} (h : StR k v1 v2 v3 op act how il op') (hk : k < 9) (h1 : v1 < 8) (h2 : v2 < 8) (h3 : v3 < 8) (ho : OpOk op) : OpOk op' := by
  obtain ⟨-, r2, -, r4, r5, r6, r7⟩ := h
  intro i hi
  rcases (by omega : i = 0 ∨ i = 1 ∨ i = 2) with e | e | e
  · rw [e, r4]; exact ⟨v1, h1, rfl⟩
  · rw [e]
    by_cases c : k = 2 ∨ k = 3 ∨ k = 4
    · rw [(r2 c).2]; exact ⟨v2, h2, rfl⟩
    · rw [r7 (by omega)]; exact ho 1 (by omega)
  · rw [e]
    by_cases c : k < 5
    · rw [r5 c]; exact ⟨v3, h3, rfl⟩
    · rw [r6 (by omega)]; exact ho 2 (by omega)
/-- can it be done; what it makes of the tapes from e on -/
def stB (ks : Nat → Int) (T : Nat → List Nat) (e k v1 v2 : Nat) : Bool := if k = 2 ∨ k = 3 ∨ k = 4 then joinB ks (T (e + v1)) (T (e + v2)) (k - 2) else true
def stT (ks : Nat → Int) (T : Nat → List Nat) (e k v1 v2 v3 od : Nat) : Nat → List Nat :=
  if k = 0 then va_up T (e + v3) (srt ks od (T (e + v1))) else if k = 1 then va_up T (e + v3) (T (e + v1)) else if k < 5 then va_up (va_up T 16 (joinL ks (T (e + v1)) (T (e + v2)) (k - 2))) (e + v3) (joinL ks (T (e + v1)) (T (e + v2)) (k - 2)) else if k < 7 then va_up T (e + v1) (thinL ks (decide (k = 5)) (T (e + v1))) else if k = 7 then va_up T (e + v1) (T (e + v1)).reverse else va_up T (e + v1) []
theorem nIinj {a b : Nat} (ha : a < 2 ^ 31) (hb : b < 2 ^ 31) (h : nI a = nI b) : a = b := by
  have := congrArg Int32.toNatClampNeg h
  rwa [cl_n ha, cl_n hb] at this
theorem tapeAt_s {op : Nat → Int32} {i v : Nat} {Q : Int32 → Prop} (hi : i < 3) (hv : op i = nI v) (h : Q (nI v)) : wp_X5_tapeAt op (nI i) Q := by
  unfold wp_X5_tapeAt
  refine pk_lt i 0 (fun q => absurd q (by omega)) (fun _ => ?_)
  refine pk_le 3 i (fun q => absurd q (by omega)) (fun _ => ?_)
  refine ⟨pk_in i 3 (by omega), nm_r (e' := nI v) (by rw [cl_n (by omega)]; exact hv) ?_⟩
  exact h
theorem isTape_s {v : Nat} {Q : Bool → Prop} (hv : v < 8) (h : Q true) : wp_X11_isTape (nI v) Q := by
  unfold wp_X11_isTape
  refine pk_lt v 0 (fun q => absurd q (by omega)) (fun _ => ?_)
  refine pk_le 8 v (fun q => absurd q (by omega)) (fun _ => ?_)
  exact h
theorem carryOutStatement_s {g0 g1 g2 g3 g4 g5 g6 g7 g8 g9 g10 g11 g12 g13 g14 g15 g16 g19 g20 : Int32} {g17 g18 g21 g22 g23 g24 g25 g26 g27 g28 g29 g30 g31 g32 g33 : Nat → Int32} {K : Nat → Int32} {ks : Nat → Int} {F : Nat → Nat → Int32} {n : Nat → Int32} {T : Nat → List Nat} {T2 : Tl} {k v1 v2 v3 od : Nat} {op op0 : Nat → Int32} {ac hw : Int32} {il : Bool} {Q : Bool → Int32 → Int32 → Int32 → Int32 → Int32 → Int32 → Int32 → Int32 → Int32 → Int32 → Int32 → Int32 → Int32 → Int32 → Int32 → Int32 → Int32 → (Nat → Int32) → (Nat → Int32) → Int32 → Int32 → (Nat → Int32) → (Nat → Int32) → (Nat → Int32) → (Nat → Int32) → (Nat → Int32) → (Nat → Int32) → (Nat → Int32) → (Nat → Int32) → (Nat → Int32) → (Nat → Int32) → (Nat → Int32) → (Nat → Int32) → (Nat → Int32) → (Nat → Nat → Int32) → (Nat → Int32) → Prop} (hK : KOk K ks) (hP : POk F n T) (hk : k < 9) (h1 : v1 < 8) (h2 : v2 < 8) (h3 : v3 < 8) (hR : StR k v1 v2 v3 op0 ac hw il op) (ho : OpOk op) (hTl : TlOk T2) (hod : T2.o = nI od) (hod2 : od < 2)
    (h : ∀ (g0 g1 g2 g3 g4 g5 g6 g7 g8 g9 g10 g11 g12 g13 g14 g15 g16 g19 g20 : Int32) (g17 g18 g21 g22 g23 g24 g25 g26 g27 g28 g29 g30 g31 g32 g33 : Nat → Int32) F' n', POk F' n' (if stB ks T 8 k v1 v2 = true then stT ks T 8 k v1 v2 v3 od else T) → Q (stB ks T 8 k v1 v2) g0 g1 g2 g3 g4 g5 g6 g7 g8 g9 g10 g11 g12 g13 g14 g15 g16 g17 g18 g19 g20 g21 g22 g23 g24 g25 g26 g27 g28 g29 g30 g31 g32 g33 F' n') : wp_X11_carryOutStatement 16 ac hw il g0 g1 g2 g3 g4 g5 g6 g7 op g8 g9 g10 g11 g12 g13 g14 g15 g16 g17 g18 g19 g20 K T2.o T2.r T2.m T2.w T2.y g21 g22 g23 g24 g25 g26 g27 g28 g29 g30 g31 g32 g33 F n Q := by
  obtain ⟨r1, r2, r3, r4, r5, r6, r7⟩ := hR
  obtain ⟨-, ⟨tb', tb1, tb2⟩, ⟨tc, tc1, tc2, tc3⟩, ⟨td, td1, td2⟩, ⟨te, te1, te2, te3⟩⟩ := hTl
  obtain ⟨w2, hw2, e2⟩ := ho 1 (by omega)
  obtain ⟨w3, hw3, e3⟩ := ho 2 (by omega)
  unfold wp_X11_carryOutStatement
  refine tapeAt_s (i := 0) (by omega) r4 ?_
  refine tapeAt_s (i := 1) (by omega) e2 ?_
  refine tapeAt_s (i := 2) (by omega) e3 ?_
  refine isTape_s h1 ?_
  refine ⟨fun q => (by cases q), fun _ => ?_⟩
  refine isTape_s hw2 ?_
  refine ⟨fun q => (by cases q), fun _ => ?_⟩
  refine isTape_s hw3 ?_
  refine ⟨fun q => (by cases q), fun _ => ?_⟩
  refine ⟨pk_in v1 8 (by omega), pk_in w3 8 (by omega), ?_⟩
  rw [cl_n (by omega), cl_n (by omega), cl_n (by omega), r1]
  have hx3 : k < 5 → w3 = v3 := fun q => nIinj (by omega) (by omega) (by rw [← e3, r5 q])
  have hx2 : (k = 2 ∨ k = 3 ∨ k = 4) → w2 = v2 := fun q => nIinj (by omega) (by omega) (by rw [← e2, (r2 q).2])
  rcases (by omega : k = 0 ∨ k = 1 ∨ k = 2 ∨ k = 3 ∨ k = 4 ∨ k = 5 ∨ k = 6 ∨ k = 7 ∨ k = 8) with rfl | rfl | rfl | rfl | rfl | rfl | rfl | rfl | rfl
  · refine ⟨fun _ => ?_, fun q => absurd q (by decide), fun q => absurd q (by decide), fun q => absurd q (by decide), fun q => absurd q (by decide), fun q => absurd q (by decide)⟩
    rw [hod, tb1, tc1, td1, te1, hx3 (by omega)]
    refine doWhole_s hK hP (by omega) (by omega) hod2 tb2 tc2 tc3 td2 te2 te3 (fun z0 z1 z2 z3 z4 z5 z6 z7 z8 z9 z10 z11 z12 z13 z14 z15 z16 z17 z18 z19 z20 z21 z22 z23 z24 z25 z26 z27 z28 z29 z30 F' n' hP' => ?_)
    exact h _ _ _ _ _ _ _ _ _ _ _ _ _ _ _ _ _ _ _ _ _ _ _ _ _ _ _ _ _ _ _ _ _ _ _ _ hP'
  · refine ⟨fun q => absurd q (by decide), fun q => absurd q (by decide), fun _ => ?_, fun q => absurd q (by decide), fun q => absurd q (by decide), fun q => absurd q (by decide)⟩
    rw [hx3 (by omega)]
    refine takeOver_s hP (by omega) (by omega) (fun F' n' hP' => ?_)
    exact h _ _ _ _ _ _ _ _ _ _ _ _ _ _ _ _ _ _ _ _ _ _ _ _ _ _ _ _ _ _ _ _ _ _ _ _ hP'
  · refine ⟨fun q => absurd q (by decide), fun _ => ?_, fun q => absurd q (by decide), fun q => absurd q (by decide), fun q => absurd q (by decide), fun q => absurd q (by decide)⟩
    refine ⟨pk_in w2 8 (by omega), ?_⟩
    rw [hx2 (by omega), hx3 (by omega), (r2 (by omega)).1]
    refine join_w (how := 0) hK hP (by omega) (by omega) (by omega) (by omega) (fun q => ?_) (fun q F' n' hP' => ?_)
    · have q2 : stB ks T 8 2 v1 v2 = false := q
      have := h g0 g1 g2 g3 g4 g5 g6 g7 g8 g9 g10 g11 g12 g13 g14 g15 g16 g19 g20 g17 g18 g21 g22 g23 g24 g25 g26 g27 g28 g29 g30 g31 g32 g33 F n (by rw [if_neg (by rw [q2]; decide)]; exact hP)
      rw [q2] at this; exact this
    · have q2 : stB ks T 8 2 v1 v2 = true := q
      have := h g0 g1 g2 g3 g4 g5 g6 g7 g8 g9 g10 g11 g12 g13 g14 g15 g16 g19 g20 g17 g18 g21 g22 g23 g24 g25 g26 g27 g28 g29 g30 g31 g32 g33 F' n' (by rw [if_pos q2]; exact hP')
      rw [q2] at this; exact this
  · refine ⟨fun q => absurd q (by decide), fun _ => ?_, fun q => absurd q (by decide), fun q => absurd q (by decide), fun q => absurd q (by decide), fun q => absurd q (by decide)⟩
    refine ⟨pk_in w2 8 (by omega), ?_⟩
    rw [hx2 (by omega), hx3 (by omega), (r2 (by omega)).1]
    refine join_w (how := 1) hK hP (by omega) (by omega) (by omega) (by omega) (fun q => ?_) (fun q F' n' hP' => ?_)
    · have q2 : stB ks T 8 3 v1 v2 = false := q
      have := h g0 g1 g2 g3 g4 g5 g6 g7 g8 g9 g10 g11 g12 g13 g14 g15 g16 g19 g20 g17 g18 g21 g22 g23 g24 g25 g26 g27 g28 g29 g30 g31 g32 g33 F n (by rw [if_neg (by rw [q2]; decide)]; exact hP)
      rw [q2] at this; exact this
    · have q2 : stB ks T 8 3 v1 v2 = true := q
      have := h g0 g1 g2 g3 g4 g5 g6 g7 g8 g9 g10 g11 g12 g13 g14 g15 g16 g19 g20 g17 g18 g21 g22 g23 g24 g25 g26 g27 g28 g29 g30 g31 g32 g33 F' n' (by rw [if_pos q2]; exact hP')
      rw [q2] at this; exact this
  · refine ⟨fun q => absurd q (by decide), fun _ => ?_, fun q => absurd q (by decide), fun q => absurd q (by decide), fun q => absurd q (by decide), fun q => absurd q (by decide)⟩
    refine ⟨pk_in w2 8 (by omega), ?_⟩
    rw [hx2 (by omega), hx3 (by omega), (r2 (by omega)).1]
    refine join_w (how := 2) hK hP (by omega) (by omega) (by omega) (by omega) (fun q => ?_) (fun q F' n' hP' => ?_)
    · have q2 : stB ks T 8 4 v1 v2 = false := q
      have := h g0 g1 g2 g3 g4 g5 g6 g7 g8 g9 g10 g11 g12 g13 g14 g15 g16 g19 g20 g17 g18 g21 g22 g23 g24 g25 g26 g27 g28 g29 g30 g31 g32 g33 F n (by rw [if_neg (by rw [q2]; decide)]; exact hP)
      rw [q2] at this; exact this
    · have q2 : stB ks T 8 4 v1 v2 = true := q
      have := h g0 g1 g2 g3 g4 g5 g6 g7 g8 g9 g10 g11 g12 g13 g14 g15 g16 g19 g20 g17 g18 g21 g22 g23 g24 g25 g26 g27 g28 g29 g30 g31 g32 g33 F' n' (by rw [if_pos q2]; exact hP')
      rw [q2] at this; exact this
  · refine ⟨fun q => absurd q (by decide), fun q => absurd q (by decide), fun q => absurd q (by decide), fun _ => ?_, fun q => absurd q (by decide), fun q => absurd q (by decide)⟩
    rw [r3 (by omega)]
    refine thin_s hK hP (by omega) (fun F' n' hP' => ?_)
    exact h _ _ _ _ _ _ _ _ _ _ _ _ _ _ _ _ _ _ _ _ _ _ _ _ _ _ _ _ _ _ _ _ _ _ _ _ hP'
  · refine ⟨fun q => absurd q (by decide), fun q => absurd q (by decide), fun q => absurd q (by decide), fun _ => ?_, fun q => absurd q (by decide), fun q => absurd q (by decide)⟩
    rw [r3 (by omega)]
    refine thin_s hK hP (by omega) (fun F' n' hP' => ?_)
    exact h _ _ _ _ _ _ _ _ _ _ _ _ _ _ _ _ _ _ _ _ _ _ _ _ _ _ _ _ _ _ _ _ _ _ _ _ hP'
  · refine ⟨fun q => absurd q (by decide), fun q => absurd q (by decide), fun q => absurd q (by decide), fun q => absurd q (by decide), fun _ => ?_, fun q => absurd q (by decide)⟩
    refine reverse_s hP (by omega) (fun F' hP' => ?_)
    exact h _ _ _ _ _ _ _ _ _ _ _ _ _ _ _ _ _ _ _ _ _ _ _ _ _ _ _ _ _ _ _ _ _ _ _ _ hP'
  · refine ⟨fun q => absurd q (by decide), fun q => absurd q (by decide), fun q => absurd q (by decide), fun q => absurd q (by decide), fun q => absurd q (by decide), fun _ => ?_⟩
    refine empty_s hP (fun n' hP' => ?_)
    exact h _ _ _ _ _ _ _ _ _ _ _ _ _ _ _ _ _ _ _ _ _ _ _ _ _ _ _ _ _ _ _ _ _ _ _ _ hP'
/-- a program as it stands in a text of so many bytes -/
def PrgL (len : Nat) (T : Tl) : List SI → List Nat → Prop
  | [], s => ∃ n, s = List.replicate n 32
  | (k, v1, v2, v3, od, pl) :: L, s => ∃ (r : List Nat) (T2 : Tl) (n : Nat), Stm s T r T2 k v1 v2 v3 n ∧ T2.o = nI od ∧ od < 2 ∧ pl = len - s.length + n ∧ PrgL len T L r
def Prg (len : Nat) (T : Tl) (s : List Nat) (L : List SI) : Prop := PrgL len T L s
theorem Prg.nil (len : Nat) (T : Tl) (n : Nat) : Prg len T (List.replicate n 32) [] := ⟨n, rfl⟩
theorem Prg.cons (len : Nat) (T : Tl) (s r : List Nat) (T2 : Tl) (k v1 v2 v3 n od : Nat) (L : List SI) (hS : Stm s T r T2 k v1 v2 v3 n) (ho : T2.o = nI od) (ho2 : od < 2) (h : Prg len T r L) : Prg len T s ((k, v1, v2, v3, od, len - s.length + n) :: L) := ⟨r, T2, n, hS, ho, ho2, rfl, h⟩
/-- which statement cannot be done, and the tapes then -/
def exP (ks : Nat → Int) : (Nat → List Nat) → List SI → Option Nat × (Nat → List Nat)
  | T, [] => (none, T)
  | T, (k, v1, v2, v3, od, pl) :: L => if stB ks T 8 k v1 v2 = true then exP ks (stT ks T 8 k v1 v2 v3 od) L else (some pl, T)
def Ran (x : Option Nat) (m : Nat) (ret fk fp : Int32) : Prop :=
  match x with
  | none => ret = nI m ∧ fk = 0 ∧ fp = -1
  | some pl => fk = 3 ∧ fp = nI pl
theorem at_len {t s : List Nat} {p : Nat} (h : At t p s) : t.length - s.length = p := by
  have := congrArg List.length h.2
  rw [List.length_drop] at this
  have := h.1
  omega
def cpT (T : Nat → List Nat) (i : Nat) : Nat → List Nat := fun j => if 8 ≤ j ∧ j < 8 + i then T (j - 8) else T j
theorem cpT_s (T : Nat → List Nat) (i : Nat) (h : i < 8) : va_up (cpT T i) (8 + i) (cpT T i i) = cpT T (i + 1) := by
  funext j
  by_cases e : j = 8 + i
  · rw [e, va_up_self]
    unfold cpT
    rw [if_neg (by omega), if_pos (by omega), Nat.add_sub_cancel_left]
  · rw [va_up_ne _ _ e]
    unfold cpT
    by_cases c : 8 ≤ j ∧ j < 8 + i
    · rw [if_pos c, if_pos (by omega)]
    · rw [if_neg c, if_neg (by omega)]
theorem loop11_s {sz : Int32} {by' : Nat → Int32} {t : List Nat} {T : Tl} {E : Int32 → Int32 → Int32 → Int32 → Int32 → Int32 → Int32 → Bool → Int32 → Int32 → Int32 → Int32 → Int32 → Int32 → Int32 → (Nat → Int32) → Prop} (hT : TxOk sz by' t) (hE : ∀ (wk wp we nu sp ac hw : Int32) (il : Bool) (to tr tm tw ty : Int32) (op : Nat → Int32), OpOk op → E wk wp we nu sp ac hw il 0 (-1) to tr tm tw ty op) {L : List SI} : ∀ {s : List Nat}, Prg t.length T s L → ∀ (p i : Nat) (wk wp nu sp ac hw : Int32) (il : Bool) (to tr tm tw ty : Int32) (op : Nat → Int32), At t p s → i + L.length ≤ 100 → OpOk op → wl_X11_carryOutText_11 T.o T.r T.m T.w T.y sz by' E (L.length + 2) (nI i) 1 wk wp (nI p) nu sp ac hw il 0 (-1) to tr tm tw ty op := by
  induction L with
  | nil =>
    intro s hL p i wk wp nu sp ac hw il to tr tm tw ty op hA hi ho
    obtain ⟨n, rfl⟩ := hL
    rw [wl_X11_carryOutText_11_s]
    refine pk_lt 160 i (fun q => absurd q (by omega)) (fun _ => ?_)
    refine ⟨fun q => absurd q (by decide), fun _ => ?_⟩
    refine readStatement_e hT hA (fun wk wp we => ?_)
    refine nm_r (e' := nI (i + 1)) (nI_1 _) ?_
    rw [wl_X11_carryOutText_11_s]
    refine pk_lt 160 (i + 1) (fun q => absurd q (by omega)) (fun _ => ?_)
    exact ⟨fun _ => hE _ _ _ _ _ _ _ _ _ _ _ _ _ _ ho, fun q => absurd rfl q⟩
  | cons x L ih =>
    intro s hL p i wk wp nu sp ac hw il to tr tm tw ty op hA hi ho
    obtain ⟨k, v1, v2, v3, od, pl⟩ := x
    obtain ⟨r, T2, n, hS, ho1, ho2, -, hL⟩ := hL
    have hi : i + (L.length + 1) ≤ 100 := hi
    obtain ⟨k1, k2, k3, k4, -⟩ := stm_ok hS
    show wl_X11_carryOutText_11 T.o T.r T.m T.w T.y sz by' E (L.length + 2 + 1) (nI i) 1 wk wp (nI p) nu sp ac hw il 0 (-1) to tr tm tw ty op
    rw [wl_X11_carryOutText_11_s]
    refine pk_lt 160 i (fun q => absurd q (by omega)) (fun _ => ?_)
    refine ⟨fun q => absurd q (by decide), fun _ => ?_⟩
    refine readStatement_t (T := T) hT hS hA (fun wk wp nu p' ac hw il op' hA' hR => ?_)
    refine nm_r (e' := nI (i + 1)) (nI_1 _) ?_
    exact ih hL p' (i + 1) _ _ _ _ _ _ _ _ _ _ _ _ _ hA' (by omega) (str_op hR k1 k2 k3 k4 ho)
/-- a statement that is wrong: kind, place -/
def Bad (t : List Nat) (T : Tl) (p kind pl : Nat) : Prop := ∀ {sz : Int32} {by' : Nat → Int32} {nu sp ac hw to tr tm tw ty : Int32} {il : Bool} {op : Nat → Int32} {Q : Bool → Int32 → Int32 → Int32 → Int32 → Int32 → Int32 → Int32 → Bool → Int32 → Int32 → Int32 → Int32 → Int32 → Int32 → Int32 → (Nat → Int32) → Prop}, TxOk sz by' t → OpOk op → (∀ (wk wp we nu sp ac hw : Int32) (il : Bool) (to tr tm tw ty : Int32) (op : Nat → Int32), OpOk op → Q false wk wp we nu sp ac hw il (nI kind) (nI pl) to tr tm tw ty op) → wp_X5_readStatement (nI p) nu sp ac hw il 0 (-1) sz to tr tm tw ty op by' T.o T.r T.m T.w T.y Q
def PrgM (t : List Nat) (T : Tl) (kind pl : Nat) : Nat → List Nat → Prop
  | 0, s => ∃ p, At t p s ∧ Bad t T p kind pl
  | m + 1, s => ∃ (r : List Nat) (T2 : Tl) (k v1 v2 v3 n : Nat), Stm s T r T2 k v1 v2 v3 n ∧ PrgM t T kind pl m r
def PrgB (t : List Nat) (T : Tl) (kind pl : Nat) (s : List Nat) (m : Nat) : Prop := PrgM t T kind pl m s
theorem PrgB.bad {t : List Nat} {T : Tl} {kind pl : Nat} (s : List Nat) (p : Nat) (hA : At t p s) (h : Bad t T p kind pl) : PrgB t T kind pl s 0 := ⟨p, hA, h⟩
theorem PrgB.cons {t : List Nat} {T : Tl} {kind pl : Nat} (s r : List Nat) (T2 : Tl) (k v1 v2 v3 n m : Nat) (hS : Stm s T r T2 k v1 v2 v3 n) (h : PrgB t T kind pl r m) : PrgB t T kind pl s (m + 1) := ⟨r, T2, k, v1, v2, v3, n, hS, h⟩
theorem at_uniq {t s : List Nat} {p q : Nat} (h : At t p s) (h2 : At t q s) : p = q := by
  rw [← at_len h, ← at_len h2]
theorem loop11_x {sz : Int32} {by' : Nat → Int32} {t : List Nat} {T : Tl} {kind pl : Nat} {E : Int32 → Int32 → Int32 → Int32 → Int32 → Int32 → Int32 → Bool → Int32 → Int32 → Int32 → Int32 → Int32 → Int32 → Int32 → (Nat → Int32) → Prop} (hT : TxOk sz by' t) (hE : ∀ (wk wp we nu sp ac hw : Int32) (il : Bool) (to tr tm tw ty : Int32) (op : Nat → Int32), OpOk op → E wk wp we nu sp ac hw il (nI kind) (nI pl) to tr tm tw ty op) {m : Nat} : ∀ {s : List Nat}, PrgB t T kind pl s m → ∀ (p i : Nat) (wk wp nu sp ac hw : Int32) (il : Bool) (to tr tm tw ty : Int32) (op : Nat → Int32), At t p s → i + m ≤ 100 → OpOk op → wl_X11_carryOutText_11 T.o T.r T.m T.w T.y sz by' E (m + 2) (nI i) 1 wk wp (nI p) nu sp ac hw il 0 (-1) to tr tm tw ty op := by
  induction m with
  | zero =>
    intro s hL p i wk wp nu sp ac hw il to tr tm tw ty op hA hi ho
    obtain ⟨p0, hA0, hB⟩ := hL
    obtain rfl := at_uniq hA hA0
    rw [wl_X11_carryOutText_11_s]
    refine pk_lt 160 i (fun q => absurd q (by omega)) (fun _ => ?_)
    refine ⟨fun q => absurd q (by decide), fun _ => ?_⟩
    refine hB hT ho (fun wk wp we nu sp ac hw il to tr tm tw ty op ho => ?_)
    refine nm_r (e' := nI (i + 1)) (nI_1 _) ?_
    rw [wl_X11_carryOutText_11_s]
    refine pk_lt 160 (i + 1) (fun q => absurd q (by omega)) (fun _ => ?_)
    exact ⟨fun _ => hE _ _ _ _ _ _ _ _ _ _ _ _ _ _ ho, fun q => absurd rfl q⟩
  | succ m ih =>
    intro s hL p i wk wp nu sp ac hw il to tr tm tw ty op hA hi ho
    obtain ⟨r, T2, k, v1, v2, v3, n, hS, hL⟩ := hL
    obtain ⟨k1, k2, k3, k4, -⟩ := stm_ok hS
    show wl_X11_carryOutText_11 T.o T.r T.m T.w T.y sz by' E (m + 2 + 1) (nI i) 1 wk wp (nI p) nu sp ac hw il 0 (-1) to tr tm tw ty op
    rw [wl_X11_carryOutText_11_s]
    refine pk_lt 160 i (fun q => absurd q (by omega)) (fun _ => ?_)
    refine ⟨fun q => absurd q (by decide), fun _ => ?_⟩
    refine readStatement_t (T := T) hT hS hA (fun wk wp nu p' ac hw il op' hA' hR => ?_)
    refine nm_r (e' := nI (i + 1)) (nI_1 _) ?_
    exact ih hL p' (i + 1) _ _ _ _ _ _ _ _ _ _ _ _ _ hA' (by omega) (str_op hR k1 k2 k3 k4 ho)
theorem loop90_s {sz : Int32} {by' : Nat → Int32} {t : List Nat} {T : Tl} {K : Nat → Int32} {ks : Nat → Int} {M : Nat} {Q : Int32 → Int32 → Int32 → Int32 → Int32 → Int32 → Int32 → Int32 → Bool → Int32 → Int32 → Int32 → Int32 → Int32 → Int32 → Int32 → Int32 → Int32 → Int32 → Int32 → Int32 → Int32 → Int32 → Int32 → (Nat → Int32) → Int32 → Int32 → Int32 → Int32 → Int32 → Int32 → Int32 → Int32 → Int32 → (Nat → Int32) → (Nat → Int32) → Int32 → Int32 → (Nat → Int32) → (Nat → Int32) → (Nat → Int32) → (Nat → Int32) → (Nat → Int32) → (Nat → Int32) → (Nat → Int32) → (Nat → Int32) → (Nat → Int32) → (Nat → Int32) → (Nat → Int32) → (Nat → Int32) → (Nat → Int32) → (Nat → Nat → Int32) → (Nat → Int32) → Prop} (hT : TxOk sz by' t) (hK : KOk K ks) (hTl : TlOk T) {L : List SI} : ∀ {s : List Nat}, Prg t.length T s L → ∀ (p i : Nat) (wk wp nu sp ac hw : Int32) (il : Bool) (to tr tm tw ty : Int32) (op : Nat → Int32) (g0 g1 g2 g3 g4 g5 g6 g7 g8 g9 g10 g11 g12 g13 g14 g15 g16 g19 g20 : Int32) (g17 g18 g21 g22 g23 g24 g25 g26 g27 g28 g29 g30 g31 g32 g33 : Nat → Int32) (F : Nat → Nat → Int32) (n : Nat → Int32) (TT : Nat → List Nat), At t p s → i + L.length = M → M ≤ 100 → OpOk op → POk F n TT → (∀ (ret wk wp we nu sp ac hw : Int32) (il : Bool) (fk fp to tr tm tw ty : Int32) (op : Nat → Int32) (g0 g1 g2 g3 g4 g5 g6 g7 g8 g9 g10 g11 g12 g13 g14 g15 g16 g19 g20 : Int32) (g17 g18 g21 g22 g23 g24 g25 g26 g27 g28 g29 g30 g31 g32 g33 : Nat → Int32) F' n', OpOk op → POk F' n' (exP ks TT L).2 → Ran (exP ks TT L).1 M ret fk fp → Q ret wk wp we nu sp ac hw il fk fp g0 g1 g2 g3 g4 g5 g6 g7 to tr tm tw ty op g8 g9 g10 g11 g12 g13 g14 g15 g16 g17 g18 g19 g20 g21 g22 g23 g24 g25 g26 g27 g28 g29 g30 g31 g32 g33 F' n') → wl_X11_carryOutText_90 16 T.o T.r T.m T.w T.y sz K by' (wx_X11_carryOutText_90_118 Q) (wx_X11_carryOutText_90_148 Q) (L.length + 1) wk wp (nI p) nu sp ac hw il 0 (-1) to tr tm tw ty op (nI i) g0 g1 g2 g3 g4 g5 g6 g7 g8 g9 g10 g11 g12 g13 g14 g15 g16 g17 g18 g19 g20 g21 g22 g23 g24 g25 g26 g27 g28 g29 g30 g31 g32 g33 F n := by
  induction L with
  | nil =>
    intro s hL p i wk wp nu sp ac hw il to tr tm tw ty op g0 g1 g2 g3 g4 g5 g6 g7 g8 g9 g10 g11 g12 g13 g14 g15 g16 g19 g20 g17 g18 g21 g22 g23 g24 g25 g26 g27 g28 g29 g30 g31 g32 g33 F n TT hA hi hM ho hP h
    obtain ⟨z, rfl⟩ := hL
    have hi : i = M := hi
    rw [wl_X11_carryOutText_90_s]
    refine pk_lt 160 i (fun q => absurd q (by omega)) (fun _ => ?_)
    refine readStatement_e hT hA (fun wk wp we => ?_)
    refine ⟨fun _ => ?_, fun q => by cases q⟩
    unfold wx_X11_carryOutText_90_148
    exact h _ _ _ _ _ _ _ _ _ _ _ _ _ _ _ _ _ _ _ _ _ _ _ _ _ _ _ _ _ _ _ _ _ _ _ _ _ _ _ _ _ _ _ _ _ _ _ _ _ _ _ _ _ ho hP ⟨by rw [hi], rfl, rfl⟩
  | cons x L ih =>
    intro s hL p i wk wp nu sp ac hw il to tr tm tw ty op g0 g1 g2 g3 g4 g5 g6 g7 g8 g9 g10 g11 g12 g13 g14 g15 g16 g19 g20 g17 g18 g21 g22 g23 g24 g25 g26 g27 g28 g29 g30 g31 g32 g33 F n TT hA hi hM ho hP h
    obtain ⟨k, v1, v2, v3, od, pl⟩ := x
    obtain ⟨r, T2, z, hS, ho1, ho2, rfl, hL⟩ := hL
    have hi : i + (L.length + 1) = M := hi
    obtain ⟨k1, k2, k3, k4, k5⟩ := stm_ok hS
    show wl_X11_carryOutText_90 16 T.o T.r T.m T.w T.y sz K by' (wx_X11_carryOutText_90_118 Q) (wx_X11_carryOutText_90_148 Q) (L.length + 1 + 1) wk wp (nI p) nu sp ac hw il 0 (-1) to tr tm tw ty op (nI i) g0 g1 g2 g3 g4 g5 g6 g7 g8 g9 g10 g11 g12 g13 g14 g15 g16 g17 g18 g19 g20 g21 g22 g23 g24 g25 g26 g27 g28 g29 g30 g31 g32 g33 F n
    rw [wl_X11_carryOutText_90_s]
    refine pk_lt 160 i (fun q => absurd q (by omega)) (fun _ => ?_)
    refine readStatement_t (T := T) hT hS hA (fun wk wp nu p' ac hw il op' hA' hR => ?_)
    have ho' := str_op hR k1 k2 k3 k4 ho
    refine ⟨fun q => (by cases q), fun _ => ?_⟩
    refine carryOutStatement_s hK hP k1 k2 k3 k4 hR ho' (k5 hTl) ho1 ho2 (fun g0 g1 g2 g3 g4 g5 g6 g7 g8 g9 g10 g11 g12 g13 g14 g15 g16 g19 g20 g17 g18 g21 g22 g23 g24 g25 g26 g27 g28 g29 g30 g31 g32 g33 F' n' hP' => ?_)
    rcases hb : stB ks TT 8 k v1 v2 with _ | _
    · refine ⟨fun _ => ?_, fun q => by cases q⟩
      unfold wx_X11_carryOutText_90_118
      rw [if_neg (by rw [hb]; decide)] at hP'
      have hx : exP ks TT ((k, v1, v2, v3, od, t.length - s.length + z) :: L) = (some (t.length - s.length + z), TT) := by
        show (if stB ks TT 8 k v1 v2 = true then _ else _) = _
        rw [if_neg (by rw [hb]; decide)]
      refine h _ _ _ _ _ _ _ _ _ _ _ _ _ _ _ _ _ _ _ _ _ _ _ _ _ _ _ _ _ _ _ _ _ _ _ _ _ _ _ _ _ _ _ _ _ _ _ _ _ _ _ _ _ ho' (by rw [hx]; exact hP') ?_
      rw [hx, at_len hA]
      exact ⟨rfl, rfl⟩
    · refine ⟨fun q => (by cases q), fun _ => ?_⟩
      refine nm_r (e' := nI (i + 1)) (nI_1 _) ?_
      rw [if_pos hb] at hP'
      have hx : exP ks TT ((k, v1, v2, v3, od, t.length - s.length + z) :: L) = exP ks (stT ks TT 8 k v1 v2 v3 od) L := by
        show (if stB ks TT 8 k v1 v2 = true then _ else _) = _
        rw [if_pos hb]
      rw [hx] at h
      exact ih hL p' (i + 1) _ _ _ _ _ _ _ _ _ _ _ _ _ _ _ _ _ _ _ _ _ _ _ _ _ _ _ _ _ _ _ _ _ _ _ _ _ _ _ _ _ _ _ _ _ _ _ _ _ _ hA' (by omega) hM ho' hP' h
theorem carryOutText_s {sz : Int32} {by' : Nat → Int32} {t : List Nat} {T : Tl} {K : Nat → Int32} {ks : Nat → Int} {F : Nat → Nat → Int32} {n : Nat → Int32} {TT : Nat → List Nat} {L : List SI} {wk wp nu sp ac hw : Int32} {il : Bool} {to tr tm tw ty : Int32} {op : Nat → Int32} {g0 g1 g2 g3 g4 g5 g6 g7 g8 g9 g10 g11 g12 g13 g14 g15 g16 g19 g20 : Int32} {g17 g18 g21 g22 g23 g24 g25 g26 g27 g28 g29 g30 g31 g32 g33 : Nat → Int32} {Q : Int32 → Int32 → Int32 → Int32 → Int32 → Int32 → Int32 → Int32 → Bool → Int32 → Int32 → Int32 → Int32 → Int32 → Int32 → Int32 → Int32 → Int32 → Int32 → Int32 → Int32 → Int32 → Int32 → Int32 → (Nat → Int32) → Int32 → Int32 → Int32 → Int32 → Int32 → Int32 → Int32 → Int32 → Int32 → (Nat → Int32) → (Nat → Int32) → Int32 → Int32 → (Nat → Int32) → (Nat → Int32) → (Nat → Int32) → (Nat → Int32) → (Nat → Int32) → (Nat → Int32) → (Nat → Int32) → (Nat → Int32) → (Nat → Int32) → (Nat → Int32) → (Nat → Int32) → (Nat → Int32) → (Nat → Int32) → (Nat → Nat → Int32) → (Nat → Int32) → Prop} (hT : TxOk sz by' t) (hK : KOk K ks) (hTl : TlOk T) (hL : Prg t.length T t L) (hM : L.length ≤ 100) (ho : OpOk op) (hP : POk F n TT)
    (h : ∀ (ret wk wp we nu sp ac hw : Int32) (il : Bool) (fk fp to tr tm tw ty : Int32) (op : Nat → Int32) (g0 g1 g2 g3 g4 g5 g6 g7 g8 g9 g10 g11 g12 g13 g14 g15 g16 g19 g20 : Int32) (g17 g18 g21 g22 g23 g24 g25 g26 g27 g28 g29 g30 g31 g32 g33 : Nat → Int32) F' n', OpOk op → POk F' n' (exP ks (cpT TT 8) L).2 → Ran (exP ks (cpT TT 8) L).1 L.length ret fk fp → Q ret wk wp we nu sp ac hw il fk fp g0 g1 g2 g3 g4 g5 g6 g7 to tr tm tw ty op g8 g9 g10 g11 g12 g13 g14 g15 g16 g17 g18 g19 g20 g21 g22 g23 g24 g25 g26 g27 g28 g29 g30 g31 g32 g33 F' n') : wp_X11_carryOutText 16 wk wp nu sp ac hw il T.o T.r T.m T.w T.y g0 g1 g2 g3 g4 g5 g6 g7 sz to tr tm tw ty op g8 g9 g10 g11 g12 g13 g14 g15 g16 g17 g18 g19 g20 K by' g21 g22 g23 g24 g25 g26 g27 g28 g29 g30 g31 g32 g33 F n Q := by
  have hA : At t 0 t := ⟨Nat.zero_le _, rfl⟩
  unfold wp_X11_carryOutText wp_X5_restart
  refine ⟨L.length + 2, ?_⟩
  refine loop11_s hT (fun wk wp we nu sp ac hw il to tr tm tw ty op ho => ?_) hL 0 0 _ _ _ _ _ _ _ _ _ _ _ _ _ hA (by omega) ho
  unfold wx_X11_carryOutText_11_40
  refine ⟨fun _ => ⟨9, ?_⟩, fun q => absurd rfl q⟩
  have fin : ∀ (F : Nat → Nat → Int32) (n : Nat → Int32), POk F n (cpT TT 8) → wx_X11_carryOutText_54_81 16 T.o T.r T.m T.w T.y g0 g1 g2 g3 g4 g5 g6 g7 sz g8 g9 g10 g11 g12 g13 g14 g15 g16 g17 g18 g19 g20 K by' g21 g22 g23 g24 g25 g26 g27 g28 g29 g30 g31 g32 g33 Q wk wp nu sp ac hw il to tr tm tw ty op F n := by
    intro F n hP
    unfold wx_X11_carryOutText_54_81 wp_X5_restart
    exact ⟨L.length + 1, loop90_s hT hK hTl hL 0 0 _ _ _ _ _ _ _ _ _ _ _ _ _ _ _ _ _ _ _ _ _ _ _ _ _ _ _ _ _ _ _ _ _ _ _ _ _ _ _ _ _ _ _ _ _ _ _ _ _ _ hA (by omega) (by omega) ho hP h⟩
  have loop : ∀ (d i : Nat) (F : Nat → Nat → Int32) (n : Nat → Int32), i + d = 8 → POk F n (cpT TT i) → wl_X11_carryOutText_54 (wx_X11_carryOutText_54_81 16 T.o T.r T.m T.w T.y g0 g1 g2 g3 g4 g5 g6 g7 sz g8 g9 g10 g11 g12 g13 g14 g15 g16 g17 g18 g19 g20 K by' g21 g22 g23 g24 g25 g26 g27 g28 g29 g30 g31 g32 g33 Q wk wp nu sp ac hw il to tr tm tw ty op) (d + 1) (nI i) F n := by
    intro d
    induction d with
    | zero =>
      intro i F n hi hP
      obtain rfl : i = 8 := by omega
      rw [wl_X11_carryOutText_54_s]
      exact ⟨fun _ => fin F n hP, fun q => absurd (by decide) q⟩
    | succ d ih =>
      intro i F n hi hP
      rw [wl_X11_carryOutText_54_s]
      refine pk_le 8 i (fun q => absurd q (by omega)) (fun _ => ?_)
      refine ⟨pk_in i 8 (by omega), pk_in i 8 (by omega), ?_⟩
      rw [cl_n (by omega)]
      refine takeOver_s hP (by omega) (by omega) (fun F' n' hP' => ?_)
      refine nm_r (e' := nI (i + 1)) (nI_1 _) ?_
      rw [cpT_s TT i (by omega)] at hP'
      exact ih (i + 1) F' n' (by omega) hP'
  refine loop 8 0 F n rfl ?_
  have : cpT TT 0 = TT := by
    funext j
    unfold cpT
    rw [if_neg (by omega)]
  rw [this]; exact hP
theorem carryOutText_x {sz : Int32} {by' : Nat → Int32} {t : List Nat} {T : Tl} {K : Nat → Int32} {F : Nat → Nat → Int32} {n : Nat → Int32} {kind pl m : Nat} {wk wp nu sp ac hw : Int32} {il : Bool} {to tr tm tw ty : Int32} {op : Nat → Int32} {g0 g1 g2 g3 g4 g5 g6 g7 g8 g9 g10 g11 g12 g13 g14 g15 g16 g19 g20 : Int32} {g17 g18 g21 g22 g23 g24 g25 g26 g27 g28 g29 g30 g31 g32 g33 : Nat → Int32} {Q : Int32 → Int32 → Int32 → Int32 → Int32 → Int32 → Int32 → Int32 → Bool → Int32 → Int32 → Int32 → Int32 → Int32 → Int32 → Int32 → Int32 → Int32 → Int32 → Int32 → Int32 → Int32 → Int32 → Int32 → (Nat → Int32) → Int32 → Int32 → Int32 → Int32 → Int32 → Int32 → Int32 → Int32 → Int32 → (Nat → Int32) → (Nat → Int32) → Int32 → Int32 → (Nat → Int32) → (Nat → Int32) → (Nat → Int32) → (Nat → Int32) → (Nat → Int32) → (Nat → Int32) → (Nat → Int32) → (Nat → Int32) → (Nat → Int32) → (Nat → Int32) → (Nat → Int32) → (Nat → Int32) → (Nat → Int32) → (Nat → Nat → Int32) → (Nat → Int32) → Prop} (hT : TxOk sz by' t) (hL : PrgB t T kind pl t m) (hM : m ≤ 100) (hk : nI kind ≠ 0) (ho : OpOk op)
    (h : ∀ (wk wp we nu sp ac hw : Int32) (il : Bool) (to tr tm tw ty : Int32) (op : Nat → Int32), OpOk op → Q 0 wk wp we nu sp ac hw il (nI kind) (nI pl) g0 g1 g2 g3 g4 g5 g6 g7 to tr tm tw ty op g8 g9 g10 g11 g12 g13 g14 g15 g16 g17 g18 g19 g20 g21 g22 g23 g24 g25 g26 g27 g28 g29 g30 g31 g32 g33 F n) : wp_X11_carryOutText 16 wk wp nu sp ac hw il T.o T.r T.m T.w T.y g0 g1 g2 g3 g4 g5 g6 g7 sz to tr tm tw ty op g8 g9 g10 g11 g12 g13 g14 g15 g16 g17 g18 g19 g20 K by' g21 g22 g23 g24 g25 g26 g27 g28 g29 g30 g31 g32 g33 F n Q := by
  have hA : At t 0 t := ⟨Nat.zero_le _, rfl⟩
  unfold wp_X11_carryOutText wp_X5_restart
  refine ⟨m + 2, ?_⟩
  refine loop11_x hT (fun wk wp we nu sp ac hw il to tr tm tw ty op ho => ?_) hL 0 0 _ _ _ _ _ _ _ _ _ _ _ _ _ hA (by omega) ho
  unfold wx_X11_carryOutText_11_40
  exact ⟨fun q => absurd q hk, fun _ => h _ _ _ _ _ _ _ _ _ _ _ _ _ _ ho⟩
