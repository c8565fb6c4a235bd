/-! an office's program -/
def tlS (s : SS) : Tl := (nI s.1, nI s.2.1, nI s.2.2.1, nI s.2.2.2.1, nI s.2.2.2.2)
theorem tlS_ok {o : OS} {s : SS} (h : SetO o s) : TlOk (tlS s) := by
  obtain ⟨a, b, c, d, e⟩ := s
  obtain ⟨h1, h2, h3, h4, h5⟩ := h
  exact ⟨⟨a, rfl, h1.2⟩, ⟨b, rfl, h2.2⟩, ⟨c, rfl, h3.2⟩, ⟨d, rfl, h4.2⟩, ⟨e, rfl, h5.2⟩⟩
def SIok (x : SI) : Prop := x.1 < 9 ∧ x.2.1 < 8 ∧ x.2.2.1 < 8 ∧ x.2.2.2.1 < 8 ∧ x.2.2.2.2.1 < 2
theorem prg_ok {len : Nat} {T : Tl} {s : List Nat} {L : List SI} (h : Prg len T s L) : ∀ x ∈ L, SIok x := by
  induction L generalizing s with
  | nil => intro x hx; cases hx
  | cons y L ih =>
    obtain ⟨k, v1, v2, v3, od, pl⟩ := y
    obtain ⟨r, T2, n, hS, ho, ho2, -, h⟩ := h
    intro x hx
    rcases List.mem_cons.mp hx with e | e
    · rw [e]
      obtain ⟨k1, k2, k3, k4, -⟩ := stm_ok hS
      exact ⟨k1, k2, k3, k4, ho2⟩
    · exact ih h x e
theorem joinL_lt {ks : Nat → Int} {A B : List Nat} {how c : Nat} (hA : ∀ r ∈ A, r < c) (hB : ∀ r ∈ B, r < c) (hc : c ≤ 200) : ∀ r ∈ joinL ks A B how, r < c := by
  intro r hr
  unfold joinL at hr
  by_cases c0 : how = 0
  · rw [if_pos c0] at hr
    have hm : ∀ r ∈ A ++ B, r < c := fun r hr => by
      rcases List.mem_append.mp hr with q | q
      · exact hA r q
      · exact hB r q
    exact hm r ((srt_perm (fun r hr => Nat.lt_of_lt_of_le (hm r hr) hc)).mem_iff.mp hr)
  · rw [if_neg c0] at hr
    exact hA r (List.mem_filter.mp hr).1
theorem tapes_put' {T : Nat → List Nat} {c j N : Nat} {L : List Nat} (h : ∀ j, j < N → ∀ r ∈ T j, r < c) (hL : ∀ r ∈ L, r < c) : ∀ i, i < N → ∀ r ∈ va_up T j L i, r < c := by
  intro i hi r hr
  by_cases e : i = j
  · subst e; rw [va_up_self] at hr; exact hL r hr
  · rw [va_up_ne _ _ e] at hr
    exact h i hi r hr
theorem stT_lt {ks : Nat → Int} {T : Nat → List Nat} {e k v1 v2 v3 od c N : Nat} (hc : c ≤ 200) (h : ∀ j, j < N → ∀ r ∈ T j, r < c) (h1 : e + v1 < N) (h2 : e + v2 < N) : ∀ j, j < N → ∀ r ∈ stT ks T e k v1 v2 v3 od j, r < c := by
  have a1 := h (e + v1) h1
  have a2 := h (e + v2) h2
  have s1 : ∀ r ∈ srt ks od (T (e + v1)), r < c := fun r hr => a1 r ((srt_perm (fun r hr => Nat.lt_of_lt_of_le (a1 r hr) hc)).mem_iff.mp hr)
  have s2 : ∀ r ∈ joinL ks (T (e + v1)) (T (e + v2)) (k - 2), r < c := joinL_lt a1 a2 hc
  unfold stT
  by_cases c0 : k = 0
  · rw [if_pos c0]; exact tapes_put' h s1
  · rw [if_neg c0]
    by_cases c1 : k = 1
    · rw [if_pos c1]; exact tapes_put' h a1
    · rw [if_neg c1]
      by_cases c2 : k < 5
      · rw [if_pos c2]; exact tapes_put' (tapes_put' h s2) s2
      · rw [if_neg c2]
        by_cases c3 : k < 7
        · rw [if_pos c3]; exact tapes_put' h (fun r hr => a1 r ((pick_sub _ _).subset hr))
        · rw [if_neg c3]
          by_cases c4 : k = 7
          · rw [if_pos c4]; exact tapes_put' h (fun r hr => a1 r (List.mem_reverse.mp hr))
          · rw [if_neg c4]; exact tapes_put' h (fun r hr => absurd hr (by simp))
theorem exP_lt {ks : Nat → Int} {c : Nat} (hc : c ≤ 200) : ∀ (L : List SI) (T : Nat → List Nat), (∀ x ∈ L, SIok x) → (∀ j, j < 17 → ∀ r ∈ T j, r < c) → ∀ j, j < 17 → ∀ r ∈ (exP ks T L).2 j, r < c
  | [], T, _, h => h
  | (k, v1, v2, v3, od, pl) :: L, T, hS, h => by
    have hk := hS _ List.mem_cons_self
    unfold exP
    by_cases c0 : stB ks T 8 k v1 v2 = true
    · rw [if_pos c0]
      exact exP_lt hc L _ (fun x hx => hS x (List.mem_cons_of_mem _ hx)) (stT_lt hc h (by have : v1 < 8 := hk.2.1; omega) (by have : v2 < 8 := hk.2.2.1; omega))
    · rw [if_neg c0]; exact h
/-- a statement leaves the tapes below e alone -/
theorem stT_lo {ks : Nat → Int} {T : Nat → List Nat} {e k v1 v2 v3 od j : Nat} (h : j < e) (h16 : j ≠ 16) : stT ks T e k v1 v2 v3 od j = T j := by
  have n1 : j ≠ e + v1 := by omega
  have n3 : j ≠ e + v3 := by omega
  unfold stT
  repeat' split
  all_goals simp only [va_up_ne _ _ n1, va_up_ne _ _ n3, va_up_ne _ _ h16]
theorem exP_lo {ks : Nat → Int} {j : Nat} (hj : j < 8) : ∀ (L : List SI) (T : Nat → List Nat), (exP ks T L).2 j = T j
  | [], T => rfl
  | (k, v1, v2, v3, od, pl) :: L, T => by
    unfold exP
    by_cases c0 : stB ks T 8 k v1 v2 = true
    · rw [if_pos c0, exP_lo hj L, stT_lo hj (by omega)]
    · rw [if_neg c0]
theorem cpT_lt {T : Nat → List Nat} {c : Nat} (h : ∀ j, j < 17 → ∀ r ∈ T j, r < c) : ∀ j, j < 17 → ∀ r ∈ cpT T 8 j, r < c := by
  intro j hj r hr
  unfold cpT at hr
  by_cases c0 : 8 ≤ j ∧ j < 8 + 8
  · rw [if_pos c0] at hr; exact h (j - 8) (by omega) r hr
  · rw [if_neg c0] at hr; exact h j hj r hr
theorem errorKind_o {o : OS} {ks : Nat → Int} {c : Nat} {T : Nat → List Nat} {s : SS} {tx : List Nat} {J : Option JS} {Q : Int32 → OS → Prop} {X : String → OS → Prop} {L : List SI} (h : Off o ks c T s tx J) (hL : Prg tx.length (tlS s) tx L) (hM : L.length ≤ 100) (hQ : ∀ o' r, Off o' ks c (exP ks (cpT T 8) L).2 s tx J → r = (match (exP ks (cpT T 8) L).1 with | none => 0 | some _ => 3) → Q r o') : ow_errorKind o Q X := by
  obtain ⟨sa, sb, sc, sd, se⟩ := s
  obtain ⟨⟨b1, ⟨b2, b3⟩, b4, b5⟩, ⟨s1, s2, s3, s4, s5⟩, h3, h4, h5⟩ := h
  have hh2 : SetO o (sa, sb, sc, sd, se) := ⟨s1, s2, s3, s4, s5⟩
  unfold ow_errorKind wp_X11_errorKind
  rw [s1.1, s2.1, s3.1, s4.1, s5.1]
  refine carryOutText_s (T := tlS (sa, sb, sc, sd, se)) h3 b1 (tlS_ok hh2) hL hM h4 b4 (fun z0 z1 z2 z3 z4 z5 z6 z7 z8 z9 z10 z11 z12 z13 z14 z15 z16 z17 z18 z19 z20 z21 z22 z23 z24 z25 z26 z27 z28 z29 z30 z31 z32 z33 z34 z35 z36 z37 z38 z39 z40 z41 z42 z43 z44 z45 z46 z47 z48 z49 z50 F' n' hop hP' hR => ?_)
  refine hQ _ _ ⟨⟨b1, ⟨b2, b3⟩, hP', exP_lt b3 L _ (prg_ok hL) (cpT_lt b5)⟩, hh2, h3, hop, h5⟩ ?_
  revert hR
  unfold Ran
  cases (exP ks (cpT T 8) L).1 with
  | none => exact fun hR => hR.2.1
  | some pl => exact fun hR => hR.1
theorem errorKind_x {o : OS} {ks : Nat → Int} {c : Nat} {T : Nat → List Nat} {s : SS} {tx : List Nat} {J : Option JS} {Q : Int32 → OS → Prop} {X : String → OS → Prop} {kind pl m : Nat} (h : Off o ks c T s tx J) (hL : PrgB tx (tlS s) kind pl tx m) (hM : m ≤ 100) (hk : nI kind ≠ 0) (hQ : ∀ o', Off o' ks c T s tx J → Q (nI kind) o') : ow_errorKind o Q X := by
  obtain ⟨sa, sb, sc, sd, se⟩ := s
  obtain ⟨⟨b1, ⟨b2, b3⟩, b4, b5⟩, ⟨s1, s2, s3, s4, s5⟩, h3, h4, h5⟩ := h
  have hh2 : SetO o (sa, sb, sc, sd, se) := ⟨s1, s2, s3, s4, s5⟩
  unfold ow_errorKind wp_X11_errorKind
  rw [s1.1, s2.1, s3.1, s4.1, s5.1]
  refine carryOutText_x (T := tlS (sa, sb, sc, sd, se)) (K := o.2.2.1 0) h3 hL hM hk h4 (fun z0 z1 z2 z3 z4 z5 z6 z7 z8 z9 z10 z11 z12 z13 hop => ?_)
  exact hQ _ ⟨⟨b1, ⟨b2, b3⟩, b4, b5⟩, hh2, h3, hop, h5⟩
theorem errorPlace_o {o : OS} {ks : Nat → Int} {c : Nat} {T : Nat → List Nat} {s : SS} {tx : List Nat} {J : Option JS} {Q : Int32 → OS → Prop} {X : String → OS → Prop} {L : List SI} (h : Off o ks c T s tx J) (hL : Prg tx.length (tlS s) tx L) (hM : L.length ≤ 100) (hQ : ∀ o' r, Off o' ks c (exP ks (cpT T 8) L).2 s tx J → r = (match (exP ks (cpT T 8) L).1 with | none => -1 | some pl => nI pl) → Q r o') : ow_errorPlace o Q X := by
  obtain ⟨sa, sb, sc, sd, se⟩ := s
  obtain ⟨⟨b1, ⟨b2, b3⟩, b4, b5⟩, ⟨s1, s2, s3, s4, s5⟩, h3, h4, h5⟩ := h
  have hh2 : SetO o (sa, sb, sc, sd, se) := ⟨s1, s2, s3, s4, s5⟩
  unfold ow_errorPlace wp_X11_errorPlace
  rw [s1.1, s2.1, s3.1, s4.1, s5.1]
  refine carryOutText_s (T := tlS (sa, sb, sc, sd, se)) h3 b1 (tlS_ok hh2) hL hM h4 b4 (fun z0 z1 z2 z3 z4 z5 z6 z7 z8 z9 z10 z11 z12 z13 z14 z15 z16 z17 z18 z19 z20 z21 z22 z23 z24 z25 z26 z27 z28 z29 z30 z31 z32 z33 z34 z35 z36 z37 z38 z39 z40 z41 z42 z43 z44 z45 z46 z47 z48 z49 z50 F' n' hop hP' hR => ?_)
  refine hQ _ _ ⟨⟨b1, ⟨b2, b3⟩, hP', exP_lt b3 L _ (prg_ok hL) (cpT_lt b5)⟩, hh2, h3, hop, h5⟩ ?_
  revert hR
  unfold Ran
  cases (exP ks (cpT T 8) L).1 with
  | none => exact fun hR => hR.2.2
  | some pl => exact fun hR => hR.2
theorem errorPlace_x {o : OS} {ks : Nat → Int} {c : Nat} {T : Nat → List Nat} {s : SS} {tx : List Nat} {J : Option JS} {Q : Int32 → OS → Prop} {X : String → OS → Prop} {kind pl m : Nat} (h : Off o ks c T s tx J) (hL : PrgB tx (tlS s) kind pl tx m) (hM : m ≤ 100) (hk : nI kind ≠ 0) (hQ : ∀ o', Off o' ks c T s tx J → Q (nI pl) o') : ow_errorPlace o Q X := by
  obtain ⟨sa, sb, sc, sd, se⟩ := s
  obtain ⟨⟨b1, ⟨b2, b3⟩, b4, b5⟩, ⟨s1, s2, s3, s4, s5⟩, h3, h4, h5⟩ := h
  have hh2 : SetO o (sa, sb, sc, sd, se) := ⟨s1, s2, s3, s4, s5⟩
  unfold ow_errorPlace wp_X11_errorPlace
  rw [s1.1, s2.1, s3.1, s4.1, s5.1]
  refine carryOutText_x (T := tlS (sa, sb, sc, sd, se)) (K := o.2.2.1 0) h3 hL hM hk h4 (fun z0 z1 z2 z3 z4 z5 z6 z7 z8 z9 z10 z11 z12 z13 hop => ?_)
  exact hQ _ ⟨⟨b1, ⟨b2, b3⟩, b4, b5⟩, hh2, h3, hop, h5⟩
def bkT (T : Nat → List Nat) (i : Nat) : Nat → List Nat := fun j => if j < i then T (8 + j) else T j
theorem bkT_s (T : Nat → List Nat) (i : Nat) (h : i < 8) : va_up (bkT T i) i (bkT T i (8 + i)) = bkT T (i + 1) := by
  funext j
  by_cases e : j = i
  · rw [e, va_up_self]
    unfold bkT
    rw [if_neg (by omega), if_pos (by omega)]
  · rw [va_up_ne _ _ e]
    unfold bkT
    by_cases c : j < i
    · rw [if_pos c, if_pos (by omega)]
    · rw [if_neg c, if_neg (by omega)]
theorem bkT_lt {T : Nat → List Nat} {c : Nat} (h : ∀ j, j < 17 → ∀ r ∈ T j, r < c) : ∀ j, j < 17 → ∀ r ∈ bkT T 8 j, r < c := by
  intro j hj r hr
  unfold bkT at hr
  by_cases c0 : j < 8
  · rw [if_pos c0] at hr; exact h (8 + j) (by omega) r hr
  · rw [if_neg c0] at hr; exact h j hj r hr
theorem loop28_s {E : (Nat → Nat → Int32) → (Nat → Int32) → Prop} {T : Nat → List Nat} (h : ∀ F' n', POk F' n' (bkT T 8) → E F' n') : ∀ (d i : Nat) (F : Nat → Nat → Int32) (n : Nat → Int32), i + d = 8 → POk F n (bkT T i) → wl_X11_run_28 E (d + 1) (nI i) F n := by
  intro d
  induction d with
  | zero =>
    intro i F n hi hP
    obtain rfl : i = 8 := by omega
    rw [wl_X11_run_28_s]
    exact ⟨fun _ => h F n hP, fun q => absurd (by decide) q⟩
  | succ d ih =>
    intro i F n hi hP
    rw [wl_X11_run_28_s]
    refine pk_le 8 i (fun q => absurd q (by omega)) (fun _ => ?_)
    refine ⟨pk_in i 8 (by omega), pk_in i 8 (by omega), ?_⟩
    rw [cl_n (by omega)]
    refine takeOver_s hP (by omega) (by omega) (fun F' n' hP' => ?_)
    refine nm_r (e' := nI (i + 1)) (nI_1 _) ?_
    rw [bkT_s T i (by omega)] at hP'
    exact ih (i + 1) F' n' (by omega) hP'
theorem bkT_0 (T : Nat → List Nat) : bkT T 0 = T := by
  funext j
  unfold bkT
  rw [if_neg (by omega)]
theorem run_o {o : OS} {ks : Nat → Int} {c : Nat} {T : Nat → List Nat} {s : SS} {tx : List Nat} {J : Option JS} {Q : Int32 → OS → Prop} {X : String → OS → Prop} {L : List SI} (h : Off o ks c T s tx J) (hL : Prg tx.length (tlS s) tx L) (hM : L.length ≤ 100) (hQ : (exP ks (cpT T 8) L).1 = none → ∀ o', Off o' ks c (bkT (exP ks (cpT T 8) L).2 8) s tx J → Q (nI L.length) o') (hX : (exP ks (cpT T 8) L).1 ≠ none → ∀ o', Off o' ks c (exP ks (cpT T 8) L).2 s tx J → X eIS o') : ow_run o Q X := by
  obtain ⟨sa, sb, sc, sd, se⟩ := s
  obtain ⟨⟨b1, ⟨b2, b3⟩, b4, b5⟩, ⟨s1, s2, s3, s4, s5⟩, h3, h4, h5⟩ := h
  have hh2 : SetO o (sa, sb, sc, sd, se) := ⟨s1, s2, s3, s4, s5⟩
  unfold ow_run wp_X11_run
  rw [s1.1, s2.1, s3.1, s4.1, s5.1]
  refine carryOutText_s (T := tlS (sa, sb, sc, sd, se)) h3 b1 (tlS_ok hh2) hL hM h4 b4 (fun z0 z1 z2 z3 z4 z5 z6 z7 z8 z9 z10 z11 z12 z13 z14 z15 z16 z17 z18 z19 z20 z21 z22 z23 z24 z25 z26 z27 z28 z29 z30 z31 z32 z33 z34 z35 z36 z37 z38 z39 z40 z41 z42 z43 z44 z45 z46 z47 z48 z49 z50 F' n' hop hP' hR => ?_)
  have hlt := exP_lt (ks := ks) b3 L (cpT T 8) (prg_ok hL) (cpT_lt b5)
  revert hR
  unfold Ran
  rcases he : (exP ks (cpT T 8) L).1 with _ | pl
  · intro hR
    refine ⟨fun _ => ⟨9, ?_⟩, fun q => absurd hR.2.1 q⟩
    refine loop28_s (fun F2 n2 hP2 => ?_) 8 0 _ _ rfl (by rw [bkT_0]; exact hP')
    have := hQ he
    rw [← hR.1] at this
    unfold wx_X11_run_28_55
    exact this _ ⟨⟨b1, ⟨b2, b3⟩, hP2, bkT_lt hlt⟩, hh2, h3, hop, h5⟩
  · intro hR
    refine ⟨fun q => absurd (hR.1.symm.trans q) (by decide), fun _ => ?_⟩
    exact hX (by rw [he]; exact fun q => by cases q) _ ⟨⟨b1, ⟨b2, b3⟩, hP', hlt⟩, hh2, h3, hop, h5⟩
theorem run_x {o : OS} {ks : Nat → Int} {c : Nat} {T : Nat → List Nat} {s : SS} {tx : List Nat} {J : Option JS} {Q : Int32 → OS → Prop} {X : String → OS → Prop} {kind pl m : Nat} (h : Off o ks c T s tx J) (hL : PrgB tx (tlS s) kind pl tx m) (hM : m ≤ 100) (hk : nI kind ≠ 0) (hX : ∀ o', Off o' ks c T s tx J → X eIS o') : ow_run o Q X := by
  obtain ⟨sa, sb, sc, sd, se⟩ := s
  obtain ⟨⟨b1, ⟨b2, b3⟩, b4, b5⟩, ⟨s1, s2, s3, s4, s5⟩, h3, h4, h5⟩ := h
  have hh2 : SetO o (sa, sb, sc, sd, se) := ⟨s1, s2, s3, s4, s5⟩
  unfold ow_run wp_X11_run
  rw [s1.1, s2.1, s3.1, s4.1, s5.1]
  refine carryOutText_x (T := tlS (sa, sb, sc, sd, se)) (K := o.2.2.1 0) h3 hL hM hk h4 (fun z0 z1 z2 z3 z4 z5 z6 z7 z8 z9 z10 z11 z12 z13 hop => ?_)
  refine ⟨fun q => absurd q hk, fun _ => ?_⟩
  exact hX _ ⟨⟨b1, ⟨b2, b3⟩, b4, b5⟩, hh2, h3, hop, h5⟩
