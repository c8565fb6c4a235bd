/-! sorted tapes joined -/
theorem jB_f {ks : Nat → Int} {A B : List Nat} {how : Nat} (h : joinB ks A B how = true) : ordB ks 0 A = true ∧ ordB ks 0 B = true ∧ (how = 0 → A.length + B.length ≤ 100) := by
  unfold joinB at h
  rw [Bool.and_eq_true, Bool.and_eq_true] at h
  refine ⟨h.1.1, h.1.2, fun e => ?_⟩
  subst e
  simpa using h.2
theorem jB_t {ks : Nat → Int} {A B : List Nat} {how : Nat} (h1 : ordB ks 0 A = true) (h2 : ordB ks 0 B = true) (h3 : how = 0 → A.length + B.length ≤ 100) : joinB ks A B how = true := by
  unfold joinB
  rw [h1, h2]
  by_cases e : how = 0
  · subst e; simpa using h3 rfl
  · simp [e]
theorem asks18_x {o : OS} {ks : Nat → Int} {c : Nat} {T : Nat → List Nat} {s : SS} {tx : List Nat} {J : Option JS} {a b hw : Nat} {Q : Int32 → OS → Prop} (h : Off o ks c T s tx J) (ha : a < 8) (hb : b < 8) (hh : hw < 3) (hf : joinB ks (T a) (T b) hw = false) (hQ : Q (-20004) o) : wp_L_asks_18 o (nI a) (nI b) (nI hw) Q := by
  unfold wp_L_asks_18
  exact combine_o (i := 7) h ha hb (by decide) hh (fun q => by rw [hf] at q; cases q) (fun _ => Or.inr (Or.inr (Or.inr ⟨rfl, hQ⟩)))
theorem same_t {n m : Nat} {f g : Nat → Int32} {A B : List Nat} {Q : Bool → Prop} (hA : IsA n f A) (hB : IsA m g B) (e : A = B) (hn : n < 2 ^ 20) (hv : ∀ r ∈ A, r < 2 ^ 20) (h : Q true) : wp_L_same n f m g Q := by
  subst e
  exact same_w hA hB hn (by rw [hB.1, ← hA.1]; exact hn) hv hv (by rw [decide_eq_true rfl]; exact h)
theorem isCombined_w {o : OS} {ks : Nat → Int} {c : Nat} {T : Nat → List Nat} {s : SS} {tx : List Nat} {J : Option JS} {a b : Nat} {r : Nat → Int32} {Q : Bool → (Nat → Int32) → OS → Prop} (h : Off o ks c T s tx J) (ha : a < 8) (hb : b < 8) (hQ : ∀ r' o' T', Off o' ks c T' s tx J → Q true r' o') : wp_L_isCombined o 2 r (nI a) (nI b) Q := by
  have hc := h.c2
  have lA := h.len (j := a) (by omega)
  have lB := h.len (j := b) (by omega)
  have rA := h.rec (j := a) (by omega)
  have rB := h.rec (j := b) (by omega)
  have v20 : ∀ L : List Nat, (∀ r ∈ L, r < c) → ∀ r ∈ L, r < 2 ^ 20 := fun L hL r hr => by have := hL r hr; omega
  unfold wp_L_isCombined
  refine draw_w (m := 3) (by decide) (by decide) (fun how r2 hh => ?_)
  refine tape_w h ha (fun q1 a1 => ?_)
  refine tape_w h hb (fun q2 a2 => ?_)
  refine draw_w (m := 8) (by decide) (by decide) (fun to r3 hto => ?_)
  have bad : (ordB ks 0 (T a) = false ∨ ordB ks 0 (T b) = false) → wj_L_isCombined_51 (nI a) (nI b) Q (nI how) (T a).length q1 (T b).length q2 r3 (nI to) o := by
    intro e
    unfold wj_L_isCombined_51 wj_L_isCombined_52
    refine ⟨fun _ => ?_, fun q => (by cases q)⟩
    refine asks18_x h ha hb hh ?_ ⟨fun _ => hQ _ _ _ h, fun q => absurd rfl q⟩
    cases e9 : joinB ks (T a) (T b) how with
    | false => rfl
    | true =>
      obtain ⟨x1, x2, -⟩ := jB_f e9
      rcases e with e | e
      · rw [x1] at e; cases e
      · rw [x2] at e; cases e
  refine isSorted_o (od := 0) h ha (by decide) ?_
  refine ⟨fun e => bad (Or.inl e), fun e1 => ?_⟩
  refine isSorted_o (od := 0) h hb (by decide) ?_
  refine ⟨fun e => bad (Or.inr e), fun e2 => ?_⟩
  unfold wj_L_isCombined_52
  refine ⟨fun q => (by cases q), fun _ => ?_⟩
  refine together_w h a1 a2 lA lB rA rB hh (fun q3 a3 => ?_)
  have hj : srt ks 0 (togL ks (T a) (T b) how) = joinL ks (T a) (T b) how := togL_join e1 (fun r hr => by have := rA r hr; omega)
  rw [hj] at a3
  have htl : (togL ks (T a) (T b) how).length ≤ 200 := by
    unfold togL
    by_cases e : how = 0
    · rw [if_pos e, List.length_append]; omega
    · rw [if_neg e]
      have := List.length_filter_le (fun r => (T b).any (fun q => ks q == ks r) == (how == 1)) (T a)
      unfold pickL
      omega
  refine pk_le (togL ks (T a) (T b) how).length 100 (fun e3 => ?_) (fun e3 => ?_)
  · refine combine_o h ha hb hto hh (fun _ o2 h2 => ?_) (fun q => ?_)
    · have el : (joinL ks (T a) (T b) how).length = (togL ks (T a) (T b) how).length := a3.1.symm
      rw [el]
      refine ⟨fun _ => ?_, fun q => absurd rfl q⟩
      refine tape_w h2 hto (fun q4 a4 => ?_)
      have r4 := h2.rec (j := to) (by omega)
      have l4 := h2.len (j := to) (by omega)
      refine same_t a4 a3 (by rw [va_up_self]) (by omega) (v20 _ r4) ?_
      refine ⟨fun q => (by cases q), fun _ => ?_⟩
      have rest : wj_L_isCombined_174 (nI b) Q (T b).length q2 r3 (nI to) o2 := by
        unfold wj_L_isCombined_174
        refine pk_eq to b (fun _ => hQ _ _ _ h2) (fun e5 => ?_)
        refine tape_w h2 hb (fun q6 a6 => ?_)
        have r6 := h2.rec (j := b) (by omega)
        have l6 := h2.len (j := b) (by omega)
        refine same_t a6 a2 (by rw [va_up_ne _ _ (Ne.symm e5), va_up_ne _ _ (by omega)]) (by omega) (v20 _ r6) ?_
        exact ⟨fun q => (by cases q), fun _ => hQ _ _ _ h2⟩
      refine pk_eq to a (fun _ => rest) (fun e5 => ?_)
      refine tape_w h2 ha (fun q5 a5 => ?_)
      have r5 := h2.rec (j := a) (by omega)
      have l5 := h2.len (j := a) (by omega)
      refine same_t a5 a1 (by rw [va_up_ne _ _ (Ne.symm e5), va_up_ne _ _ (by omega)]) (by omega) (v20 _ r5) ?_
      exact ⟨fun q => (by cases q), fun _ => rest⟩
    · rw [jB_t e1 e2 (fun e => by
        unfold togL at e3
        rw [if_pos e, List.length_append] at e3
        exact e3)] at q
      cases q
  · refine asks18_x h ha hb hh ?_ ⟨fun _ => hQ _ _ _ h, fun q => absurd rfl q⟩
    cases e9 : joinB ks (T a) (T b) how with
    | false => rfl
    | true =>
      obtain ⟨-, -, x3⟩ := jB_f e9
      exfalso
      unfold togL at e3
      by_cases e : how = 0
      · rw [if_pos e, List.length_append] at e3
        have := x3 e
        omega
      · rw [if_neg e] at e3
        have := List.length_filter_le (fun r => (T b).any (fun q => ks q == ks r) == (how == 1)) (T a)
        unfold pickL at e3
        omega
