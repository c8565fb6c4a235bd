/-! sorting at once -/
theorem natR_sorted {l : List Nat} (h : l.Pairwise (· ≤ ·)) : (natR l).length ≤ 1 := by
  obtain ⟨h1, h2, -, h4⟩ := natR_ok l
  match e : natR l with
  | [] => exact Nat.zero_le _
  | [r] => exact Nat.le_refl _
  | r0 :: r1 :: t =>
    exfalso
    rw [e] at h1 h2 h4
    have h5 := h4 0 (by simp)
    have n0 := (h2 r0 (by simp)).1
    have n1 := (h2 r1 (by simp)).1
    rw [← h1] at h
    have hp : ((r0 :: r1 :: t).flatten) = r0 ++ (r1 ++ t.flatten) := by simp
    rw [hp, List.pairwise_append] at h
    obtain ⟨x, r0', e0⟩ : ∃ x r, r0 = r ++ [x] := by
      obtain ⟨R0, l0, q⟩ := split_last n0
      exact ⟨l0, R0, q⟩
    obtain ⟨y, r1', e1⟩ : ∃ y r, r1 = y :: r := by
      cases r1 with
      | nil => exact absurd rfl n1
      | cons y r => exact ⟨y, r, rfl⟩
    have h6 := h.2.2 x (by rw [e0]; simp) y (by rw [e1]; simp)
    have h7 : (r1.headD 0) < r0.getLastD 0 := h5
    rw [e1, e0, List.getLastD_concat] at h7
    have h8 : y < x := h7
    omega
theorem fullR_len {m : Nat} (hm : 1 ≤ m) : ∀ (n : Nat) (l : List Nat), l.length ≤ n → (fullR m n l).length = (l.length + m - 1) / m := by
  intro n
  induction n with
  | zero =>
    intro l hl
    rw [show l.length = 0 by omega, Nat.div_eq_of_lt (by omega)]; rfl
  | succ n ih =>
    intro l hl
    unfold fullR
    by_cases e : l = []
    · rw [if_pos e, e]
      show 0 = _
      rw [Nat.div_eq_of_lt (by simp; omega)]
    · rw [if_neg e, List.length_cons, ih _ (by rw [List.length_drop]; have := List.length_pos_iff.mpr e; omega), List.length_drop]
      have hp := List.length_pos_iff.mpr e
      have e1 : (l.length + m - 1) / m = (l.length - 1) / m + 1 := by
        rw [show l.length + m - 1 = (l.length - 1) + m by omega, Nat.add_div_right _ (by omega)]
      rw [e1]
      by_cases e2 : m ≤ l.length
      · rw [show l.length - m + m - 1 = l.length - 1 by omega]
      · rw [show l.length - m + m - 1 = m - 1 by omega, Nat.div_eq_of_lt (by omega), Nat.div_eq_of_lt (by omega)]
theorem rn_sorted {ks : Nat → Int} {s : SS} {L : List Nat} (ho : ordB ks s.1 L = true) (hm : 1 ≤ s.2.2.1) (hw : s.2.1 < 3) : (rnO ks s L).length ≤ max 1 (if s.2.1 = 0 then (L.length + s.2.2.1 - 1) / s.2.2.1 else 1) := by
  have hs := ordB_pw.mp ho
  unfold rnO runsOf mkR
  by_cases e0 : s.2.1 = 0
  · rw [if_pos e0, if_pos e0, fullR_len hm _ _ (Nat.le_refl _), rks_len]
    exact Nat.le_max_right _ _
  · rw [if_neg e0, if_neg e0]
    by_cases e1 : s.2.1 = 1
    · rw [if_pos e1]
      have := (replR_good (rks ks s.1 L) hm).2.2.2
      have h2 := natR_sorted hs
      unfold cN at this
      omega
    · rw [if_neg e1]
      have h2 := natR_sorted hs
      omega
theorem isSort_w {o : OS} {ks : Nat → Int} {c : Nat} {T : Nat → List Nat} {s : SS} {tx : List Nat} {J : Option JS} {j i od : Nat} {r : Nat → Int32} {Q : Bool → (Nat → Int32) → OS → Prop} (h : Off o ks c T s tx J) (hj : j < 8) (hi : i < 8) (ho : od < 2) (hl : (T j).length ≤ 41) (hQ : ∀ r' o' T' s', Off o' ks c T' s' tx J → Q true r' o') : wp_L_isSort o 2 r (nI j) (nI i) (nI od) Q := by
  have hc := h.c2
  unfold wp_L_isSort
  refine draw_w (m := 3) (by decide) (by decide) (fun w r2 hw => ?_)
  refine draw_w (m := 9) (by decide) (by decide) (fun m r3 hm => ?_)
  refine nm_r (e' := nI (1 + m)) (nI_add 1 m) ?_
  refine setRuns_o h ho hw (by omega) (by omega) (fun o1 h1 => ?_)
  refine draw_w (m := 3) (by decide) (by decide) (fun mw r4 hmw => ?_)
  refine draw_w (m := 3) (by decide) (by decide) (fun wy r5 hwy => ?_)
  refine nm_r (e' := nI (2 + wy)) (nI_add 2 wy) ?_
  refine setMerge_o h1 hmw (by omega) (by omega) (fun o2 h2 => ?_)
  refine tape_w h2 hj (fun q1 a1 => ?_)
  have rc1 := h2.rec (j := j) (by omega)
  refine sorted_s_w h2 a1 hl rc1 ho (fun q2 a2 => ?_)
  refine plan_o (k := 1) h2 hj (by decide) (fun o3 h3 => ?_)
  refine nm_r (e' := nI ((T j).length + plA ks (od, w, 1 + m, mw, 2 + wy) (T j) 1)) (nI_add _ _) ?_
  refine errors_o h3 hj (fun o4 T4 h4 e4 => ⟨fun _ => ?_, fun q => absurd rfl q⟩)
  refine sort_o h4 hj hi (fun o5 h5 => ?_)
  rw [e4 j (by omega)] at h5 ⊢
  refine ⟨fun _ => ?_, fun q => absurd rfl q⟩
  refine tape_w h5 hi (fun q3 a3 => ?_)
  have rc5 := h5.rec (j := i) (by omega)
  have l5 := h5.len (j := i) (by omega)
  refine same_t a3 a2 (by rw [va_up_self]) (by omega) (fun r hr => by have := rc5 r hr; omega) ⟨fun q => (by cases q), fun _ => ?_⟩
  have hsrt : ordB ks od (va_up T4 i (srt ks od (T j)) i) = true := by
    rw [va_up_self]
    exact srt_ord h5.1.1 (fun r hr => by have := rc1 r hr; omega)
  refine isSorted_o h5 hi ho ?_
  rw [hsrt]
  refine ⟨fun q => (by cases q), fun _ => ?_⟩
  refine runs_o h5 hi (fun o6 h6 => ?_)
  have hlen : (va_up T4 i (srt ks od (T j)) i).length = (T j).length := by rw [va_up_self, srt_len]
  have hn := rn_sorted (s := (od, w, 1 + m, mw, 2 + wy)) hsrt (by show 1 ≤ 1 + m; omega) hw
  rw [hlen] at hn
  have fin : ∀ (b : Nat) (o7 : OS) (T7 : Nat → List Nat) (s7 : SS), Off o7 ks c T7 s7 tx J → b < 2 ^ 20 → (rnO ks (od, w, 1 + m, mw, 2 + wy) (va_up T4 i (srt ks od (T j)) i)).length ≤ max 1 b → wj_L_isSort_143 Q r5 (nI (rnO ks (od, w, 1 + m, mw, 2 + wy) (va_up T4 i (srt ks od (T j)) i)).length) (nI b) o7 := by
    intro b o7 T7 s7 h7 hb hle
    unfold wj_L_isSort_143
    refine nm_r (e' := nI (max 1 b)) (pk_mx 1 b rfl rfl) ?_
    refine pk_lt (max 1 b) ((rnO ks (od, w, 1 + m, mw, 2 + wy) (va_up T4 i (srt ks od (T j)) i)).length) (fun q => absurd q (by omega)) (fun _ => ?_)
    exact hQ _ _ _ _ h7
  refine setting_o (k := 1) h6 (by decide) ?_
  have e1 : setA (od, w, 1 + m, mw, 2 + wy) 1 = w := rfl
  have e2 : setA (od, w, 1 + m, mw, 2 + wy) 2 = 1 + m := rfl
  rw [e1]
  refine pk_eq w 0 (fun e => ?_) (fun e => ?_)
  · refine setting_o (k := 2) h6 (by decide) ?_
    rw [e2]
    refine nm_r (e' := nI ((T j).length + (1 + m))) (nI_add _ _) ?_
    refine nm_r (e' := nI ((T j).length + (1 + m) - 1)) (pk_sub (b := 1) (by omega)) ?_
    refine setting_o (k := 2) h6 (by decide) ?_
    rw [e2]
    refine ⟨fun q => ?_, ?_⟩
    · have := congrArg Int32.toInt q
      rw [nI_toInt (by omega)] at this
      have h0 : (0 : Int32).toInt = 0 := by decide
      omega
    · refine nm_r (e' := nI (((T j).length + (1 + m) - 1) / (1 + m))) (nI_dv (by omega) (by omega) (by omega)) ?_
      refine fin _ _ _ _ h6 ?_ ?_
      · have := Nat.div_le_self ((T j).length + (1 + m) - 1) (1 + m)
        omega
      · rw [if_pos (show (od, w, 1 + m, mw, 2 + wy).2.1 = 0 from e)] at hn
        exact hn
  · refine fin 1 _ _ _ h6 (by decide) ?_
    rw [if_neg (show ¬ (od, w, 1 + m, mw, 2 + wy).2.1 = 0 from e)] at hn
    exact hn
