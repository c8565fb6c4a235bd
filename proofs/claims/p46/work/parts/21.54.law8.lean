/-! thinning -/
def AdjN (ks : Nat → Int) (W : List Nat) : Prop := ∀ k, k + 1 < W.length → ks (W.getD k 0) ≠ ks (W.getD (k + 1) 0)
theorem adj_snoc {ks : Nat → Int} {W : List Nat} {x : Nat} (h : AdjN ks W) (hx : ∀ W0 y, W = W0 ++ [y] → ks y ≠ ks x) : AdjN ks (W ++ [x]) := by
  intro k hk
  rw [List.length_append, List.length_singleton] at hk
  by_cases e : k + 1 < W.length
  · rw [getD_app_l (by omega), getD_app_l e]; exact h k e
  · have hw : W ≠ [] := fun q => by subst q; simp at hk
    obtain ⟨W0, y, rfl⟩ := split_last hw
    rw [List.length_append, List.length_singleton] at hk e
    rw [getD_app_l (by rw [List.length_append, List.length_singleton]; omega), getD_app_r (by omega), getD_app_r (by rw [List.length_append, List.length_singleton]; omega)]
    rw [show k - W0.length = 0 by omega, show k + 1 - (W0 ++ [y]).length = 0 by rw [List.length_append, List.length_singleton]; omega]
    exact hx W0 y rfl
theorem thin_adj {ks : Nat → Int} {b : Bool} {L : List Nat} : ∀ i, i ≤ L.length → AdjN ks (pick (keepB ks b L) (L.take i)) ∧ (b = false → (∀ W0 y, pick (keepB ks b L) (L.take i) = W0 ++ [y] → 0 < i ∧ ks y = ks (L.getD (i - 1) 0)) ∧ (0 < i → pick (keepB ks b L) (L.take i) ≠ [])) ∧ (b = true → ∀ W0 y, pick (keepB ks b L) (L.take i) = W0 ++ [y] → i < L.length → ks y ≠ ks (L.getD i 0)) := by
  intro i
  induction i with
  | zero =>
    intro _
    rw [List.take_zero, pick_nil]
    exact ⟨fun k hk => absurd hk (by simp), fun _ => ⟨fun W0 y q => absurd q (by simp), fun q => absurd q (by omega)⟩, fun _ W0 y q => absurd q (by simp)⟩
  | succ i ih =>
    intro hi
    obtain ⟨h1, h2, h3⟩ := ih (by omega)
    have hil : i < L.length := by omega
    have hl : (L.take i).length = i := by rw [List.length_take]; omega
    rw [take_snoc hil, pick_snoc, hl]
    cases b with
    | false =>
      obtain ⟨g1, g2⟩ := h2 rfl
      by_cases e : keepB ks false L i = true
      · rw [if_pos e]
        have ek : i = 0 ∨ ks (L.getD (i - 1) 0) ≠ ks (L.getD i 0) := by
          unfold keepB at e
          simpa using e
        refine ⟨adj_snoc h1 (fun W0 y q => ?_), fun _ => ⟨fun W0 y q => ?_, fun _ q => ?_⟩, fun q => (by cases q)⟩
        · obtain ⟨p1, p2⟩ := g1 W0 y q
          rw [p2]
          exact ek.resolve_left (by omega)
        · have := (List.append_inj' q rfl).2
          simp at this
          exact ⟨by omega, by rw [← this]; rfl⟩
        · simp at q
      · rw [if_neg e, List.append_nil]
        have ek : i ≠ 0 ∧ ks (L.getD (i - 1) 0) = ks (L.getD i 0) := by
          unfold keepB at e
          simpa using e
        refine ⟨h1, fun _ => ⟨fun W0 y q => ?_, fun _ => g2 (by omega)⟩, fun q => (by cases q)⟩
        obtain ⟨p1, p2⟩ := g1 W0 y q
        exact ⟨by omega, by rw [p2, ek.2]; rfl⟩
    | true =>
      have g := h3 rfl
      by_cases e : keepB ks true L i = true
      · rw [if_pos e]
        have ek : L.length ≤ i + 1 ∨ ks (L.getD (i + 1) 0) ≠ ks (L.getD i 0) := by
          unfold keepB at e
          simpa using e
        refine ⟨adj_snoc h1 (fun W0 y q => g W0 y q hil), fun q => (by cases q), fun _ W0 y q hlt => ?_⟩
        have := (List.append_inj' q rfl).2
        simp at this
        rw [← this]
        exact fun z => (ek.resolve_left (by omega)) z.symm
      · rw [if_neg e, List.append_nil]
        have ek : i + 1 < L.length ∧ ks (L.getD (i + 1) 0) = ks (L.getD i 0) := by
          unfold keepB at e
          simpa using e
        refine ⟨h1, fun q => (by cases q), fun _ W0 y q hlt => ?_⟩
        rw [ek.2]
        exact g W0 y q hil
theorem thin_twice {ks : Nat → Int} {b b' : Bool} {L : List Nat} : thinL ks b' (thinL ks b L) = thinL ks b L := by
  have h := (thin_adj (ks := ks) (b := b) (L := L) L.length (Nat.le_refl _)).1
  rw [List.take_length] at h
  have h' : AdjN ks (thinL ks b L) := h
  generalize thinL ks b L = W at h'
  refine pick_all _ _ (fun i hi => ?_)
  unfold keepB
  cases b' with
  | false =>
    by_cases e : i = 0
    · simp [e]
    · have := h' (i - 1) (by omega)
      rw [Nat.sub_add_cancel (by omega)] at this
      simpa [e] using this
  | true =>
    by_cases e : W.length ≤ i + 1
    · simp [e]
    · have := h' i (by omega)
      have this2 : ks (W.getD (i + 1) 0) ≠ ks (W.getD i 0) := fun q => this q.symm
      simpa [e] using this2
theorem dgF_snoc (W : List Nat) (x : Nat) : dgF (W ++ [x]) = dgF W * 31 + nI x := by
  unfold dgF
  rw [List.foldl_append]; rfl
theorem isThinned_w {o : OS} {ks : Nat → Int} {c : Nat} {T : Nat → List Nat} {s : SS} {tx : List Nat} {J : Option JS} {j : Nat} {r : Nat → Int32} {Q : Bool → (Nat → Int32) → OS → Prop} (h : Off o ks c T s tx J) (hj : j < 8) (hQ : ∀ r' o' T', Off o' ks c T' s tx J → Q true r' o') : wp_L_isThinned o 2 r (nI j) Q := by
  have hc := h.c2
  have lL := h.len (j := j) (by omega)
  have rL := h.rec (j := j) (by omega)
  have main : ∀ (b : Bool) (r2 : Nat → Int32) (q : Nat → Int32), IsA (T j).length q (T j) → wj_L_isThinned_19 (nI j) Q o (T j).length q r2 b := by
    intro b r2 q hq
    unfold wj_L_isThinned_19
    refine ⟨(T j).length + 1, by omega, ?_⟩
    have key : ∀ (d i : Nat) (W : List Nat), i + d = (T j).length → W = pick (keepB ks b (T j)) ((T j).take i) → wl_L_isThinned_31 (T j).length q b (wx_L_isThinned_31_111 (nI j) Q (T j).length r2 b) (d + 1) (nI i) (nI W.length) (dgF W) o := by
      intro d
      induction d with
      | zero =>
        intro i W hi hW
        rw [wl_L_isThinned_31_s]
        refine pk_le ((T j).length) i (fun _ => ?_) (fun q => absurd q (by omega))
        rw [List.take_of_length_le (by omega)] at hW
        have hW' : W = thinL ks b (T j) := hW
        subst hW'
        have hle : (thinL ks b (T j)).length ≤ (T j).length := pick_len _ _
        unfold wx_L_isThinned_31_111
        refine thin_o h hj (fun o1 h1 => ?_)
        refine nm_r (e' := nI ((T j).length - (thinL ks b (T j)).length)) (pk_sub hle) ?_
        refine ⟨fun _ => ?_, fun z => absurd rfl z⟩
        refine digest_o h1 hj ?_
        rw [va_up_self]
        refine ⟨fun _ => ?_, fun z => absurd rfl z⟩
        have tail : ∀ b2 : Bool, wj_L_isThinned_148 (nI j) Q r2 (nI (thinL ks b (T j)).length) o1 b2 := by
          intro b2
          unfold wj_L_isThinned_148
          refine thin_o h1 hj (fun o2 h2 => ?_)
          rw [va_up_self, thin_twice] at h2 ⊢
          refine ⟨fun _ => ?_, fun z => absurd (by rw [Nat.sub_self]; rfl) z⟩
          refine length_o h2 hj ?_
          rw [va_up_self]
          exact ⟨fun _ => hQ _ _ _ h2, fun z => absurd rfl z⟩
        exact ⟨fun _ => tail true, fun _ => tail false⟩
      | succ d ih =>
        intro i W hi hW
        rw [wl_L_isThinned_31_s]
        refine pk_le ((T j).length) i (fun q => absurd q (by omega)) (fun _ => ?_)
        have hil : i < (T j).length := by omega
        have hl : ((T j).take i).length = i := by rw [List.length_take]; omega
        have hstep : pick (keepB ks b (T j)) ((T j).take (i + 1)) = W ++ (if keepB ks b (T j) i then [(T j).getD i 0] else []) := by
          rw [take_snoc hil, pick_snoc, hl, ← hW]
        have put : keepB ks b (T j) i = true → wj_L_isThinned_90 (T j).length q (nI i) (nI W.length) (dgF W) (wl_L_isThinned_31 (T j).length q b (wx_L_isThinned_31_111 (nI j) Q (T j).length r2 b) (d + 1)) o := by
          intro hk
          unfold wj_L_isThinned_90
          intro x42 e42
          refine ⟨pk_in i ((T j).length) (by omega), ?_⟩
          refine nm_r (e' := nI ((T j).getD i 0)) (by rw [cl_n (by omega)]; exact hq.2 i hil) ?_
          intro x44 e44
          refine nm_r (e' := nI (W.length + 1)) (nI_1 _) ?_
          refine nm_r (e' := nI (i + 1)) (nI_1 _) ?_
          have := ih (i + 1) (W ++ [(T j).getD i 0]) (by omega) (by rw [hstep, if_pos hk])
          rw [List.length_append, List.length_singleton, dgF_snoc] at this
          rw [e44, e42, Int32.mul_comm]
          exact this
        have hmi := rL _ (getD_mem hil)
        have cmp : ∀ (z : Nat), z < (T j).length → (ks ((T j).getD z 0) = ks ((T j).getD i 0) → keepB ks b (T j) i = false) → (ks ((T j).getD z 0) ≠ ks ((T j).getD i 0) → keepB ks b (T j) i = true) → wj_L_isThinned_54 (T j).length q (nI i) (nI W.length) (dgF W) o (wl_L_isThinned_31 (T j).length q b (wx_L_isThinned_31_111 (nI j) Q (T j).length r2 b) (d + 1)) (nI z) := by
          intro z hz y1 y2
          unfold wj_L_isThinned_54
          refine pk_lt z 0 (fun q => absurd q (by omega)) (fun _ => ?_)
          refine pk_le ((T j).length) z (fun q => absurd q (by omega)) (fun _ => ?_)
          refine ⟨pk_in z ((T j).length) (by omega), ?_⟩
          have hmz := rL _ (getD_mem hz)
          obtain ⟨k1, k2⟩ := h.key (r := (T j).getD z 0) (by omega)
          obtain ⟨k3, k4⟩ := h.key (r := (T j).getD i 0) (by omega)
          refine nm_r (e' := nI ((T j).getD z 0)) (by rw [cl_n (by omega)]; exact hq.2 z hz) ?_
          refine key_o h hmz ?_
          refine ⟨pk_in i ((T j).length) (by omega), ?_⟩
          refine nm_r (e' := nI ((T j).getD i 0)) (by rw [cl_n (by omega)]; exact hq.2 i hil) ?_
          refine key_o h hmi ?_
          refine zk_eq (ks ((T j).getD z 0)) (ks ((T j).getD i 0)) (fun e => ?_) (fun e => put (y2 e)) rfl rfl
          refine nm_r (e' := nI (i + 1)) (nI_1 _) ?_
          have := ih (i + 1) W (by omega) (by rw [hstep, y1 e]; simp)
          exact this
        refine ⟨fun e => ?_, fun e => ?_⟩
        · subst e
          refine nm_r (e' := zI ((i : Int) - 1)) (sub_lit i 1) ?_
          by_cases e0 : i = 0
          · unfold wj_L_isThinned_54
            refine zk_lt ((i : Int) - 1) 0 (fun _ => put (by unfold keepB; simp [e0])) (fun z => absurd z (by omega)) rfl rfl
          · rw [show ((i : Int) - 1) = ((i - 1 : Nat) : Int) by omega, ← zI_n]
            refine cmp (i - 1) (by omega) (fun e => ?_) (fun e => ?_)
            · unfold keepB; simp [e0]; exact e
            · unfold keepB; simp [e0]; exact e
        · subst e
          refine nm_r (e' := nI (i + 1)) (nI_1 _) ?_
          by_cases e0 : i + 1 < (T j).length
          · refine cmp (i + 1) e0 (fun e => ?_) (fun e => ?_)
            · unfold keepB; simp; exact ⟨e0, e⟩
            · unfold keepB; simp; exact Or.inr e
          · unfold wj_L_isThinned_54
            refine pk_lt (i + 1) 0 (fun q => absurd q (by omega)) (fun _ => ?_)
            refine pk_le ((T j).length) (i + 1) (fun _ => ?_) (fun q => absurd q (by omega))
            exact put (by unfold keepB; simp; exact Or.inl (by omega))
    exact key _ 0 [] (by omega) (by simp [pick_nil])
  unfold wp_L_isThinned
  refine tape_w h hj (fun q hq => ?_)
  refine draw_w (m := 2) (by decide) (by decide) (fun a r2 ha => ?_)
  exact pk_eq a 0 (fun _ => main true r2 q hq) (fun _ => main false r2 q hq)
