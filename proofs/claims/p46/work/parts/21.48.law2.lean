/-! tapes as rows, the order of records -/
theorem Off.len {o : OS} {ks : Nat → Int} {c : Nat} {T : Nat → List Nat} {s : SS} {tx : List Nat} {J : Option JS} {j : Nat} (h : Off o ks c T s tx J) (hj : j < 18) : (T j).length ≤ 100 := (h.1.2.2.1 j hj).2.1
theorem Off.rec {o : OS} {ks : Nat → Int} {c : Nat} {T : Nat → List Nat} {s : SS} {tx : List Nat} {J : Option JS} {j : Nat} (h : Off o ks c T s tx J) (hj : j < 17) : ∀ r ∈ T j, r < c := h.1.2.2.2 j hj
theorem Off.c2 {o : OS} {ks : Nat → Int} {c : Nat} {T : Nat → List Nat} {s : SS} {tx : List Nat} {J : Option JS} (h : Off o ks c T s tx J) : c ≤ 200 := h.1.2.1.2
theorem Off.key {o : OS} {ks : Nat → Int} {c : Nat} {T : Nat → List Nat} {s : SS} {tx : List Nat} {J : Option JS} {r : Nat} (h : Off o ks c T s tx J) (hr : r < 200) : -999 ≤ ks r ∧ ks r ≤ 999 := (h.1.1 r hr).2
theorem tape_w {o : OS} {ks : Nat → Int} {c : Nat} {T : Nat → List Nat} {s : SS} {tx : List Nat} {J : Option JS} {j : Nat} {Q : Nat → (Nat → Int32) → OS → Prop} (h : Off o ks c T s tx J) (hj : j < 8) (hQ : ∀ q, IsA (T j).length q (T j) → Q (T j).length q o) : wp_L_tape o (nI j) Q := by
  have hl := h.len (j := j) (by omega)
  unfold wp_L_tape
  refine length_o h hj ⟨(T j).length, rfl, by omega, (T j).length + 1, by omega, ?_⟩
  have key : ∀ (d i : Nat) (q : Nat → Int32), i + d = (T j).length → (∀ k, k < i → q k = nI ((T j).getD k 0)) → wl_L_tape_10 (nI j) (T j).length (wx_L_tape_10_31 Q (T j).length) (d + 1) (nI i) q o := by
    intro d
    induction d with
    | zero =>
      intro i q hi hq
      rw [wl_L_tape_10_s]
      refine pk_le ((T j).length) i (fun _ => ?_) (fun q => absurd q (by omega))
      exact hQ q ⟨rfl, fun k hk => hq k (by omega)⟩
    | succ d ih =>
      intro i q hi hq
      rw [wl_L_tape_10_s]
      refine pk_le ((T j).length) i (fun q => absurd q (by omega)) (fun _ => ?_)
      refine at_o h hj (by omega) ?_
      refine ⟨pk_in i ((T j).length) (by omega), ?_⟩
      refine nm_r (e' := nI (i + 1)) (nI_1 _) ?_
      rw [cl_n (by omega)]
      refine ih (i + 1) _ (by omega) (fun k hk => ?_)
      by_cases e : k = i
      · subst e; rw [up_s]
      · rw [up_n _ e]; exact hq k (by omega)
  exact key _ 0 _ (by omega) (fun k hk => absurd hk (Nat.not_lt_zero _))
theorem Off.nr {o : OS} {ks : Nat → Int} {c : Nat} {T : Nat → List Nat} {s : SS} {tx : List Nat} {J : Option JS} {j : Nat} (h : Off o ks c T s tx J) (hj : j < 18) : (rnO ks s (T j)).length ≤ (T j).length ∧ (rnO ks s (T j)).flatten.length = (T j).length :=
  runs_len h.2.1.2.1.2 h.2.1.2.2.1.2.1
theorem lens_getD (R : List (List Nat)) (i : Nat) : (lens R).getD i 0 = (R.getD i []).length := by
  unfold lens
  rw [List.getD_eq_getElem?_getD, List.getElem?_map, List.getD_eq_getElem?_getD]
  cases R[i]? <;> rfl
theorem lengths_w {o : OS} {ks : Nat → Int} {c : Nat} {T : Nat → List Nat} {s : SS} {tx : List Nat} {J : Option JS} {j : Nat} {Q : Nat → (Nat → Int32) → OS → Prop} (h : Off o ks c T s tx J) (hj : j < 8) (hQ : ∀ o' q, Off o' ks c T s tx J → IsA (rnO ks s (T j)).length q (lens (rnO ks s (T j))) → Q (rnO ks s (T j)).length q o') : wp_L_lengths o (nI j) Q := by
  have hl := h.len (j := j) (by omega)
  have hn := (h.nr (j := j) (by omega)).1
  unfold wp_L_lengths
  refine runs_o h hj (fun o2 h2 => ⟨(rnO ks s (T j)).length, rfl, by omega, (rnO ks s (T j)).length + 1, by omega, ?_⟩)
  have key : ∀ (d i : Nat) (q : Nat → Int32) (o' : OS), Off o' ks c T s tx J → i + d = (rnO ks s (T j)).length → (∀ k, k < i → q k = nI ((lens (rnO ks s (T j))).getD k 0)) → wl_L_lengths_10 (nI j) (rnO ks s (T j)).length (wx_L_lengths_10_31 Q (rnO ks s (T j)).length) (d + 1) (nI i) q o' := by
    intro d
    induction d with
    | zero =>
      intro i q o' ho hi hq
      rw [wl_L_lengths_10_s]
      refine pk_le ((rnO ks s (T j)).length) i (fun _ => ?_) (fun q => absurd q (by omega))
      exact hQ o' q ho ⟨(lens_len _).symm, fun k hk => hq k (by rw [lens_len] at hk; omega)⟩
    | succ d ih =>
      intro i q o' ho hi hq
      rw [wl_L_lengths_10_s]
      refine pk_le ((rnO ks s (T j)).length) i (fun q => absurd q (by omega)) (fun _ => ?_)
      refine runLength_o ho hj (by omega) (fun o3 h3 => ?_)
      refine ⟨pk_in i ((rnO ks s (T j)).length) (by omega), ?_⟩
      refine nm_r (e' := nI (i + 1)) (nI_1 _) ?_
      rw [cl_n (by omega)]
      refine ih (i + 1) _ o3 h3 (by omega) (fun k hk => ?_)
      by_cases e : k = i
      · subst e; rw [up_s, lens_getD]
      · rw [up_n _ e]; exact hq k (by omega)
  exact key _ 0 _ o2 h2 (by omega) (fun k hk => absurd hk (Nat.not_lt_zero _))
theorem rk_up {ks : Nat → Int} {a b : Nat} (ha : a < 256) (hb : b < 256) (h1 : -999 ≤ ks a) (h2 : ks a ≤ 999) (h3 : -999 ≤ ks b) (h4 : ks b ≤ 999) : rk ks 0 a < rk ks 0 b ↔ ks a < ks b ∨ (ks a = ks b ∧ a < b) := by
  unfold rk
  rw [if_pos rfl, if_pos rfl]
  omega
theorem rk_dn {ks : Nat → Int} {a b : Nat} (ha : a < 256) (hb : b < 256) (h1 : -999 ≤ ks a) (h2 : ks a ≤ 999) (h3 : -999 ≤ ks b) (h4 : ks b ≤ 999) : rk ks 1 a < rk ks 1 b ↔ ks b < ks a ∨ (ks a = ks b ∧ a < b) := by
  unfold rk
  rw [if_neg (by decide), if_neg (by decide)]
  omega
theorem before_w {o : OS} {ks : Nat → Int} {c : Nat} {T : Nat → List Nat} {s : SS} {tx : List Nat} {J : Option JS} {a b od : Nat} {Q : Bool → OS → Prop} (h : Off o ks c T s tx J) (ha : a < c) (hb : b < c) (ho : od < 2) (hQ : Q (decide (rk ks od a < rk ks od b)) o) : wp_L_before o (nI a) (nI b) (nI od) Q := by
  have hc := h.c2
  obtain ⟨k1, k2⟩ := h.key (r := a) (by omega)
  obtain ⟨k3, k4⟩ := h.key (r := b) (by omega)
  have hu := rk_up (ks := ks) (a := a) (b := b) (by omega) (by omega) k1 k2 k3 k4
  have hd := rk_dn (ks := ks) (a := a) (b := b) (by omega) (by omega) k1 k2 k3 k4
  have hoo : od = 0 ∨ od = 1 := by omega
  unfold wp_L_before
  refine key_o h ha (key_o h hb ?_)
  refine zk_eq (ks a) (ks b) (fun e => ?_) (fun e => ?_) rfl rfl
  · refine pk_le b a (fun q => ?_) (fun q => ?_)
    · have e9 : decide (rk ks od a < rk ks od b) = false := by rcases hoo with rfl | rfl <;> exact decide_eq_false (by omega)
      rw [e9] at hQ; exact hQ
    · have e9 : decide (rk ks od a < rk ks od b) = true := by rcases hoo with rfl | rfl <;> exact decide_eq_true (by omega)
      rw [e9] at hQ; exact hQ
  · refine zk_le (ks b) (ks a) (fun q => ?_) (fun q => ?_) rfl rfl
    · rcases hoo with rfl | rfl
      · have e9 : decide (rk ks 0 a < rk ks 0 b) = false := decide_eq_false (by omega)
        rw [e9] at hQ
        exact ⟨fun _ => ⟨fun q => absurd q (by decide), fun _ => hQ⟩, fun q => absurd rfl q⟩
      · have e9 : decide (rk ks 1 a < rk ks 1 b) = true := decide_eq_true (by omega)
        rw [e9] at hQ
        exact ⟨fun q => absurd q (by decide), fun _ => ⟨fun _ => hQ, fun q => absurd rfl q⟩⟩
    · rcases hoo with rfl | rfl
      · have e9 : decide (rk ks 0 a < rk ks 0 b) = true := decide_eq_true (by omega)
        rw [e9] at hQ
        exact ⟨fun _ => ⟨fun _ => hQ, fun q => absurd rfl q⟩, fun q => absurd rfl q⟩
      · have e9 : decide (rk ks 1 a < rk ks 1 b) = false := decide_eq_false (by omega)
        rw [e9] at hQ
        exact ⟨fun q => absurd q (by decide), fun _ => ⟨fun q => absurd q (by decide), fun _ => hQ⟩⟩
theorem same_w {n m : Nat} {f g : Nat → Int32} {A B : List Nat} {Q : Bool → Prop} (hA : IsA n f A) (hB : IsA m g B) (hn : n < 2 ^ 20) (hm : m < 2 ^ 20) (hv : ∀ r ∈ A, r < 2 ^ 20) (hw : ∀ r ∈ B, r < 2 ^ 20) (h : Q (decide (A = B))) : wp_L_same n f m g Q := by
  have fin : ∀ (d i : Nat) (b : Bool), i + d = n → i ≤ n → (n = m ∨ b = false) → (b = true → ∀ k, k < i → A.getD k 0 = B.getD k 0) → (b = false → A ≠ B) → wl_L_same_15 n f m g (wx_L_same_15_46 Q) (d + 1) (nI i) b := by
    intro d
    induction d with
    | zero =>
      intro i b hi hi2 hnm h1 h2
      rw [wl_L_same_15_s]
      refine pk_le n i (fun _ => ?_) (fun q => absurd q (by omega))
      unfold wx_L_same_15_46
      cases b with
      | false => rw [decide_eq_false (h2 rfl)] at h; exact h
      | true =>
        have e : A = B := by
          refine List.ext_getElem? (fun k => ?_)
          have hnm' : n = m := hnm.resolve_right (by decide)
          by_cases hk : k < n
          · have e1 := h1 rfl k (by omega)
            have ha : k < A.length := by rw [← hA.1]; exact hk
            have hb : k < B.length := by rw [← hB.1, ← hnm']; exact hk
            rw [List.getD_eq_getElem?_getD, List.getD_eq_getElem?_getD, List.getElem?_eq_getElem ha, List.getElem?_eq_getElem hb] at e1
            rw [List.getElem?_eq_getElem ha, List.getElem?_eq_getElem hb]
            exact congrArg some e1
          · rw [List.getElem?_eq_none (by rw [← hA.1]; omega), List.getElem?_eq_none (by rw [← hB.1]; omega)]
        rw [decide_eq_true e] at h; exact h
    | succ d ih =>
      intro i b hi hi2 hnm h1 h2
      rw [wl_L_same_15_s]
      refine pk_le n i (fun q => absurd q (by omega)) (fun _ => ?_)
      refine ⟨fun e => ?_, fun e => ?_⟩
      · unfold wx_L_same_15_46
        rw [e]
        rw [decide_eq_false (h2 e)] at h; exact h
      · subst e
        have hnm' : n = m := hnm.resolve_right (by decide)
        refine ⟨pk_in i n (by omega), ?_⟩
        have ha := hv _ (getD_mem (L := A) (i := i) (by rw [← hA.1]; omega))
        have hb := hw _ (getD_mem (L := B) (i := i) (by rw [← hB.1]; omega))
        refine nm_r (e' := nI (A.getD i 0)) (by rw [cl_n (by omega)]; exact hA.2 i (by rw [← hA.1]; omega)) ?_
        refine ⟨pk_in i m (by omega), ?_⟩
        refine nm_r (e' := nI (B.getD i 0)) (by rw [cl_n (by omega)]; exact hB.2 i (by rw [← hB.1]; omega)) ?_
        refine pk_eq (A.getD i 0) (B.getD i 0) (fun e => ?_) (fun e => ?_)
        · refine nm_r (e' := nI (i + 1)) (nI_1 _) ?_
          exact ih (i + 1) true (by omega) (by omega) (Or.inl hnm') (fun _ k hk => by
            by_cases e2 : k = i
            · subst e2; exact e
            · exact h1 rfl k (by omega)) (fun q => by cases q)
        · refine nm_r (e' := nI (i + 1)) (nI_1 _) ?_
          exact ih (i + 1) false (by omega) (by omega) (Or.inr rfl) (fun q => by cases q) (fun _ q => e (by rw [q]))
  unfold wp_L_same wj_L_same_12
  refine pk_eq n m (fun e => ⟨n + 1, ?_⟩) (fun e => ⟨n + 1, ?_⟩)
  · exact fin n 0 true (by omega) (by omega) (Or.inl e) (fun _ k hk => absurd hk (Nat.not_lt_zero _)) (fun q => by cases q)
  · exact fin n 0 false (by omega) (by omega) (Or.inr rfl) (fun q => by cases q) (fun _ q => e (by rw [hA.1, hB.1, q]))
