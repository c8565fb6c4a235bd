/-! the law's sorting -/
theorem srt_of {ks : Nat → Int} {od : Nat} {L S : List Nat} (hp : S.Perm L) (hs : S.Pairwise (fun a b => rk ks od a ≤ rk ks od b)) (hr : ∀ r ∈ L, r < 200) : srt ks od L = S := by
  unfold srt rks
  have h1 : (L.map (rk ks od)).mergeSort = S.map (rk ks od) := (msort_of (hp.map (rk ks od)) (List.pairwise_map.mpr hs)).symm
  rw [h1, List.map_map]
  have : ∀ x ∈ S, ((fun x => x % 256) ∘ rk ks od) x = id x := fun x hx => rk_mod (hr x (hp.mem_iff.mp hx))
  rw [List.map_congr_left this, List.map_id]
/-- x put in at p -/
def insP (S : List Nat) (p x : Nat) : List Nat := S.take p ++ x :: S.drop p
theorem insP_perm (S : List Nat) (p x : Nat) : (insP S p x).Perm (S ++ [x]) := by
  unfold insP
  have h1 : (S.take p ++ x :: S.drop p).Perm (x :: (S.take p ++ S.drop p)) := List.perm_middle
  rw [List.take_append_drop] at h1
  exact h1.trans (List.perm_append_singleton x S).symm
theorem insP_len (S : List Nat) (p x : Nat) : (insP S p x).length = S.length + 1 := by
  rw [(insP_perm S p x).length_eq]; simp
theorem insP_at {S : List Nat} {p x k : Nat} (hp : p ≤ S.length) : (insP S p x).getD k 0 = if k < p then S.getD k 0 else if k = p then x else S.getD (k - 1) 0 := by
  unfold insP
  have hl : (S.take p).length = p := by rw [List.length_take]; omega
  by_cases h1 : k < p
  · rw [if_pos h1, getD_app_l (by omega), List.getD_eq_getElem?_getD, List.getD_eq_getElem?_getD, List.getElem?_take_of_lt h1]
  · rw [if_neg h1, getD_app_r (by omega), hl]
    by_cases h2 : k = p
    · rw [if_pos h2, h2, Nat.sub_self]; rfl
    · rw [if_neg h2]
      obtain ⟨d, hd⟩ : ∃ d, k - p = d + 1 := ⟨k - p - 1, by omega⟩
      rw [hd, List.getD_cons_succ, List.getD_eq_getElem?_getD, List.getD_eq_getElem?_getD, List.getElem?_drop, show p + d = k - 1 by omega]
theorem insP_sorted {f : Nat → Nat} {S : List Nat} {p x : Nat} (hs : S.Pairwise (fun a b => f a ≤ f b)) (h1 : ∀ k, k < p → k < S.length → f (S.getD k 0) ≤ f x) (h2 : ∀ k, p ≤ k → k < S.length → f x ≤ f (S.getD k 0)) : (insP S p x).Pairwise (fun a b => f a ≤ f b) := by
  unfold insP
  have hsp := hs
  rw [← List.take_append_drop p S] at hsp
  rw [List.pairwise_append] at hsp ⊢
  have t1 : ∀ a ∈ S.take p, f a ≤ f x := by
    intro a ha
    obtain ⟨i, hi, e⟩ := mem_getD (d := 0) ha
    rw [List.length_take] at hi
    rw [List.getD_eq_getElem?_getD, List.getElem?_take_of_lt (by omega), ← List.getD_eq_getElem?_getD] at e
    rw [← e]; exact h1 i (by omega) (by omega)
  have t2 : ∀ a ∈ S.drop p, f x ≤ f a := by
    intro a ha
    obtain ⟨i, hi, e⟩ := mem_getD (d := 0) ha
    rw [List.length_drop] at hi
    rw [List.getD_eq_getElem?_getD, List.getElem?_drop, ← List.getD_eq_getElem?_getD] at e
    rw [← e]; exact h2 (p + i) (by omega) (by omega)
  refine ⟨hsp.1, List.pairwise_cons.mpr ⟨t2, hsp.2.1⟩, fun a ha b hb => ?_⟩
  rcases List.mem_cons.mp hb with rfl | hb
  · exact t1 a ha
  · exact hsp.2.2 a ha b hb
theorem sorted_s_w {o : OS} {ks : Nat → Int} {c : Nat} {T : Nat → List Nat} {s : SS} {tx : List Nat} {J : Option JS} {n od : Nat} {f : Nat → Int32} {L : List Nat} {Q : Nat → (Nat → Int32) → OS → Prop} (h : Off o ks c T s tx J) (hf : IsA n f L) (hn : n ≤ 41) (hr : ∀ r ∈ L, r < c) (ho : od < 2) (hQ : ∀ q, IsA n q (srt ks od L) → Q n q o) : wp_L_sorted_s o n f (nI od) Q := by
  have hc := h.c2
  have hL := hf.1
  have inner : ∀ (i x : Nat) (S : List Nat) (Q8 : Int32 → (Nat → Int32) → OS → Prop), i < n → L.getD i 0 = x → x < c → S.length = i → (∀ r ∈ S, r < c) → S.Pairwise (fun a b => rk ks od a ≤ rk ks od b) → (∀ (q : Nat → Int32) (p : Nat), p ≤ i → (insP S p x).Pairwise (fun a b => rk ks od a ≤ rk ks od b) → (∀ k, k < i + 1 → q k = nI ((insP S p x).getD k 0)) → Q8 (nI (i + 1)) q o) →
      ∀ (p : Nat) (q : Nat → Int32), p ≤ i → (∀ k, k < p → q k = nI (S.getD k 0)) → (∀ k, p < k → k < i + 1 → q k = nI (S.getD (k - 1) 0)) → (∀ k, p ≤ k → k < i → rk ks od x ≤ rk ks od (S.getD k 0)) → wl_L_sorted_s_19 n f (nI od) n (nI i) (wx_L_sorted_s_19_58 n f n (nI i) Q8) (p + 1) o (nI p) q := by
    intro i x S Q8 hi hx hxc hS hSr hSs hQ8 p
    have fin : ∀ (p : Nat) (q : Nat → Int32), p ≤ i → (∀ k, k < p → q k = nI (S.getD k 0)) → (∀ k, p < k → k < i + 1 → q k = nI (S.getD (k - 1) 0)) → (∀ k, p ≤ k → k < i → rk ks od x ≤ rk ks od (S.getD k 0)) → (∀ k, k < p → rk ks od (S.getD k 0) ≤ rk ks od x) → wx_L_sorted_s_19_58 n f n (nI i) Q8 o (nI p) q := by
      intro p q hp q1 q2 q3 q4
      unfold wx_L_sorted_s_19_58
      refine ⟨pk_in i n (by omega), ?_⟩
      refine nm_r (e' := nI x) (by rw [cl_n (by omega), hf.2 i (by omega), hx]) ?_
      refine ⟨pk_in p n (by omega), ?_⟩
      refine nm_r (e' := nI (i + 1)) (nI_1 _) ?_
      rw [cl_n (by omega)]
      refine hQ8 _ p hp (insP_sorted hSs (fun k hk _ => q4 k hk) (fun k hk hk2 => q3 k hk (by omega))) (fun k hk => ?_)
      rw [insP_at (by omega)]
      by_cases e1 : k < p
      · rw [if_pos e1, up_n _ (by omega)]; exact q1 k e1
      · rw [if_neg e1]
        by_cases e2 : k = p
        · rw [if_pos e2, e2, up_s]
        · rw [if_neg e2, up_n _ e2]; exact q2 k (by omega) hk
    induction p with
    | zero =>
      intro q hp q1 q2 q3
      rw [wl_L_sorted_s_19_s]
      refine pk_le 0 0 (fun _ => ?_) (fun q => absurd q (by omega))
      exact fin 0 q hp q1 q2 q3 (fun k hk => absurd hk (Nat.not_lt_zero _))
    | succ p ih =>
      intro q hp q1 q2 q3
      rw [wl_L_sorted_s_19_s]
      refine pk_le (p + 1) 0 (fun q => absurd q (by omega)) (fun _ => ?_)
      refine ⟨pk_in i n (by omega), ?_⟩
      refine nm_r (e' := nI x) (by rw [cl_n (by omega), hf.2 i (by omega), hx]) ?_
      refine nm_r (e' := nI p) (pk_sub (b := 1) (by omega)) ?_
      refine ⟨pk_in p n (by omega), ?_⟩
      refine nm_r (e' := nI (S.getD p 0)) (by rw [cl_n (by omega)]; exact q1 p (by omega)) ?_
      refine before_w h hxc (hSr _ (getD_mem (by omega))) ho ?_
      by_cases e : rk ks od x < rk ks od (S.getD p 0)
      · rw [decide_eq_true e]
        refine ⟨fun q => (by cases q), fun _ => ?_⟩
        refine nm_r (e' := nI p) (pk_sub (b := 1) (by omega)) ?_
        refine ⟨pk_in p n (by omega), ?_⟩
        refine nm_r (e' := nI (S.getD p 0)) (by rw [cl_n (by omega)]; exact q1 p (by omega)) ?_
        refine ⟨pk_in (p + 1) n (by omega), ?_⟩
        refine nm_r (e' := nI p) (ng_1 p) ?_
        rw [cl_n (by omega)]
        refine ih _ (by omega) (fun k hk => ?_) (fun k hk hk2 => ?_) (fun k hk hk2 => ?_)
        · rw [up_n _ (by omega)]; exact q1 k (by omega)
        · by_cases e2 : k = p + 1
          · subst e2; rw [up_s]; rfl
          · rw [up_n _ e2]; exact q2 k (by omega) hk2
        · by_cases e2 : k = p
          · subst e2; exact Nat.le_of_lt e
          · exact q3 k (by omega) hk2
      · rw [decide_eq_false e]
        refine ⟨fun _ => ?_, fun q => by cases q⟩
        refine fin (p + 1) q hp q1 q2 q3 (fun k hk => ?_)
        by_cases e2 : k = p
        · subst e2; omega
        · have h5 : rk ks od (S.getD k 0) ≤ rk ks od (S.getD p 0) := by
            have h6 := (List.pairwise_iff_getElem.mp hSs) k p (by omega) (by omega) (by omega)
            rw [List.getD_eq_getElem?_getD, List.getD_eq_getElem?_getD, List.getElem?_eq_getElem (by omega : k < S.length), List.getElem?_eq_getElem (by omega : p < S.length)]
            exact h6
          omega
  unfold wp_L_sorted_s
  refine ⟨n, rfl, by omega, n + 1, by omega, ?_⟩
  have key : ∀ (d i : Nat) (q : Nat → Int32) (S : List Nat), i + d = n → S.length = i → S.Perm (L.take i) → S.Pairwise (fun a b => rk ks od a ≤ rk ks od b) → (∀ k, k < i → q k = nI (S.getD k 0)) → wl_L_sorted_s_8 n f (nI od) n (wx_L_sorted_s_8_72 Q n) (d + 1) (nI i) q o := by
    intro d
    induction d with
    | zero =>
      intro i q S hi hS hSp hSs hq
      rw [wl_L_sorted_s_8_s]
      refine pk_le n i (fun _ => ?_) (fun q => absurd q (by omega))
      have e : srt ks od L = S := srt_of (by rw [List.take_of_length_le (by omega)] at hSp; exact hSp) hSs (fun r hr2 => by have := hr r hr2; omega)
      refine hQ q ⟨by rw [e, hS]; omega, fun k hk => ?_⟩
      rw [e] at hk ⊢
      exact hq k (by omega)
    | succ d ih =>
      intro i q S hi hS hSp hSs hq
      rw [wl_L_sorted_s_8_s]
      refine pk_le n i (fun q => absurd q (by omega)) (fun _ => ?_)
      refine ⟨i + 1, by omega, ?_⟩
      have hiL : i < L.length := by omega
      have ht : L.take (i + 1) = L.take i ++ [L.getD i 0] := take_snoc hiL
      refine inner i (L.getD i 0) S _ (by omega) rfl (hr _ (getD_mem hiL)) hS (fun r hr2 => hr r (List.mem_of_mem_take (hSp.mem_iff.mp hr2))) hSs (fun q2 p hp hs2 hq2 => ?_) i q (Nat.le_refl _) hq (fun k hk hk2 => by omega) (fun k hk hk2 => by omega)
      exact ih (i + 1) q2 _ (by omega) (by rw [insP_len, hS]) (by rw [ht]; exact (insP_perm _ _ _).trans (List.Perm.append_right _ hSp)) hs2 hq2
  exact key n 0 _ [] (by omega) rfl (by simp) List.Pairwise.nil (fun k hk => absurd hk (Nat.not_lt_zero _))
theorem sorted_b_w {o : OS} {ks : Nat → Int} {c : Nat} {T : Nat → List Nat} {s : SS} {tx : List Nat} {J : Option JS} {n od : Nat} {f : Nat → Int32} {L : List Nat} {Q : Nat → (Nat → Int32) → OS → Prop} (h : Off o ks c T s tx J) (hf : IsA n f L) (hn : n ≤ 200) (hr : ∀ r ∈ L, r < c) (ho : od < 2) (hQ : ∀ q, IsA n q (srt ks od L) → Q n q o) : wp_L_sorted_b o n f (nI od) Q := by
  have hc := h.c2
  have hL := hf.1
  have inner : ∀ (i x : Nat) (S : List Nat) (Q8 : Int32 → (Nat → Int32) → OS → Prop), i < n → L.getD i 0 = x → x < c → S.length = i → (∀ r ∈ S, r < c) → S.Pairwise (fun a b => rk ks od a ≤ rk ks od b) → (∀ (q : Nat → Int32) (p : Nat), p ≤ i → (insP S p x).Pairwise (fun a b => rk ks od a ≤ rk ks od b) → (∀ k, k < i + 1 → q k = nI ((insP S p x).getD k 0)) → Q8 (nI (i + 1)) q o) →
      ∀ (p : Nat) (q : Nat → Int32), p ≤ i → (∀ k, k < p → q k = nI (S.getD k 0)) → (∀ k, p < k → k < i + 1 → q k = nI (S.getD (k - 1) 0)) → (∀ k, p ≤ k → k < i → rk ks od x ≤ rk ks od (S.getD k 0)) → wl_L_sorted_b_19 n f (nI od) n (nI i) (wx_L_sorted_b_19_58 n f n (nI i) Q8) (p + 1) o (nI p) q := by
    intro i x S Q8 hi hx hxc hS hSr hSs hQ8 p
    have fin : ∀ (p : Nat) (q : Nat → Int32), p ≤ i → (∀ k, k < p → q k = nI (S.getD k 0)) → (∀ k, p < k → k < i + 1 → q k = nI (S.getD (k - 1) 0)) → (∀ k, p ≤ k → k < i → rk ks od x ≤ rk ks od (S.getD k 0)) → (∀ k, k < p → rk ks od (S.getD k 0) ≤ rk ks od x) → wx_L_sorted_b_19_58 n f n (nI i) Q8 o (nI p) q := by
      intro p q hp q1 q2 q3 q4
      unfold wx_L_sorted_b_19_58
      refine ⟨pk_in i n (by omega), ?_⟩
      refine nm_r (e' := nI x) (by rw [cl_n (by omega), hf.2 i (by omega), hx]) ?_
      refine ⟨pk_in p n (by omega), ?_⟩
      refine nm_r (e' := nI (i + 1)) (nI_1 _) ?_
      rw [cl_n (by omega)]
      refine hQ8 _ p hp (insP_sorted hSs (fun k hk _ => q4 k hk) (fun k hk hk2 => q3 k hk (by omega))) (fun k hk => ?_)
      rw [insP_at (by omega)]
      by_cases e1 : k < p
      · rw [if_pos e1, up_n _ (by omega)]; exact q1 k e1
      · rw [if_neg e1]
        by_cases e2 : k = p
        · rw [if_pos e2, e2, up_s]
        · rw [if_neg e2, up_n _ e2]; exact q2 k (by omega) hk
    induction p with
    | zero =>
      intro q hp q1 q2 q3
      rw [wl_L_sorted_b_19_s]
      refine pk_le 0 0 (fun _ => ?_) (fun q => absurd q (by omega))
      exact fin 0 q hp q1 q2 q3 (fun k hk => absurd hk (Nat.not_lt_zero _))
    | succ p ih =>
      intro q hp q1 q2 q3
      rw [wl_L_sorted_b_19_s]
      refine pk_le (p + 1) 0 (fun q => absurd q (by omega)) (fun _ => ?_)
      refine ⟨pk_in i n (by omega), ?_⟩
      refine nm_r (e' := nI x) (by rw [cl_n (by omega), hf.2 i (by omega), hx]) ?_
      refine nm_r (e' := nI p) (pk_sub (b := 1) (by omega)) ?_
      refine ⟨pk_in p n (by omega), ?_⟩
      refine nm_r (e' := nI (S.getD p 0)) (by rw [cl_n (by omega)]; exact q1 p (by omega)) ?_
      refine before_w h hxc (hSr _ (getD_mem (by omega))) ho ?_
      by_cases e : rk ks od x < rk ks od (S.getD p 0)
      · rw [decide_eq_true e]
        refine ⟨fun q => (by cases q), fun _ => ?_⟩
        refine nm_r (e' := nI p) (pk_sub (b := 1) (by omega)) ?_
        refine ⟨pk_in p n (by omega), ?_⟩
        refine nm_r (e' := nI (S.getD p 0)) (by rw [cl_n (by omega)]; exact q1 p (by omega)) ?_
        refine ⟨pk_in (p + 1) n (by omega), ?_⟩
        refine nm_r (e' := nI p) (ng_1 p) ?_
        rw [cl_n (by omega)]
        refine ih _ (by omega) (fun k hk => ?_) (fun k hk hk2 => ?_) (fun k hk hk2 => ?_)
        · rw [up_n _ (by omega)]; exact q1 k (by omega)
        · by_cases e2 : k = p + 1
          · subst e2; rw [up_s]; rfl
          · rw [up_n _ e2]; exact q2 k (by omega) hk2
        · by_cases e2 : k = p
          · subst e2; exact Nat.le_of_lt e
          · exact q3 k (by omega) hk2
      · rw [decide_eq_false e]
        refine ⟨fun _ => ?_, fun q => by cases q⟩
        refine fin (p + 1) q hp q1 q2 q3 (fun k hk => ?_)
        by_cases e2 : k = p
        · subst e2; omega
        · have h5 : rk ks od (S.getD k 0) ≤ rk ks od (S.getD p 0) := by
            have h6 := (List.pairwise_iff_getElem.mp hSs) k p (by omega) (by omega) (by omega)
            rw [List.getD_eq_getElem?_getD, List.getD_eq_getElem?_getD, List.getElem?_eq_getElem (by omega : k < S.length), List.getElem?_eq_getElem (by omega : p < S.length)]
            exact h6
          omega
  unfold wp_L_sorted_b
  refine ⟨n, rfl, by omega, n + 1, by omega, ?_⟩
  have key : ∀ (d i : Nat) (q : Nat → Int32) (S : List Nat), i + d = n → S.length = i → S.Perm (L.take i) → S.Pairwise (fun a b => rk ks od a ≤ rk ks od b) → (∀ k, k < i → q k = nI (S.getD k 0)) → wl_L_sorted_b_8 n f (nI od) n (wx_L_sorted_b_8_72 Q n) (d + 1) (nI i) q o := by
    intro d
    induction d with
    | zero =>
      intro i q S hi hS hSp hSs hq
      rw [wl_L_sorted_b_8_s]
      refine pk_le n i (fun _ => ?_) (fun q => absurd q (by omega))
      have e : srt ks od L = S := srt_of (by rw [List.take_of_length_le (by omega)] at hSp; exact hSp) hSs (fun r hr2 => by have := hr r hr2; omega)
      refine hQ q ⟨by rw [e, hS]; omega, fun k hk => ?_⟩
      rw [e] at hk ⊢
      exact hq k (by omega)
    | succ d ih =>
      intro i q S hi hS hSp hSs hq
      rw [wl_L_sorted_b_8_s]
      refine pk_le n i (fun q => absurd q (by omega)) (fun _ => ?_)
      refine ⟨i + 1, by omega, ?_⟩
      have hiL : i < L.length := by omega
      have ht : L.take (i + 1) = L.take i ++ [L.getD i 0] := take_snoc hiL
      refine inner i (L.getD i 0) S _ (by omega) rfl (hr _ (getD_mem hiL)) hS (fun r hr2 => hr r (List.mem_of_mem_take (hSp.mem_iff.mp hr2))) hSs (fun q2 p hp hs2 hq2 => ?_) i q (Nat.le_refl _) hq (fun k hk hk2 => by omega) (fun k hk hk2 => by omega)
      exact ih (i + 1) q2 _ (by omega) (by rw [insP_len, hS]) (by rw [ht]; exact (insP_perm _ _ _).trans (List.Perm.append_right _ hSp)) hs2 hq2
  exact key n 0 _ [] (by omega) rfl (by simp) List.Pairwise.nil (fun k hk => absurd hk (Nat.not_lt_zero _))
