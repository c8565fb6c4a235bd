/-! making runs: the maker's methods -/
def oI (o : Option Nat) : Int32 := match o with
  | some b => nI b
  | none => -1
theorem nI_m1 {b : Nat} (h : b < 2 ^ 31) : ¬ nI b = -1 := by
  intro q
  have e := congrArg Int32.toInt q
  rw [nI_toInt h] at e
  have e2 : (-1 : Int32).toInt = -1 := by decide
  omega
theorem oI_none : oI none = -1 := rfl
theorem oI_some (b : Nat) : oI (some b) = nI b := rfl
/-- the maker's memory holds this list of ranks with their runs -/
def MOk (mm ro : Nat → Int32) (hd : Int32) (mem : List (Nat × Nat)) : Prop :=
  hd = nI mem.length ∧ mem.length ≤ 50 ∧ ∀ i, i < mem.length → mm i = nI (mem.getD i (0, 0)).1 ∧ ro i = nI (mem.getD i (0, 0)).2 ∧ (mem.getD i (0, 0)).1 < 2 ^ 20 ∧ (mem.getD i (0, 0)).2 < 2 ^ 20
theorem lst_rng (run : Nat) (mem : List (Nat × Nat)) (n : Nat) : ∀ b, (List.range n).foldl (lstS run mem) none = some b → b < n := by
  refine range_ind (lstS run mem) none (P := fun k o => ∀ b, o = some b → b < k) (fun b h => by cases h) ?_ n
  intro k o h b hb
  unfold lstS at hb
  by_cases c : (mem.getD k (0, 0)).2 = run
  · rw [if_pos c] at hb
    cases o with
    | none => simp at hb; omega
    | some q =>
      have := h q rfl
      by_cases c2 : (mem.getD k (0, 0)).1 < (mem.getD q (0, 0)).1
      · simp only [c2, if_true] at hb; simp at hb; omega
      · simp only [c2, if_false] at hb; simp at hb; omega
  · rw [if_neg c] at hb
    have := h b hb
    omega
theorem leastOf_s {mm ro : Nat → Int32} {hd : Int32} {mem : List (Nat × Nat)} {run : Nat} {Q : Int32 → Prop} (hM : MOk mm ro hd mem) (hr : run < 2 ^ 20) (h : Q (oI (lst run mem))) : wp_X6_leastOf hd ro mm (nI run) Q := by
  obtain ⟨h1, h2, h3⟩ := hM
  unfold wp_X6_leastOf
  refine ⟨mem.length + 1, ?_⟩
  have key : ∀ (d i : Nat), i + d = mem.length → wl_X6_leastOf_4 hd ro mm (nI run) (wx_X6_leastOf_4_56 Q) (d + 1) (nI i) (oI ((List.range i).foldl (lstS run mem) none)) := by
    intro d
    induction d with
    | zero =>
      intro i hi
      rw [wl_X6_leastOf_4_s]
      refine pk_le mem.length i (fun _ => ?_) (fun q => absurd q (by omega)) h1
      unfold wx_X6_leastOf_4_56
      obtain rfl : i = mem.length := by omega
      exact h
    | succ d ih =>
      intro i hi
      rw [wl_X6_leastOf_4_s]
      refine pk_le mem.length i (fun q => absurd q (by omega)) (fun _ => ?_) h1
      refine pk_le 50 i (fun q => absurd q (by omega)) (fun _ => ?_)
      obtain ⟨g1, g2, g3, g4⟩ := h3 i (by omega)
      have it := ih (i + 1) (by omega)
      have hb := lst_rng run mem i
      rw [List.range_succ, List.foldl_append] at it
      generalize (List.range i).foldl (lstS run mem) none = o at it hb ⊢
      have it : wl_X6_leastOf_4 hd ro mm (nI run) (wx_X6_leastOf_4_56 Q) (d + 1) (nI (i + 1)) (oI (lstS run mem o i)) := it
      unfold lstS at it
      refine ⟨pk_in i 50 (by omega), nm_r (e' := nI (mem.getD i (0, 0)).2) (by rw [cl_n (by omega)]; exact g2) ?_⟩
      refine pk_eq ((mem.getD i (0, 0)).2) run (fun c => ?_) (fun c => ?_)
      · rw [if_pos c] at it
        cases o with
        | none =>
          refine ⟨fun _ => ?_, fun q => absurd rfl q⟩
          refine nm_r (e' := nI (i + 1)) (nI_1 _) ?_
          exact it
        | some b =>
          have hbi := hb b rfl
          obtain ⟨e1, e2, e3, e4⟩ := h3 b (by omega)
          refine ⟨fun q => absurd q (nI_m1 (by omega)), fun _ => ?_⟩
          refine ⟨pk_in i 50 (by omega), nm_r (e' := nI (mem.getD i (0, 0)).1) (by rw [cl_n (by omega)]; exact g1) ?_⟩
          refine ⟨pk_in b 50 (by omega), nm_r (e' := nI (mem.getD b (0, 0)).1) (by rw [oI_some, cl_n (by omega)]; exact e1) ?_⟩
          refine pk_le ((mem.getD b (0, 0)).1) ((mem.getD i (0, 0)).1) (fun c => ?_) (fun c => ?_)
          · refine nm_r (e' := nI (i + 1)) (nI_1 _) ?_
            simp only [show ¬ (mem.getD i (0, 0)).1 < (mem.getD b (0, 0)).1 by omega, if_false] at it
            exact it
          · refine nm_r (e' := nI (i + 1)) (nI_1 _) ?_
            simp only [c, if_true] at it
            exact it
      · rw [if_neg c] at it
        refine nm_r (e' := nI (i + 1)) (nI_1 _) ?_
        exact it
  exact key _ 0 (by omega)
theorem hold_s {mm ro : Nat → Int32} {i x r : Nat} {Q : (Nat → Int32) → (Nat → Int32) → Prop} (hi : i < 50) (h : Q (upd mm i (nI x)) (upd ro i (nI r))) : wp_X6_hold mm ro (nI i) (nI x) (nI r) Q := by
  unfold wp_X6_hold
  refine pk_lt i 0 (fun q => absurd q (by omega)) (fun _ => ?_)
  refine pk_le 50 i (fun q => absurd q (by omega)) (fun _ => ?_)
  refine ⟨pk_in i 50 (by omega), ?_⟩
  refine ⟨pk_in i 50 (by omega), ?_⟩
  rw [cl_n (by omega)]
  exact h
theorem MOk.set {mm ro : Nat → Int32} {hd : Int32} {mem : List (Nat × Nat)} {b x r : Nat} (h : MOk mm ro hd mem) (hx : x < 2 ^ 20) (hr : r < 2 ^ 20) : MOk (upd mm b (nI x)) (upd ro b (nI r)) hd (mem.set b (x, r)) := by
  obtain ⟨h1, h2, h3⟩ := h
  refine ⟨by rw [List.length_set]; exact h1, by rw [List.length_set]; exact h2, fun i hi => ?_⟩
  rw [List.length_set] at hi
  by_cases e : i = b
  · subst e
    have e2 : (mem.set i (x, r)).getD i (0, 0) = (x, r) := by rw [List.getD_eq_getElem?_getD, List.getElem?_set_self hi]; rfl
    rw [e2, up_s, up_s]
    exact ⟨rfl, rfl, hx, hr⟩
  · have e2 : (mem.set b (x, r)).getD i (0, 0) = mem.getD i (0, 0) := by rw [List.getD_eq_getElem?_getD, List.getD_eq_getElem?_getD, List.getElem?_set_ne (fun q => e q.symm)]
    rw [e2, up_n _ e, up_n _ e]
    exact h3 i hi
theorem MOk.push {mm ro : Nat → Int32} {hd : Int32} {mem : List (Nat × Nat)} {x r : Nat} (h : MOk mm ro hd mem) (hl : mem.length < 50) (hx : x < 2 ^ 20) (hr : r < 2 ^ 20) : MOk (upd mm mem.length (nI x)) (upd ro mem.length (nI r)) (nI (mem.length + 1)) (mem ++ [(x, r)]) := by
  obtain ⟨h1, h2, h3⟩ := h
  refine ⟨by simp, by simp; omega, fun i hi => ?_⟩
  simp only [List.length_append, List.length_cons, List.length_nil] at hi
  by_cases e : i = mem.length
  · subst e
    rw [getD_app_r (Nat.le_refl _), Nat.sub_self, up_s, up_s]
    exact ⟨rfl, rfl, hx, hr⟩
  · rw [getD_app_l (by omega), up_n _ e, up_n _ e]
    exact h3 i (by omega)
theorem drop_s {mm ro : Nat → Int32} {hd : Int32} {mem : List (Nat × Nat)} {b : Nat} {Q : Int32 → (Nat → Int32) → (Nat → Int32) → Prop} (hM : MOk mm ro hd mem) (hb : b < mem.length) (h : ∀ h' m' r', MOk m' r' h' ((mem.set b (mem.getD (mem.length - 1) (0, 0))).dropLast) → Q h' m' r') : wp_X6_drop hd mm ro (nI b) Q := by
  have hM2 := hM
  obtain ⟨h1, h2, h3⟩ := hM2
  obtain ⟨g1, g2, g3, g4⟩ := h3 (mem.length - 1) (by omega)
  unfold wp_X6_drop
  refine nm_r (e' := nI (mem.length - 1)) (by rw [h1]; exact pk_sub (b := 1) (by omega)) ?_
  refine pk_lt b 0 (fun q => absurd q (by omega)) (fun _ => ?_)
  refine pk_lt (mem.length - 1) b (fun q => absurd q (by omega)) (fun _ => ?_)
  refine pk_le 50 (mem.length - 1) (fun q => absurd q (by omega)) (fun _ => ?_)
  refine ⟨pk_in (mem.length - 1) 50 (by omega), nm_r (e' := nI (mem.getD (mem.length - 1) (0, 0)).1) (by rw [cl_n (by omega)]; exact g1) ?_⟩
  refine ⟨pk_in b 50 (by omega), ?_⟩
  refine ⟨pk_in (mem.length - 1) 50 (by omega), nm_r (e' := nI (mem.getD (mem.length - 1) (0, 0)).2) (by rw [cl_n (by omega)]; exact g2) ?_⟩
  refine ⟨pk_in b 50 (by omega), ?_⟩
  rw [cl_n (by omega)]
  have hs := hM.set (b := b) g3 g4
  obtain ⟨s1, s2, s3⟩ := hs
  refine h _ _ _ ⟨?_, ?_, fun i hi => ?_⟩
  · rw [List.length_dropLast, List.length_set]
  · rw [List.length_dropLast, List.length_set]; omega
  · rw [List.length_dropLast, List.length_set] at hi
    have e : (mem.set b (mem.getD (mem.length - 1) (0, 0))).dropLast.getD i (0, 0) = (mem.set b (mem.getD (mem.length - 1) (0, 0))).getD i (0, 0) := by
      rw [List.getD_eq_getElem?_getD, List.getD_eq_getElem?_getD, List.getElem?_dropLast, if_pos (by rw [List.length_set]; exact hi)]
      rfl
    rw [e]
    exact s3 i (by rw [List.length_set]; omega)
/-! natural runs -/
def rks (ks : Nat → Int) (o : Nat) (L : List Nat) : List Nat := L.map (rk ks o)
theorem rks_len (ks : Nat → Int) (o : Nat) (L : List Nat) : (rks ks o L).length = L.length := List.length_map _
theorem rks_getD {ks : Nat → Int} {o : Nat} {L : List Nat} {i : Nat} (h : i < L.length) : (rks ks o L).getD i 0 = rk ks o (L.getD i 0) := by
  unfold rks
  rw [List.getD_eq_getElem?_getD, List.getElem?_map, List.getD_eq_getElem?_getD, List.getElem?_eq_getElem h]; rfl
theorem rks_take_s {ks : Nat → Int} {o : Nat} {L : List Nat} {i : Nat} (h : i < L.length) : (rks ks o L).take (i + 1) = (rks ks o L).take i ++ [rk ks o (L.getD i 0)] := by
  rw [take_snoc (by rw [rks_len]; exact h), rks_getD h]
theorem rks_lt {K : Nat → Int32} {ks : Nat → Int} {o : Nat} {L : List Nat} (hK : KOk K ks) (hL : ∀ r ∈ L, r < 200) : ∀ x ∈ rks ks o L, x < 2 ^ 20 := by
  intro x hx
  obtain ⟨r, hr, rfl⟩ := List.mem_map.mp hx
  exact rk_lt hK (hL r hr)
/-- the rank of the record at a place of a tape -/
theorem rankAt_t {K : Nat → Int32} {ks : Nat → Int} {F : Nat → Nat → Int32} {n : Nat → Int32} {T : Nat → List Nat} {j o i : Nat} {Q : Int32 → Prop} (hK : KOk K ks) (hP : POk F n T) (hj : j < 18) (ho : o < 2) (hi : i < (T j).length) (h : Q (nI (rk ks o ((T j).getD i 0)))) : wp_X9_recordAt j (nI i) F n (fun r => wp_X0_rankOf K r (nI o) Q) :=
  recordAt_s hP hj hi (rankOf_s hK ((hP j hj).2.2.2 _ (getD_mem hi)) ho h)
theorem natR_flat (l : List Nat) : (natR l).flatten = l := (natR_ok l).1
theorem flat_ge {R : List (List Nat)} (h : ∀ r ∈ R, r ≠ []) : R.length ≤ R.flatten.length := by
  induction R with
  | nil => exact Nat.le_refl _
  | cons a R ih =>
    have h1 := ih (fun r hr => h r (List.mem_cons_of_mem _ hr))
    have h2 : 0 < a.length := List.length_pos_iff.mpr (h a List.mem_cons_self)
    rw [List.flatten_cons, List.length_append, List.length_cons]
    omega
theorem natR_len (l : List Nat) : (natR l).length ≤ l.length := by
  obtain ⟨h1, h2, -, -⟩ := natR_ok l
  have := flat_ge (fun r hr => (h2 r hr).1)
  rwa [h1] at this
theorem makeNatural_s {K : Nat → Int32} {ks : Nat → Int} {F : Nat → Nat → Int32} {n : Nat → Int32} {T : Nat → List Nat} {j o : Nat} {c0 f0 : Int32} {s0 l0 r0 : Nat → Int32} {Q : Int32 → Int32 → (Nat → Int32) → (Nat → Int32) → (Nat → Int32) → Prop} (hK : KOk K ks) (hP : POk F n T) (hj : j < 18) (ho : o < 2) (hR : ROk r0 s0 l0 c0 f0 []) (h : ∀ c f s l r, ROk r s l c f (natR (rks ks o (T j))) → Q c f s l r) : wp_X6_makeNatural K c0 f0 s0 l0 r0 j (nI o) F n Q := by
  obtain ⟨h1, h2, h3, h4⟩ := hP j hj
  unfold wp_X6_makeNatural
  refine ⟨(T j).length + 1, ?_⟩
  have key : ∀ (d i : Nat) (v c f : Int32) (s l r : Nat → Int32), i + d = (T j).length → (0 < i → v = nI (((rks ks o (T j)).take i).getLastD 0)) → ROk r s l c f (natR ((rks ks o (T j)).take i)) → wl_X6_makeNatural_6 K j (nI o) F n (wx_X6_makeNatural_6_62 Q) (d + 1) (nI i) v c f s l r := by
    intro d
    induction d with
    | zero =>
      intro i v c f s l r hi hv hR
      rw [wl_X6_makeNatural_6_s]
      refine pk_le ((T j).length) i (fun _ => ?_) (fun q => absurd q (by omega)) h1
      unfold wx_X6_makeNatural_6_62
      rw [List.take_of_length_le (by rw [rks_len]; omega)] at hR
      exact h _ _ _ _ _ hR
    | succ d ih =>
      intro i v c f s l r hi hv hR
      rw [wl_X6_makeNatural_6_s]
      refine pk_le ((T j).length) i (fun q => absurd q (by omega)) (fun _ => ?_) h1
      have hi2 : i < (T j).length := by omega
      have hx := rk_lt hK (o := o) (h4 _ (getD_mem (L := T j) hi2))
      refine rankAt_t hK hP hj ho hi2 ?_
      have e := rks_take_s (ks := ks) (o := o) hi2
      have hlen : ((rks ks o (T j)).take i).length = i := by rw [List.length_take, rks_len]; omega
      have hcl : (natR ((rks ks o (T j)).take i)).length ≤ i := by
        have := natR_len ((rks ks o (T j)).take i)
        rwa [hlen] at this
      have hfl : (natR ((rks ks o (T j)).take i)).flatten.length = i := by rw [natR_flat, hlen]
      have nx : ∀ c f s l r, ROk r s l c f (natS (natR ((rks ks o (T j)).take i)) (rk ks o ((T j).getD i 0))) → wl_X6_makeNatural_6 K j (nI o) F n (wx_X6_makeNatural_6_62 Q) (d + 1) (nI (i + 1)) (nI (rk ks o ((T j).getD i 0))) c f s l r := by
        intro c f s l r hR2
        refine ih (i + 1) _ c f s l r (by omega) (fun _ => ?_) ?_
        · rw [e, List.getLastD_concat]
        · rw [e, natR_app]; exact hR2
      have new : natR ((rks ks o (T j)).take i) = [] ∨ rk ks o ((T j).getD i 0) < ((natR ((rks ks o (T j)).take i)).getLastD []).getLastD 0 → wj_X6_makeNatural_40 (nI i) c f s l r (wl_X6_makeNatural_6 K j (nI o) F n (wx_X6_makeNatural_6_62 Q) (d + 1)) (nI (rk ks o ((T j).getD i 0))) := by
        intro q
        unfold wj_X6_makeNatural_40
        refine openRun_s hR (by omega) (fun c1 s1 l1 hR1 => ?_)
        refine rowAdd_s hR1 (by simp only [List.flatten_append, List.flatten_singleton, List.append_nil]; omega) hx (fun f2 r2 l2 hR2 => ?_)
        refine nm_r (e' := nI (i + 1)) (nI_1 _) ?_
        refine nx _ _ _ _ _ ?_
        unfold natS
        rw [if_pos q]
        exact hR2
      refine pk_eq i 0 (fun c => ?_) (fun c => ?_)
      · exact new (Or.inl (by rw [c]; rfl))
      · have hne : natR ((rks ks o (T j)).take i) ≠ [] := by
          intro q
          rw [q] at hfl
          simp at hfl; omega
        obtain ⟨-, -, hlast, -⟩ := natR_ok ((rks ks o (T j)).take i)
        obtain ⟨R0, x0, eR⟩ := split_last hne
        have hla := hlast R0 x0 eR
        have hv2 := hv (by omega)
        have hlt : ((rks ks o (T j)).take i).getLastD 0 < 2 ^ 20 := by
          obtain ⟨i0, rfl⟩ : ∃ k, i = k + 1 := ⟨i - 1, by omega⟩
          rw [rks_take_s (by omega), List.getLastD_concat]
          exact rk_lt hK (h4 _ (getD_mem (by omega)))
        refine pk_le (((rks ks o (T j)).take i).getLastD 0) (rk ks o ((T j).getD i 0)) (fun c => ?_) (fun c => ?_) hv2
        · rw [eR] at hR
          refine rowAdd_s hR (by rw [← eR]; omega) hx (fun f2 r2 l2 hR2 => ?_)
          refine nm_r (e' := nI (i + 1)) (nI_1 _) ?_
          refine nx _ _ _ _ _ ?_
          unfold natS
          rw [eR, List.getLastD_concat, if_neg (fun q => q.elim (by simp) (by rw [hla]; omega)), addL_app]
          exact hR2
        · exact new (Or.inr (by rw [eR, List.getLastD_concat, hla]; exact c))
  refine key _ 0 0 _ _ _ _ _ (by omega) (fun q => absurd q (by omega)) ?_
  exact hR
