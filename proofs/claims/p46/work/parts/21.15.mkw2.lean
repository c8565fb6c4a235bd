/-! full memories: the insertion -/
theorem getD_ins {buf : List Nat} {p x i : Nat} (hp : p ≤ buf.length) : (buf.take p ++ x :: buf.drop p).getD i 0 = if i < p then buf.getD i 0 else if i = p then x else buf.getD (i - 1) 0 := by
  have hl : (buf.take p).length = p := by rw [List.length_take]; omega
  by_cases c : i < p
  · rw [if_pos c, getD_app_l (by omega), List.getD_eq_getElem?_getD, List.getD_eq_getElem?_getD, List.getElem?_take, if_pos c]
  · rw [if_neg c, getD_app_r (by omega), hl]
    by_cases c2 : i = p
    · rw [if_pos c2, c2, Nat.sub_self]; rfl
    · rw [if_neg c2]
      obtain ⟨k, hk⟩ : ∃ k, i - p = k + 1 := ⟨i - p - 1, by omega⟩
      rw [hk]
      show (buf.drop p).getD k 0 = _
      rw [List.getD_eq_getElem?_getD, List.getD_eq_getElem?_getD, List.getElem?_drop]
      congr 2
      omega
def BOk (mm : Nat → Int32) (hd : Int32) (buf : List Nat) : Prop := hd = nI buf.length ∧ buf.length ≤ 50 ∧ (∀ i, i < buf.length → mm i = nI (buf.getD i 0)) ∧ ∀ x ∈ buf, x < 2 ^ 20
theorem holdInOrder_s {mm : Nat → Int32} {hd : Int32} {buf : List Nat} {x : Nat} {Q : Int32 → (Nat → Int32) → Prop} (hB : BOk mm hd buf) (hs : buf.Pairwise (· ≤ ·)) (hl : buf.length < 50) (hx : x < 2 ^ 20) (h : ∀ h' m' buf', BOk m' h' buf' → buf'.Pairwise (· ≤ ·) → buf'.Perm (buf ++ [x]) → Q h' m') : wp_X6_holdInOrder hd mm (nI x) Q := by
  obtain ⟨h1, h2, h3, h4⟩ := hB
  have hsi : ∀ i j, i < j → j < buf.length → buf.getD i 0 ≤ buf.getD j 0 := by
    intro i j hij hj
    have := List.pairwise_iff_getElem.mp hs i j (by omega) hj hij
    rw [List.getD_eq_getElem?_getD, List.getD_eq_getElem?_getD, List.getElem?_eq_getElem (by omega), List.getElem?_eq_getElem hj]
    exact this
  unfold wp_X6_holdInOrder
  refine pk_lt buf.length 0 (fun q => absurd q (by omega)) (fun _ => ?_) h1
  refine pk_lt buf.length 50 (fun _ => ?_) (fun q => absurd q (by omega)) h1
  refine ⟨buf.length + 1, ?_⟩
  have fin : ∀ (p : Nat) (m1 : Nat → Int32), p ≤ buf.length → (∀ i, i < p → m1 i = nI (buf.getD i 0)) → (∀ i, p < i → i ≤ buf.length → m1 i = nI (buf.getD (i - 1) 0)) → (∀ i, p ≤ i → i < buf.length → x < buf.getD i 0) → (0 < p → buf.getD (p - 1) 0 ≤ x) → wx_X6_holdInOrder_22_58 hd (nI x) Q (nI p) m1 := by
    intro p m1 hp a1 a2 a3 a4
    unfold wx_X6_holdInOrder_22_58
    refine ⟨pk_in p 50 (by omega), ?_⟩
    refine nm_r (e' := nI (buf.length + 1)) (by rw [h1]; exact nI_1 _) ?_
    rw [cl_n (by omega)]
    have hle : ∀ i, i < p → buf.getD i 0 ≤ x := by
      intro i hi
      by_cases c : i = p - 1
      · rw [c]; exact a4 (by omega)
      · exact Nat.le_trans (hsi i (p - 1) (by omega) (by omega)) (a4 (by omega))
    have hperm : (buf.take p ++ x :: buf.drop p).Perm (buf ++ [x]) := by
      refine (List.perm_middle).trans ?_
      rw [List.take_append_drop]
      exact (List.perm_append_singleton x buf).symm
    have hlen : (buf.take p ++ x :: buf.drop p).length = buf.length + 1 := by
      rw [hperm.length_eq, List.length_append]; rfl
    refine h _ _ (buf.take p ++ x :: buf.drop p) ⟨by rw [hlen], by omega, fun i hi => ?_, fun y hy => ?_⟩ ?_ hperm
    · rw [getD_ins hp]
      by_cases c : i < p
      · rw [if_pos c, up_n _ (by omega)]; exact a1 i c
      · rw [if_neg c]
        by_cases c2 : i = p
        · rw [if_pos c2, c2, up_s]
        · rw [if_neg c2, up_n _ c2]; exact a2 i (by omega) (by omega)
    · rcases List.mem_append.mp (hperm.mem_iff.mp hy) with q | q
      · exact h4 y q
      · simp at q; omega
    · refine List.pairwise_append.mpr ⟨hs.sublist (List.take_sublist _ _), List.pairwise_cons.mpr ⟨fun y hy => ?_, hs.sublist (List.drop_sublist _ _)⟩, fun y hy z hz => ?_⟩
      · obtain ⟨i, hi, rfl⟩ := mem_getD (d := 0) hy
        rw [List.length_drop] at hi
        have := a3 (p + i) (by omega) (by omega)
        rw [List.getD_eq_getElem?_getD, List.getElem?_drop, ← List.getD_eq_getElem?_getD]
        omega
      · obtain ⟨i, hi, rfl⟩ := mem_getD (d := 0) hy
        rw [List.length_take] at hi
        have e : (buf.take p).getD i 0 = buf.getD i 0 := by rw [List.getD_eq_getElem?_getD, List.getD_eq_getElem?_getD, List.getElem?_take, if_pos (by omega)]
        rw [e]
        rcases List.mem_cons.mp hz with q | q
        · subst q; exact hle i (by omega)
        · obtain ⟨j, hj, rfl⟩ := mem_getD (d := 0) q
          rw [List.length_drop] at hj
          rw [List.getD_eq_getElem?_getD (l := buf.drop p), List.getElem?_drop, ← List.getD_eq_getElem?_getD]
          exact hsi i (p + j) (by omega) (by omega)
  have key : ∀ (p : Nat) (m1 : Nat → Int32), p ≤ buf.length → (∀ i, i < p → m1 i = nI (buf.getD i 0)) → (∀ i, p < i → i ≤ buf.length → m1 i = nI (buf.getD (i - 1) 0)) → (∀ i, p ≤ i → i < buf.length → x < buf.getD i 0) → wl_X6_holdInOrder_22 (nI x) (wx_X6_holdInOrder_22_58 hd (nI x) Q) (p + 1) (nI p) m1 := by
    intro p
    induction p with
    | zero =>
      intro m1 hp a1 a2 a3
      rw [wl_X6_holdInOrder_22_s]
      refine pk_le 0 0 (fun _ => ?_) (fun q => absurd q (by omega))
      exact fin 0 m1 hp a1 a2 a3 (fun q => absurd q (by omega))
    | succ p ih =>
      intro m1 hp a1 a2 a3
      rw [wl_X6_holdInOrder_22_s]
      refine pk_le (p + 1) 0 (fun q => absurd q (by omega)) (fun _ => ?_)
      have hb := h4 _ (getD_mem (L := buf) (i := p) (by omega))
      refine nm_r (e' := nI p) (nI_pred p) ?_
      refine ⟨pk_in p 50 (by omega), nm_r (e' := nI (buf.getD p 0)) (by rw [cl_n (by omega)]; exact a1 p (by omega)) ?_⟩
      refine pk_le (buf.getD p 0) x (fun c => ?_) (fun c => ?_)
      · exact fin (p + 1) m1 hp a1 a2 a3 (fun _ => c)
      · refine nm_r (e' := nI p) (nI_pred p) ?_
        refine ⟨pk_in p 50 (by omega), nm_r (e' := nI (buf.getD p 0)) (by rw [cl_n (by omega)]; exact a1 p (by omega)) ?_⟩
        refine ⟨pk_in (p + 1) 50 (by omega), ?_⟩
        refine nm_r (e' := nI p) (pk_m1 p) ?_
        rw [cl_n (by omega)]
        refine ih _ (by omega) (fun i hi => ?_) (fun i hi1 hi2 => ?_) (fun i hi1 hi2 => ?_)
        · rw [up_n _ (by omega)]; exact a1 i (by omega)
        · by_cases c2 : i = p + 1
          · rw [c2, up_s]; rfl
          · rw [up_n _ c2]; exact a2 i (by omega) hi2
        · by_cases c2 : i = p
          · rw [c2]; exact c
          · exact a3 i (by omega) hi2
  have := key buf.length mm (Nat.le_refl _) (fun i hi => h3 i hi) (fun i q1 q2 => absurd q1 (by omega)) (fun i q1 q2 => absurd q1 (by omega))
  rw [h1]
  rw [h1] at this
  exact this
theorem makeFull_s {K : Nat → Int32} {ks : Nat → Int} {F : Nat → Nat → Int32} {n : Nat → Int32} {T : Nat → List Nat} {j o m : Nat} {mm0 : Nat → Int32} {c0 f0 : Int32} {s0 l0 r0 : Nat → Int32} {Q : Int32 → (Nat → Int32) → Int32 → Int32 → (Nat → Int32) → (Nat → Int32) → (Nat → Int32) → Prop} (hK : KOk K ks) (hP : POk F n T) (hj : j < 18) (ho : o < 2) (hm : 1 ≤ m) (hm2 : m ≤ 50) (hR : ROk r0 s0 l0 c0 f0 []) (h : ∀ hd mm c f s l r, ROk r s l c f (fullR m (T j).length (rks ks o (T j))) → Q hd mm c f s l r) : wp_X6_makeFull mm0 K c0 f0 s0 l0 r0 j (nI o) (nI m) F n Q := by
  obtain ⟨h1, h2, h3, h4⟩ := hP j hj
  have hlt := rks_lt (o := o) hK h4
  unfold wp_X6_makeFull
  refine ⟨(T j).length + 1, ?_⟩
  -- p records are in runs, b are held
  have key : ∀ (d p b n9 : Nat) (mm : Nat → Int32) (c f hd : Int32) (s l r : Nat → Int32) (buf : List Nat) (R : List (List Nat)), p + b + d = (T j).length → b < m → (d = 0 → b = 0) → BOk mm hd buf → buf.Pairwise (· ≤ ·) → buf.Perm (((rks ks o (T j)).drop p).take b) → ROk r s l c f R → R.flatten.length = p → R.length ≤ p → ((rks ks o (T j)).drop p).length ≤ n9 → R ++ fullR m n9 ((rks ks o (T j)).drop p) = fullR m (T j).length (rks ks o (T j)) → wl_X6_makeFull_8 K j (nI o) (nI m) F n (wx_X6_makeFull_8_105 Q) (d + 1) (nI (p + b)) mm c s l f r hd := by
    intro d
    induction d with
    | zero =>
      intro p b n9 mm c f hd s l r buf R hi hb hd0 hB hs hp hR hRf hRl hn9 hfin
      have hb0 := hd0 rfl
      subst hb0
      rw [wl_X6_makeFull_8_s]
      refine pk_le ((T j).length) (p + 0) (fun _ => ?_) (fun q => absurd q (by omega)) h1
      unfold wx_X6_makeFull_8_105
      refine h _ _ _ _ _ _ _ ?_
      rw [List.drop_of_length_le (by rw [rks_len]; omega)] at hfin
      have e : fullR m n9 [] = [] := by cases n9 <;> rfl
      rw [e, List.append_nil] at hfin
      rw [← hfin]
      exact hR
    | succ d ih =>
      intro p b n9 mm c f hd s l r buf R hi hb hd0 hB hs hp hR hRf hRl hn9 hfin
      rw [wl_X6_makeFull_8_s]
      refine pk_le ((T j).length) (p + b) (fun q => absurd q (by omega)) (fun _ => ?_) h1
      have hi2 : p + b < (T j).length := by omega
      have hx := rk_lt hK (o := o) (h4 _ (getD_mem (L := T j) hi2))
      refine rankAt_t hK hP hj ho hi2 ?_
      have hbl : buf.length = b := by rw [hp.length_eq, List.length_take, List.length_drop, rks_len]; omega
      refine holdInOrder_s hB hs (by omega) hx (fun h' m' buf' hB' hs' hp' => ?_)
      have e1 : ((rks ks o (T j)).drop p).take (b + 1) = ((rks ks o (T j)).drop p).take b ++ [rk ks o ((T j).getD (p + b) 0)] := by
        rw [take_snoc (by rw [List.length_drop, rks_len]; omega)]
        congr 2
        rw [List.getD_eq_getElem?_getD, List.getElem?_drop, ← List.getD_eq_getElem?_getD, rks_getD hi2]
      have hp2 : buf'.Perm (((rks ks o (T j)).drop p).take (b + 1)) := by
        rw [e1]; exact hp'.trans (hp.append_right _)
      have hbl' : buf'.length = b + 1 := by rw [hp2.length_eq, List.length_take, List.length_drop, rks_len]; omega
      obtain ⟨g1, g2, g3, g4⟩ := hB'
      -- a run is closed
      have cls : (b + 1 = m ∨ d = 0) → wj_X6_makeFull_52 (nI (p + b)) c s l f r (wl_X6_makeFull_8 K j (nI o) (nI m) F n (wx_X6_makeFull_8_105 Q) (d + 1)) h' m' := by
        intro hc
        unfold wj_X6_makeFull_52
        refine openRun_s hR (by omega) (fun c1 s1 l1 hR1 => ⟨buf'.length + 1, ?_⟩)
        have inner : ∀ (e i : Nat) (f2 : Int32) (l2 r2 : Nat → Int32), i + e = buf'.length → ROk r2 s1 l2 c1 f2 (R ++ [buf'.take i]) → wl_X6_makeFull_60 h' m' c1 (wx_X6_makeFull_60_94 (nI (p + b)) (wl_X6_makeFull_8 K j (nI o) (nI m) F n (wx_X6_makeFull_8_105 Q) (d + 1)) m' c1 s1) (e + 1) (nI i) f2 l2 r2 := by
          intro e
          induction e with
          | zero =>
            intro i f2 l2 r2 hie hR2
            rw [wl_X6_makeFull_60_s]
            refine pk_le buf'.length i (fun _ => ?_) (fun q => absurd q (by omega)) g1
            unfold wx_X6_makeFull_60_94
            refine nm_r (e' := nI ((p + b) + 1)) (nI_1 _) ?_
            rw [List.take_of_length_le (by omega)] at hR2
            have eb : buf' = (((rks ks o (T j)).drop p).take m).mergeSort := by
              refine msort_of (hp2.trans (List.Perm.of_eq ?_)) hs'
              rcases hc with q | q
              · rw [q]
              · rw [List.take_of_length_le (by rw [List.length_drop, rks_len]; omega), List.take_of_length_le (by rw [List.length_drop, rks_len]; omega)]
            have hn9p : ∃ k, n9 = k + 1 := ⟨n9 - 1, by rw [List.length_drop, rks_len] at hn9; omega⟩
            obtain ⟨k, rfl⟩ := hn9p
            refine ih (p + b + 1) 0 k m' c1 f2 0 s1 l2 r2 [] (R ++ [buf']) (by omega) (by omega) (fun _ => rfl) ⟨rfl, by simp, fun i hi => absurd hi (by simp), fun x hx => absurd hx (by simp)⟩ List.Pairwise.nil (List.Perm.refl _) hR2 ?_ ?_ ?_ ?_
            · simp only [List.flatten_append, List.flatten_singleton, List.length_append]; omega
            · simp only [List.length_append, List.length_cons, List.length_nil]; omega
            · rw [List.length_drop, rks_len] at hn9 ⊢; omega
            · rw [← hfin, List.append_assoc]
              congr 1
              have e3 : fullR m (k + 1) ((rks ks o (T j)).drop p) = (((rks ks o (T j)).drop p).take m).mergeSort :: fullR m k (((rks ks o (T j)).drop p).drop m) := by
                show (if (rks ks o (T j)).drop p = [] then [] else _) = _
                rw [if_neg (fun q => by have := congrArg List.length q; rw [List.length_drop, rks_len] at this; simp at this; omega)]
              rw [e3, ← eb]
              show buf' :: _ = buf' :: _
              congr 1
              rw [List.drop_drop]
              rcases hc with q | q
              · rw [← q]; congr 1
              · rw [List.drop_of_length_le (by rw [rks_len]; omega), List.drop_of_length_le (by rw [rks_len]; omega)]; rfl
          | succ e ihe =>
            intro i f2 l2 r2 hie hR2
            rw [wl_X6_makeFull_60_s]
            refine pk_le buf'.length i (fun q => absurd q (by omega)) (fun _ => ?_) g1
            refine pk_le 50 i (fun q => absurd q (by omega)) (fun _ => ?_)
            have hbx := g4 _ (getD_mem (L := buf') (i := i) (by omega))
            refine ⟨pk_in i 50 (by omega), nm_r (e' := nI (buf'.getD i 0)) (by rw [cl_n (by omega)]; exact g3 i (by omega)) ?_⟩
            refine rowAdd_s hR2 (by simp only [List.flatten_append, List.flatten_singleton, List.length_append, List.length_take]; omega) hbx (fun f3 r3 l3 hR3 => ?_)
            refine nm_r (e' := nI (i + 1)) (nI_1 _) ?_
            rw [← take_snoc (by omega)] at hR3
            exact ihe (i + 1) _ _ _ (by omega) hR3
        exact inner _ 0 _ _ _ (by omega) hR1
      refine pk_le m buf'.length (fun c => ?_) (fun c => ?_) rfl g1
      · exact cls (Or.inl (by omega))
      · refine nm_r (e' := nI ((T j).length - 1)) (by rw [h1]; exact pk_sub (b := 1) (by omega)) ?_
        refine pk_eq (p + b) ((T j).length - 1) (fun c => ?_) (fun c => ?_)
        · exact cls (Or.inr (by omega))
        · refine nm_r (e' := nI ((p + b) + 1)) (nI_1 _) ?_
          exact ih p (b + 1) n9 m' _ f h' s l r buf' R (by omega) (by omega) (fun q => absurd q (by omega)) ⟨g1, g2, g3, g4⟩ hs' hp2 hR hRf hRl hn9 hfin
  exact key (T j).length 0 0 (T j).length mm0 c0 f0 0 s0 l0 r0 [] [] (by omega) (by omega) (fun _ => rfl) ⟨rfl, by simp, fun i hi => absurd hi (by simp), fun x hx => absurd hx (by simp)⟩ List.Pairwise.nil (List.Perm.refl _) hR rfl (Nat.zero_le _) (by rw [List.drop_zero, rks_len]; exact Nat.le_refl _) rfl
