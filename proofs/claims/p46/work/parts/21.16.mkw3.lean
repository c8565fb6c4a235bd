/-! runs by replacement -/
theorem drop_cons_getD {l : List Nat} {i : Nat} (h : i < l.length) : l.drop i = l.getD i 0 :: l.drop (i + 1) := by
  rw [List.drop_eq_getElem_cons h, List.getD_eq_getElem?_getD, List.getElem?_eq_getElem h]; rfl
theorem addL_len {R : List (List Nat)} (x : Nat) (h : R ≠ []) : (addL R x).length = R.length := by
  obtain ⟨R0, l, rfl⟩ := split_last h
  rw [addL_app]; simp
theorem makeByReplacement_s {K : Nat → Int32} {ks : Nat → Int} {F : Nat → Nat → Int32} {n : Nat → Int32} {T : Nat → List Nat} {j o m : Nat} {ro0 mm0 : Nat → Int32} {c0 f0 : Int32} {s0 l0 r0 : Nat → Int32} {Q : Int32 → (Nat → Int32) → (Nat → Int32) → Int32 → Int32 → (Nat → Int32) → (Nat → Int32) → (Nat → Int32) → Prop} (hK : KOk K ks) (hP : POk F n T) (hj : j < 18) (ho : o < 2) (hm : 1 ≤ m) (hm2 : m ≤ 50) (hR : ROk r0 s0 l0 c0 f0 []) (h : ∀ hd ro mm c f s l r, ROk r s l c f (replR m (rks ks o (T j))) → Q hd ro mm c f s l r) : wp_X6_makeByReplacement ro0 mm0 K c0 f0 s0 l0 r0 j (nI o) (nI m) F n Q := by
  obtain ⟨h1, h2, h3, h4⟩ := hP j hj
  have hlt := rks_lt (o := o) hK h4
  unfold wp_X6_makeByReplacement
  refine ⟨(T j).length + 1, ?_⟩
  -- the main loop
  have main : ∀ (d : Nat) (mem : List (Nat × Nat)) (rest : List Nat) (run : Nat) (R : List (List Nat)) (hd : Int32) (ro mm : Nat → Int32) (c f : Int32) (s l r : Nat → Int32) (mv nx : Nat), RInv m (rks ks o (T j)) d mem rest run R → MOk mm ro hd mem → ROk r s l c f R → R.flatten.length = mv → mv + d = (T j).length → nx + rest.length = (T j).length → rgo d mem rest run R = replR m (rks ks o (T j)) → wl_X6_makeByReplacement_60 K j (nI o) F n (wx_X6_makeByReplacement_60_115 Q) (wx_X6_makeByReplacement_60_211 Q) (d + 1) (nI mv) (nI run) hd ro mm c f s l r (nI nx) := by
    intro d
    induction d with
    | zero =>
      intro mem rest run R hd ro mm c f s l r mv nx hI hM hR hfl hmv hnx hgo
      rw [wl_X6_makeByReplacement_60_s]
      refine pk_le ((T j).length) mv (fun _ => ?_) (fun q => absurd q (by omega)) h1
      unfold wx_X6_makeByReplacement_60_211
      have hgo : R = _ := hgo
      rw [hgo] at hR
      exact h _ _ _ _ _ _ _ _ hR
    | succ d ih =>
      intro mem rest run R hd ro mm c f s l r mv nx hI hM hR hfl hmv hnx hgo
      rw [wl_X6_makeByReplacement_60_s]
      refine pk_le ((T j).length) mv (fun q => absurd q (by omega)) (fun _ => ?_) h1
      obtain ⟨b, q, hbq, hb, hRq, hA, hB⟩ := rgo_next hm hI
      obtain ⟨eA, eB⟩ := rgo_eq (n := d) (rest := rest) (R := R) hbq
      obtain ⟨i1, i2, i3, i4, i5, i6, i7, i8, i9, i10, i11, i12, i13⟩ := hI
      obtain ⟨M1, M2, M3⟩ := hM
      have hRn : R.length ≤ mv := by
        have := flat_ge (fun r hr => (i6 r hr).1)
        omega
      have hrun : run < 2 ^ 20 := by
        rcases i4 with q1 | ⟨-, q1⟩
        · omega
        · omega
      obtain ⟨v1, v2, v3, v4⟩ := M3 b hb
      -- what follows once the place is known
      have go : q < 2 ^ 20 → wj_X6_makeByReplacement_94 K j (nI o) F n (nI mv) hd ro mm c f s l r (nI nx) (wl_X6_makeByReplacement_60 K j (nI o) F n (wx_X6_makeByReplacement_60_115 Q) (wx_X6_makeByReplacement_60_211 Q) (d + 1)) (wx_X6_makeByReplacement_60_115 Q) (nI b) (nI q) := by
        intro hq
        unfold wj_X6_makeByReplacement_94
        refine pk_lt b 0 (fun q => absurd q (by omega)) (fun _ => ?_)
        refine pk_le mem.length b (fun q => absurd q (by omega)) (fun _ => ?_) M1
        refine pk_lt b 50 (fun _ => ?_) (fun q => absurd q (by omega))
        refine ⟨pk_in b 50 (by omega), nm_r (e' := nI (mem.getD b (0, 0)).1) (by rw [cl_n (by omega)]; exact v1) ?_⟩
        have rest2 : ∀ (c1 : Int32) (s1 l1 : Nat → Int32) (R0 : List (List Nat)) (x0 : List Nat), ROk r s1 l1 c1 f (R0 ++ [x0]) → (R0 ++ [x0]).flatten.length = mv → addL (R0 ++ [x0]) (mem.getD b (0, 0)).1 = addL (if R.length ≤ q then R ++ [[]] else R) (mem.getD b (0, 0)).1 → wj_X6_makeByReplacement_140 K j (nI o) F n (nI mv) hd ro mm f r (nI nx) (wl_X6_makeByReplacement_60 K j (nI o) F n (wx_X6_makeByReplacement_60_115 Q) (wx_X6_makeByReplacement_60_211 Q) (d + 1)) (nI b) (nI q) (nI (mem.getD b (0, 0)).1) c1 s1 l1 := by
          intro c1 s1 l1 R0 x0 hR1 hf1 hadd
          unfold wj_X6_makeByReplacement_140
          refine rowAdd_s hR1 (by omega) v3 (fun f2 r2 l2 hR2 => ?_)
          rw [← addL_app, hadd] at hR2
          have hf2 : (addL (if R.length ≤ q then R ++ [[]] else R) (mem.getD b (0, 0)).1).flatten.length = mv + 1 := by
            rw [← hadd, addL_app, List.flatten_append, List.flatten_singleton, List.length_append, List.length_append]
            rw [List.flatten_append, List.flatten_singleton, List.length_append] at hf1
            simp only [List.length_cons, List.length_nil]
            omega
          refine pk_le ((T j).length) nx (fun c => ?_) (fun c => ?_) h1
          · -- nothing is left on the tape
            have er : rest = [] := List.length_eq_zero_iff.mp (by omega)
            refine drop_s ⟨M1, M2, M3⟩ hb (fun h' m' r' hM' => ?_)
            refine nm_r (e' := nI (mv + 1)) (nI_1 _) ?_
            subst er
            exact ih _ [] q _ h' r' m' c1 f2 s1 l2 r2 (mv + 1) nx (hB rfl) hM' hR2 hf2 (by omega) hnx ((eB rfl).symm.trans hgo)
          · have hnx2 : nx < (T j).length := by omega
            have hx := rk_lt hK (o := o) (h4 _ (getD_mem (L := T j) hnx2))
            refine rankAt_t hK hP hj ho hnx2 ?_
            have er : rest = rk ks o ((T j).getD nx 0) :: (rks ks o (T j)).drop (nx + 1) := by
              rw [i10, rks_len, show (T j).length - rest.length = nx by omega, drop_cons_getD (by rw [rks_len]; exact hnx2), rks_getD hnx2]
            have put : ∀ z : Nat, z = (if rk ks o ((T j).getD nx 0) < (mem.getD b (0, 0)).1 then q + 1 else q) → z < 2 ^ 20 → wj_X6_makeByReplacement_190 (nI mv) hd ro mm (nI nx) (wl_X6_makeByReplacement_60 K j (nI o) F n (wx_X6_makeByReplacement_60_115 Q) (wx_X6_makeByReplacement_60_211 Q) (d + 1)) (nI b) (nI q) c1 s1 f2 r2 l2 (nI (rk ks o ((T j).getD nx 0))) (nI z) := by
              intro z hz hz2
              unfold wj_X6_makeByReplacement_190
              refine hold_s (by omega) ?_
              refine nm_r (e' := nI (nx + 1)) (nI_1 _) ?_
              refine nm_r (e' := nI (mv + 1)) (nI_1 _) ?_
              have hM' := MOk.set (b := b) (⟨M1, M2, M3⟩ : MOk mm ro hd mem) hx hz2
              have hI' := hA _ _ er
              have hg' := (eA _ _ er).symm.trans hgo
              rw [← hz] at hI' hg'
              exact ih _ _ q _ hd _ _ c1 f2 s1 l2 r2 (mv + 1) (nx + 1) hI' hM' hR2 hf2 (by omega) (by rw [List.length_drop, rks_len]; omega) hg'
            refine pk_le ((mem.getD b (0, 0)).1) (rk ks o ((T j).getD nx 0)) (fun c => ?_) (fun c => ?_)
            · exact put q (by rw [if_neg (by omega)]) hq
            · refine nm_r (e' := nI (q + 1)) (nI_1 _) ?_
              exact put (q + 1) (by rw [if_pos c]) (by omega)
        have hcl : c = nI R.length := hR.1
        refine pk_lt q R.length (fun c2 => ?_) (fun c2 => ?_) rfl hcl
        · have hne : R ≠ [] := by rintro rfl; simp at c2
          obtain ⟨R0, x0, eR⟩ := split_last hne
          rw [eR] at hR
          refine rest2 c s l R0 x0 hR (by rw [← eR]; exact hfl) ?_
          rw [← eR, if_neg (by omega)]
        · refine openRun_s hR (by omega) (fun c1 s1 l1 hR1 => ?_)
          refine rest2 c1 s1 l1 R [] hR1 (by rw [List.flatten_append, List.flatten_singleton, List.append_nil]; exact hfl) ?_
          rw [if_pos (by omega)]
      refine leastOf_s ⟨M1, M2, M3⟩ hrun ?_
      rcases hbq with ⟨e1, e2⟩ | ⟨e1, e2, e3⟩
      · rw [e1]
        refine ⟨fun z => absurd z (nI_m1 (by omega)), fun _ => ?_⟩
        rw [oI_some, ← e2]
        exact go (by omega)
      · rw [e1]
        refine ⟨fun _ => ?_, fun z => absurd rfl z⟩
        refine nm_r (e' := nI (run + 1)) (nI_1 _) ?_
        refine leastOf_s ⟨M1, M2, M3⟩ (by omega) ?_
        rw [e2, oI_some, ← e3]
        exact go (by omega)
  -- the memory is filled at first
  have first : ∀ (d i : Nat) (ro mm : Nat → Int32), i + d = (T j).length → i ≤ m → MOk mm ro (nI i) (((rks ks o (T j)).take i).map (fun x => (x, 0))) → wl_X6_makeByReplacement_8 K j (nI o) (nI m) F n (wx_X6_makeByReplacement_8_48 K c0 f0 s0 l0 r0 j (nI o) F n Q) (d + 1) (nI i) ro mm := by
    have fin : ∀ (i : Nat) (ro mm : Nat → Int32), i ≤ m → i ≤ (T j).length → (i = m ∨ i = (T j).length) → MOk mm ro (nI i) (((rks ks o (T j)).take i).map (fun x => (x, 0))) → wx_X6_makeByReplacement_8_48 K c0 f0 s0 l0 r0 j (nI o) F n Q (nI i) ro mm := by
      intro i ro mm h9 h10 h11 hM
      unfold wx_X6_makeByReplacement_8_48
      refine ⟨(T j).length + 1, ?_⟩
      have e : (rks ks o (T j)).take i = (rks ks o (T j)).take m ∧ (rks ks o (T j)).drop i = (rks ks o (T j)).drop m := by
        rcases h11 with q | q
        · rw [q]; exact ⟨rfl, rfl⟩
        · have hl := rks_len ks o (T j)
          exact ⟨by rw [List.take_of_length_le (by omega), List.take_of_length_le (by omega)], by rw [List.drop_of_length_le (by omega), List.drop_of_length_le (by omega)]⟩
      have hI := RInv_init (m := m) (l := rks ks o (T j)) hm
      rw [rks_len] at hI
      rw [e.1] at hM
      refine main (T j).length _ ((rks ks o (T j)).drop m) 0 [] (nI i) ro mm c0 f0 s0 l0 r0 0 i hI hM hR rfl (by omega) ?_ ?_
      · rw [← e.2, List.length_drop, rks_len]; omega
      · unfold replR
        rw [rks_len]
    intro d
    induction d with
    | zero =>
      intro i ro mm hi him hM
      rw [wl_X6_makeByReplacement_8_s]
      refine pk_le ((T j).length) i (fun _ => ?_) (fun q => absurd q (by omega)) h1
      exact fin i ro mm him (by omega) (Or.inr (by omega)) hM
    | succ d ih =>
      intro i ro mm hi him hM
      rw [wl_X6_makeByReplacement_8_s]
      refine pk_le ((T j).length) i (fun q => absurd q (by omega)) (fun _ => ?_) h1
      have hi2 : i < (T j).length := by omega
      refine pk_le m i (fun c => ?_) (fun c => ?_)
      · exact fin i ro mm him (by omega) (Or.inl (by omega)) hM
      · have hx := rk_lt hK (o := o) (h4 _ (getD_mem (L := T j) hi2))
        refine rankAt_t hK hP hj ho hi2 ?_
        refine hold_s (r := 0) (by omega) ?_
        refine nm_r (e' := nI (i + 1)) (nI_1 _) ?_
        have hlen : (((rks ks o (T j)).take i).map (fun x => (x, 0))).length = i := by rw [List.length_map, List.length_take, rks_len]; omega
        have hM' := hM.push (x := rk ks o ((T j).getD i 0)) (r := 0) (by omega) hx (by omega)
        rw [hlen] at hM'
        refine ih (i + 1) _ _ (by omega) (by omega) ?_
        rw [rks_take_s hi2, List.map_append]
        exact hM'
  exact first (T j).length 0 ro0 mm0 (by omega) (by omega) ⟨rfl, by simp, fun i hi => absurd hi (by simp)⟩
/-- the runs of a tape -/
def runsOf (ks : Nat → Int) (o w m : Nat) (L : List Nat) : List (List Nat) := mkR w m (rks ks o L)
theorem min50 {m : Nat} (h : m ≤ 50) : (if 50 < nI m then 50 else nI m) = nI m := if_neg (nI_nlt (b := m) (a := 50) h (by decide))
theorem max1 {m : Nat} (h : 1 ≤ m) (h2 : m ≤ 50) : (if 1 < nI m then nI m else 1) = nI m := by
  by_cases e : m = 1
  · subst e; rfl
  · exact if_pos (nI_lt (a := 1) (b := m) (by omega) (by omega))
theorem makeRuns_s {K : Nat → Int32} {ks : Nat → Int} {F : Nat → Nat → Int32} {n : Nat → Int32} {T : Nat → List Nat} {j o w m : Nat} {hd0 : Int32} {ro0 mm0 s0 l0 r0 : Nat → Int32} {Q : Int32 → (Nat → Int32) → (Nat → Int32) → Int32 → Int32 → (Nat → Int32) → (Nat → Int32) → (Nat → Int32) → Prop} (hK : KOk K ks) (hP : POk F n T) (hj : j < 18) (ho : o < 2) (hw : w < 3) (hm : 1 ≤ m) (hm2 : m ≤ 50) (h : ∀ hd ro mm c f s l r, ROk r s l c f (runsOf ks o w m (T j)) → Q hd ro mm c f s l r) : wp_X6_makeRuns hd0 ro0 mm0 K (nI o) (nI w) (nI m) s0 l0 r0 j F n Q := by
  unfold wp_X6_makeRuns
  refine rowEmpty_s (rks := r0) (st := s0) (ln := l0) (fun c f hR => ?_)
  refine nm_r (e' := nI m) (min50 hm2) ?_
  refine nm_r (e' := nI m) (max1 hm hm2) ?_
  refine pk_eq w 0 (fun c => ?_) (fun c => ?_)
  · refine makeFull_s hK hP hj ho hm hm2 hR (fun hd mm c1 f1 s l r hR1 => h _ _ _ _ _ _ _ _ ?_)
    unfold runsOf mkR
    rw [if_pos c, rks_len]
    exact hR1
  · refine pk_eq w 1 (fun c => ?_) (fun c => ?_)
    · refine makeByReplacement_s hK hP hj ho hm hm2 hR (fun hd ro mm c1 f1 s l r hR1 => h _ _ _ _ _ _ _ _ ?_)
      unfold runsOf mkR
      rw [if_neg (by omega), if_pos (by assumption)]
      exact hR1
    · refine makeNatural_s hK hP hj ho hR (fun c1 f1 s l r hR1 => h _ _ _ _ _ _ _ _ ?_)
      unfold runsOf mkR
      rw [if_neg (by omega), if_neg (by omega)]
      exact hR1
