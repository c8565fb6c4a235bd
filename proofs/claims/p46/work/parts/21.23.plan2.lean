theorem nxL_len {w k : Nat} {rw' ls : List Nat} : (nxL w k rw' ls).length = chM w k rw' ls + (pick (isN (chA w k rw' ls)) ls).length := stepL_len _ _ _ _ _
theorem nxL_sum {w k : Nat} {rw' ls : List Nat} (hg : GA (chM w k rw' ls) (chA w k rw' ls) ls.length) : (nxL w k rw' ls).sum = ls.sum := by
  have e := grS_sum (as := chA w k rw' ls) (ls := ls) (mg := chM w k rw' ls) (fun i _ j q => hg.1 i j q)
  rw [nxL_eq]
  by_cases c : w = 1
  · rw [if_pos c, List.sum_append_nat]; omega
  · rw [if_neg c, List.sum_append_nat]; omega
/-- what holds of the rows' numbers in their array, for polyphase -/
def RP (w k : Nat) (rows : Nat → Int32) (rw' : List Nat) : Prop := w = 2 → RwOk rows k rw'
theorem close_s {rows : Nat → Int32} {w k : Nat} {rw' ls : List Nat} {Q : (Nat → Int32) → Prop} (hk : 2 ≤ k) (hk6 : k ≤ 6) (hn : 2 ≤ ls.length) (hn2 : ls.length ≤ 200) (hr : RW w k rw' ls.length) (hR : RP w k rows rw') (h : ∀ r, RP w k r (clR (chM w k rw' ls) rw') → Q r) : wp_X3_close (nI k) (nI (chM w k rw' ls)) rows Q := by
  refine close_any hk hk6 (fun r h0 h1 => h r (fun hw => ?_))
  obtain ⟨-, c1, c2, c3⟩ := clR_sum hw hk hk6 hn hr hn2
  exact RwOk.close hk (hR hw) c1 c2 c3 h0 h1
theorem putsNew_s {w : Nat} {Q : Bool → Prop} (hw : w < 3) (h : Q (!(w == 1))) : wp_X3_putsNewRunsFirst (nI w) Q := by
  unfold wp_X3_putsNewRunsFirst
  refine pk_eq w 1 (fun c => ?_) (fun c => ?_)
  · subst c; exact h
  · have e : (!(w == 1)) = true := by simp; omega
    rw [e] at h; exact h
theorem planPass_s {rows mt ln nl : Nat → Int32} {w k mv ms : Nat} {m0 : Int32} {rw' ls : List Nat} {Q : Int32 → Int32 → Int32 → Int32 → Int32 → (Nat → Int32) → (Nat → Int32) → (Nat → Int32) → (Nat → Int32) → Prop} (hw : w < 3) (hk : 2 ≤ k) (hk6 : k ≤ 6) (hn : 2 ≤ ls.length) (hL : LOk ln ls) (hr : RW w k rw' ls.length) (hR : RP w k rows rw') (hv : mv < 2 ^ 30) (hms : ms < 2 ^ 30) (h : ∀ l n r mt', LOk l (nxL w k rw' ls) → RP w k r (clR (chM w k rw' ls) rw') → Q (nI (nxL w k rw' ls).length) (nI (nxL w k rw' ls).length) (nI (mv + (grS (chM w k rw' ls) (chA w k rw' ls) ls).sum)) (nI (ms + chM w k rw' ls)) (nI (chM w k rw' ls)) l n r mt') : wp_X4_planPass (nI ls.length) (nI mv) (nI ms) (nI w) (nI k) m0 ln nl rows mt Q := by
  have hga := ga hw hk hk6 hn hr
  have hga2 := hga
  obtain ⟨g1, g2, g3, g4, g5⟩ := hga2
  have g6 := (g5 Nat ls rfl).2
  have hss := grS_sum (as := chA w k rw' ls) (ls := ls) (mg := chM w k rw' ls) (fun i _ j q => g1 i j q)
  have hgl := grS_len (chM w k rw' ls) (chA w k rw' ls) ls
  have hn2 := hL.1
  have hls := hL.2.2
  have hcho : w = 2 → RwOk rows k rw' ∧ rw'.sum = ls.length := fun q => ⟨hR q, (clR_sum q hk hk6 hn hr hn2).1⟩
  unfold wp_X4_planPass
  refine choose_s hw hk hk6 hn hL hcho (fun mt' hm => ?_)
  refine putsNew_s hw ?_
  have fin : ∀ (l : Nat → Int32) (z : List Nat), LOk l z → z = nxL w k rw' ls → wj_X4_planPass_49 (nI k) ln rows Q (nI (chM w k rw' ls)) mt' (nI z.length) (nI (mv + (grS (chM w k rw' ls) (chA w k rw' ls) ls).sum)) (nI (ms + chM w k rw' ls)) l := by
    intro l z hz e
    unfold wj_X4_planPass_49
    subst e
    exact close_s hk hk6 hn hn2 hr hR (fun r hr2 => h l ln r mt' hz hr2)
  by_cases c : w = 1
  · have e : (!(w == 1)) = false := by simp [c]
    rw [e]
    refine ⟨fun _ => ?_, fun q => by cases q⟩
    refine keepOthers_s (old := []) hL hm (fun i j q => by have := g1 i j q; omega) (LOk.nil nl) (by simp; omega) (by simp; omega) (fun nl1 hN1 => ?_)
    rw [List.nil_append] at hN1 ⊢
    refine planMerges_s hL hm g1 hN1 (by omega) (by omega) hv hms (fun nl2 hN2 => ?_)
    exact fin nl2 _ hN2 (by rw [nxL_eq, if_pos c])
  · have e : (!(w == 1)) = true := by simp [c]
    rw [e]
    refine ⟨fun q => (by cases q), fun _ => ?_⟩
    refine planMerges_s (old := []) hL hm g1 (LOk.nil nl) (by simp; omega) (by simp; omega) hv hms (fun nl1 hN1 => ?_)
    rw [List.nil_append] at hN1 ⊢
    refine keepOthers_s hL hm (fun i j q => by have := g1 i j q; omega) hN1 (by omega) (by omega) (fun nl2 hN2 => ?_)
    exact fin nl2 _ hN2 (by rw [nxL_eq, if_neg c])
/-- passes, moves and merges of a plan -/
def plGo (w k : Nat) : Nat → List Nat → List Nat → Nat × Nat × Nat
  | 0, _, _ => (0, 0, 0)
  | f + 1, rw', ls => if ls.length ≤ 1 then (0, 0, 0) else
    let r := plGo w k f (clR (chM w k rw' ls) rw') (nxL w k rw' ls)
    (r.1 + 1, r.2.1 + (grS (chM w k rw' ls) (chA w k rw' ls) ls).sum, r.2.2 + chM w k rw' ls)
/-- the lengths to merge: those of the runs, and the empty ones of polyphase -/
def toL (w k : Nat) (ls : List Nat) : List Nat := ls ++ List.replicate (arN w k ls.length - ls.length) 0
def planOf (w k : Nat) (ls : List Nat) : Nat × Nat × Nat := plGo w k 200 (arR k ls.length) (toL w k ls)
theorem tell_s {rows mt l0 n0 rks st ln : Nat → Int32} {nc cnt fl : Int32} {R : List (List Nat)} {w k : Nat} {Q : Int32 → Int32 → Int32 → Int32 → Int32 → Int32 → Int32 → Int32 → Int32 → (Nat → Int32) → (Nat → Int32) → (Nat → Int32) → (Nat → Int32) → Prop} (hw : w < 3) (hk : 2 ≤ k) (hk6 : k ≤ 6) (hR : ROk rks st ln cnt fl R) (hR1 : R.length ≤ 100) (h' : ∀ a b c d e r m, Q a b (nI (planOf w k (R.map List.length)).1) (nI (planOf w k (R.map List.length)).2.1) (nI (planOf w k (R.map List.length)).2.2) (nI w) (nI k) c (nI (arL w k R.length)) d e r m) : wp_X4_tell nc l0 n0 rows mt cnt ln (nI w) (nI k) Q := by
  have hlen : (R.map List.length).length = R.length := List.length_map _
  have hsum : (R.map List.length).sum ≤ 100 := by rw [← List.length_flatten]; exact hR.2.2.2.1
  obtain ⟨a1, a2, a3, a4⟩ := arN_ok (w := w) hk hk6 hR1
  have hc := hR.1
  subst hc
  unfold wp_X4_tell
  refine arrange_s hw hk hk6 hR1 (fun r1 hr1 => ?_)
  refine takeLengths_s hR a1 a2 (fun l1 hl1 => ⟨201, ?_⟩)
  have htl : (toL w k (R.map List.length)).length = arN w k R.length := by
    unfold toL
    rw [List.length_append, List.length_replicate, hlen]; omega
  have hts : (toL w k (R.map List.length)).sum ≤ 100 := by
    unfold toL
    rw [List.sum_append_nat, sum_rep0]; omega
  have key : ∀ (f : Nat) (rw' ls : List Nat) (p mv ms : Nat) (nc' m' : Int32) (l n r mt' : Nat → Int32), ls.length ≤ f → p + f = 200 → mv ≤ 100 * p → ms ≤ 200 * p → ls.sum ≤ 100 → ls.length ≤ 200 → LOk l ls → RW w k rw' ls.length → (2 ≤ ls.length → RP w k r rw') → p + (plGo w k f rw' ls).1 = (planOf w k (R.map List.length)).1 → mv + (plGo w k f rw' ls).2.1 = (planOf w k (R.map List.length)).2.1 → ms + (plGo w k f rw' ls).2.2 = (planOf w k (R.map List.length)).2.2 → wl_X4_tell_32 (nI w) (nI k) (wx_X4_tell_32_67 Q (nI w) (nI k) (nI (arL w k R.length))) (f + 1) (nI ls.length) nc' (nI p) (nI mv) (nI ms) m' l n r mt' := by
    intro f
    induction f with
    | zero =>
      intro rw' ls p mv ms nc' m' l n r mt' hf hp hv hms hs hl hL hr hRP e1 e2 e3
      rw [wl_X4_tell_32_s]
      refine pk_le ls.length 1 (fun _ => ?_) (fun q => absurd q (by omega))
      unfold wx_X4_tell_32_67
      have e1 : p + 0 = _ := e1
      have e2 : mv + 0 = _ := e2
      have e3 : ms + 0 = _ := e3
      rw [Nat.add_zero] at e1 e2 e3
      rw [e1, e2, e3]
      exact h' _ _ _ _ _ _ _
    | succ f ih =>
      intro rw' ls p mv ms nc' m' l n r mt' hf hp hv hms hs hl hL hr hRP e1 e2 e3
      rw [wl_X4_tell_32_s]
      refine pk_le ls.length 1 (fun c => ?_) (fun c => ?_)
      · unfold wx_X4_tell_32_67
        have e0 : plGo w k (f + 1) rw' ls = (0, 0, 0) := by
          show (if ls.length ≤ 1 then _ else _) = _
          rw [if_pos c]
        rw [e0] at e1 e2 e3
        have e1 : p + 0 = _ := e1
        have e2 : mv + 0 = _ := e2
        have e3 : ms + 0 = _ := e3
        rw [Nat.add_zero] at e1 e2 e3
        rw [e1, e2, e3]
        exact h' _ _ _ _ _ _ _
      · refine pk_le 200 p (fun q => absurd q (by omega)) (fun _ => ?_)
        have hga := ga hw hk hk6 (by omega) hr
        have hsl := nxL_sum hga
        have hnl := nxL_len (w := w) (k := k) (rw' := rw') (ls := ls)
        have g6 := (hga.2.2.2.2 Nat ls rfl).2
        have g2 := hga.2.1
        have hgs := grS_sum (as := chA w k rw' ls) (ls := ls) (mg := chM w k rw' ls) (fun i _ j q => hga.1 i j q)
        refine planPass_s hw hk hk6 (by omega) hL hr (hRP (by omega)) (by omega) (by omega) (fun l2 n2 r2 mt2 hL2 hR2 => ?_)
        refine nm_r (e' := nI (p + 1)) (nI_1 _) ?_
        have e0 : plGo w k (f + 1) rw' ls = ((plGo w k f (clR (chM w k rw' ls) rw') (nxL w k rw' ls)).1 + 1, (plGo w k f (clR (chM w k rw' ls) rw') (nxL w k rw' ls)).2.1 + (grS (chM w k rw' ls) (chA w k rw' ls) ls).sum, (plGo w k f (clR (chM w k rw' ls) rw') (nxL w k rw' ls)).2.2 + chM w k rw' ls) := by
          show (if ls.length ≤ 1 then _ else _) = _
          rw [if_neg (by omega)]
        rw [e0] at e1 e2 e3
        have e1 : p + (_ + 1) = _ := e1
        have e2 : mv + (_ + _) = _ := e2
        have e3 : ms + (_ + _) = _ := e3
        refine ih _ (nxL w k rw' ls) (p + 1) _ _ _ _ l2 n2 r2 mt2 (by omega) (by omega) (by omega) (by omega) (by omega) (by omega) hL2 (by rw [hnl]; exact RW.next hk hk6 (by omega) hr) (fun _ => hR2) (by omega) (by omega) (by omega)
  have := key 200 (arR k R.length) (toL w k (R.map List.length)) 0 0 0 nc 0 l1 n0 r1 mt (by omega) (by omega) (by omega) (by omega) hts (by omega) (by unfold toL; rw [hlen]; exact hl1) (by rw [htl]; exact a4) (fun h2 hw2 => hr1 hw2 (fun q => by rw [htl] at h2; have := a3.mpr (by omega); omega)) (by unfold planOf; rw [hlen]; omega) (by unfold planOf; rw [hlen]; omega) (by unfold planOf; rw [hlen]; omega)
  rw [htl] at this
  exact this
/-! the fewest moves -/
theorem takeShortest_s {ln : Nat → Int32} {ls : List Nat} {Q : Int32 → (Nat → Int32) → Prop} (hL : LOk ln ls) (hn : 1 ≤ ls.length) (h : ∀ x l' ls', ls.Perm (x :: ls') → (∀ y ∈ ls', x ≤ y) → LOk l' ls' → Q (nI x) l') : wp_X4_takeShortest ln (nI ls.length) Q := by
  have hL2 := hL
  obtain ⟨h1, h2, h3⟩ := hL2
  unfold wp_X4_takeShortest
  refine nm_r (e' := nI (ls.length - 1)) (pk_sub (b := 1) (by omega)) ?_
  refine pk_lt (ls.length - 1) 0 (fun q => absurd q (by omega)) (fun _ => ?_)
  refine pk_lt (ls.length - 1) 200 (fun _ => ?_) (fun q => absurd q (by omega))
  refine ⟨ls.length, ?_⟩
  have fin : ∀ b, b < ls.length → (∀ i, i < ls.length → ls.getD b 0 ≤ ls.getD i 0) → wx_X4_takeShortest_22_57 ln Q (nI (ls.length - 1)) (nI b) := by
    intro b hb hmin
    unfold wx_X4_takeShortest_22_57
    refine ⟨pk_in b 200 (by omega), nm_r (e' := nI (ls.getD b 0)) (by rw [cl_n (by omega)]; exact h2 b hb) ?_⟩
    refine ⟨pk_in (ls.length - 1) 200 (by omega), nm_r (e' := nI (ls.getD (ls.length - 1) 0)) (by rw [cl_n (by omega)]; exact h2 _ (by omega)) ?_⟩
    refine ⟨pk_in b 200 (by omega), ?_⟩
    rw [cl_n (by omega)]
    have hp1 := perm_drop (d := 0) hb
    have hp2 := perm_at (d := 0) hb
    have hp : ls.Perm (ls.getD b 0 :: (ls.set b (ls.getD (ls.length - 1) 0)).dropLast) := hp2.trans (List.Perm.cons _ hp1.symm)
    have hlen := hp.length_eq
    have hsum := hp.sum_nat
    rw [List.length_cons] at hlen
    rw [List.sum_cons] at hsum
    refine h _ _ _ hp (fun y hy => ?_) ⟨by omega, fun i hi => ?_, by omega⟩
    · obtain ⟨i, hi, e⟩ := mem_getD (d := 0) (hp.mem_iff.mpr (List.mem_cons_of_mem _ hy))
      rw [← e]; exact hmin i hi
    · have e : (ls.set b (ls.getD (ls.length - 1) 0)).dropLast.getD i 0 = (ls.set b (ls.getD (ls.length - 1) 0)).getD i 0 := by
        rw [List.getD_eq_getElem?_getD, List.getD_eq_getElem?_getD, List.getElem?_dropLast, if_pos (by rw [List.length_set]; omega)]
        rfl
      rw [e]
      by_cases c : i = b
      · subst c
        rw [up_s, List.getD_eq_getElem?_getD (l := ls.set i _), List.getElem?_set_self hb]; rfl
      · rw [up_n _ c, List.getD_eq_getElem?_getD (l := ls.set b _), List.getElem?_set_ne (fun q => c q.symm), ← List.getD_eq_getElem?_getD]
        exact h2 i (by omega)
  have key : ∀ (d i b : Nat), i + d = ls.length - 1 → b < ls.length → (∀ q, q < i → ls.getD b 0 ≤ ls.getD q 0) → ls.getD b 0 ≤ ls.getD (ls.length - 1) 0 → wl_X4_takeShortest_22 ln (nI (ls.length - 1)) (wx_X4_takeShortest_22_57 ln Q (nI (ls.length - 1))) (d + 1) (nI i) (nI b) := by
    intro d
    induction d with
    | zero =>
      intro i b hi hb a1 a2
      rw [wl_X4_takeShortest_22_s]
      refine pk_le (ls.length - 1) i (fun _ => ?_) (fun q => absurd q (by omega))
      refine fin b hb (fun q hq => ?_)
      by_cases c : q = ls.length - 1
      · rw [c]; exact a2
      · exact a1 q (by omega)
    | succ d ih =>
      intro i b hi hb a1 a2
      rw [wl_X4_takeShortest_22_s]
      refine pk_le (ls.length - 1) i (fun q => absurd q (by omega)) (fun _ => ?_)
      have l1 := hL.lt i
      have l2 := hL.lt b
      refine ⟨pk_in i 200 (by omega), nm_r (e' := nI (ls.getD i 0)) (by rw [cl_n (by omega)]; exact h2 i (by omega)) ?_⟩
      refine ⟨pk_in b 200 (by omega), nm_r (e' := nI (ls.getD b 0)) (by rw [cl_n (by omega)]; exact h2 b hb) ?_⟩
      refine pk_le (ls.getD b 0) (ls.getD i 0) (fun c => ?_) (fun c => ?_)
      · refine nm_r (e' := nI (i + 1)) (nI_1 _) ?_
        refine ih (i + 1) b (by omega) hb (fun q hq => ?_) a2
        by_cases c2 : q = i
        · rw [c2]; exact c
        · exact a1 q (by omega)
      · refine nm_r (e' := nI (i + 1)) (nI_1 _) ?_
        refine ih (i + 1) i (by omega) (by omega) (fun q hq => ?_) (by omega)
        by_cases c2 : q = i
        · rw [c2]; exact Nat.le_refl _
        · have := a1 q (by omega); omega
  have := key (ls.length - 1) 0 (ls.length - 1) (by omega) (by omega) (fun q hq => absurd hq (by omega)) (Nat.le_refl _)
  rw [show ls.length - 1 + 1 = ls.length by omega] at this
  exact this
theorem fewestMoves_s {rks st ln l0 : Nat → Int32} {cnt fl : Int32} {R : List (List Nat)} {Q : Int32 → Int32 → (Nat → Int32) → Prop} (hR : ROk rks st ln cnt fl R) (h : ∀ c l, Q (nI (hf (R.length - 1) (R.map List.length))) c l) : wp_X4_fewestMoves l0 cnt ln Q := by
  have hlen : (R.map List.length).length = R.length := List.length_map _
  have hsum : (R.map List.length).sum ≤ 100 := by rw [← List.length_flatten]; exact hR.2.2.2.1
  have hR2 := hR.2.1
  have hc := hR.1
  subst hc
  unfold wp_X4_fewestMoves
  refine takeLengths_s hR (Nat.le_refl _) hR.2.1 (fun l1 hl1 => ⟨201, ?_⟩)
  rw [Nat.sub_self] at hl1
  have key : ∀ (f : Nat) (ls : List Nat) (acc : Nat) (l : Nat → Int32) (g : Nat), ls.length ≤ f + 1 → LOk l ls → ls.sum ≤ 100 → acc + 100 * ls.length ≤ 20000 + 100 → acc + hf (ls.length - 1) ls = hf (R.length - 1) (R.map List.length) → wl_X4_fewestMoves_16 (wx_X4_fewestMoves_16_66 Q (nI R.length)) (f + 1 + g) (nI ls.length) (nI acc) l := by
    intro f
    induction f with
    | zero =>
      intro ls acc l g hf0 hL hs hb he
      rw [show 0 + 1 + g = g + 1 by omega, wl_X4_fewestMoves_16_s]
      refine pk_le ls.length 1 (fun _ => ?_) (fun q => absurd q (by omega))
      unfold wx_X4_fewestMoves_16_66
      rw [show ls.length - 1 = 0 by omega] at he
      have he : acc + 0 = _ := he
      rw [Nat.add_zero] at he
      rw [he]; exact h _ _
    | succ f ih =>
      intro ls acc l g hf0 hL hs hb he
      rw [show f + 1 + 1 + g = f + 1 + g + 1 by omega, wl_X4_fewestMoves_16_s]
      refine pk_le ls.length 1 (fun c => ?_) (fun c => ?_)
      · unfold wx_X4_fewestMoves_16_66
        rw [show ls.length - 1 = 0 by omega] at he
        have he : acc + 0 = _ := he
        rw [Nat.add_zero] at he
        rw [he]; exact h _ _
      · refine takeShortest_s hL (by omega) (fun x lx lsx hp1 hm1 hLx => ?_)
        have e1 := hp1.length_eq
        rw [List.length_cons] at e1
        have s1 := hp1.sum_nat
        rw [List.sum_cons] at s1
        refine nm_r (e' := nI lsx.length) (by rw [e1]; exact nI_pred _) ?_
        refine takeShortest_s hLx (by omega) (fun y ly lsy hp2 hm2 hLy => ?_)
        have e2 := hp2.length_eq
        rw [List.length_cons] at e2
        have s2 := hp2.sum_nat
        rw [List.sum_cons] at s2
        have hll := hL.1
        refine nm_r (nI_add _ _) ?_
        refine nm_r (e' := nI lsy.length) (by rw [show ls.length = lsy.length + 2 by omega]; exact pk_sub (b := 2) (by omega)) ?_
        refine pk_le 200 lsy.length (fun q => absurd q (by omega)) (fun _ => ?_)
        refine nm_r (e' := nI lsy.length) (by rw [show ls.length = lsy.length + 2 by omega]; exact pk_sub (b := 2) (by omega)) ?_
        refine ⟨pk_in lsy.length 200 (by omega), ?_⟩
        rw [cl_n (by omega)]
        unfold wj_X4_fewestMoves_55
        refine nm_r (nI_add _ _) ?_
        refine nm_r (e' := nI (lsy.length + 1)) (by rw [show ls.length = lsy.length + 1 + 1 by omega]; exact pk_m1 _) ?_
        have hLz := hLy.push (x := x + y) (by omega) (by omega)
        have hpp : ls.Perm (x :: y :: lsy) := hp1.trans (List.Perm.cons x hp2)
        have hst := hf_step (n := lsy.length) hpp (hm1 y (hp2.mem_iff.mpr List.mem_cons_self)) hm2
        have hpz : ((x + y) :: lsy).Perm (lsy ++ [x + y]) := (List.perm_append_singleton _ _).symm
        rw [hf_perm hpz] at hst
        have it := ih (lsy ++ [x + y]) (acc + (x + y)) (upd ly lsy.length (nI (x + y))) g (by simp; omega) hLz (by rw [List.sum_append_nat, List.sum_cons, List.sum_nil]; omega) (by simp; omega) (by
          rw [List.length_append, List.length_cons, List.length_nil, Nat.add_sub_cancel, ← he, show ls.length - 1 = lsy.length + 1 by omega, hst]
          omega)
        rw [List.length_append] at it
        exact it
  have := key 199 (R.map List.length) 0 l1 1 (by omega) (by simpa using hl1) hsum (by omega) (by rw [hlen]; omega)
  rw [hlen] at this
  exact this
