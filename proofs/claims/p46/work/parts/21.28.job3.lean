/-- a job's state: the rows' numbers, the runs as the pass began, how many of its merges are done -/
def JInv (w k : Nat) (rw' : List Nat) (now : List (List Nat)) (dn : Nat) (pm nc nf mc mf : Int32) (mt rows nr ns nl mr ms ml : Nat → Int32) : Prop :=
  ROk nr ns nl nc nf now ∧ ROk mr ms ml mc mf ((mdL w k rw' now).take dn) ∧ RW w k rw' now.length ∧ (2 ≤ now.length → RP w k rows rw') ∧ (now.length ≤ 1 → dn = 0) ∧ (2 ≤ now.length → dn < chM w k rw' (lens now)) ∧ (0 < dn → pm = nI (chM w k rw' (lens now)) ∧ MtOk mt (chA w k rw' (lens now))) ∧ ∀ r ∈ now, r.Pairwise (· ≤ ·)
theorem ROk.nil (r s l : Nat → Int32) : ROk r s l 0 0 [] := ⟨rfl, by simp, rfl, by simp, fun i hi => absurd hi (by simp), fun k hk => absurd hk (by simp), fun x hx => absurd hx (by simp)⟩
theorem rlok {r s l : Nat → Int32} {c f : Int32} {R : List (List Nat)} (h : ROk r s l c f R) : LOk l (lens R) := by
  refine ⟨by rw [lens_len]; exact h.2.1, fun i hi => ?_, ?_⟩
  · rw [lens_len] at hi
    rw [(h.2.2.2.2.1 i hi).2]
    congr 1
    unfold lens
    simp [List.getD_eq_getElem?_getD, List.getElem?_map, List.getElem?_eq_getElem hi]
  · rw [lens_sum]
    have := h.2.2.2.1
    omega
theorem rowEmpty_any {Q : Int32 → Int32 → Prop} (h : Q 0 0) : wp_X7_empty Q := h
/-- the moves of one merge -/
def mvA (w k : Nat) (rw' : List Nat) (now : List (List Nat)) (dn : Nat) : Nat := (grS (chM w k rw' (lens now)) (chA w k rw' (lens now)) (lens now)).getD dn 0
theorem mvA_eq {w k dn : Nat} {rw' : List Nat} {now : List (List Nat)} (h : dn < chM w k rw' (lens now)) : mvA w k rw' now dn = (pick (isM (chA w k rw' (lens now)) dn) now).flatten.length := by
  unfold mvA
  rw [grS_at h]
  unfold lens
  rw [pick_map, List.length_flatten]
theorem endPass_s {nr ns nl mr ms ml xr xs xl mt rows : Nat → Int32} {nc nf mc mf : Int32} {w k p : Nat} {rw' : List Nat} {now : List (List Nat)} {Q : Int32 → Int32 → Int32 → Int32 → Int32 → Int32 → Int32 → Int32 → (Nat → Int32) → (Nat → Int32) → (Nat → Int32) → (Nat → Int32) → (Nat → Int32) → (Nat → Int32) → (Nat → Int32) → Prop} (hw : w < 3) (hk : 2 ≤ k) (hk6 : k ≤ 6) (hn : 2 ≤ now.length) (hR : ROk nr ns nl nc nf now) (hM : ROk mr ms ml mc mf (mdL w k rw' now)) (hr : RW w k rw' now.length) (hRP : RP w k rows rw') (hm : MtOk mt (chA w k rw' (lens now))) (h : ∀ c f s l r rows', ROk r s l c f (nxJ w k rw' now) → RP w k rows' (clR (chM w k rw' (lens now)) rw') → Q (nI (p + 1)) 0 nc nf c f 0 0 ns nl nr l s r rows') : wp_X2_endPass (nI p) (nI w) (nI k) (nI (chM w k rw' (lens now))) nc nf mc mt xs xl xr nl ns nr ml ms mr rows Q := by
  have hga := ga hw hk hk6 (ls := lens now) (by rw [lens_len]; exact hn) (by rw [lens_len]; exact hr)
  rw [lens_len] at hga
  have hga2 := hga
  obtain ⟨g1, g2, g3, g4, g5⟩ := hga2
  have g6 := (g5 _ now rfl).2
  have hmp := (mdL_perm hga).length_eq
  rw [List.length_append] at hmp
  have hn2 := hR.2.1
  have hf2 := hR.2.2.2.1
  have hml := mdL_len w k rw' now
  unfold wp_X2_endPass
  refine rowEmpty_any (putsNew_s hw ?_)
  have fin : ∀ (c f : Int32) (s l r : Nat → Int32) (z : List (List Nat)), ROk r s l c f z → z = nxJ w k rw' now → wj_X2_endPass_36 (nI p) (nI k) (nI (chM w k rw' (lens now))) nc nf nl ns nr rows Q c f s l r := by
    intro c f s l r z hz e
    subst e
    unfold wj_X2_endPass_36
    refine rowEmpty_any ?_
    refine nm_r (e' := nI (p + 1)) (nI_1 _) ?_
    exact close_s hk hk6 (ls := lens now) (by rw [lens_len]; exact hn) (by rw [lens_len]; exact hn2) (by rw [lens_len]; exact hr) hRP (fun r2 hr2 => h _ _ _ _ _ _ hz hr2)
  by_cases c : w = 1
  · have e : (!(w == 1)) = false := by simp [c]
    rw [e]
    refine ⟨fun _ => ?_, fun q => by cases q⟩
    refine keepOthersJ_s (ROk.nil xr xs xl) hR hm (fun i j q => by have := g1 i j q; omega) (by rw [List.length_nil]; omega) (by rw [List.flatten_nil, List.length_nil]; omega) (fun c1 f1 s1 l1 r1 hR1 => ?_)
    rw [List.nil_append] at hR1
    refine keepMade_s hR1 hM (by omega) (by omega) (fun c2 f2 s2 l2 r2 hR2 => ?_)
    exact fin _ _ _ _ _ _ hR2 (by unfold nxJ stepL; rw [if_pos c]; rfl)
  · have e : (!(w == 1)) = true := by simp [c]
    rw [e]
    refine ⟨fun q => (by cases q), fun _ => ?_⟩
    refine keepMade_s (ROk.nil xr xs xl) hM (by rw [List.length_nil]; omega) (by rw [List.flatten_nil, List.length_nil]; omega) (fun c1 f1 s1 l1 r1 hR1 => ?_)
    rw [List.nil_append] at hR1
    refine keepOthersJ_s hR1 hR hm (fun i j q => by have := g1 i j q; omega) (by omega) (by omega) (fun c2 f2 s2 l2 r2 hR2 => ?_)
    exact fin _ _ _ _ _ _ hR2 (by unfold nxJ stepL; rw [if_neg c]; rfl)
theorem jga {w k dn : Nat} {rw' : List Nat} {now : List (List Nat)} {pm nc nf mc mf : Int32} {mt rows nr ns nl mr ms ml : Nat → Int32} (hJ : JInv w k rw' now dn pm nc nf mc mf mt rows nr ns nl mr ms ml) (hw : w < 3) (hk : 2 ≤ k) (hk6 : k ≤ 6) (hn : 2 ≤ now.length) : GA (chM w k rw' (lens now)) (chA w k rw' (lens now)) now.length := by
  have h := ga hw hk hk6 (ls := lens now) (by rw [lens_len]; exact hn) (by rw [lens_len]; exact hJ.2.2.1)
  rwa [lens_len] at h
theorem take_s2 {R : List (List Nat)} {i : Nat} (h : i < R.length) : R.take (i + 1) = R.take i ++ [R.getD i []] := by
  rw [List.take_succ, List.getD_eq_getElem?_getD, List.getElem?_eq_getElem h]; rfl
theorem doMerge_s {ip pl xr xs xl mt rows nr ns nl mr ms ml : Nat → Int32} {pm nc nf mc mf xc xf : Int32} {w k dn p m v mop : Nat} {rw' : List Nat} {now : List (List Nat)} {Q : Int32 → Int32 → Int32 → Int32 → Int32 → Int32 → Int32 → Int32 → Int32 → Int32 → (Nat → Int32) → (Nat → Int32) → Int32 → Int32 → (Nat → Int32) → (Nat → Int32) → (Nat → Int32) → (Nat → Int32) → (Nat → Int32) → (Nat → Int32) → (Nat → Int32) → (Nat → Int32) → (Nat → Int32) → (Nat → Int32) → (Nat → Int32) → Prop} (hw : w < 3) (hk : 2 ≤ k) (hk6 : k ≤ 6) (hn : 2 ≤ now.length) (hJ : JInv w k rw' now dn pm nc nf mc mf mt rows nr ns nl mr ms ml)
    (hA : dn + 1 < chM w k rw' (lens now) → ∀ ic pm' mc' mf' ip' pl' xc' xf' rows' mt' ms' ml' mr' xs' xl' xr', JInv w k rw' now (dn + 1) pm' nc nf mc' mf' mt' rows' nr ns nl mr' ms' ml' → Q ic (nI p) (nI (m + 1)) (nI (v + mvA w k rw' now dn)) (nI (mop + mvA w k rw' now dn)) mc' mf' nc nf pm' ip' pl' xc' xf' rows' mt' nl ms' ml' ns nr mr' xs' xl' xr')
    (hB : dn + 1 = chM w k rw' (lens now) → ∀ ic pm' nc' nf' mc' mf' ip' pl' xc' xf' rows' mt' ms' ml' mr' ns' nl' nr' xs' xl' xr', JInv w k (clR (chM w k rw' (lens now)) rw') (nxJ w k rw' now) 0 pm' nc' nf' mc' mf' mt' rows' nr' ns' nl' mr' ms' ml' → Q ic (nI (p + 1)) (nI (m + 1)) (nI (v + mvA w k rw' now dn)) 0 mc' mf' nc' nf' pm' ip' pl' xc' xf' rows' mt' nl' ms' ml' ns' nr' mr' xs' xl' xr') :
    wp_X2_doMerge (nI p) (nI m) (nI v) (nI mop) mc mf nc nf (nI w) (nI k) pm ip pl xc xf rows mt nl ms ml ns nr mr xs xl xr Q := by
  have hga := jga hJ hw hk hk6 hn
  have hga2 := hga
  obtain ⟨g1, g2, g3, g4, g5⟩ := hga2
  have g6 := (g5 _ now rfl).2
  have hmp := (mdL_perm hga).length_eq
  rw [List.length_append] at hmp
  obtain ⟨j1, j2, j3, j4, j5, j6, j7, j8⟩ := hJ
  have hn2 := j1.2.1
  have hf2 := j1.2.2.2.1
  have hml := mdL_len w k rw' now
  have hdn := j6 hn
  have hRP := j4 hn
  have htl : ((mdL w k rw' now).take dn).length = dn := by rw [List.length_take]; omega
  have hmc : mc = nI dn := by have := j2.1; rwa [htl] at this
  subst hmc
  have hmv := mvA_eq hdn
  have main : ∀ (mt' : Nat → Int32), MtOk mt' (chA w k rw' (lens now)) → wj_X2_doMerge_31 (nI p) (nI m) (nI v) (nI mop) (nI dn) mf nc nf (nI w) (nI k) ip pl xc xf rows nl ms ml ns nr mr xs xl xr Q (nI (chM w k rw' (lens now))) mt' := by
    intro mt' hm
    unfold wj_X2_doMerge_31
    have htf := take_flat_le (mdL w k rw' now) dn
    rw [mdL_at hdn, (cmb_perm _).length_eq] at htf
    refine mergeRuns_s (m := dn) (ip := ip) (pl := pl) j1 j2 hm (fun i j e => by have := g1 i j e; omega) (by omega) ((g5 _ now rfl).1 dn hdn).2 j8 (by omega) (by omega) (fun ic mc' mf' ip' pl' s l r hR => ?_)
    rw [← mdL_at hdn, ← take_s2 (by omega)] at hR
    rw [← hmv]
    refine nm_r (e' := nI (m + 1)) (nI_1 _) ?_
    refine nm_r (nI_add _ _) (nm_r (nI_add _ _) ?_)
    have hl2 : ((mdL w k rw' now).take (dn + 1)).length = dn + 1 := by rw [List.length_take]; omega
    have hmc' : mc' = nI (dn + 1) := by have := hR.1; rwa [hl2] at this
    refine pk_lt (dn + 1) (chM w k rw' (lens now)) (fun c => ?_) (fun c => ?_) hmc' rfl
    · exact hA c _ _ _ _ _ _ _ _ _ _ _ _ _ _ _ _ ⟨j1, hR, j3, fun _ => hRP, fun q => by omega, fun _ => c, fun _ => ⟨rfl, hm⟩, j8⟩
    · have hend : dn + 1 = chM w k rw' (lens now) := by omega
      have hfull : (mdL w k rw' now).take (dn + 1) = mdL w k rw' now := List.take_of_length_le (by omega)
      rw [hfull] at hR
      refine endPass_s hw hk hk6 hn j1 hR j3 hRP hm (fun c1 f1 s1 l1 r1 rows' hR1 hRP1 => ?_)
      have hnl : (nxJ w k rw' now).length = chM w k rw' (lens now) + (pick (isN (chA w k rw' (lens now))) now).length := stepL_len _ _ _ _ _
      have hRW := RW.next hk hk6 (ls := lens now) (by rw [lens_len]; exact hn) (by rw [lens_len]; exact j3)
      have hpn : (pick (isN (chA w k rw' (lens now))) (lens now)).length = (pick (isN (chA w k rw' (lens now))) now).length := by
        unfold lens
        rw [pick_map, List.length_map]
      rw [hpn, ← hnl] at hRW
      refine hB hend _ _ _ _ _ _ _ _ _ _ _ _ _ _ _ _ _ _ _ _ _ ⟨hR1, ?_, hRW, fun _ => hRP1, fun _ => rfl, fun q => ?_, fun q => absurd q (by omega), nxJ_sorted j8⟩
      · rw [List.take_zero]
        exact ROk.nil _ _ _
      · have := ga hw hk hk6 (ls := lens (nxJ w k rw' now)) (by rw [lens_len]; exact q) (by rw [lens_len]; exact hRW)
        exact this.2.1
  unfold wp_X2_doMerge
  refine pk_eq dn 0 (fun c => ?_) (fun c => ?_)
  · have hL := rlok j1
    have hc := choose_s (Q := fun a b => wj_X2_doMerge_31 (nI p) (nI m) (nI v) (nI mop) (nI dn) mf nc nf (nI w) (nI k) ip pl xc xf rows nl ms ml ns nr mr xs xl xr Q a b) (m0 := pm) (mt := mt) hw hk hk6 (by rw [lens_len]; exact hn) hL (fun q => ⟨hRP q, (clR_sum q hk hk6 (by rw [lens_len]; exact hn) (by rw [lens_len]; exact j3) hL.1).1⟩) (fun m' hm' => main m' hm')
    rw [lens_len, ← j1.1] at hc
    exact hc
  · obtain ⟨q1, q2⟩ := j7 (by omega)
    rw [q1]
    exact main mt q2
theorem losePass_s {l t mop : Nat} {Q : Int32 → Int32 → Int32 → Int32 → Int32 → Int32 → Prop} (h : Q (nI mop) 0 (nI (l + mop)) (nI (t + 1)) 0 0) : wp_X2_losePass (nI mop) (nI l) (nI t) Q := by
  unfold wp_X2_losePass
  refine nm_r (nI_add _ _) (rowEmpty_any ?_)
  refine nm_r (e' := nI (t + 1)) (nI_1 _) ?_
  exact h
theorem isOver_s {n : Nat} {c : Int32} {Q : Bool → Prop} (hc : c = nI n) (hn : n < 2 ^ 31) (h : Q (decide (n ≤ 1))) : wp_X2_isOver c Q := by
  unfold wp_X2_isOver
  refine pk_lt 1 n (fun q => ?_) (fun q => ?_) rfl hc
  · rw [decide_eq_false (by omega)] at h; exact h
  · rw [decide_eq_true (by omega)] at h; exact h
/-- the runs that a job has: those that the pass has not merged yet, and those that it has made -/
theorem runsLeft_s {w k dn : Nat} {rw' : List Nat} {now : List (List Nat)} {pm nc nf mc mf : Int32} {mt rows nr ns nl mr ms ml : Nat → Int32} {Q : Int32 → Prop} (hw : w < 3) (hk : 2 ≤ k) (hk6 : k ≤ 6) (hJ : JInv w k rw' now dn pm nc nf mc mf mt rows nr ns nl mr ms ml) (h : ∀ r, (now.length = 0 → r = 0) → (1 ≤ now.length → 1 ≤ r) → (now.length ≤ 1 → r = now.length) → r ≤ 400 → Q (nI r)) : wp_X2_runsLeft mc nc mt Q := by
  have hJ2 := hJ
  obtain ⟨j1, j2, j3, j4, j5, j6, j7, j8⟩ := hJ2
  have hn2 := j1.2.1
  have hdl : dn ≤ 200 := by
    rcases Nat.lt_or_ge now.length 2 with c | c
    · have := j5 (by omega); omega
    · have := (jga hJ hw hk hk6 c).2.2.1
      have := j6 c
      omega
  have htl : ((mdL w k rw' now).take dn).length = dn := by
    rw [List.length_take, mdL_len]
    rcases Nat.lt_or_ge now.length 2 with c | c
    · have := j5 (by omega); omega
    · have := j6 c; omega
  have hmc : mc = nI dn := by have := j2.1; rwa [htl] at this
  subst hmc
  unfold wp_X2_runsLeft
  refine ⟨now.length + 1, ?_⟩
  have key : ∀ (d i r : Nat), i + d = now.length → dn ≤ r → r ≤ dn + i → (dn = 0 → r = i) → wl_X2_runsLeft_10 (nI dn) nc mt (wx_X2_runsLeft_10_71 Q) (d + 1) (nI i) (nI r) := by
    intro d
    induction d with
    | zero =>
      intro i r hi h1 h2 h3
      rw [wl_X2_runsLeft_10_s]
      refine pk_le now.length i (fun _ => ?_) (fun q => absurd q (by omega)) j1.1
      unfold wx_X2_runsLeft_10_71
      refine h r (fun q => ?_) (fun q => ?_) (fun q => ?_) (by omega)
      · have := j5 (by omega); omega
      · by_cases c : dn = 0
        · have := h3 c; omega
        · omega
      · have := h3 (j5 q); omega
    | succ d ih =>
      intro i r hi h1 h2 h3
      rw [wl_X2_runsLeft_10_s]
      refine pk_le now.length i (fun q => absurd q (by omega)) (fun _ => ?_) j1.1
      have none' : wj_X2_runsLeft_50 (nI i) (nI r) (wl_X2_runsLeft_10 (nI dn) nc mt (wx_X2_runsLeft_10_71 Q) (d + 1)) false := by
        unfold wj_X2_runsLeft_50
        refine ⟨fun _ => ?_, fun q => by cases q⟩
        refine nm_r (e' := nI (r + 1)) (nI_1 _) ?_
        refine nm_r (e' := nI (i + 1)) (nI_1 _) ?_
        exact ih (i + 1) (r + 1) (by omega) (by omega) (by omega) (fun q => by have := h3 q; omega)
      have any : ∀ x : Int32, ((x < 0 → wj_X2_runsLeft_49 (nI i) (nI r) (wl_X2_runsLeft_10 (nI dn) nc mt (wx_X2_runsLeft_10_71 Q) (d + 1))) ∧ (¬ x < 0 → ((nI dn ≤ x → wj_X2_runsLeft_49 (nI i) (nI r) (wl_X2_runsLeft_10 (nI dn) nc mt (wx_X2_runsLeft_10_71 Q) (d + 1))) ∧ (¬ nI dn ≤ x → wj_X2_runsLeft_50 (nI i) (nI r) (wl_X2_runsLeft_10 (nI dn) nc mt (wx_X2_runsLeft_10_71 Q) (d + 1)) true)))) := by
        intro x
        refine ⟨fun _ => none', fun c1 => ⟨fun _ => none', fun c2 => ?_⟩⟩
        have hd0 : dn ≠ 0 := by
          intro e
          rw [e] at c2
          obtain ⟨z, hz, rfl⟩ := nI_of c1
          exact c2 (nI_le (Nat.zero_le z) hz)
        unfold wj_X2_runsLeft_50
        refine ⟨fun q => (by cases q), fun _ => ?_⟩
        refine nm_r (e' := nI r) (Int32.add_zero _) ?_
        refine nm_r (e' := nI (i + 1)) (nI_1 _) ?_
        exact ih (i + 1) r (by omega) h1 (by omega) (fun q => absurd q hd0)
      unfold wp_X3_mergeOf
      refine pk_lt i 0 (fun q => absurd q (by omega)) (fun _ => ?_)
      refine pk_le 200 i (fun q => absurd q (by omega)) (fun _ => ?_)
      refine ⟨pk_in i 200 (by omega), nm_r rfl (any _)⟩
  have := key now.length 0 dn (by omega) (Nat.le_refl _) (by omega) (fun q => q)
  exact this
