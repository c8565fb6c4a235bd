theorem flat_set : ∀ (R : List (List Nat)) (b x : Nat) (t : List Nat), b < R.length → R.getD b [] = x :: t → R.flatten.Perm (x :: (R.set b t).flatten)
  | [], b, _, _, h, _ => absurd h (by simp)
  | r :: R, 0, x, t, _, e => by
    have e : r = x :: t := e
    subst e
    exact List.Perm.refl _
  | r :: R, b + 1, x, t, h, e => by
    have ih := flat_set R b x t (by simpa using h) e
    show (r ++ R.flatten).Perm (x :: (r ++ (R.set b t).flatten))
    exact (List.Perm.append_left r ih).trans List.perm_middle
theorem set_getDj {α : Type} {R : List α} {b : Nat} {t d : α} (h : b < R.length) (q : Nat) : (R.set b t).getD q d = if q = b then t else R.getD q d := by
  by_cases c : q = b
  · rw [if_pos c, c, List.getD_eq_getElem?_getD, List.getElem?_set_self h]; rfl
  · rw [if_neg c, List.getD_eq_getElem?_getD, List.getElem?_set_ne (fun e => c e.symm), ← List.getD_eq_getElem?_getD]
theorem lm_none {rem : List (List Nat)} (h : rem.flatten ≠ []) : ∃ b, lm rem = some b := by
  cases e : lm rem with
  | some b => exact ⟨b, rfl⟩
  | none =>
    have h1 := (lm_spec rem rem.length).1 e
    refine absurd ?_ h
    refine List.flatten_eq_nil_iff.mpr (fun l hl => ?_)
    obtain ⟨q, hq, e2⟩ := mem_getD (d := []) hl
    rw [← e2]; exact h1 q hq
/-- one merge: the runs that it takes, put together -/
theorem mergeRuns_s {ip pl nr ns nl mr ms ml mt : Nat → Int32} {nc nf mc mf : Int32} {now M : List (List Nat)} {as : Nat → Option Nat} {m : Nat} {Q : Int32 → Int32 → Int32 → Int32 → (Nat → Int32) → (Nat → Int32) → (Nat → Int32) → (Nat → Int32) → (Nat → Int32) → Prop} (hR : ROk nr ns nl nc nf now) (hM : ROk mr ms ml mc mf M) (hm : MtOk mt as) (hj : ∀ i j, as i = some j → j < 2 ^ 31) (hm2 : m < 2 ^ 31) (h6 : (pick (isM as m) now).length ≤ 6) (hso : ∀ r ∈ now, r.Pairwise (· ≤ ·)) (hl : M.length < 200) (hf : M.flatten.length + (pick (isM as m) now).flatten.length ≤ 100) (h : ∀ c mc' mf' ip' pl' s l r, ROk r s l mc' mf' (M ++ [cmb (pick (isM as m) now)]) → Q (nI (pick (isM as m) now).flatten.length) c mc' mf' ip' pl' s l r) : wp_X2_mergeRuns mc mf nc ip pl ms ml mt nl ns nr mr (nI m) Q := by
  have hnl := hR.2.1
  have hnc := hR.1
  have hmono : ∀ i, (pick (isM as m) (now.take i)).length ≤ (pick (isM as m) now).length ∧ (pick (isM as m) (now.take i)).flatten.length ≤ (pick (isM as m) now).flatten.length := by
    intro i
    have e := pick_app (now.take i) (now.drop i) (isM as m)
    rw [List.take_append_drop] at e
    rw [e, List.length_append, List.flatten_append, List.length_append]
    omega
  -- the merging
  have merging : ∀ (ip' pl' : Nat → Int32), InOk ip' pl' now (pick (isM as m) now) → wx_X2_mergeRuns_9_88 mc mf nc ms ml nl ns nr mr Q (nI (pick (isM as m) now).flatten.length) (nI (pick (isM as m) now).length) ip' pl' := by
    intro ip' pl' hI
    unfold wx_X2_mergeRuns_9_88
    refine openRun_s hM hl (fun mc1 ms1 ml1 hM1 => ⟨(pick (isM as m) now).flatten.length + 1, ?_⟩)
    have loop : ∀ (d i : Nat) (rem : List (List Nat)) (out : List Nat) (f2 : Int32) (p2 l2 r2 : Nat → Int32), i + d = (pick (isM as m) now).flatten.length → rem.flatten.length = d → rem.length = (pick (isM as m) now).length → InOk ip' p2 now rem → (∀ r ∈ rem, r.Pairwise (· ≤ ·)) → (out ++ rem.flatten).Perm (pick (isM as m) now).flatten → out.Pairwise (· ≤ ·) → (∀ x ∈ out, ∀ y ∈ rem.flatten, x ≤ y) → ROk r2 ms1 l2 mc1 f2 (M ++ [out]) → wl_X2_mergeRuns_97 nc nl ns nr (nI (pick (isM as m) now).flatten.length) (nI (pick (isM as m) now).length) ip' mc1 (wx_X2_mergeRuns_97_165 Q (nI (pick (isM as m) now).flatten.length) (nI (pick (isM as m) now).length) ip' mc1 ms1) (d + 1) (nI i) f2 p2 l2 r2 := by
      intro d
      induction d with
      | zero =>
        intro i rem out f2 p2 l2 r2 hi hd hrl hI hs hp ho hle hM2
        rw [wl_X2_mergeRuns_97_s]
        refine pk_le ((pick (isM as m) now).flatten.length) i (fun _ => ?_) (fun q => absurd q (by omega))
        unfold wx_X2_mergeRuns_97_165
        have e : rem.flatten = [] := List.length_eq_zero_iff.mp hd
        rw [e, List.append_nil] at hp
        have e2 : out = cmb (pick (isM as m) now) := msort_of hp ho
        rw [e2] at hM2
        exact h _ _ _ _ _ _ _ _ hM2
      | succ d ih =>
        intro i rem out f2 p2 l2 r2 hi hd hrl hI hs hp ho hle hM2
        rw [wl_X2_mergeRuns_97_s]
        refine pk_le ((pick (isM as m) now).flatten.length) i (fun q => absurd q (by omega)) (fun _ => ?_)
        have hne : rem.flatten ≠ [] := by intro e; rw [e] at hd; simp at hd
        obtain ⟨b, hb⟩ := lm_none hne
        obtain ⟨b1, b2, b3⟩ := (lm_spec rem rem.length).2 b hb
        rw [← hrl]
        refine inputLeast_s hR hI ?_
        rw [hb, oI_some, hrl]
        obtain ⟨q1, q2⟩ := hI
        refine pk_lt b 0 (fun q => absurd q (by omega)) (fun _ => ?_)
        refine pk_le 6 b (fun q => absurd q (by omega)) (fun _ => ?_)
        obtain ⟨x, p, e1, e2, e3, e4, e5⟩ := q2 b b1
        have hpl : p < (now.getD x []).length := by
          rcases Nat.lt_or_ge p (now.getD x []).length with c | c
          · exact c
          · exact absurd (e5.trans ((drop_nil_iff e4).mpr c)) b2
        have hrl2 := hR.runlen x
        have hlt := hR.lt e3 hpl
        have hsplit : rem.getD b [] = (now.getD x []).getD p 0 :: (now.getD x []).drop (p + 1) := by rw [e5]; exact drop_cons_getD hpl
        have hhead : (rem.getD b []).headD 0 = (now.getD x []).getD p 0 := by rw [hsplit]; rfl
        have hfs := flat_set rem b _ _ b1 hsplit
        have hfl := hfs.length_eq
        rw [List.length_cons] at hfl
        refine ⟨pk_in b 6 (by omega), nm_r (e' := nI x) (by rw [cl_n (by omega)]; exact e1) ?_⟩
        refine ⟨pk_in b 6 (by omega), nm_r (e' := nI p) (by rw [cl_n (by omega)]; exact e2) ?_⟩
        refine rankAt_s hR e3 hpl ?_
        have hpl2 := hp.length_eq
        rw [List.length_append] at hpl2
        refine rowAdd_s hM2 (by rw [List.flatten_append, List.flatten_singleton, List.length_append]; omega) hlt (fun f3 r3 l3 hM3 => ?_)
        refine ⟨pk_in b 6 (by omega), nm_r (e' := nI p) (by rw [cl_n (by omega)]; exact e2) ?_⟩
        refine nm_r (e' := nI (p + 1)) (nI_1 _) ?_
        refine ⟨pk_in b 6 (by omega), ?_⟩
        refine nm_r (e' := nI (i + 1)) (nI_1 _) ?_
        rw [cl_n (by omega)]
        have hbs : (rem.getD b []).Pairwise (· ≤ ·) := hs _ (getD_mem2 b1)
        have hmin : ∀ y ∈ rem.flatten, (now.getD x []).getD p 0 ≤ y := by
          intro y hy
          obtain ⟨r, hr, hyr⟩ := List.mem_flatten.mp hy
          obtain ⟨q, hq, eq⟩ := mem_getD (d := []) hr
          have hrn : rem.getD q [] ≠ [] := by rw [eq]; intro z; rw [z] at hyr; simp at hyr
          have h9 := b3 q hq hrn
          rw [hhead] at h9
          have hsq : (rem.getD q []).Pairwise (· ≤ ·) := hs _ (getD_mem2 hq)
          rw [eq] at h9 hsq
          refine Nat.le_trans h9 ?_
          cases r with
          | nil => simp at hyr
          | cons a t =>
            rcases List.mem_cons.mp hyr with z | z
            · rw [z]; exact Nat.le_refl _
            · exact (List.pairwise_cons.mp hsq).1 y z
        have hmemx : (now.getD x []).getD p 0 ∈ rem.flatten := hfs.mem_iff.mpr List.mem_cons_self
        refine ih (i + 1) (rem.set b ((now.getD x []).drop (p + 1))) (out ++ [(now.getD x []).getD p 0]) f3 _ l3 r3 (by omega) (by omega) (by rw [List.length_set]; exact hrl) ⟨by rw [List.length_set]; exact q1, fun q hq => ?_⟩ (fun r hr => ?_) ?_ ?_ ?_ hM3
        · rw [List.length_set] at hq
          rw [set_getDj b1]
          by_cases c : q = b
          · subst c
            rw [if_pos rfl, up_s]
            exact ⟨x, p + 1, e1, rfl, e3, hpl, rfl⟩
          · rw [if_neg c, up_n _ c]
            exact q2 q hq
        · obtain ⟨q, hq, eq⟩ := mem_getD (d := []) hr
          rw [List.length_set] at hq
          rw [set_getDj b1] at eq
          by_cases c : q = b
          · rw [if_pos c] at eq
            rw [← eq]
            rw [hsplit] at hbs
            exact (List.pairwise_cons.mp hbs).2
          · rw [if_neg c] at eq
            rw [← eq]; exact hs _ (getD_mem2 hq)
        · rw [List.append_assoc]
          exact (List.Perm.append_left out hfs.symm).trans hp
        · refine List.pairwise_append.mpr ⟨ho, by simp, fun y hy z hz => ?_⟩
          simp at hz; subst hz
          exact hle y hy _ hmemx
        · intro y hy z hz
          have hz2 : z ∈ rem.flatten := hfs.mem_iff.mpr (List.mem_cons_of_mem _ hz)
          rcases List.mem_append.mp hy with c | c
          · exact hle y c z hz2
          · simp at c; subst c; exact hmin z hz2
    have hsp : ∀ r ∈ pick (isM as m) now, r.Pairwise (· ≤ ·) := fun r hr => hso r ((pick_sub now _).subset hr)
    exact loop _ 0 _ [] mf pl' ml1 mr (by omega) rfl rfl hI hsp (List.Perm.refl _) List.Pairwise.nil (fun x hx => absurd hx (by simp)) hM1
  unfold wp_X2_mergeRuns
  refine ⟨now.length + 1, ?_⟩
  have key : ∀ (d i : Nat) (ip' pl' : Nat → Int32), i + d = now.length → InOk ip' pl' now (pick (isM as m) (now.take i)) → wl_X2_mergeRuns_9 nc mt nl (nI m) (wx_X2_mergeRuns_9_88 mc mf nc ms ml nl ns nr mr Q) (d + 1) (nI i) (nI (pick (isM as m) (now.take i)).flatten.length) (nI (pick (isM as m) (now.take i)).length) ip' pl' := by
    intro d
    induction d with
    | zero =>
      intro i ip' pl' hi hI
      rw [wl_X2_mergeRuns_9_s]
      refine pk_le now.length i (fun _ => ?_) (fun q => absurd q (by omega)) hnc
      rw [List.take_of_length_le (by omega)] at hI ⊢
      exact merging ip' pl' hI
    | succ d ih =>
      intro i ip' pl' hi hI
      rw [wl_X2_mergeRuns_9_s]
      refine pk_le now.length i (fun q => absurd q (by omega)) (fun _ => ?_) hnc
      refine mergeOf_s hm (by omega) ?_
      have hp := pick_take (d := []) (isM as m) (l := now) (i := i) (by omega)
      have hmo := hmono (i + 1)
      have it := ih (i + 1)
      rw [hp] at hmo it
      refine oI_eq hm2 (hj i) (fun c => ?_) (fun c => ?_)
      · have hb : isM as m i = true := by unfold isM; rw [c]; simp
        rw [if_pos hb] at hmo it
        rw [List.length_append, List.flatten_append, List.flatten_singleton, List.length_append] at hmo
        have hl1 : [now.getD i []].length = 1 := rfl
        rw [hl1] at hmo
        refine pk_le 6 ((pick (isM as m) (now.take i)).length) (fun q => absurd q (by omega)) (fun _ => ?_)
        refine ⟨pk_in ((pick (isM as m) (now.take i)).length) 6 (by omega), ?_⟩
        refine ⟨pk_in ((pick (isM as m) (now.take i)).length) 6 (by omega), ?_⟩
        refine nm_r (e' := nI ((pick (isM as m) (now.take i)).length + 1)) (nI_1 _) ?_
        refine lengthOf_s hR (by omega) ?_
        refine nm_r (nI_add _ _) ?_
        refine nm_r (e' := nI (i + 1)) (nI_1 _) ?_
        rw [cl_n (by omega)]
        obtain ⟨q1, q2⟩ := hI
        have := it (upd ip' (pick (isM as m) (now.take i)).length (nI i)) (upd pl' (pick (isM as m) (now.take i)).length 0) (by omega) ⟨by rw [List.length_append]; omega, fun q hq => ?_⟩
        · rw [List.length_append, List.flatten_append, List.flatten_singleton, List.length_append] at this
          exact this
        · rw [List.length_append, hl1] at hq
          by_cases c2 : q = (pick (isM as m) (now.take i)).length
          · subst c2
            rw [up_s, up_s, getD_app_r (Nat.le_refl _), Nat.sub_self]
            exact ⟨i, 0, rfl, rfl, by omega, Nat.zero_le _, rfl⟩
          · rw [up_n _ c2, up_n _ c2, getD_app_l (by omega)]
            exact q2 q (by omega)
      · have hb : ¬ isM as m i = true := by unfold isM; simpa using c
        rw [if_neg hb, List.append_nil] at it
        refine nm_r (e' := nI (i + 1)) (nI_1 _) ?_
        exact it ip' pl' (by omega) hI
  have := key now.length 0 ip pl (by omega) ⟨by simp [pick_nil], fun q hq => absurd hq (by simp [pick_nil])⟩
  exact this
theorem keepMade_s {nr ns nl mr ms ml : Nat → Int32} {nc nf mc mf : Int32} {N M : List (List Nat)} {Q : Int32 → Int32 → (Nat → Int32) → (Nat → Int32) → (Nat → Int32) → Prop} (hN : ROk nr ns nl nc nf N) (hM : ROk mr ms ml mc mf M) (hl : N.length + M.length ≤ 200) (hf : N.flatten.length + M.flatten.length ≤ 100) (h : ∀ c f s l r, ROk r s l c f (N ++ M) → Q c f s l r) : wp_X2_keepMade mc nc nf ns nl nr ml ms mr Q := by
  have hmc := hM.1
  have hm2 := hM.2.1
  unfold wp_X2_keepMade
  refine ⟨M.length + 1, ?_⟩
  have key : ∀ (d i : Nat) (c f : Int32) (s l r : Nat → Int32), i + d = M.length → ROk r s l c f (N ++ M.take i) → wl_X2_keepMade_2 mc ml ms mr (wx_X2_keepMade_2_31 Q) (d + 1) (nI i) c f s l r := by
    intro d
    induction d with
    | zero =>
      intro i c f s l r hi hR
      rw [wl_X2_keepMade_2_s]
      refine pk_le M.length i (fun _ => ?_) (fun q => absurd q (by omega)) hmc
      unfold wx_X2_keepMade_2_31
      rw [List.take_of_length_le (by omega)] at hR
      exact h _ _ _ _ _ hR
    | succ d ih =>
      intro i c f s l r hi hR
      rw [wl_X2_keepMade_2_s]
      refine pk_le M.length i (fun q => absurd q (by omega)) (fun _ => ?_) hmc
      have htf := take_flat_le M i
      refine addRunOf_s hR hM (by omega) (by rw [List.length_append, List.length_take]; omega) (by rw [List.flatten_append, List.length_append]; omega) (fun c1 f1 s1 l1 r1 hR1 => ?_)
      refine nm_r (e' := nI (i + 1)) (nI_1 _) ?_
      have e : M.take (i + 1) = M.take i ++ [M.getD i []] := by
        rw [List.take_succ, List.getD_eq_getElem?_getD, List.getElem?_eq_getElem (by omega)]; rfl
      rw [List.append_assoc, ← e] at hR1
      exact ih (i + 1) _ _ _ _ _ (by omega) hR1
  exact key M.length 0 nc nf ns nl nr (by omega) (by rw [List.take_zero, List.append_nil]; exact hN)
theorem keepOthersJ_s {nr ns nl wr ws' wl' mt : Nat → Int32} {nc nf wc wf : Int32} {N now : List (List Nat)} {as : Nat → Option Nat} {Q : Int32 → Int32 → (Nat → Int32) → (Nat → Int32) → (Nat → Int32) → Prop} (hN : ROk nr ns nl nc nf N) (hW : ROk wr ws' wl' wc wf now) (hm : MtOk mt as) (hj : ∀ i j, as i = some j → j < 2 ^ 31) (hl : N.length + (pick (isN as) now).length ≤ 200) (hf : N.flatten.length + (pick (isN as) now).flatten.length ≤ 100) (h : ∀ c f s l r, ROk r s l c f (N ++ pick (isN as) now) → Q c f s l r) : wp_X2_keepOthers wc nc nf mt ns nl nr wl' ws' wr Q := by
  have hwc := hW.1
  have hw2 := hW.2.1
  have hmono : ∀ i, (pick (isN as) (now.take i)).length ≤ (pick (isN as) now).length ∧ (pick (isN as) (now.take i)).flatten.length ≤ (pick (isN as) now).flatten.length := by
    intro i
    have e := pick_app (now.take i) (now.drop i) (isN as)
    rw [List.take_append_drop] at e
    rw [e, List.length_append, List.flatten_append, List.length_append]
    omega
  unfold wp_X2_keepOthers
  refine ⟨now.length + 1, ?_⟩
  have key : ∀ (d i : Nat) (c f : Int32) (s l r : Nat → Int32), i + d = now.length → ROk r s l c f (N ++ pick (isN as) (now.take i)) → wl_X2_keepOthers_2 wc mt wl' ws' wr (wx_X2_keepOthers_2_43 Q) (d + 1) (nI i) c f s l r := by
    intro d
    induction d with
    | zero =>
      intro i c f s l r hi hR
      rw [wl_X2_keepOthers_2_s]
      refine pk_le now.length i (fun _ => ?_) (fun q => absurd q (by omega)) hwc
      unfold wx_X2_keepOthers_2_43
      rw [List.take_of_length_le (by omega)] at hR
      exact h _ _ _ _ _ hR
    | succ d ih =>
      intro i c f s l r hi hR
      rw [wl_X2_keepOthers_2_s]
      refine pk_le now.length i (fun q => absurd q (by omega)) (fun _ => ?_) hwc
      refine mergeOf_s hm (by omega) ?_
      have hp := pick_take (d := []) (isN as) (l := now) (i := i) (by omega)
      have hmo := hmono (i + 1)
      have it := fun c f s l r => ih (i + 1) c f s l r (by omega)
      rw [hp] at hmo it
      refine oI_nn (hj i) (fun c2 => ?_) (fun c2 => ?_)
      · have hb : isN as i = true := by unfold isN; rw [c2]; rfl
        rw [if_pos hb] at hmo it
        rw [List.length_append, List.flatten_append, List.flatten_singleton, List.length_append] at hmo
        have hl1 : [now.getD i []].length = 1 := rfl
        rw [hl1] at hmo
        refine addRunOf_s hR hW (by omega) (by rw [List.length_append]; omega) (by rw [List.flatten_append, List.length_append]; omega) (fun c1 f1 s1 l1 r1 hR1 => ?_)
        refine nm_r (e' := nI (i + 1)) (nI_1 _) ?_
        rw [List.append_assoc] at hR1
        exact it _ _ _ _ _ hR1
      · have hb : ¬ isN as i = true := by unfold isN; simpa using c2
        rw [if_neg hb, List.append_nil] at it
        refine nm_r (e' := nI (i + 1)) (nI_1 _) ?_
        exact it _ _ _ _ _ hR
  exact key now.length 0 nc nf ns nl nr (by omega) (by rw [List.take_zero, pick_nil, List.append_nil]; exact hN)
/-! a job's state -/
def lens (R : List (List Nat)) : List Nat := R.map List.length
/-- the merges of the pass -/
def mdL (w k : Nat) (rw' : List Nat) (now : List (List Nat)) : List (List Nat) := (grp (chM w k rw' (lens now)) (chA w k rw' (lens now)) now).map cmb
def nxJ (w k : Nat) (rw' : List Nat) (now : List (List Nat)) : List (List Nat) := stepL cmb w (chM w k rw' (lens now)) (chA w k rw' (lens now)) now
theorem lens_len (R : List (List Nat)) : (lens R).length = R.length := List.length_map _
theorem lens_sum (R : List (List Nat)) : (lens R).sum = R.flatten.length := List.length_flatten.symm
theorem nxJ_lens (w k : Nat) (rw' : List Nat) (now : List (List Nat)) : lens (nxJ w k rw' now) = nxL w k rw' (lens now) := stepL_map List.length cmb List.sum cmb_len _ _ _ now
theorem mdL_len (w k : Nat) (rw' : List Nat) (now : List (List Nat)) : (mdL w k rw' now).length = chM w k rw' (lens now) := by unfold mdL; rw [List.length_map, grp_lenN]
theorem mdL_at {w k j : Nat} {rw' : List Nat} {now : List (List Nat)} (h : j < chM w k rw' (lens now)) : (mdL w k rw' now).getD j [] = cmb (pick (isM (chA w k rw' (lens now)) j) now) := by
  unfold mdL grp
  rw [List.getD_eq_getElem?_getD, List.getElem?_map, List.getElem?_map, List.getElem?_range h]; rfl
theorem flatmap_perm {f : List (List Nat) → List Nat} (hf : ∀ L, (f L).Perm L.flatten) : ∀ G : List (List (List Nat)), ((G.map f).flatten).Perm G.flatten.flatten
  | [] => List.Perm.refl _
  | g :: G => by
    rw [List.map_cons, List.flatten_cons, List.flatten_cons, List.flatten_append]
    exact (hf g).append (flatmap_perm hf G)
theorem mdL_perm {w k : Nat} {rw' : List Nat} {now : List (List Nat)} (hg : GA (chM w k rw' (lens now)) (chA w k rw' (lens now)) now.length) : ((mdL w k rw' now).flatten ++ (pick (isN (chA w k rw' (lens now))) now).flatten).Perm now.flatten := by
  have h1 := (grp_perm (chA w k rw' (lens now)) now _ (fun i _ j e => hg.1 i j e)).flatten
  rw [List.flatten_append] at h1
  exact ((flatmap_perm cmb_perm _).append_right _).trans h1
theorem nxJ_perm {w k : Nat} {rw' : List Nat} {now : List (List Nat)} (hg : GA (chM w k rw' (lens now)) (chA w k rw' (lens now)) now.length) : (nxJ w k rw' now).flatten.Perm now.flatten := by
  have h := mdL_perm hg
  unfold nxJ stepL
  by_cases c : w = 1
  · rw [if_pos c, List.flatten_append]
    exact List.perm_append_comm.trans h
  · rw [if_neg c, List.flatten_append]
    exact h
theorem nxJ_sorted {w k : Nat} {rw' : List Nat} {now : List (List Nat)} (hs : ∀ r ∈ now, r.Pairwise (· ≤ ·)) : ∀ r ∈ nxJ w k rw' now, r.Pairwise (· ≤ ·) := by
  intro r hr
  have key : r ∈ mdL w k rw' now ∨ r ∈ pick (isN (chA w k rw' (lens now))) now := by
    unfold nxJ stepL at hr
    by_cases c : w = 1
    · rw [if_pos c] at hr
      exact (List.mem_append.mp hr).symm
    · rw [if_neg c] at hr
      exact List.mem_append.mp hr
  rcases key with q | q
  · unfold mdL at q
    obtain ⟨L, -, rfl⟩ := List.mem_map.mp q
    exact msort_sorted _
  · exact hs r ((pick_sub now _).subset q)
