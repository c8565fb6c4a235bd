/-! whole jobs -/
theorem va_up_up {α : Type} (f : Nat → α) (j : Nat) (a b : α) : va_up (va_up f j a) j b = va_up f j b := by
  funext k
  by_cases e : k = j
  · subst e; rw [va_up_self, va_up_self]
  · rw [va_up_ne _ _ e, va_up_ne _ _ e, va_up_ne _ _ e]
theorem writeTo_s {nr ns nl : Nat → Int32} {nc nf : Int32} {now : List (List Nat)} {F : Nat → Nat → Int32} {n : Nat → Int32} {T : Nat → List Nat} {j : Nat} {Q : (Nat → Nat → Int32) → (Nat → Int32) → Prop} (hR : ROk nr ns nl nc nf now) (hP : POk F n T) (hj : j < 18) (hr : ∀ x ∈ now.getD 0 [], x % 256 < 200) (h : ∀ F' n', POk F' n' (va_up T j ((now.getD 0 []).map (fun x => x % 256))) → Q F' n') : wp_X2_writeTo nc nl ns nr j F n Q := by
  have hl := hR.runlen 0
  unfold wp_X2_writeTo
  refine empty_s hP (fun n1 hP1 => ?_)
  refine lengthOf_s (i := 0) hR (by omega) ⟨(now.getD 0 []).length + 1, ?_⟩
  have key : ∀ (d i : Nat) (F : Nat → Nat → Int32) (n : Nat → Int32), i + d = (now.getD 0 []).length → POk F n (va_up T j (((now.getD 0 []).take i).map (fun x => x % 256))) → wl_X2_writeTo_15 nc nl ns nr j (nI (now.getD 0 []).length) (wx_X2_writeTo_15_42 Q) (d + 1) (nI i) F n := by
    intro d
    induction d with
    | zero =>
      intro i F n hi hP
      rw [wl_X2_writeTo_15_s]
      refine pk_le ((now.getD 0 []).length) i (fun _ => ?_) (fun q => absurd q (by omega))
      unfold wx_X2_writeTo_15_42
      rw [List.take_of_length_le (by omega)] at hP
      exact h F n hP
    | succ d ih =>
      intro i F n hi hP
      rw [wl_X2_writeTo_15_s]
      refine pk_le ((now.getD 0 []).length) i (fun q => absurd q (by omega)) (fun _ => ?_)
      have h0 : 0 < now.length := by
        rcases Nat.eq_zero_or_pos now.length with q | q
        · have e : now = [] := List.length_eq_zero_iff.mp q
          rw [e] at hi; simp at hi
        · exact q
      have hi2 : i < (now.getD 0 []).length := by omega
      have hlt := hR.lt h0 hi2
      have hrr := hr _ (getD_mem2 (d := 0) hi2)
      refine rankAt_s (i := 0) hR h0 hi2 ?_
      unfold wp_X0_recordOf
      refine nm_r (e' := nI ((now.getD 0 []).getD i 0 % 256)) (pk_andN (by omega) 8 (by decide)) ?_
      refine add_s hP hj (by rw [va_up_self, List.length_map, List.length_take]; omega) hrr (fun F' n' hP' => ?_)
      refine nm_r (e' := nI (i + 1)) (nI_1 _) ?_
      rw [va_up_self, va_up_up] at hP'
      refine ih (i + 1) F' n' (by omega) ?_
      rw [take_snoc hi2, List.map_append]
      exact hP'
  refine key (now.getD 0 []).length 0 F n1 (by omega) ?_
  exact hP1
theorem runs_ok {ks : Nat → Int} {o w m : Nat} {L : List Nat} (hw : w < 3) (hm : 1 ≤ m) : (runsOf ks o w m L).flatten.Perm (rks ks o L) ∧ ∀ r ∈ runsOf ks o w m L, r ≠ [] ∧ r.Pairwise (· ≤ ·) := by
  unfold runsOf mkR
  by_cases c : w = 0
  · rw [if_pos c]
    obtain ⟨h1, h2, -⟩ := fullR_ok hm (rks ks o L).length (rks ks o L) (Nat.le_refl _)
    exact ⟨h1, h2⟩
  · rw [if_neg c]
    by_cases c2 : w = 1
    · rw [if_pos c2]
      obtain ⟨h1, h2, -, -⟩ := replR_good (rks ks o L) hm
      exact ⟨h1, h2⟩
    · rw [if_neg c2]
      obtain ⟨h1, h2, -, -⟩ := natR_ok (rks ks o L)
      exact ⟨by rw [h1], h2⟩
theorem runs_len {ks : Nat → Int} {o w m : Nat} {L : List Nat} (hw : w < 3) (hm : 1 ≤ m) : (runsOf ks o w m L).length ≤ L.length ∧ (runsOf ks o w m L).flatten.length = L.length := by
  obtain ⟨h1, h2⟩ := runs_ok (ks := ks) (o := o) (L := L) hw hm
  have e := h1.length_eq
  rw [rks_len] at e
  have := flat_ge (fun r hr => (h2 r hr).1)
  omega
/-- the runs of a job as it begins -/
def job0 (w k : Nat) (R : List (List Nat)) : List (List Nat) := R ++ List.replicate (arN w k R.length - R.length) []
theorem job0_flat (w k : Nat) (R : List (List Nat)) : (job0 w k R).flatten = R.flatten := by
  unfold job0
  rw [List.flatten_append]
  have : ∀ n, (List.replicate n ([] : List Nat)).flatten = [] := by
    intro n
    induction n with
    | zero => rfl
    | succ n ih => rw [List.replicate_succ, List.flatten_cons, ih]; rfl
  rw [this, List.append_nil]
theorem job0_lens (w k : Nat) (R : List (List Nat)) : lens (job0 w k R) = toL w k (lens R) := by
  unfold job0 lens toL
  rw [List.map_append, List.map_replicate, List.length_map]
  rfl
theorem start_s {K : Nat → Int32} {ks : Nat → Int} {F : Nat → Nat → Int32} {n : Nat → Int32} {T : Nat → List Nat} {j o wr m w k : Nat} {mh to : Int32} {ro mm s0 l0 r0 rows : Nat → Int32} {Q : Int32 → Int32 → Int32 → Int32 → Int32 → Int32 → Int32 → Int32 → Int32 → Int32 → Int32 → Int32 → Int32 → Int32 → Int32 → Int32 → Int32 → (Nat → Int32) → (Nat → Int32) → (Nat → Int32) → (Nat → Int32) → (Nat → Int32) → (Nat → Int32) → Prop} (hK : KOk K ks) (hP : POk F n T) (hj : j < 18) (ho : o < 2) (hwr : wr < 3) (hm : 1 ≤ m) (hm2 : m ≤ 50) (hw : w < 3) (hk : 2 ≤ k) (hk6 : k ≤ 6)
    (h : ∀ mh nc nf ro mm ns nl nr rows, (∀ pm mt mr ms ml, JInv w k (arR k (runsOf ks o wr m (T j)).length) (job0 w k (runsOf ks o wr m (T j))) 0 pm nc nf 0 0 mt rows nr ns nl mr ms ml) → Q (nI (runsOf ks o wr m (T j)).length) to 0 0 (nI (T j).length) 0 0 0 mh nc nf (nI w) (nI k) 0 (nI (arL w k (runsOf ks o wr m (T j)).length)) 0 0 ro mm ns nl nr rows) :
    wp_X2_start mh ro mm s0 l0 r0 rows K (nI o) (nI wr) (nI m) (nI w) (nI k) j to F n Q := by
  obtain ⟨t1, t2, t3, t4⟩ := hP j hj
  obtain ⟨u1, u2⟩ := runs_len (ks := ks) (o := o) (w := wr) (m := m) (L := T j) hwr hm
  obtain ⟨v1, v2⟩ := runs_ok (ks := ks) (o := o) (w := wr) (m := m) (L := T j) hwr hm
  unfold wp_X2_start
  refine makeRuns_s hK hP hj ho hwr hm hm2 (fun hd ro' mm' c f s l r hR => ?_)
  have hc := hR.1
  subst hc
  generalize runsOf ks o wr m (T j) = R at *
  obtain ⟨a1, a2, a3, a4⟩ := arN_ok (w := w) (n := R.length) hk hk6 (by omega)
  refine arrange_s hw hk hk6 (by omega) (fun rows' hrows => ⟨arN w k R.length - R.length + 1, ?_⟩)
  have key : ∀ (d i : Nat) (c : Int32) (s l : Nat → Int32), i + d = arN w k R.length → R.length ≤ i → ROk r s l c f (R ++ List.replicate (i - R.length) []) → wl_X2_start_41 f (nI (arN w k R.length)) (wx_X2_start_41_61 j to n Q hd ro' mm' (nI R.length) f r (nI w) (nI k) 0 (nI (arL w k R.length)) rows') (d + 1) (nI i) c s l := by
    intro d
    induction d with
    | zero =>
      intro i c s l hi hi2 hR
      rw [wl_X2_start_41_s]
      refine pk_le (arN w k R.length) i (fun _ => ?_) (fun q => absurd q (by omega))
      unfold wx_X2_start_41_61
      refine rowEmpty_any ?_
      rw [show i = arN w k R.length by omega] at hR
      have hlen : (job0 w k R).length = arN w k R.length := by unfold job0; rw [List.length_append, List.length_replicate]; omega
      have hRW : RW w k (arR k R.length) (job0 w k R).length := by rw [hlen]; exact a4
      have hsrt : ∀ r ∈ job0 w k R, r.Pairwise (· ≤ ·) := by
        intro r hr
        unfold job0 at hr
        rcases List.mem_append.mp hr with q | q
        · exact (v2 r q).2
        · rw [List.eq_of_mem_replicate q]; exact List.Pairwise.nil
      have := h hd c f ro' mm' s l r rows' (fun pm mt mr ms ml => ⟨hR, by rw [List.take_zero]; exact ROk.nil _ _ _, hRW, fun q hw2 => hrows hw2 (fun e => by
        have : arN w k R.length ≤ 1 := a3.mpr (by omega)
        omega), fun _ => rfl, fun q => (ga hw hk hk6 (ls := lens (job0 w k R)) (by rw [lens_len]; exact q) (by rw [lens_len]; exact hRW)).2.1, fun q => absurd q (by omega), hsrt⟩)
      rw [← t1] at this
      exact this
    | succ d ih =>
      intro i c s l hi hi2 hR
      rw [wl_X2_start_41_s]
      refine pk_le (arN w k R.length) i (fun q => absurd q (by omega)) (fun _ => ?_)
      refine openRun_s hR (by rw [List.length_append, List.length_replicate]; omega) (fun c1 s1 l1 hR1 => ?_)
      refine nm_r (e' := nI (i + 1)) (nI_1 _) ?_
      refine ih (i + 1) c1 s1 l1 (by omega) (by omega) ?_
      rw [show i + 1 - R.length = (i - R.length) + 1 by omega, List.replicate_succ']
      rw [List.append_assoc] at hR1
      exact hR1
  exact key (arN w k R.length - R.length) R.length (nI R.length) s l (by omega) (Nat.le_refl _) (by rw [Nat.sub_self]; exact (List.append_nil R).symm ▸ hR)
/-! what a job still has to do -/
theorem plGo_fuel {w k : Nat} (hw : w < 3) (hk : 2 ≤ k) (hk6 : k ≤ 6) : ∀ (f : Nat) (rw' ls : List Nat), ls.length ≤ f → RW w k rw' ls.length → plGo w k (f + 1) rw' ls = plGo w k f rw' ls
  | 0, rw', ls, hl, _ => by
    show (if ls.length ≤ 1 then _ else _) = _
    rw [if_pos (by omega)]; rfl
  | f + 1, rw', ls, hl, hr => by
    show (if ls.length ≤ 1 then (0, 0, 0) else _) = (if ls.length ≤ 1 then (0, 0, 0) else _)
    by_cases c : ls.length ≤ 1
    · rw [if_pos c, if_pos c]
    · rw [if_neg c, if_neg c]
      have hga := ga hw hk hk6 (by omega) hr
      have g6 := (hga.2.2.2.2 Nat ls rfl).2
      have g2 := hga.2.1
      have hnl := nxL_len (w := w) (k := k) (rw' := rw') (ls := ls)
      have hRW := RW.next hk hk6 (by omega) hr
      rw [plGo_fuel hw hk hk6 f _ _ (by omega) (by rw [hnl]; exact hRW)]
def rst (w k : Nat) (rw' : List Nat) (now : List (List Nat)) (dn : Nat) : Nat × Nat × Nat :=
  if now.length ≤ 1 then (0, 0, 0) else
    let r := plGo w k 200 (clR (chM w k rw' (lens now)) rw') (lens (nxJ w k rw' now))
    (r.1 + 1, r.2.1 + ((grS (chM w k rw' (lens now)) (chA w k rw' (lens now)) (lens now)).drop dn).sum, r.2.2 + (chM w k rw' (lens now) - dn))
theorem rst_0 {w k : Nat} {rw' : List Nat} {now : List (List Nat)} (hw : w < 3) (hk : 2 ≤ k) (hk6 : k ≤ 6) (hn : now.length ≤ 200) (hr : RW w k rw' now.length) : rst w k rw' now 0 = plGo w k 200 rw' (lens now) := by
  rw [← plGo_fuel hw hk hk6 200 rw' (lens now) (by rw [lens_len]; exact hn) (by rw [lens_len]; exact hr)]
  show rst w k rw' now 0 = (if (lens now).length ≤ 1 then (0, 0, 0) else _)
  unfold rst
  rw [lens_len]
  by_cases c : now.length ≤ 1
  · rw [if_pos c, if_pos c]
  · rw [if_neg c, if_neg c, nxJ_lens, List.drop_zero, Nat.sub_zero]
theorem rst_a {w k dn : Nat} {rw' : List Nat} {now : List (List Nat)} (hn : 2 ≤ now.length) (hd : dn < chM w k rw' (lens now)) : (rst w k rw' now dn).1 = (rst w k rw' now (dn + 1)).1 ∧ (rst w k rw' now dn).2.1 = mvA w k rw' now dn + (rst w k rw' now (dn + 1)).2.1 ∧ (rst w k rw' now dn).2.2 = 1 + (rst w k rw' now (dn + 1)).2.2 := by
  unfold rst
  rw [if_neg (by omega), if_neg (by omega)]
  refine ⟨rfl, ?_, ?_⟩
  · show _ + _ = _ + (_ + _)
    rw [drop_cons_getD (by rw [grS_len]; exact hd), List.sum_cons]
    unfold mvA
    omega
  · show _ + _ = 1 + (_ + _)
    omega
theorem rst_b {w k dn : Nat} {rw' : List Nat} {now : List (List Nat)} (hw : w < 3) (hk : 2 ≤ k) (hk6 : k ≤ 6) (hn : 2 ≤ now.length) (hn2 : now.length ≤ 200) (hr : RW w k rw' now.length) (hd : dn + 1 = chM w k rw' (lens now)) (hl : (nxJ w k rw' now).length ≤ 200) (hr2 : RW w k (clR (chM w k rw' (lens now)) rw') (nxJ w k rw' now).length) : (rst w k rw' now dn).1 = 1 + (rst w k (clR (chM w k rw' (lens now)) rw') (nxJ w k rw' now) 0).1 ∧ (rst w k rw' now dn).2.1 = mvA w k rw' now dn + (rst w k (clR (chM w k rw' (lens now)) rw') (nxJ w k rw' now) 0).2.1 ∧ (rst w k rw' now dn).2.2 = 1 + (rst w k (clR (chM w k rw' (lens now)) rw') (nxJ w k rw' now) 0).2.2 := by
  rw [rst_0 hw hk hk6 hl hr2]
  unfold rst
  rw [if_neg (by omega)]
  refine ⟨Nat.add_comm _ _, ?_, ?_⟩
  · show _ + _ = _ + _
    rw [drop_cons_getD (by rw [grS_len]; omega), List.sum_cons, List.drop_of_length_le (by rw [grS_len]; omega), List.sum_nil]
    unfold mvA
    omega
  · show _ + _ = 1 + _
    omega
/-- the records of a row, in order -/
def srt (ks : Nat → Int) (o : Nat) (L : List Nat) : List Nat := (rks ks o L).mergeSort.map (fun x => x % 256)
theorem rk_mod {ks : Nat → Int} {o r : Nat} (h : r < 200) : rk ks o r % 256 = r := by
  unfold rk
  rw [Nat.mul_comm, Nat.mul_add_mod, Nat.mod_eq_of_lt (by omega)]
theorem fin_srt {ks : Nat → Int} {o : Nat} {L : List Nat} {now : List (List Nat)} (h1 : now.length ≤ 1) (h2 : now.flatten.Perm (rks ks o L)) (h3 : ∀ r ∈ now, r.Pairwise (· ≤ ·)) : now.getD 0 [] = (rks ks o L).mergeSort := by
  cases now with
  | nil =>
    have e := h2.symm.length_eq
    have e2 : rks ks o L = [] := List.length_eq_zero_iff.mp e
    rw [e2]; simp
  | cons r t =>
    have e : t = [] := by simpa using h1
    subst e
    show r = _
    exact msort_of (by simpa using h2) (h3 r List.mem_cons_self)
