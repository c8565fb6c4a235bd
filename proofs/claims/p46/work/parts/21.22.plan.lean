/-! plans -/
theorem oI_eq {o : Option Nat} {m : Nat} (hm : m < 2 ^ 31) (ho : ∀ j, o = some j → j < 2 ^ 31) {A B : Prop} (f : o = some m → A) (g : o ≠ some m → B) : (oI o = nI m → A) ∧ (¬ oI o = nI m → B) := by
  cases o with
  | none => exact ⟨fun q => absurd q.symm (nI_m1 hm), fun _ => g (by simp)⟩
  | some b =>
    have hb := ho b rfl
    refine ⟨fun q => f ?_, fun q => g (fun e => q ?_)⟩
    · rw [(nI_eq hb hm).mp q]
    · injection e with e; rw [oI_some, e]
theorem oI_nn {o : Option Nat} (ho : ∀ j, o = some j → j < 2 ^ 31) {A B : Prop} (f : o = none → A) (g : o ≠ none → B) : (oI o = -1 → A) ∧ (¬ oI o = -1 → B) := by
  cases o with
  | none => exact ⟨fun _ => f rfl, fun q => absurd rfl q⟩
  | some b => exact ⟨fun q => absurd q (nI_m1 (ho b rfl)), fun _ => g (by simp)⟩
theorem LOk.push {nl : Nat → Int32} {ls : List Nat} {x : Nat} (h : LOk nl ls) (hl : ls.length < 200) (hs : ls.sum + x < 2 ^ 20) : LOk (upd nl ls.length (nI x)) (ls ++ [x]) := by
  obtain ⟨h1, h2, h3⟩ := h
  refine ⟨by simp; omega, fun i hi => ?_, by rw [List.sum_append_nat, List.sum_cons, List.sum_nil]; omega⟩
  simp only [List.length_append, List.length_cons, List.length_nil] at hi
  by_cases e : i = ls.length
  · subst e
    rw [up_s, getD_app_r (Nat.le_refl _), Nat.sub_self]; rfl
  · rw [up_n _ e, getD_app_l (by omega)]
    exact h2 i (by omega)
theorem LOk.nil (nl : Nat → Int32) : LOk nl [] := ⟨by simp, fun i hi => absurd hi (by simp), by simp⟩
theorem addLength_s {nl : Nat → Int32} {ls : List Nat} {x : Nat} {Q : Int32 → (Nat → Int32) → Prop} (hL : LOk nl ls) (hl : ls.length < 200) (hs : ls.sum + x < 2 ^ 20) (h : ∀ nl', LOk nl' (ls ++ [x]) → Q (nI (ls ++ [x]).length) nl') : wp_X4_addLength (nI ls.length) nl (nI x) Q := by
  unfold wp_X4_addLength
  refine pk_lt ls.length 0 (fun q => absurd q (by omega)) (fun _ => ?_)
  refine pk_le 200 ls.length (fun q => absurd q (by omega)) (fun _ => ?_)
  refine ⟨pk_in ls.length 200 (by omega), ?_⟩
  refine nm_r (e' := nI (ls.length + 1)) (nI_1 _) ?_
  rw [cl_n (by omega)]
  have := h _ (hL.push hl hs)
  rw [List.length_append] at this
  exact this
theorem takeLengths_s {rks st ln l0 : Nat → Int32} {cnt fl : Int32} {R : List (List Nat)} {n : Nat} {Q : Int32 → (Nat → Int32) → Prop} (hR : ROk rks st ln cnt fl R) (hn : R.length ≤ n) (hn2 : n ≤ 200) (h : ∀ l', LOk l' (R.map List.length ++ List.replicate (n - R.length) 0) → Q (nI n) l') : wp_X4_takeLengths l0 cnt ln (nI n) Q := by
  have hlen : (R.map List.length ++ List.replicate (n - R.length) 0).length = n := by simp; omega
  have hat : ∀ i, (R.map List.length ++ List.replicate (n - R.length) 0).getD i 0 = (R.getD i []).length := by
    intro i
    by_cases c : i < R.length
    · rw [getD_app_l (by simpa using c), List.getD_eq_getElem?_getD, List.getElem?_map, List.getD_eq_getElem?_getD, List.getElem?_eq_getElem c]; rfl
    · rw [getD_app_r (by simp; omega), getD_ge (a := R) (by omega), List.getD_eq_getElem?_getD, List.getElem?_replicate]
      by_cases c2 : i - (R.map List.length).length < n - R.length
      · rw [if_pos c2]; rfl
      · rw [if_neg c2]; rfl
  have hsum : (R.map List.length ++ List.replicate (n - R.length) 0).sum < 2 ^ 20 := by
    rw [List.sum_append_nat, sum_rep0, ← List.length_flatten]
    have := hR.2.2.2.1
    omega
  unfold wp_X4_takeLengths
  refine nm_r (e' := nI n) (min200 hn2) ?_
  refine ⟨n + 1, ?_⟩
  have key : ∀ (d i : Nat) (l : Nat → Int32), i + d = n → (∀ q, q < i → l q = nI ((R.map List.length ++ List.replicate (n - R.length) 0).getD q 0)) → wl_X4_takeLengths_13 cnt ln (nI n) (wx_X4_takeLengths_13_38 Q (nI n)) (d + 1) (nI i) l := by
    intro d
    induction d with
    | zero =>
      intro i l hi a1
      rw [wl_X4_takeLengths_13_s]
      refine pk_le n i (fun _ => ?_) (fun q => absurd q (by omega))
      unfold wx_X4_takeLengths_13_38
      exact h l ⟨by rw [hlen]; exact hn2, fun q hq => a1 q (by rw [hlen] at hq; omega), hsum⟩
    | succ d ih =>
      intro i l hi a1
      rw [wl_X4_takeLengths_13_s]
      refine pk_le n i (fun q => absurd q (by omega)) (fun _ => ?_)
      refine lengthOf_s hR (by omega) ?_
      refine ⟨pk_in i 200 (by omega), ?_⟩
      refine nm_r (e' := nI (i + 1)) (nI_1 _) ?_
      rw [cl_n (by omega)]
      refine ih (i + 1) _ (by omega) (fun q hq => ?_)
      by_cases c9 : q = i
      · rw [c9, up_s, hat]
      · rw [up_n _ c9]; exact a1 q (by omega)
  exact key n 0 l0 (by omega) (fun q hq => absurd hq (by omega))
theorem pick_sum_le : ∀ (l : List Nat) (p : Nat → Bool), (pick p l).sum ≤ l.sum
  | [], _ => Nat.le_refl _
  | a :: l, p => by
    have := pick_sum_le l (fun i => p (i + 1))
    rw [pick_cons, List.sum_append_nat, List.sum_cons]
    by_cases c : p 0 = true
    · rw [if_pos c, List.sum_cons, List.sum_nil]; omega
    · rw [if_neg c, List.sum_nil]; omega
theorem take_le_sum (l : List Nat) (i : Nat) : (l.take i).length ≤ i := by rw [List.length_take]; omega
def grS (mg : Nat) (as : Nat → Option Nat) (ls : List Nat) : List Nat := (grp mg as ls).map List.sum
theorem grS_len (mg : Nat) (as : Nat → Option Nat) (ls : List Nat) : (grS mg as ls).length = mg := by unfold grS; rw [List.length_map, grp_lenN]
theorem grS_at {mg m : Nat} {as : Nat → Option Nat} {ls : List Nat} (h : m < mg) : (grS mg as ls).getD m 0 = (pick (isM as m) ls).sum := by
  unfold grS grp
  rw [List.getD_eq_getElem?_getD, List.getElem?_map, List.getElem?_map, List.getElem?_range h]; rfl
theorem grS_sum {mg : Nat} {as : Nat → Option Nat} {ls : List Nat} (h : ∀ i, i < ls.length → ∀ j, as i = some j → j < mg) : (grS mg as ls).sum + (pick (isN as) ls).sum = ls.sum := by
  have e := (grp_perm as ls mg h).sum_nat
  rw [List.sum_append_nat] at e
  have e2 : ∀ L : List (List Nat), (L.map List.sum).sum = L.flatten.sum := by
    intro L
    induction L with
    | nil => rfl
    | cons a L ih => rw [List.map_cons, List.sum_cons, ih, List.flatten_cons, List.sum_append_nat]
  unfold grS
  rw [e2]; exact e
theorem planMerges_s {mt ln nl : Nat → Int32} {as : Nat → Option Nat} {ls old : List Nat} {mg mv ms : Nat} {Q : Int32 → Int32 → Int32 → (Nat → Int32) → Prop} (hL : LOk ln ls) (hm : MtOk mt as) (hj : ∀ i j, as i = some j → j < mg) (hN : LOk nl old) (hl : old.length + mg ≤ 200) (hs : old.sum + (grS mg as ls).sum < 2 ^ 20) (hv : mv < 2 ^ 30) (hms : ms < 2 ^ 30) (h : ∀ nl', LOk nl' (old ++ grS mg as ls) → Q (nI (old ++ grS mg as ls).length) (nI (mv + (grS mg as ls).sum)) (nI (ms + mg)) nl') : wp_X4_planMerges (nI ls.length) (nI old.length) (nI mv) (nI ms) (nI mg) nl ln mt Q := by
  have hll := hL.1
  have hgl := grS_len mg as ls
  unfold wp_X4_planMerges
  refine ⟨mg + 1, ?_⟩
  have outer : ∀ (d m : Nat) (nl : Nat → Int32), m + d = mg → LOk nl (old ++ (grS mg as ls).take m) → wl_X4_planMerges_2 (nI ls.length) (nI mg) ln mt (wx_X4_planMerges_2_94 Q) (d + 1) (nI m) (nI (old ++ (grS mg as ls).take m).length) (nI (mv + ((grS mg as ls).take m).sum)) (nI (ms + m)) nl := by
    intro d
    induction d with
    | zero =>
      intro m nl hi hN
      rw [wl_X4_planMerges_2_s]
      refine pk_le mg m (fun _ => ?_) (fun q => absurd q (by omega))
      unfold wx_X4_planMerges_2_94
      obtain rfl : m = mg := by omega
      rw [List.take_of_length_le (by omega)] at hN ⊢
      exact h nl hN
    | succ d ih =>
      intro m nl hi hN
      rw [wl_X4_planMerges_2_s]
      refine pk_le mg m (fun q => absurd q (by omega)) (fun _ => ?_)
      refine ⟨ls.length + 1, ?_⟩
      have hat := grS_at (as := as) (ls := ls) (m := m) (mg := mg) (by omega)
      have hts := sum_take_s (l := grS mg as ls) (i := m) (by omega)
      have htl := sum_take_le (grS mg as ls) (m + 1)
      have inner : ∀ (e i : Nat), i + e = ls.length → wl_X4_planMerges_17 (nI ls.length) ln mt (nI m) (wx_X4_planMerges_17_63 (nI m) (nI (old ++ (grS mg as ls).take m).length) (nI (mv + ((grS mg as ls).take m).sum)) (nI (ms + m)) nl (wl_X4_planMerges_2 (nI ls.length) (nI mg) ln mt (wx_X4_planMerges_2_94 Q) (d + 1))) (e + 1) (nI i) (nI (pick (isM as m) (ls.take i)).sum) := by
        intro e
        induction e with
        | zero =>
          intro i hie
          rw [wl_X4_planMerges_17_s]
          refine pk_le ls.length i (fun _ => ?_) (fun q => absurd q (by omega))
          unfold wx_X4_planMerges_17_63
          rw [show ls.take i = ls from List.take_of_length_le (by omega), ← hat]
          refine addLength_s hN (by rw [List.length_append, List.length_take]; omega) (by rw [List.sum_append_nat]; omega) (fun nl' hN' => ?_)
          refine nm_r (e' := nI (mv + ((grS mg as ls).take (m + 1)).sum)) (by rw [nI_add, hts]; congr 1; omega) ?_
          refine nm_r (e' := nI ((ms + m) + 1)) (nI_1 _) ?_
          refine nm_r (e' := nI (m + 1)) (nI_1 _) ?_
          rw [List.append_assoc, ← take_snoc (by omega)] at hN' ⊢
          exact ih (m + 1) nl' (by omega) hN'
        | succ e ihe =>
          intro i hie
          rw [wl_X4_planMerges_17_s]
          refine pk_le ls.length i (fun q => absurd q (by omega)) (fun _ => ?_)
          refine pk_le 200 i (fun q => absurd q (by omega)) (fun _ => ?_)
          refine mergeOf_s hm (by omega) ?_
          have hp := pick_take (d := 0) (isM as m) (l := ls) (i := i) (by omega)
          have it := ihe (i + 1) (by omega)
          rw [hp, List.sum_append_nat] at it
          refine oI_eq (by omega) (fun j ej => by have := hj i j ej; omega) (fun c => ?_) (fun c => ?_)
          · refine ⟨pk_in i 200 (by omega), nm_r (e' := nI (ls.getD i 0)) (by rw [cl_n (by omega)]; exact hL.2.1 i (by omega)) ?_⟩
            have hb : isM as m i = true := by unfold isM; rw [c]; simp
            rw [if_pos hb, List.sum_cons, List.sum_nil, Nat.add_zero] at it
            refine nm_r (nI_add _ _) ?_
            refine nm_r (e' := nI (i + 1)) (nI_1 _) ?_
            exact it
          · have hb : ¬ isM as m i = true := by unfold isM; simpa using c
            rw [if_neg hb, List.sum_nil, Nat.add_zero] at it
            refine nm_r (e' := nI (pick (isM as m) (ls.take i)).sum) (Int32.add_zero _) ?_
            refine nm_r (e' := nI (i + 1)) (nI_1 _) ?_
            exact it
      exact inner ls.length 0 (by omega)
  have := outer mg 0 nl (by omega) (by rw [List.take_zero, List.append_nil]; exact hN)
  rw [List.take_zero, List.append_nil] at this
  exact this
theorem keepOthers_s {mt ln nl : Nat → Int32} {as : Nat → Option Nat} {ls old : List Nat} {Q : Int32 → (Nat → Int32) → Prop} (hL : LOk ln ls) (hm : MtOk mt as) (hj : ∀ i j, as i = some j → j < 2 ^ 31) (hN : LOk nl old) (hl : old.length + (pick (isN as) ls).length ≤ 200) (hs : old.sum + (pick (isN as) ls).sum < 2 ^ 20) (h : ∀ nl', LOk nl' (old ++ pick (isN as) ls) → Q (nI (old ++ pick (isN as) ls).length) nl') : wp_X4_keepOthers (nI ls.length) (nI old.length) ln nl mt Q := by
  have hll := hL.1
  have mono : ∀ i, (pick (isN as) (ls.take i)).length ≤ (pick (isN as) ls).length ∧ (pick (isN as) (ls.take i)).sum ≤ (pick (isN as) ls).sum := by
    intro i
    have e := pick_app (ls.take i) (ls.drop i) (isN as)
    rw [List.take_append_drop] at e
    rw [e, List.length_append, List.sum_append_nat]
    omega
  unfold wp_X4_keepOthers
  refine ⟨ls.length + 1, ?_⟩
  have key : ∀ (d i : Nat) (nl : Nat → Int32), i + d = ls.length → LOk nl (old ++ pick (isN as) (ls.take i)) → wl_X4_keepOthers_2 (nI ls.length) ln mt (wx_X4_keepOthers_2_45 Q) (d + 1) (nI i) (nI (old ++ pick (isN as) (ls.take i)).length) nl := by
    intro d
    induction d with
    | zero =>
      intro i nl hi hN
      rw [wl_X4_keepOthers_2_s]
      refine pk_le ls.length i (fun _ => ?_) (fun q => absurd q (by omega))
      unfold wx_X4_keepOthers_2_45
      rw [List.take_of_length_le (by omega)] at hN ⊢
      exact h nl hN
    | succ d ih =>
      intro i nl hi hN
      rw [wl_X4_keepOthers_2_s]
      refine pk_le ls.length i (fun q => absurd q (by omega)) (fun _ => ?_)
      refine pk_le 200 i (fun q => absurd q (by omega)) (fun _ => ?_)
      refine mergeOf_s hm (by omega) ?_
      have hp := pick_take (d := 0) (isN as) (l := ls) (i := i) (by omega)
      have m1 := mono (i + 1)
      have it := ih (i + 1)
      rw [hp] at m1 it
      refine oI_nn (hj i) (fun c => ?_) (fun c => ?_)
      · have hb : isN as i = true := by unfold isN; rw [c]; rfl
        rw [if_pos hb] at m1 it
        rw [List.length_append, List.sum_append_nat, List.length_cons, List.length_nil, List.sum_cons, List.sum_nil] at m1
        refine ⟨pk_in i 200 (by omega), nm_r (e' := nI (ls.getD i 0)) (by rw [cl_n (by omega)]; exact hL.2.1 i (by omega)) ?_⟩
        refine addLength_s hN (by rw [List.length_append]; omega) (by rw [List.sum_append_nat]; omega) (fun nl' hN' => ?_)
        refine nm_r (e' := nI (i + 1)) (nI_1 _) ?_
        rw [← List.append_assoc] at it
        exact it nl' (by omega) hN'
      · have hb : ¬ isN as i = true := by unfold isN; simpa using c
        rw [if_neg hb, List.append_nil] at it
        refine nm_r (e' := nI (i + 1)) (nI_1 _) ?_
        exact it nl (by omega) hN
  have := key ls.length 0 nl (by omega) (by rw [List.take_zero, pick_nil, List.append_nil]; exact hN)
  rw [List.take_zero, pick_nil, List.append_nil] at this
  exact this
/-- the lengths behind a pass -/
def nxL (w k : Nat) (rw' ls : List Nat) : List Nat := stepL List.sum w (chM w k rw' ls) (chA w k rw' ls) ls
theorem nxL_eq (w k : Nat) (rw' ls : List Nat) : nxL w k rw' ls = if w = 1 then pick (isN (chA w k rw' ls)) ls ++ grS (chM w k rw' ls) (chA w k rw' ls) ls else grS (chM w k rw' ls) (chA w k rw' ls) ls ++ pick (isN (chA w k rw' ls)) ls := rfl
theorem clR_sum {w k : Nat} {rw' ls : List Nat} (hw : w = 2) (hk : 2 ≤ k) (hk6 : k ≤ 6) (hn : 2 ≤ ls.length) (h : RW w k rw' ls.length) (hn2 : ls.length ≤ 200) : rw'.sum = ls.length ∧ chM w k rw' ls < 2 ^ 20 ∧ (∀ i, i + 1 < k → chM w k rw' ls ≤ rw'.getD i 0) ∧ (clR (chM w k rw' ls) rw').sum < 2 ^ 20 := by
  have hx := RW.next hk hk6 hn h
  have hga := ga (by omega) hk hk6 hn h
  obtain ⟨g1, g2, g3, g4, g5⟩ := hga
  have g6 := (g5 Nat ls rfl).2
  subst hw
  rcases h rfl with q | ⟨lev, h1, h2⟩
  · omega
  · cases lev with
    | zero =>
      exfalso
      rw [h2] at hn
      simp only [lvR, List.sum_cons, sum_rep0] at hn
      omega
    | succ lev =>
      subst h1
      have hl := lvR_len (k := k) (by omega) lev
      have hmg : chM 2 k (lvR k (lev + 1)) ls = (lvR k lev).getD 0 0 := upR_last (by omega) hl
      refine ⟨h2.symm, by omega, fun i hi => ?_, ?_⟩
      · rw [hmg]
        have e := upR_getD hl (i := i) (by omega)
        show _ ≤ (upR (lvR k lev)).getD i 0
        rw [e, if_pos (by omega)]
        omega
      · rcases hx rfl with q | ⟨lev2, q1, q2⟩
        · exfalso; omega
        · rw [q1, ← q2]; omega
