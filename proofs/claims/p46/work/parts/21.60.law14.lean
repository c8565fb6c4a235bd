/-! polyphase whole; plans -/
theorem polyphase_w {n k : Nat} {f : Nat → Int32} {ls : List Nat} {Q : Nat → (Nat → Int32) → Prop} (hf : IsA n f ls) (hn : n ≤ 100) (hk : 2 ≤ k) (hk6 : k ≤ 6) (h : ∀ q, PlA q (planOf 2 k ls).1 (planOf 2 k ls).2.1 (planOf 2 k ls).2.2 (arL 2 k n) → Q 4 q) : wp_L_polyphase n f (nI k) Q := by
  have hls := hf.1
  obtain ⟨L0, hL0⟩ : ∃ L0, L0 = lvN k n := ⟨_, rfl⟩
  obtain ⟨v1, v2, v3, v4⟩ := lv_ok k (by omega) hk n (by omega)
  rw [← hL0] at v1 v2 v3 v4
  obtain ⟨S, hS⟩ : ∃ S, S = (lvR k L0).sum := ⟨_, rfl⟩
  obtain ⟨Z, hZ⟩ : ∃ Z, Z = ls ++ List.replicate (S - n) 0 := ⟨_, rfl⟩
  have hZl : Z.length = S := by rw [hZ, List.length_append, List.length_replicate]; omega
  have hL00 : n = 0 → L0 = 0 := fun e => by
    subst e
    rw [hL0]
    show lvGo k 0 200 0 = 0
    unfold lvGo
    rw [if_pos (Nat.zero_le _)]
  have hrl : (lvR k L0).length = k := lvR_len (by omega) L0
  -- the plan, on the rows of the last level
  have hpl : (planOf 2 k ls) = plGo 2 k 200 (lvR k L0) Z := by
    by_cases e : n = 0
    · have e0 := hL00 e
      have e1 : ls = [] := List.eq_nil_of_length_eq_zero (by omega)
      have e2 : Z.length ≤ 1 := by
        rw [hZl, hS, e0]
        show (1 :: List.replicate (k - 1) 0).sum ≤ 1
        rw [List.sum_cons, sum_rep0]; omega
      rw [pl_done e2, e1]
      unfold planOf
      exact pl_done (by
        unfold toL arN
        rw [if_neg (by simp)]; simp)
    · unfold planOf toL arR arN
      rw [← hls, if_pos ⟨rfl, e⟩, ← hL0, ← hS, ← hZ]
  have harL : arL 2 k n = L0 := by
    unfold arL
    by_cases e : n = 0
    · rw [if_neg (by simp [e]), hL00 e]
    · rw [if_pos ⟨rfl, e⟩, hL0]
  rw [hpl, harL] at h
  have hmono : ∀ l, l ≤ L0 → (lvR k l).sum ≤ S := fun l hl => by
    by_cases e : l = L0
    · rw [e, hS]; exact Nat.le_refl _
    · have := v4 l (by omega); omega
  -- the rows as lists
  obtain ⟨R, hR⟩ : ∃ R : List (List Nat), R = (List.range k).map (fun z => (Z.drop ((lvR k L0).take z).sum).take ((lvR k L0).getD z 0)) := ⟨_, rfl⟩
  have hRz : ∀ z, z < k → R.getD z [] = (Z.drop ((lvR k L0).take z).sum).take ((lvR k L0).getD z 0) := fun z hz => by
    rw [hR, List.getD_eq_getElem?_getD, List.getElem?_map, List.getElem?_range hz]; rfl
  have htk : ∀ z, z < k → ((lvR k L0).take (z + 1)).sum = ((lvR k L0).take z).sum + (lvR k L0).getD z 0 := fun z hz => sum_take_s (by omega)
  have htS : ∀ z, ((lvR k L0).take z).sum ≤ S := fun z => by rw [hS]; exact sum_take_le _ _
  have hRl : ∀ z, z < k → (R.getD z []).length = (lvR k L0).getD z 0 := fun z hz => by
    rw [hRz z hz, List.length_take, List.length_drop, hZl]
    have h1 := htk z hz
    have h2 := htS (z + 1)
    omega
  have hRk : R.length = k := by rw [hR, List.length_map, List.length_range]
  have hRlen : R.map List.length = lvR k L0 := by
    refine List.ext_getElem? (fun z => ?_)
    by_cases hz : z < k
    · have h1 := hRl z hz
      have e1 : (R.map List.length)[z]? = some (R.getD z []).length := by
        rw [List.getElem?_map, List.getElem?_eq_getElem (by omega), List.getD_eq_getElem?_getD, List.getElem?_eq_getElem (by omega)]; rfl
      have e2 : (lvR k L0)[z]? = some ((lvR k L0).getD z 0) := by
        rw [List.getElem?_eq_getElem (by omega), List.getD_eq_getElem?_getD, List.getElem?_eq_getElem (by omega)]; rfl
      rw [e1, e2, h1]
    · rw [List.getElem?_eq_none (by rw [List.length_map]; omega), List.getElem?_eq_none (by omega)]
  have hRt : ∀ z, z ≤ k → (R.take z).flatten = Z.take ((lvR k L0).take z).sum := by
    intro z
    induction z with
    | zero => intro _; simp
    | succ z ih =>
      intro hz
      rw [take_s2 (by omega), List.flatten_append, ih (by omega), htk z (by omega), hRz z (by omega)]
      simp [List.take_add]
  have hRf : R.flatten = Z := by
    have := hRt k (Nat.le_refl _)
    rw [List.take_of_length_le (by omega), List.take_of_length_le (by omega : (lvR k L0).length ≤ k), List.take_of_length_le (by omega)] at this
    exact this
  have hZi : ∀ i, i < S → (i < n → Z.getD i 0 = ls.getD i 0) ∧ (n ≤ i → Z.getD i 0 = 0) := fun i hi => ⟨fun h1 => by rw [hZ, getD_app_l (by omega)], fun h1 => by
    rw [hZ, getD_app_r (by omega), List.getD_eq_getElem?_getD, List.getElem?_replicate]
    split <;> rfl⟩
  have hRi : ∀ z i, z < k → i < (lvR k L0).getD z 0 → (R.getD z []).getD i 0 = Z.getD (((lvR k L0).take z).sum + i) 0 := fun z i hz hi => by
    rw [hRz z hz, List.getD_eq_getElem?_getD, List.getElem?_take_of_lt hi, List.getElem?_drop, ← List.getD_eq_getElem?_getD]
  -- the levels' walk
  have e160 : ∀ (q1 q5 : Nat → Int32) (rc : Nat → Nat → Int32), PlA q1 0 0 0 L0 → (∀ z, z < k → q5 z = nI ((lvR k L0).getD z 0)) → (∀ z, z < k → ∀ i, i < (lvR k L0).getD z 0 → rc z i = nI ((R.getD z []).getD i 0)) → wx_L_polyphase_104_160 (nI k) Q k (nI S) q1 q5 k S rc := by
    intro q1 q5 rc hp h5 hrc
    unfold wx_L_polyphase_104_160
    refine nm_r (e' := nI L0) hp.2.2.2 ⟨L0 + 1, by omega, ?_⟩
    refine pp165_w hk hk6 (by omega) h L0 200 q1 q5 rc R 0 0 0 (by omega) (by omega) hmono hRlen h5 (fun z hz i hi => ?_) hp ?_
    · rw [hRl z hz] at hi; exact hrc z hz i hi
    · rw [hRf]; exact ⟨Nat.zero_add _, Nat.zero_add _, Nat.zero_add _⟩
  have e89 : ∀ (q1 q5 : Nat → Int32), PlA q1 0 0 0 L0 → (∀ z, z < k → q5 z = nI ((lvR k L0).getD z 0)) → wx_L_polyphase_15_89 n f (nI k) Q k (nI S) q1 q5 := by
    intro q1 q5 hp h5
    unfold wx_L_polyphase_15_89
    refine ⟨k, rfl, hk6, S, rfl, by omega, k + 1, ?_⟩
    have k104 : ∀ (d z : Nat) (rc : Nat → Nat → Int32), z + d = k → (∀ y, y < z → ∀ i, i < (lvR k L0).getD y 0 → rc y i = nI ((R.getD y []).getD i 0)) → wl_L_polyphase_104 n f (nI k) k q5 k S (wx_L_polyphase_104_160 (nI k) Q k (nI S) q1 q5 k S) (d + 1) (nI z) rc (nI (min n ((lvR k L0).take z).sum)) := by
      intro d
      induction d with
      | zero =>
        intro z rc hz hrc
        rw [wl_L_polyphase_104_s]
        refine pk_le k z (fun _ => ?_) (fun q => absurd q (by omega))
        exact e160 q1 q5 rc hp h5 (fun y hy => hrc y (by omega))
      | succ d ih =>
        intro z rc hz hrc
        have hzk : z < k := by omega
        have hB := htk z hzk
        have hBS := htS (z + 1)
        rw [wl_L_polyphase_104_s]
        refine pk_le k z (fun q => absurd q (by omega)) (fun _ => ?_)
        refine ⟨(lvR k L0).getD z 0 + 1, ?_⟩
        have k113 : ∀ (e i : Nat) (rc' : Nat → Nat → Int32), i + e = (lvR k L0).getD z 0 → (∀ y, y ≠ z → rc' y = rc y) → (∀ y, y < i → rc' z y = nI ((R.getD z []).getD y 0)) → wl_L_polyphase_113 n f k q5 k S (nI z) (wx_L_polyphase_113_154 (nI z) (wl_L_polyphase_104 n f (nI k) k q5 k S (wx_L_polyphase_104_160 (nI k) Q k (nI S) q1 q5 k S) (d + 1))) (e + 1) (nI i) rc' (nI (min n (((lvR k L0).take z).sum + i))) := by
          intro e
          induction e with
          | zero =>
            intro i rc' hi b1 b2
            rw [wl_L_polyphase_113_s]
            refine ⟨pk_in z k (by omega), ?_⟩
            refine nm_r (e' := nI ((lvR k L0).getD z 0)) (by rw [cl_n (by omega)]; exact h5 z hzk) ?_
            refine pk_le ((lvR k L0).getD z 0) i (fun _ => ?_) (fun q => absurd q (by omega))
            unfold wx_L_polyphase_113_154
            refine nm_r (e' := nI (z + 1)) (nI_1 _) ?_
            rw [show ((lvR k L0).take z).sum + i = ((lvR k L0).take (z + 1)).sum by omega]
            refine ih (z + 1) rc' (by omega) (fun y hy i2 hi2 => ?_)
            by_cases e2 : y = z
            · subst e2; exact b2 i2 (by omega)
            · rw [b1 y e2]; exact hrc y (by omega) i2 hi2
          | succ e ihe =>
            intro i rc' hi b1 b2
            have hii : i < (lvR k L0).getD z 0 := by omega
            have hri := hRi z i hzk hii
            obtain ⟨z1, z2⟩ := hZi (((lvR k L0).take z).sum + i) (by omega)
            rw [wl_L_polyphase_113_s]
            refine ⟨pk_in z k (by omega), ?_⟩
            refine nm_r (e' := nI ((lvR k L0).getD z 0)) (by rw [cl_n (by omega)]; exact h5 z hzk) ?_
            refine pk_le ((lvR k L0).getD z 0) i (fun q => absurd q (by omega)) (fun _ => ?_)
            refine ⟨pk_in z k (by omega), ?_⟩
            refine ⟨pk_in z k (by omega), ?_⟩
            refine pk_le n (min n (((lvR k L0).take z).sum + i)) (fun c => ?_) (fun c => ?_)
            · refine ⟨pk_in i S (by omega), ?_⟩
              refine nm_r (e' := nI (i + 1)) (nI_1 _) ?_
              rw [cl_n (show z < 2 ^ 31 by omega), cl_n (show i < 2 ^ 31 by omega), show min n (((lvR k L0).take z).sum + i) = min n (((lvR k L0).take z).sum + (i + 1)) by omega]
              refine ihe (i + 1) _ (by omega) (fun y hy => by rw [va_up_at, if_neg hy]; exact b1 y hy) (fun y hy => ?_)
              rw [va_up_at, if_pos rfl]
              by_cases e2 : y = i
              · subst e2; rw [up_s, hri, z2 (by omega)]; rfl
              · rw [up_n _ e2]; exact b2 y (by omega)
            · refine nm_r (e' := nI ((min n (((lvR k L0).take z).sum + i)) + 1)) (nI_1 _) ?_
              refine ⟨pk_in (min n (((lvR k L0).take z).sum + i)) n (by omega), ?_⟩
              refine nm_r (e' := nI ((R.getD z []).getD i 0)) (by
                rw [cl_n (by omega), show min n (((lvR k L0).take z).sum + i) = ((lvR k L0).take z).sum + i by omega, hf.2 _ (by omega), hri, z1 (by omega)]) ?_
              refine ⟨pk_in i S (by omega), ?_⟩
              refine nm_r (e' := nI (i + 1)) (nI_1 _) ?_
              rw [cl_n (show z < 2 ^ 31 by omega), cl_n (show i < 2 ^ 31 by omega), show min n (((lvR k L0).take z).sum + i) + 1 = min n (((lvR k L0).take z).sum + (i + 1)) by omega]
              refine ihe (i + 1) _ (by omega) (fun y hy => by rw [va_up_at, if_neg hy]; exact b1 y hy) (fun y hy => ?_)
              rw [va_up_at, if_pos rfl]
              by_cases e2 : y = i
              · subst e2; rw [up_s]
              · rw [up_n _ e2]; exact b2 y (by omega)
        exact k113 _ 0 rc (by omega) (fun y _ => rfl) (fun y hy => absurd hy (Nat.not_lt_zero _))
    have := k104 k 0 (fun _ _ => 0) (by omega) (fun y hy => absurd hy (Nat.not_lt_zero _))
    rw [List.take_zero, List.sum_nil, Nat.min_zero] at this
    exact this
  -- the numbers of the rows, level by level
  have k15 : ∀ (d lev : Nat) (q1 q5 : Nat → Int32), lev + d = L0 → PlA q1 0 0 0 lev → (∀ z, z < k → q5 z = nI ((lvR k lev).getD z 0)) → wl_L_polyphase_15 n (nI k) k (wx_L_polyphase_15_89 n f (nI k) Q k) (d + 1) (nI (lvR k lev).sum) q1 q5 := by
    intro d
    induction d with
    | zero =>
      intro lev q1 q5 hl hp h5
      obtain rfl : lev = L0 := by omega
      rw [wl_L_polyphase_15_s]
      refine pk_le n ((lvR k lev).sum) (fun _ => ?_) (fun q => absurd q (by omega))
      rw [← hS]
      exact e89 q1 q5 hp h5
    | succ d ih =>
      intro lev q1 q5 hl hp h5
      have hlt := v4 lev (by omega)
      have hll : (lvR k lev).length = k := lvR_len (by omega) lev
      have hlu : (lvR k (lev + 1)).length = k := lvR_len (by omega) (lev + 1)
      have hus := hmono (lev + 1) (by omega)
      rw [wl_L_polyphase_15_s]
      refine pk_le n ((lvR k lev).sum) (fun q => absurd q (by omega)) (fun _ => ?_)
      refine ⟨pk_in 0 k (by omega), ?_⟩
      refine nm_r (e' := nI ((lvR k lev).getD 0 0)) (h5 0 (by omega)) ⟨k + 1, ?_⟩
      have k33 : ∀ (e i : Nat) (q5' : Nat → Int32), i + e = k → (∀ z, z < i → q5' z = nI ((lvR k (lev + 1)).getD z 0)) → (∀ z, i ≤ z → z < k → q5' z = nI ((lvR k lev).getD z 0)) → wl_L_polyphase_33 (nI k) k (nI ((lvR k lev).getD 0 0)) (wx_L_polyphase_33_79 q1 (wl_L_polyphase_15 n (nI k) k (wx_L_polyphase_15_89 n f (nI k) Q k) (d + 1))) (e + 1) (nI i) (nI ((lvR k (lev + 1)).take i).sum) q5' := by
        intro e
        induction e with
        | zero =>
          intro i q5' hi b1 b2
          rw [wl_L_polyphase_33_s]
          refine pk_le k i (fun _ => ?_) (fun q => absurd q (by omega))
          obtain ⟨g0, g1, g2, g3⟩ := hp
          unfold wx_L_polyphase_33_79
          refine nm_r (e' := nI lev) g3 ?_
          refine nm_r (e' := nI (lev + 1)) (nI_1 _) ?_
          rw [List.take_of_length_le (by omega)]
          refine ih (lev + 1) _ q5' (by omega) ?_ (fun z hz => b1 z (by omega))
          show PlA (upd q1 3 (nI (lev + 1))) _ _ _ _
          exact ⟨by rw [up_n _ (by omega)]; exact g0, by rw [up_n _ (by omega)]; exact g1, by rw [up_n _ (by omega)]; exact g2, up_s _ _ _⟩
        | succ e ihe =>
          intro i q5' hi b1 b2
          have hik : i < k := by omega
          have hu : (lvR k (lev + 1)).getD i 0 = _ := upR_getD (rows := lvR k lev) hll hik
          have hts : ((lvR k (lev + 1)).take (i + 1)).sum = ((lvR k (lev + 1)).take i).sum + (lvR k (lev + 1)).getD i 0 := sum_take_s (by omega)
          have tail : ∀ x : Nat, (lvR k lev).getD 0 0 + x = (lvR k (lev + 1)).getD i 0 → wj_L_polyphase_62 k (nI ((lvR k lev).getD 0 0)) (nI i) (nI ((lvR k (lev + 1)).take i).sum) q5' (wl_L_polyphase_33 (nI k) k (nI ((lvR k lev).getD 0 0)) (wx_L_polyphase_33_79 q1 (wl_L_polyphase_15 n (nI k) k (wx_L_polyphase_15_89 n f (nI k) Q k) (d + 1))) (e + 1)) (nI x) := by
            intro x hx
            unfold wj_L_polyphase_62
            refine nm_r (e' := nI ((lvR k (lev + 1)).getD i 0)) (by rw [nI_add, hx]) ?_
            refine ⟨pk_in i k (by omega), ?_⟩
            refine ⟨pk_in i k (by omega), ?_⟩
            refine nm_r (e' := nI ((lvR k (lev + 1)).getD i 0)) (up_s _ _ _) ?_
            refine nm_r (e' := nI ((lvR k (lev + 1)).take (i + 1)).sum) (by rw [nI_add, hts]) ?_
            refine nm_r (e' := nI (i + 1)) (nI_1 _) ?_
            rw [cl_n (show i < 2 ^ 31 by omega)]
            refine ihe (i + 1) _ (by omega) (fun z hz => ?_) (fun z hz hz2 => ?_)
            · by_cases e2 : z = i
              · subst e2; rw [up_s]
              · rw [up_n _ e2]; exact b1 z (by omega)
            · rw [up_n _ (by omega)]; exact b2 z (by omega) hz2
          rw [wl_L_polyphase_33_s]
          refine pk_le k i (fun q => absurd q (by omega)) (fun _ => ?_)
          refine nm_r (e' := nI (i + 1)) (nI_1 _) ?_
          refine pk_le k (i + 1) (fun c => ?_) (fun c => ?_)
          · rw [if_neg (by omega)] at hu
            exact tail 0 (by omega)
          · rw [if_pos (by omega)] at hu
            refine nm_r (e' := nI (i + 1)) (nI_1 _) ?_
            refine ⟨pk_in (i + 1) k (by omega), ?_⟩
            refine nm_r (e' := nI ((lvR k lev).getD (i + 1) 0)) (by rw [cl_n (by omega)]; exact b2 (i + 1) (by omega) (by omega)) ?_
            exact tail _ hu.symm
      have := k33 k 0 q5 (by omega) (fun z hz => absurd hz (Nat.not_lt_zero _)) (fun z _ hz => h5 z hz)
      rw [List.take_zero, List.sum_nil] at this
      exact this
  unfold wp_L_polyphase
  refine ⟨k, rfl, hk6, pk_in 0 k (by omega), L0 + 1, ?_⟩
  have h0 : (lvR k 0).sum = 1 := by
    show (1 :: List.replicate (k - 1) 0).sum = 1
    rw [List.sum_cons, sum_rep0]
  have := k15 L0 0 (fun _ => 0) (upd (fun _ => 0) 0 1) (by omega) ⟨rfl, rfl, rfl, rfl⟩ (fun z hz => by
    show _ = nI ((1 :: List.replicate (k - 1) 0).getD z 0)
    by_cases e : z = 0
    · subst e; rw [up_s]; rfl
    · obtain ⟨y, rfl⟩ : ∃ y, z = y + 1 := ⟨z - 1, by omega⟩
      rw [up_n _ e, List.getD_cons_succ, List.getD_eq_getElem?_getD, List.getElem?_replicate]
      split <;> rfl)
  rw [h0] at this
  exact this
theorem planned_w {n w k : Nat} {f : Nat → Int32} {ls : List Nat} {Q : Nat → (Nat → Int32) → Prop} (hf : IsA n f ls) (hn : n ≤ 100) (hs : ls.sum < 2 ^ 20) (hw : w < 3) (hk : 2 ≤ k) (hk6 : k ≤ 6) (h : ∀ q, PlA q (planOf w k ls).1 (planOf w k ls).2.1 (planOf w k ls).2.2 (arL w k n) → Q 4 q) : wp_L_planned n f (nI w) (nI k) Q := by
  have hls := hf.1
  unfold wp_L_planned
  refine nm_r (e' := nI (n + 1)) (nI_1 _) ?_
  refine ⟨n + 1, rfl, by omega, n + 1, ?_⟩
  have key : ∀ (d i : Nat) (q8 : Nat → Int32), i + d = n → (∀ z, z < i → q8 z = nI (ls.getD z 0)) → wl_L_planned_19 n f (n + 1) (wx_L_planned_19_41 n f (nI w) (nI k) Q (n + 1)) (d + 1) (nI i) q8 := by
    intro d
    induction d with
    | zero =>
      intro i q8 hi hq
      rw [wl_L_planned_19_s]
      refine pk_le n i (fun _ => ?_) (fun q => absurd q (by omega))
      unfold wx_L_planned_19_41
      refine pk_eq w 2 (fun e => ?_) (fun e => ?_)
      · subst e
        exact polyphase_w hf hn hk hk6 h
      · refine ⟨n + 1, ?_⟩
        have harL : arL w k n = 0 := by unfold arL; rw [if_neg (by omega)]
        rw [harL] at h
        have htl : toL w k ls = ls := toL_ne2 e ls
        have hpl : planOf w k ls = plGo w k 200 (arR k ls.length) ls := by unfold planOf; rw [htl]
        have := pl52_w (n8 := n + 1) (S := ls.sum) (P := (planOf w k ls).1) (V := (planOf w k ls).2.1) (M := (planOf w k ls).2.2) (L := 0) (w := w) (by omega) hk hk6 (by omega) hs h n ls (fun _ => 0) q8 0 0 0 (by omega) (by omega) rfl (fun z hz => hq z (by omega)) ⟨rfl, rfl, rfl, rfl⟩ (fun e0 => by
          subst e0
          rw [hpl, plGo_0 200 (arR k ls.length)]
          have e3 : plGo 0 k 200 [] ls = plGo 0 k n [] ls := by
            obtain ⟨x, hx⟩ : ∃ x, 200 = n + x := ⟨200 - n, by omega⟩
            rw [hx]
            have fuel : ∀ x, plGo 0 k (n + x) [] ls = plGo 0 k n [] ls := by
              intro x
              induction x with
              | zero => rfl
              | succ x ihx => rw [← ihx]; exact plGo_fuel (by decide) hk hk6 (n + x) [] ls (by omega) (fun e4 => by omega)
            exact fuel x
          rw [e3]
          exact ⟨Nat.zero_add _, Nat.zero_add _, Nat.zero_add _⟩) (fun e1 => by
          subst e1
          have a1 := plan_sho1 (k := k) 200 (arR k ls.length) ls (by omega)
          rw [← hpl] at a1
          have a2 := plan_sho (k := k) (ls := ls) (by omega)
          exact ⟨by omega, by omega, by omega⟩)
        rw [← hls] at this
        exact this
    | succ d ih =>
      intro i q8 hi hq
      rw [wl_L_planned_19_s]
      refine pk_le n i (fun q => absurd q (by omega)) (fun _ => ?_)
      refine ⟨pk_in i n (by omega), ?_⟩
      refine nm_r (e' := nI (ls.getD i 0)) (by rw [cl_n (by omega)]; exact hf.2 i (by omega)) ?_
      refine ⟨pk_in i (n + 1) (by omega), ?_⟩
      refine nm_r (e' := nI (i + 1)) (nI_1 _) ?_
      rw [cl_n (by omega)]
      refine ih (i + 1) _ (by omega) (fun z hz => ?_)
      by_cases e : z = i
      · subst e; rw [up_s]
      · rw [up_n _ e]; exact hq z (by omega)
  exact key n 0 _ (by omega) (fun z hz => absurd hz (Nat.not_lt_zero _))
