/-! polyphase by rows -/
theorem drop_getD (l : List Nat) (a i : Nat) : (l.drop a).getD i 0 = l.getD (a + i) 0 := by
  rw [List.getD_eq_getElem?_getD, List.getElem?_drop, ← List.getD_eq_getElem?_getD]
theorem lv_first {k : Nat} (hk : 2 ≤ k) : ∀ lev, 1 ≤ (lvR k lev).getD 0 0 := by
  intro lev
  induction lev with
  | zero => exact Nat.le_refl _
  | succ lev ih =>
    show 1 ≤ (upR (lvR k lev)).getD 0 0
    rw [upR_getD (lvR_len (by omega) lev) (by omega : 0 < k)]
    split <;> omega
theorem lv_two {k : Nat} (hk : 2 ≤ k) (lev : Nat) : 2 ≤ (lvR k (lev + 1)).sum := by
  have h1 := upR_sum (k := k) (rows := lvR k lev) (by omega) (lvR_len (by omega) lev)
  have h2 := lv_first hk lev
  have h3 : 2 * (lvR k lev).getD 0 0 ≤ k * (lvR k lev).getD 0 0 := Nat.mul_le_mul_right _ hk
  have h4 := getD_le_sum (lvR k lev) 0
  show 2 ≤ (upR (lvR k lev)).sum
  omega
theorem lv_ge {k : Nat} (lev : Nat) : ∀ x ∈ lvR k (lev + 1), (lvR k lev).getD 0 0 ≤ x := by
  intro x hx
  have hh : (lvR k lev).headD 0 = (lvR k lev).getD 0 0 := by cases lvR k lev <;> rfl
  have hx2 : x ∈ ((lvR k lev).drop 1).map (fun r => (lvR k lev).headD 0 + r) ++ [(lvR k lev).headD 0] := hx
  rcases List.mem_append.mp hx2 with h | h
  · obtain ⟨r, -, e⟩ := List.mem_map.mp h
    have e' : (lvR k lev).headD 0 + r = x := e
    omega
  · have := List.mem_singleton.mp h
    omega
theorem va_up_at {α : Type} (f : Nat → α) (j : Nat) (v : α) (z : Nat) : va_up f j v z = if z = j then v else f z := by
  by_cases e : z = j
  · subst e; rw [if_pos rfl, va_up_self]
  · rw [if_neg e, va_up_ne' e]
theorem lens_row {R : List (List Nat)} {l : List Nat} (h : R.map List.length = l) (z : Nat) : (R.getD z []).length = l.getD z 0 := by
  rw [← h]; exact (lens_getD R z).symm
/-- the levels of polyphase, from any one down -/
theorem pp165_w {k S L0 : Nat} {Q : Nat → (Nat → Int32) → Prop} {P V M : Nat} (hk : 2 ≤ k) (hk6 : k ≤ 6) (hS : S ≤ 200) (h : ∀ q, PlA q P V M L0 → Q 4 q) : ∀ (lev f : Nat) (q1 q5 : Nat → Int32) (rc : Nat → Nat → Int32) (R : List (List Nat)) (p v m : Nat), lev ≤ f → lev < 2 ^ 20 → (∀ l, l ≤ lev → (lvR k l).sum ≤ S) → R.map List.length = lvR k lev → (∀ z, z < k → q5 z = nI ((lvR k lev).getD z 0)) → (∀ z, z < k → ∀ i, i < (R.getD z []).length → rc z i = nI ((R.getD z []).getD i 0)) → PlA q1 p v m L0 → p + (plGo 2 k f (lvR k lev) R.flatten).1 = P ∧ v + (plGo 2 k f (lvR k lev) R.flatten).2.1 = V ∧ m + (plGo 2 k f (lvR k lev) R.flatten).2.2 = M → wl_L_polyphase_165 (nI k) k (nI S) k S (wx_L_polyphase_165_340 Q) (lev + 1) (nI lev) q1 q5 rc := by
  intro lev
  induction lev with
  | zero =>
    intro f q1 q5 rc R p v m hf hlv hsum hR h5 hrc hp hpl
    rw [wl_L_polyphase_165_s]
    refine pk_le 0 0 (fun _ => ?_) (fun z => absurd z (by omega))
    have hfl : R.flatten.length ≤ 1 := by
      have e : (lens R).sum = R.flatten.length := lens_sum R
      have e2 : lens R = lvR k 0 := hR
      rw [e2] at e
      have e3 : (lvR k 0).sum = 1 := by
        show (1 :: List.replicate (k - 1) 0).sum = 1
        rw [List.sum_cons, sum_rep0]
      omega
    rw [pl_done hfl] at hpl
    obtain ⟨a1, a2, a3⟩ := hpl
    have a1' : p = P := a1
    have a2' : v = V := a2
    have a3' : m = M := a3
    refine h q1 ?_
    rw [← a1', ← a2', ← a3']; exact hp
  | succ lev ih =>
    intro f q1 q5 rc R p v m hf hlv hsum hR h5 hrc hp hpl
    obtain ⟨mg, hmg⟩ : ∃ mg, mg = (lvR k lev).getD 0 0 := ⟨_, rfl⟩
    have hl0 : (lvR k lev).length = k := lvR_len (by omega) lev
    have hl1 : (lvR k (lev + 1)).length = k := lvR_len (by omega) (lev + 1)
    have hRl : R.length = k := by rw [← hl1, ← hR, List.length_map]
    have hlast : (lvR k (lev + 1)).getD (k - 1) 0 = mg := by rw [hmg]; exact upR_last (by omega) hl0
    have hge : ∀ r ∈ R, mg ≤ r.length := fun r hr => by
      rw [hmg]
      exact lv_ge lev _ (by rw [← hR]; exact List.mem_map_of_mem hr)
    have hRz : ∀ z, (R.getD z []).length = (lvR k (lev + 1)).getD z 0 := lens_row hR
    have hS1 : (lvR k (lev + 1)).sum ≤ S := hsum _ (Nat.le_refl _)
    have hzS : ∀ z, (lvR k (lev + 1)).getD z 0 ≤ S := fun z => Nat.le_trans (getD_le_sum _ _) hS1
    have hgez : ∀ z, z < k → mg ≤ (R.getD z []).length := fun z hz => hge _ (getD_mem2 (by omega))
    have hmS : mg ≤ S := by rw [← hlast]; exact hzS _
    have hfl : R.flatten.length = (lvR k (lev + 1)).sum := by
      rw [← lens_sum R]; show (R.map List.length).sum = _; rw [hR]
    have h2 : 2 ≤ R.flatten.length := by rw [hfl]; exact lv_two hk lev
    have hsub : ∀ z, z + 1 < k → (lvR k (lev + 1)).getD z 0 - mg = (lvR k lev).getD (z + 1) 0 := fun z hz => by
      have e : (lvR k (lev + 1)).getD z 0 = _ := upR_getD (rows := lvR k lev) hl0 (by omega : z < k)
      rw [e, if_pos hz, hmg, Nat.add_sub_cancel_left]
    obtain ⟨f', rfl⟩ : ∃ f', f = f' + 1 := ⟨f - 1, by omega⟩
    -- the plan's own step
    have hcl : clR mg (lvR k (lev + 1)) = lvR k lev := by rw [hmg]; exact clR_up (by omega) hl0
    have hcM : chM 2 k (lvR k (lev + 1)) R.flatten = mg := hlast
    have hg0 := pp_grS (k := k) (mg := mg) (R := R) (by rw [hR]; exact hlast) hge
    have hn0 := pp_nx (k := k) (mg := mg) (R := R) hRl hk (by rw [hR]; exact hlast) hge
    rw [hR] at hg0 hn0
    have hst : plGo 2 k (f' + 1) (lvR k (lev + 1)) R.flatten = ((plGo 2 k f' (lvR k lev) (ppS R mg).flatten).1 + 1, (plGo 2 k f' (lvR k lev) (ppS R mg).flatten).2.1 + (ppM R mg).sum, (plGo 2 k f' (lvR k lev) (ppS R mg).flatten).2.2 + mg) := by
      show (if R.flatten.length ≤ 1 then (0, 0, 0) else _) = _
      rw [if_neg (by omega)]
      rw [hg0, hn0, hcM, hcl]
    have s1 : (plGo 2 k (f' + 1) (lvR k (lev + 1)) R.flatten).1 = (plGo 2 k f' (lvR k lev) (ppS R mg).flatten).1 + 1 := by rw [hst]
    have s2 : (plGo 2 k (f' + 1) (lvR k (lev + 1)) R.flatten).2.1 = (plGo 2 k f' (lvR k lev) (ppS R mg).flatten).2.1 + (ppM R mg).sum := by rw [hst]
    have s3 : (plGo 2 k (f' + 1) (lvR k (lev + 1)) R.flatten).2.2 = (plGo 2 k f' (lvR k lev) (ppS R mg).flatten).2.2 + mg := by rw [hst]
    have hRl2 : (ppS R mg).map List.length = lvR k lev := by rw [pp_len (k := k) hge, hR]; exact hcl
    have hpM : (ppM R mg).length = mg := by unfold ppM; rw [List.length_map, List.length_range]
    have hpMi : ∀ i, i < mg → (ppM R mg).getD i 0 = (R.map (fun r => r.getD i 0)).sum := fun i hi => by
      unfold ppM
      rw [List.getD_eq_getElem?_getD, List.getElem?_map, List.getElem?_range hi]; rfl
    have hS0 : (ppS R mg).getD 0 [] = ppM R mg := rfl
    have hSz : ∀ z, z + 1 < k → (ppS R mg).getD (z + 1) [] = (R.getD z []).drop mg := fun z hz => by
      unfold ppS
      rw [List.getD_cons_succ, List.getD_eq_getElem?_getD, List.getElem?_map, List.getElem?_dropLast, if_pos (by omega), List.getD_eq_getElem?_getD, List.getElem?_eq_getElem (by omega)]; rfl
    rw [wl_L_polyphase_165_s]
    refine pk_le (lev + 1) 0 (fun q => absurd q (by omega)) (fun _ => ?_)
    refine nm_r (e' := nI (k - 1)) (pk_sub (b := 1) (by omega)) ?_
    refine ⟨pk_in (k - 1) k (by omega), ?_⟩
    refine nm_r (e' := nI mg) (by rw [cl_n (by omega), h5 (k - 1) (by omega), hlast]) ?_
    refine ⟨S, rfl, hS, mg + 1, ?_⟩
    -- behind the merges: the rows move on
    have e253 : ∀ (q1' q179 q5' : Nat → Int32) (rc' : Nat → Nat → Int32), PlA q1' p (v + (ppM R mg).sum) (m + mg) L0 → (∀ z, z < mg → q179 z = nI ((ppM R mg).getD z 0)) → (∀ y, 0 < y → y < k → q5' y = nI ((lvR k lev).getD y 0)) → (∀ y, y + 1 < k → ∀ i, i < (lvR k lev).getD (y + 1) 0 → rc' (y + 1) i = nI ((R.getD y []).getD (mg + i) 0)) → wx_L_polyphase_253_316 k k S (nI (lev + 1)) (wl_L_polyphase_165 (nI k) k (nI S) k S (wx_L_polyphase_165_340 Q) (lev + 1)) (nI mg) S q1' q179 q5' rc' := by
      intro q1' q179 q5' rc' hp' h179 hq5 hrc'
      obtain ⟨g0, g1, g2, g3⟩ := hp'
      unfold wx_L_polyphase_253_316
      refine ⟨pk_in 0 k (by omega), ?_⟩
      refine ⟨pk_in 0 k (by omega), ?_⟩
      refine ⟨⟨by show 0 < k; omega, rfl⟩, ?_⟩
      refine nm_r (e' := nI p) g0 ?_
      refine nm_r (e' := nI (p + 1)) (nI_1 _) ?_
      refine nm_r (e' := nI lev) (ng_1 lev) ?_
      refine ih f' _ _ _ (ppS R mg) (p + 1) (v + (ppM R mg).sum) (m + mg) (by omega) (by omega) (fun l hl => hsum l (by omega)) hRl2 (fun z hz => ?_) (fun z hz i hi => ?_) ?_ ⟨by omega, by omega, by omega⟩
      · by_cases e : z = 0
        · subst e
          show upd q5' 0 (nI mg) 0 = _
          rw [up_s, hmg]
        · show upd q5' 0 (nI mg) z = _
          rw [up_n _ e]; exact hq5 z (by omega) hz
      · show va_up rc' 0 q179 z i = _
        rw [va_up_at]
        by_cases e : z = 0
        · subst e
          rw [if_pos rfl, hS0]
          rw [hS0, hpM] at hi
          exact h179 i hi
        · obtain ⟨y, rfl⟩ : ∃ y, z = y + 1 := ⟨z - 1, by omega⟩
          have hi2 : i < (lvR k lev).getD (y + 1) 0 := by rw [← lens_row hRl2]; exact hi
          rw [if_neg e, hSz y hz, hrc' y hz i hi2, drop_getD]
      · show PlA (upd q1' 0 (nI (p + 1))) _ _ _ _
        exact ⟨up_s _ _ _, by rw [up_n _ (by omega)]; exact g1, by rw [up_n _ (by omega)]; exact g2, by rw [up_n _ (by omega)]; exact g3⟩
    have k253 : ∀ (q1' q179 : Nat → Int32), PlA q1' p (v + (ppM R mg).sum) (m + mg) L0 → (∀ z, z < mg → q179 z = nI ((ppM R mg).getD z 0)) → ∀ (z : Nat) (q5' : Nat → Int32) (rc' : Nat → Nat → Int32), z < k → (∀ y, y ≤ z → q5' y = nI ((lvR k (lev + 1)).getD y 0)) → (∀ y, z < y → y < k → q5' y = nI ((lvR k lev).getD y 0)) → (∀ y, y ≤ z → rc' y = rc y) → (∀ y, z < y + 1 → y + 1 < k → ∀ i, i < (lvR k lev).getD (y + 1) 0 → rc' (y + 1) i = nI ((R.getD y []).getD (mg + i) 0)) → wl_L_polyphase_253 k k S (nI mg) (wx_L_polyphase_253_316 k k S (nI (lev + 1)) (wl_L_polyphase_165 (nI k) k (nI S) k S (wx_L_polyphase_165_340 Q) (lev + 1)) (nI mg) S q1' q179) (z + 1) (nI z) q5' rc' := by
      intro q1' q179 hp' h179 z
      induction z with
      | zero =>
        intro q5' rc' hz w1 w2 w3 w4
        rw [wl_L_polyphase_253_s]
        refine pk_le 0 0 (fun _ => ?_) (fun z => absurd z (by omega))
        exact e253 q1' q179 q5' rc' hp' h179 (fun y hy hy2 => w2 y hy hy2) (fun y hy i hi => w4 y (by omega) hy i hi)
      | succ z ihz =>
        intro q5' rc' hz w1 w2 w3 w4
        have hX := hsub z hz
        have hzz := hzS z
        rw [wl_L_polyphase_253_s]
        refine pk_le (z + 1) 0 (fun q => absurd q (by omega)) (fun _ => ?_)
        refine nm_r (e' := nI z) (pk_sub (b := 1) (by omega)) ?_
        refine ⟨pk_in z k (by omega), ?_⟩
        refine nm_r (e' := nI ((lvR k (lev + 1)).getD z 0)) (by rw [cl_n (by omega)]; exact w1 z (by omega)) ?_
        have hmz : mg ≤ (lvR k (lev + 1)).getD z 0 := by rw [← hRz]; exact hgez z (by omega)
        refine nm_r (e' := nI ((lvR k lev).getD (z + 1) 0)) (by rw [pk_sub hmz, hX]) ?_
        refine ⟨pk_in (z + 1) k (by omega), ?_⟩
        refine ⟨(lvR k lev).getD (z + 1) 0 + 1, ?_⟩
        have k274 : ∀ (e i : Nat) (rc'' : Nat → Nat → Int32), i + e = (lvR k lev).getD (z + 1) 0 → (∀ y, y ≠ z + 1 → rc'' y = rc' y) → (∀ y, y < i → rc'' (z + 1) y = nI ((R.getD z []).getD (mg + y) 0)) → wl_L_polyphase_274 k k S (nI mg) (nI (z + 1)) q5' (nI ((lvR k lev).getD (z + 1) 0)) (wx_L_polyphase_274_310 (nI (z + 1)) q5' (wl_L_polyphase_253 k k S (nI mg) (wx_L_polyphase_253_316 k k S (nI (lev + 1)) (wl_L_polyphase_165 (nI k) k (nI S) k S (wx_L_polyphase_165_340 Q) (lev + 1)) (nI mg) S q1' q179) (z + 1)) (nI ((lvR k lev).getD (z + 1) 0))) (e + 1) (nI i) rc'' := by
          intro e
          induction e with
          | zero =>
            intro i rc'' hi b1 b2
            rw [wl_L_polyphase_274_s]
            refine ⟨pk_in (z + 1) k (by omega), ?_⟩
            refine nm_r (e' := nI ((lvR k lev).getD (z + 1) 0)) (up_s _ _ _) ?_
            refine pk_le ((lvR k lev).getD (z + 1) 0) i (fun _ => ?_) (fun q => absurd q (by omega))
            unfold wx_L_polyphase_274_310
            refine nm_r (e' := nI z) (ng_1 z) ?_
            rw [cl_n (show z + 1 < 2 ^ 31 by omega)]
            refine ihz _ rc'' (by omega) (fun y hy => ?_) (fun y hy hy2 => ?_) (fun y hy => ?_) (fun y hy hy2 i2 hi2 => ?_)
            · rw [up_n _ (by omega)]; exact w1 y (by omega)
            · by_cases e2 : y = z + 1
              · subst e2; rw [up_s]
              · rw [up_n _ e2]; exact w2 y (by omega) hy2
            · rw [b1 y (by omega)]; exact w3 y (by omega)
            · by_cases e2 : y = z
              · subst e2; exact b2 i2 (by omega)
              · rw [b1 (y + 1) (by omega)]; exact w4 y (by omega) hy2 i2 hi2
          | succ e ihe =>
            intro i rc'' hi b1 b2
            have hiX : i < (lvR k lev).getD (z + 1) 0 := by omega
            rw [wl_L_polyphase_274_s]
            refine ⟨pk_in (z + 1) k (by omega), ?_⟩
            refine nm_r (e' := nI ((lvR k lev).getD (z + 1) 0)) (up_s _ _ _) ?_
            refine pk_le ((lvR k lev).getD (z + 1) 0) i (fun q => absurd q (by omega)) (fun _ => ?_)
            refine ⟨pk_in (z + 1) k (by omega), ?_⟩
            refine ⟨pk_in (z + 1) k (by omega), ?_⟩
            refine nm_r (e' := nI z) (pk_sub (b := 1) (by omega)) ?_
            refine ⟨pk_in z k (by omega), ?_⟩
            refine ⟨pk_in z k (by omega), ?_⟩
            refine nm_r (e' := nI (i + mg)) (nI_add _ _) ?_
            refine ⟨pk_in (i + mg) S (by omega), ?_⟩
            refine nm_r (e' := nI ((R.getD z []).getD (mg + i) 0)) (by
              rw [cl_n (by omega), cl_n (by omega), b1 z (by omega), w3 z (by omega), hrc z (by omega) (i + mg) (by rw [hRz]; omega), Nat.add_comm]) ?_
            refine ⟨pk_in i S (by omega), ?_⟩
            refine nm_r (e' := nI (i + 1)) (nI_1 _) ?_
            rw [cl_n (show z + 1 < 2 ^ 31 by omega), cl_n (show i < 2 ^ 31 by omega)]
            refine ihe (i + 1) _ (by omega) (fun y hy => ?_) (fun y hy => ?_)
            · rw [va_up_at, if_neg hy]; exact b1 y hy
            · rw [va_up_at, if_pos rfl]
              by_cases e2 : y = i
              · subst e2; rw [up_s]
              · rw [up_n _ e2]; exact b2 y (by omega)
        exact k274 _ 0 rc' (by omega) (fun y _ => rfl) (fun y hy => absurd hy (Nat.not_lt_zero _))
    have k186 : ∀ (e i : Nat) (q1' q179 : Nat → Int32), i + e = mg → (∀ z, z < i → q179 z = nI ((ppM R mg).getD z 0)) → (∀ z, i ≤ z → q179 z = nI 0) → PlA q1' p (v + ((ppM R mg).take i).sum) (m + i) L0 → wl_L_polyphase_186 (nI k) k S rc (nI mg) S (wx_L_polyphase_186_248 (nI k) k k S (nI (lev + 1)) q5 rc (wl_L_polyphase_165 (nI k) k (nI S) k S (wx_L_polyphase_165_340 Q) (lev + 1)) (nI mg) S) (e + 1) (nI i) q1' q179 := by
      intro e
      induction e with
      | zero =>
        intro i q1' q179 hi b1 b2 b3
        rw [wl_L_polyphase_186_s]
        refine pk_le mg i (fun _ => ?_) (fun q => absurd q (by omega))
        obtain rfl : i = mg := by omega
        rw [List.take_of_length_le (by omega)] at b3
        unfold wx_L_polyphase_186_248
        refine nm_r (e' := nI (k - 1)) (pk_sub (b := 1) (by omega)) ⟨k - 1 + 1, ?_⟩
        exact k253 q1' q179 b3 b1 (k - 1) q5 rc (by omega) (fun y hy => h5 y (by omega)) (fun y hy hy2 => absurd hy2 (by omega)) (fun y _ => rfl) (fun y hy hy2 => absurd hy2 (by omega))
      | succ e ihe =>
        intro i q1' q179 hi b1 b2 b3
        have himg : i < mg := by omega
        rw [wl_L_polyphase_186_s]
        refine pk_le mg i (fun q => absurd q (by omega)) (fun _ => ?_)
        refine ⟨k + 1, ?_⟩
        have k196 : ∀ (e2 c : Nat) (q' : Nat → Int32), c + e2 = k → (∀ z, z ≠ i → q' z = q179 z) → q' i = nI (((R.take c).map (fun r => r.getD i 0)).sum) → wl_L_polyphase_196 (nI k) k S rc S (nI i) (wx_L_polyphase_196_224 S (nI i) q1' (wl_L_polyphase_186 (nI k) k S rc (nI mg) S (wx_L_polyphase_186_248 (nI k) k k S (nI (lev + 1)) q5 rc (wl_L_polyphase_165 (nI k) k (nI S) k S (wx_L_polyphase_165_340 Q) (lev + 1)) (nI mg) S) (e + 1))) (e2 + 1) (nI c) q' := by
          intro e2
          induction e2 with
          | zero =>
            intro c q' hc c1 c2
            rw [wl_L_polyphase_196_s]
            refine pk_le k c (fun _ => ?_) (fun q => absurd q (by omega))
            rw [List.take_of_length_le (by omega), ← hpMi i himg] at c2
            obtain ⟨g0, g1, g2, g3⟩ := b3
            unfold wx_L_polyphase_196_224
            refine nm_r (e' := nI (v + ((ppM R mg).take i).sum)) g1 ?_
            refine ⟨pk_in i S (by omega), ?_⟩
            refine nm_r (e' := nI ((ppM R mg).getD i 0)) (by rw [cl_n (by omega)]; exact c2) ?_
            refine nm_r (e' := nI (v + ((ppM R mg).take i).sum + (ppM R mg).getD i 0)) (nI_add _ _) ?_
            refine nm_r (e' := nI (m + i)) (by
              show upd q1' 1 _ 2 = nI (m + i)
              rw [up_n _ (by omega)]; exact g2) ?_
            refine nm_r (e' := nI ((m + i) + 1)) (nI_1 _) ?_
            refine nm_r (e' := nI (i + 1)) (nI_1 _) ?_
            refine ihe (i + 1) _ q' (by omega) (fun z hz => ?_) (fun z hz => ?_) ?_
            · by_cases e3 : z = i
              · subst e3; exact c2
              · rw [c1 z e3]; exact b1 z (by omega)
            · rw [c1 z (by omega)]; exact b2 z (by omega)
            · show PlA (upd (upd q1' 1 _) 2 _) _ _ _ _
              rw [sum_take_s (by omega)]
              exact ⟨by rw [up_n _ (by omega), up_n _ (by omega)]; exact g0, by rw [up_n _ (by omega), up_s, Nat.add_assoc], up_s _ _ _, by rw [up_n _ (by omega), up_n _ (by omega)]; exact g3⟩
          | succ e2 ihe2 =>
            intro c q' hc c1 c2
            rw [wl_L_polyphase_196_s]
            refine pk_le k c (fun q => absurd q (by omega)) (fun _ => ?_)
            refine ⟨pk_in i S (by omega), ?_⟩
            refine nm_r (e' := nI (((R.take c).map (fun r => r.getD i 0)).sum)) (by rw [cl_n (by omega)]; exact c2) ?_
            refine ⟨pk_in c k (by omega), ?_⟩
            refine ⟨pk_in c k (by omega), ?_⟩
            refine ⟨pk_in i S (by omega), ?_⟩
            refine nm_r (e' := nI ((R.getD c []).getD i 0)) (by
              rw [cl_n (by omega), cl_n (by omega)]
              exact hrc c (by omega) i (Nat.lt_of_lt_of_le himg (hgez c (by omega)))) ?_
            refine nm_r (e' := nI (((R.take (c + 1)).map (fun r => r.getD i 0)).sum)) (by
              rw [nI_add, take_s2 (by omega), List.map_append, List.sum_append]
              simp) ?_
            refine ⟨pk_in i S (by omega), ?_⟩
            refine nm_r (e' := nI (c + 1)) (nI_1 _) ?_
            rw [cl_n (show i < 2 ^ 31 by omega)]
            exact ihe2 (c + 1) _ (by omega) (fun z hz => by rw [up_n _ hz]; exact c1 z hz) (up_s _ _ _)
        exact k196 k 0 q179 (by omega) (fun z _ => rfl) (b2 i (Nat.le_refl _))
    exact k186 mg 0 q1 _ (by omega) (fun z hz => absurd hz (Nat.not_lt_zero _)) (fun z _ => rfl) hp
