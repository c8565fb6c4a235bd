/-! runs told are runs -/
theorem areRuns_w {o : OS} {ks : Nat → Int} {c : Nat} {T : Nat → List Nat} {s : SS} {tx : List Nat} {J : Option JS} {j od w m : Nat} {Q : Bool → OS → Prop} (h : Off o ks c T s tx J) (hj : j < 8) (ho : od < 2) (hw : w < 3) (hm : 1 ≤ m) (hm2 : m ≤ 50) (hl : (T j).length ≤ 41) (hQ : ∀ o', Off o' ks c T (od, w, m, s.2.2.2) tx J → Q true o') : wp_L_areRuns o (nI j) (nI od) (nI w) (nI m) Q := by
  have hc := h.c2
  have rL := h.rec (j := j) (by omega)
  obtain ⟨R, hR⟩ : ∃ R, R = rnO ks (od, w, m, s.2.2.2) (T j) := ⟨_, rfl⟩
  have hR2 : R = mkR w m (rks ks od (T j)) := hR
  obtain ⟨rp, rs⟩ : R.flatten.Perm (rks ks od (T j)) ∧ ∀ r ∈ R, r ≠ [] ∧ r.Pairwise (· ≤ ·) := by rw [hR]; exact runs_ok hw hm
  obtain ⟨ln1, ln2⟩ : R.length ≤ (T j).length ∧ R.flatten.length = (T j).length := by rw [hR]; exact runs_len hw hm
  have hmod : ∀ x ∈ R.flatten, rk ks od (x % 256) = x ∧ x % 256 < c := fun x hx => by
    obtain ⟨r, hr, e⟩ := List.mem_map.mp (rp.mem_iff.mp hx)
    have hrc := rL r hr
    rw [← e, rk_mod (by omega)]
    exact ⟨rfl, hrc⟩
  have fl0 : ∀ k, k < R.length → 1 ≤ (R.getD k []).length := fun k hk => List.length_pos_iff.mpr (rs _ (getD_mem2 hk)).1
  have tf : ∀ k, k < R.length → (R.take (k + 1)).flatten.length = (R.take k).flatten.length + (R.getD k []).length := fun k hk => by
    rw [take_s2 hk, List.flatten_append, List.length_append, List.flatten_cons, List.flatten_nil, List.append_nil]
  have hln : (rks ks od (T j)).length = (T j).length := rks_len _ _ _
  have hperm : srt ks od (R.flatten.map (fun x => x % 256)) = srt ks od (T j) := by
    unfold srt
    have e : rks ks od (R.flatten.map (fun x => x % 256)) = R.flatten := by
      unfold rks
      rw [List.map_map]
      have : ∀ x ∈ R.flatten, (rk ks od ∘ fun x => x % 256) x = id x := fun x hx => (hmod x hx).1
      rw [List.map_congr_left this, List.map_id]
    rw [e, ms_eq rp]
  unfold wp_L_areRuns
  refine setRuns_o h ho hw hm hm2 (fun o1 h1 => ?_)
  refine tape_w h1 hj (fun q8 a8 => ?_)
  refine lengths_w h1 hj (fun o2 q14 h2 a14 => ?_)
  rw [← hR] at a14 ⊢
  have its : ∀ k, k < R.length → q14 k = nI (R.getD k []).length := fun k hk => by rw [a14.2 k (by rw [lens_len]; exact hk), lens_getD]
  refine ⟨(T j).length, rfl, by omega, R.length + 1, by omega, ?_⟩
  -- the end
  have e379 : ∀ (o' : OS) (s' : SS), Off o' ks c T s' tx J → s'.2.2.2 = s.2.2.2 → wj_L_areRuns_379 (nI od) (nI w) (nI m) Q o' := by
    intro o' s' h' hs'
    unfold wj_L_areRuns_379
    exact setRuns_o h' ho hw hm hm2 (fun o3 h3 => hQ o3 (by rw [hs'] at h3; exact h3))
  have e311 : ∀ o', Off o' ks c T (od, w, m, s.2.2.2) tx J → wj_L_areRuns_311 (nI j) (nI od) (nI w) (nI m) Q R.length o' := by
    intro o' h'
    unfold wj_L_areRuns_311
    refine pk_eq w 1 (fun e => ?_) (fun _ => hQ _ h')
    refine setRuns_o (b := 2) h' ho (by decide) hm hm2 (fun o3 h3 => ?_)
    have hN : ∀ s4 : SS, (rnO ks (od, 2, m, s4.2.2.2) (T j)).length = cN (rks ks od (T j)) := fun s4 => rfl
    have hg : R.length ≤ cN (rks ks od (T j)) := by
      rw [hR2, e]
      exact (replR_good (rks ks od (T j)) hm).2.2.2
    have hcl : cN (rks ks od (T j)) ≤ (T j).length := by
      have := natR_len (rks ks od (T j))
      rw [hln] at this
      exact this
    have hso : ordB ks od (T j) = decide (cN (rks ks od (T j)) ≤ 1) := by
      by_cases e2 : cN (rks ks od (T j)) ≤ 1
      · rw [decide_eq_true e2]; exact ordB_pw.mpr (cN_1.mp e2)
      · rw [decide_eq_false e2]
        cases e3 : ordB ks od (T j) with
        | false => rfl
        | true => exact absurd (cN_1.mpr (ordB_pw.mp e3)) e2
    refine runs_o h3 hj (fun o4 h4 => ?_)
    rw [hN s]
    refine pk_lt (cN (rks ks od (T j))) R.length (fun q => absurd q (by omega)) (fun _ => ?_)
    refine isSorted_o h4 hj ho ?_
    refine runs_o h4 hj (fun o5 h5 => ?_)
    rw [hN s]
    have fin : ∀ b : Bool, b = ordB ks od (T j) → wj_L_areRuns_358 (nI j) (nI od) (nI w) (nI m) Q R.length (ordB ks od (T j)) o5 b := by
      intro b hb
      subst hb
      unfold wj_L_areRuns_358
      refine ⟨fun _ => ?_, fun z => absurd rfl z⟩
      refine isSorted_o h5 hj ho ⟨fun _ => e379 _ _ h5 rfl, fun e2 => ?_⟩
      rw [hso] at e2
      have e3 := of_decide_eq_true e2
      refine pk_le R.length 1 (fun _ => ?_) (fun q => absurd q (by omega))
      exact e379 _ _ h5 rfl
    refine pk_lt 1 (cN (rks ks od (T j))) (fun e2 => ?_) (fun e2 => ?_)
    · exact fin false (by rw [hso]; exact (decide_eq_false (by omega)).symm)
    · exact fin true (by rw [hso]; exact (decide_eq_true (by omega)).symm)
  have e268 : ∀ o', Off o' ks c T (od, w, m, s.2.2.2) tx J → wj_L_areRuns_268 (nI j) (nI od) (nI w) (nI m) Q R.length q14 o' := by
    intro o' h'
    unfold wj_L_areRuns_268
    unfold wp_L_asks_6
    have x1 := fun (Q' : Int32 → OS → Prop) (X' : String → OS → Prop) (hX : ∀ o'', Off o'' ks c T (od, w, m, s.2.2.2) tx J → X' eIO o'') => runAt_x1 (i := 0) (Q := Q') (X := X') h' hj hX
    rw [← hR] at x1
    refine x1 _ _ (fun o3 h3 => Or.inl ⟨rfl, fun _ => ?_, fun z => absurd rfl z⟩)
    refine pk_le R.length 0 (fun _ => e311 _ h3) (fun hpos => ?_)
    refine ⟨pk_in 0 R.length (by omega), ?_⟩
    refine nm_r (e' := nI (R.getD 0 []).length) (its 0 hpos) ?_
    have x2 := fun (Q' : Int32 → OS → Prop) (X' : String → OS → Prop) (hk : 0 < (rnO ks (od, w, m, s.2.2.2) (T j)).length) (hX : ∀ o'', Off o'' ks c T (od, w, m, s.2.2.2) tx J → X' eIO o'') => runAt_x2 (Q := Q') (X := X') h3 hj hk hX
    rw [← hR] at x2
    exact x2 _ _ hpos (fun o4 h4 => Or.inl ⟨rfl, fun _ => e311 _ h4, fun z => absurd rfl z⟩)
  have v20 : ∀ W : List Nat, (∀ r ∈ W, r < c) → ∀ r ∈ W, r < 2 ^ 20 := fun W hW r hr => by have := hW r hr; omega
  have rM : ∀ r ∈ R.flatten.map (fun x => x % 256), r < c := fun r hr => by
    obtain ⟨x, hx, e⟩ := List.mem_map.mp hr
    rw [← e]; exact (hmod x hx).2
  have e224 : ∀ (o' : OS) (q : Nat → Int32), Off o' ks c T (od, w, m, s.2.2.2) tx J → (∀ z, z < R.flatten.length → q z = nI (R.flatten.getD z 0 % 256)) → wx_L_areRuns_38_224 (nI j) (nI od) (nI w) (nI m) Q (T j).length q8 R.length q14 (T j).length o' (nI R.flatten.length) q := by
    intro o' q h' hq
    have aq : IsA (T j).length q (R.flatten.map (fun x => x % 256)) := ⟨by rw [List.length_map]; exact ln2.symm, fun z hz => by
      rw [List.length_map] at hz
      rw [hq z hz, List.getD_eq_getElem?_getD, List.getD_eq_getElem?_getD, List.getElem?_map, List.getElem?_eq_getElem hz]; rfl⟩
    unfold wx_L_areRuns_38_224
    rw [ln2]
    refine ⟨fun _ => ?_, fun z => absurd rfl z⟩
    refine sorted_s_w h' aq hl rM ho (fun q40 a40 => ?_)
    refine sorted_s_w h' a8 hl rL ho (fun q46 a46 => ?_)
    refine same_t a40 a46 hperm (by omega) (fun r hr => ?_) ?_
    · rw [hperm] at hr
      exact v20 _ rL r ((srt_perm (fun r hr => by have := rL r hr; omega)).mem_iff.mp hr)
    refine ⟨fun z => (by cases z), fun _ => ?_⟩
    refine pk_eq w 2 (fun e => ?_) (fun _ => e268 _ h')
    have e2 : R.flatten.map (fun x => x % 256) = T j := by
      rw [hR2, e]
      show (natR (rks ks od (T j))).flatten.map (fun x => x % 256) = T j
      rw [natR_flat]
      unfold rks
      rw [List.map_map]
      have : ∀ x ∈ T j, ((fun x => x % 256) ∘ rk ks od) x = id x := fun x hx => rk_mod (by have := rL x hx; omega)
      rw [List.map_congr_left this, List.map_id]
    refine same_t aq a8 e2 (by omega) (v20 _ rM) ?_
    exact ⟨fun z => (by cases z), fun _ => e268 _ h'⟩
  -- the runs, one behind another
  have key : ∀ (d k : Nat) (o' : OS) (q : Nat → Int32), k + d = R.length → Off o' ks c T (od, w, m, s.2.2.2) tx J → (∀ z, z < (R.take k).flatten.length → q z = nI (R.flatten.getD z 0 % 256)) → wl_L_areRuns_38 (nI j) (nI od) (nI w) (nI m) (T j).length q8 R.length q14 (T j).length (wx_L_areRuns_38_55 Q) (wx_L_areRuns_38_109 Q) (wx_L_areRuns_38_216 Q) (wx_L_areRuns_38_224 (nI j) (nI od) (nI w) (nI m) Q (T j).length q8 R.length q14 (T j).length) (d + 1) (nI k) o' (nI (R.take k).flatten.length) q := by
    intro d
    induction d with
    | zero =>
      intro k o' q hk h' hq
      rw [wl_L_areRuns_38_s]
      refine pk_le R.length k (fun _ => ?_) (fun q => absurd q (by omega))
      have e : R.take k = R := List.take_of_length_le (by omega)
      rw [e] at hq ⊢
      exact e224 _ _ h' hq
    | succ d ih =>
      intro k o' q hk h' hq
      have hkl : k < R.length := by omega
      have hk1 := fl0 k hkl
      have hk2 := tf k hkl
      have hk3 := take_flat_le R k
      rw [wl_L_areRuns_38_s]
      refine pk_le R.length k (fun q => absurd q (by omega)) (fun _ => ?_)
      refine ⟨pk_in k R.length (by omega), ?_⟩
      refine nm_r (e' := nI (R.getD k []).length) (by rw [cl_n (by omega)]; exact its k hkl) ?_
      refine pk_le 1 ((R.getD k []).length) (fun _ => ?_) (fun q => absurd q (by omega))
      refine ⟨(R.getD k []).length + 1, by omega, ?_⟩
      -- behind a run
      have s173 : ∀ (o'' : OS) (q' : Nat → Int32), Off o'' ks c T (od, w, m, s.2.2.2) tx J → (∀ z, z < (R.take k).flatten.length + (R.getD k []).length → q' z = nI (R.flatten.getD z 0 % 256)) → wj_L_areRuns_173 (nI od) (nI w) (T j).length q8 R.length q14 (nI k) (wl_L_areRuns_38 (nI j) (nI od) (nI w) (nI m) (T j).length q8 R.length q14 (T j).length (wx_L_areRuns_38_55 Q) (wx_L_areRuns_38_109 Q) (wx_L_areRuns_38_216 Q) (wx_L_areRuns_38_224 (nI j) (nI od) (nI w) (nI m) Q (T j).length q8 R.length q14 (T j).length) (d + 1)) (wx_L_areRuns_38_216 Q) (nI ((R.take k).flatten.length + (R.getD k []).length)) q' o'' := by
        intro o'' q' h'' hq'
        have go := ih (k + 1) o'' q' (by omega) h'' (by rw [hk2]; exact hq')
        rw [hk2] at go
        unfold wj_L_areRuns_173
        refine pk_eq w 2 (fun e => ?_) (fun _ => ?_)
        · refine pk_le k 0 (fun _ => ?_) (fun hk0 => ?_)
          · refine nm_r (e' := nI (k + 1)) (nI_1 _) ?_
            exact go
          · have hN : R = natR (rks ks od (T j)) := by rw [hR2, e]; rfl
            obtain ⟨n1, -, -, n4⟩ := natR_ok (rks ks od (T j))
            rw [← hN] at n1 n4
            have n5 := n4 (k - 1) (by omega)
            rw [Nat.sub_add_cancel (by omega)] at n5
            have hB := tf (k - 1) (by omega)
            rw [Nat.sub_add_cancel (by omega)] at hB
            have hb1 := fl0 (k - 1) (by omega)
            have f1 := (flat_at R k 0 hkl hk1).2
            have f2 := (flat_at R (k - 1) ((R.getD (k - 1) []).length - 1) (by omega) (by omega)).2
            rw [show (R.take (k - 1)).flatten.length + ((R.getD (k - 1) []).length - 1) = (R.take k).flatten.length - 1 by omega] at f2
            rw [Nat.add_zero] at f1
            have g1 : (R.getD k []).getD 0 0 = (R.getD k []).headD 0 := by cases R.getD k [] <;> rfl
            have g2 : (R.getD (k - 1) []).getD ((R.getD (k - 1) []).length - 1) 0 = (R.getD (k - 1) []).getLastD 0 := by
              obtain ⟨r0, y, e2⟩ := split_last (rs _ (getD_mem2 (d := []) (show k - 1 < R.length by omega))).1
              rw [e2, List.getLastD_concat, getD_app_r (by simp)]
              simp
            rw [g1] at f1
            rw [g2] at f2
            have hB0 : 1 ≤ (R.take k).flatten.length := by omega
            have r1 : ∀ z, z < (T j).length → R.flatten.getD z 0 = rk ks od ((T j).getD z 0) := fun z hz => by rw [n1]; exact rks_getD hz
            rw [r1 _ (by omega)] at f1
            rw [r1 _ (by omega)] at f2
            have rd : ∀ P : Int32 → Prop, P (nI (R.take k).flatten.length) → ∀ x : Int32, x = nI ((R.take k).flatten.length + (R.getD k []).length) - nI (R.getD k []).length → P x := fun P hP x hx => by
              rw [hx, pk_sub (by omega), show (R.take k).flatten.length + (R.getD k []).length - (R.getD k []).length = (R.take k).flatten.length by omega]; exact hP
            refine ⟨pk_in k R.length (by omega), ?_⟩
            refine nm_r (e' := nI (R.getD k []).length) (by rw [cl_n (by omega)]; exact its k hkl) ?_
            refine rd _ ?_
            refine ⟨pk_in ((R.take k).flatten.length) ((T j).length) (by omega), ?_⟩
            refine nm_r (e' := nI ((T j).getD (R.take k).flatten.length 0)) (by rw [cl_n (by omega)]; exact a8.2 _ (by omega)) ?_
            refine ⟨pk_in k R.length (by omega), ?_⟩
            refine nm_r (e' := nI (R.getD k []).length) (by rw [cl_n (by omega)]; exact its k hkl) ?_
            refine rd _ ?_
            refine nm_r (e' := nI ((R.take k).flatten.length - 1)) (pk_sub (b := 1) hB0) ?_
            refine ⟨pk_in ((R.take k).flatten.length - 1) ((T j).length) (by omega), ?_⟩
            refine nm_r (e' := nI ((T j).getD ((R.take k).flatten.length - 1) 0)) (by rw [cl_n (by omega)]; exact a8.2 _ (by omega)) ?_
            refine before_w h'' (rL _ (getD_mem (by omega))) (rL _ (getD_mem (by omega))) ho ?_
            rw [decide_eq_true (by rw [f1, f2]; exact n5)]
            refine ⟨fun z => (by cases z), fun _ => ?_⟩
            refine nm_r (e' := nI (k + 1)) (nI_1 _) ?_
            exact go
        · refine nm_r (e' := nI (k + 1)) (nI_1 _) ?_
          exact go
      have s147 : ∀ (o'' : OS) (q' : Nat → Int32), Off o'' ks c T (od, w, m, s.2.2.2) tx J → (∀ z, z < (R.take k).flatten.length + (R.getD k []).length → q' z = nI (R.flatten.getD z 0 % 256)) → wj_L_areRuns_147 (nI od) (nI w) (nI m) (T j).length q8 R.length q14 (nI k) (wl_L_areRuns_38 (nI j) (nI od) (nI w) (nI m) (T j).length q8 R.length q14 (T j).length (wx_L_areRuns_38_55 Q) (wx_L_areRuns_38_109 Q) (wx_L_areRuns_38_216 Q) (wx_L_areRuns_38_224 (nI j) (nI od) (nI w) (nI m) Q (T j).length q8 R.length q14 (T j).length) (d + 1)) (wx_L_areRuns_38_216 Q) (nI ((R.take k).flatten.length + (R.getD k []).length)) q' o'' := by
        intro o'' q' h'' hq'
        have go := s173 o'' q' h'' hq'
        unfold wj_L_areRuns_147
        refine pk_eq w 1 (fun e => ?_) (fun _ => go)
        refine nm_r (e' := nI (R.length - 1)) (pk_sub (b := 1) (by omega)) ?_
        refine pk_le (R.length - 1) k (fun _ => go) (fun hlt => ?_)
        refine ⟨pk_in k R.length (by omega), ?_⟩
        refine nm_r (e' := nI (R.getD k []).length) (by rw [cl_n (by omega)]; exact its k hkl) ?_
        have g := (replR_good (rks ks od (T j)) hm).2.2.1 k (by
          have e2 : R = replR m (rks ks od (T j)) := by rw [hR2, e]; rfl
          rw [← e2]; omega)
        have e2 : R = replR m (rks ks od (T j)) := by rw [hR2, e]; rfl
        rw [← e2] at g
        refine pk_lt ((R.getD k []).length) m (fun q => absurd q (by omega)) (fun _ => ?_)
        exact go
      have s120 : ∀ (o'' : OS) (q' : Nat → Int32), Off o'' ks c T (od, w, m, s.2.2.2) tx J → (∀ z, z < (R.take k).flatten.length + (R.getD k []).length → q' z = nI (R.flatten.getD z 0 % 256)) → wx_L_areRuns_60_120 (nI od) (nI w) (nI m) (T j).length q8 R.length q14 (nI k) (wl_L_areRuns_38 (nI j) (nI od) (nI w) (nI m) (T j).length q8 R.length q14 (T j).length (wx_L_areRuns_38_55 Q) (wx_L_areRuns_38_109 Q) (wx_L_areRuns_38_216 Q) (wx_L_areRuns_38_224 (nI j) (nI od) (nI w) (nI m) Q (T j).length q8 R.length q14 (T j).length) (d + 1)) (wx_L_areRuns_38_216 Q) (nI ((R.take k).flatten.length + (R.getD k []).length)) q' o'' := by
        intro o'' q' h'' hq'
        have go := s147 o'' q' h'' hq'
        unfold wx_L_areRuns_60_120
        refine pk_eq w 0 (fun e => ?_) (fun _ => go)
        have e2 : R = fullR m (rks ks od (T j)).length (rks ks od (T j)) := by rw [hR2, e]; rfl
        have g := (fullR_ok hm _ (rks ks od (T j)) (Nat.le_refl _)).2.2 k (by rw [← e2]; exact hkl)
        rw [← e2, hln] at g
        refine ⟨pk_in k R.length (by omega), ?_⟩
        refine nm_r (e' := nI (R.getD k []).length) (by rw [cl_n (by omega)]; exact its k hkl) ?_
        refine nm_r (e' := nI (k * m)) (by rw [zI_n, zI_n, zI_m, zI_n, Int.natCast_mul]) ?_
        refine nm_r (e' := nI ((T j).length - k * m)) (pk_sub (by omega)) ?_
        refine nm_r (e' := nI (min m ((T j).length - k * m))) (pk_mn m ((T j).length - k * m) rfl rfl) ?_
        rw [g]
        have go2 := go
        rw [g] at go2
        exact ⟨fun _ => go2, fun z => absurd rfl z⟩
      have inner : ∀ (d2 i : Nat) (o'' : OS) (q' : Nat → Int32), i + d2 = (R.getD k []).length → Off o'' ks c T (od, w, m, s.2.2.2) tx J → (∀ z, z < (R.take k).flatten.length + i → q' z = nI (R.flatten.getD z 0 % 256)) → wl_L_areRuns_60 (nI j) (nI od) R.length q14 (T j).length (nI k) (wx_L_areRuns_60_109 (wx_L_areRuns_38_109 Q)) (wx_L_areRuns_60_120 (nI od) (nI w) (nI m) (T j).length q8 R.length q14 (nI k) (wl_L_areRuns_38 (nI j) (nI od) (nI w) (nI m) (T j).length q8 R.length q14 (T j).length (wx_L_areRuns_38_55 Q) (wx_L_areRuns_38_109 Q) (wx_L_areRuns_38_216 Q) (wx_L_areRuns_38_224 (nI j) (nI od) (nI w) (nI m) Q (T j).length q8 R.length q14 (T j).length) (d + 1)) (wx_L_areRuns_38_216 Q)) (d2 + 1) (nI i) (nI ((R.take k).flatten.length + i)) q' o'' := by
        intro d2
        induction d2 with
        | zero =>
          intro i o'' q' hi h'' hq'
          rw [wl_L_areRuns_60_s]
          refine ⟨pk_in k R.length (by omega), ?_⟩
          refine nm_r (e' := nI (R.getD k []).length) (by rw [cl_n (by omega)]; exact its k hkl) ?_
          refine pk_le ((R.getD k []).length) i (fun _ => ?_) (fun q => absurd q (by omega))
          obtain rfl : i = (R.getD k []).length := by omega
          exact s120 _ _ h'' hq'
        | succ d2 ih2 =>
          intro i o'' q' hi h'' hq'
          have hil : i < (R.getD k []).length := by omega
          obtain ⟨p1, p2⟩ := flat_at R k i hkl hil
          have hx := hmod _ (getD_mem (L := R.flatten) p1)
          rw [p2] at hx
          rw [wl_L_areRuns_60_s]
          refine ⟨pk_in k R.length (by omega), ?_⟩
          refine nm_r (e' := nI (R.getD k []).length) (by rw [cl_n (by omega)]; exact its k hkl) ?_
          refine pk_le ((R.getD k []).length) i (fun q => absurd q (by omega)) (fun _ => ?_)
          have ra := fun (Q' : Int32 → OS → Prop) (X' : String → OS → Prop) (hk' : k < (rnO ks (od, w, m, s.2.2.2) (T j)).length) (hi' : i < ((rnO ks (od, w, m, s.2.2.2) (T j)).getD k []).length) (hQ' : ∀ o3, Off o3 ks c T (od, w, m, s.2.2.2) tx J → Q' (nI (((rnO ks (od, w, m, s.2.2.2) (T j)).getD k []).getD i 0 % 256)) o3) => runAt_o (Q := Q') (X := X') h'' hj hk' hi' hQ'
          rw [← hR] at ra
          refine ra _ _ hkl hil (fun o3 h3 => ?_)
          refine ⟨pk_in ((R.take k).flatten.length + i) ((T j).length) (by omega), ?_⟩
          have hq2 : ∀ z, z < (R.take k).flatten.length + (i + 1) → upd q' ((R.take k).flatten.length + i) (nI ((R.getD k []).getD i 0 % 256)) z = nI (R.flatten.getD z 0 % 256) := fun z hz => by
            by_cases e : z = (R.take k).flatten.length + i
            · subst e; rw [up_s, p2]
            · rw [up_n _ e]; exact hq' z (by omega)
          have go := ih2 (i + 1) o3 _ (by omega) h3 hq2
          refine pk_le i 0 (fun _ => ?_) (fun hi0 => ?_)
          · refine nm_r (e' := nI (((R.take k).flatten.length + i) + 1)) (nI_1 _) ?_
            refine nm_r (e' := nI (i + 1)) (nI_1 _) ?_
            rw [cl_n (by omega)]
            exact go
          · refine ⟨pk_in ((R.take k).flatten.length + i) ((T j).length) (by omega), ?_⟩
            rw [cl_n (show (R.take k).flatten.length + i < 2 ^ 31 by omega)]
            refine nm_r (e' := nI ((R.getD k []).getD i 0 % 256)) (up_s _ _ _) ?_
            refine nm_r (e' := nI ((R.take k).flatten.length + i - 1)) (pk_sub (b := 1) (by omega)) ?_
            refine ⟨pk_in ((R.take k).flatten.length + i - 1) ((T j).length) (by omega), ?_⟩
            obtain ⟨p3, p4⟩ := flat_at R k (i - 1) hkl (by omega)
            rw [show (R.take k).flatten.length + (i - 1) = (R.take k).flatten.length + i - 1 by omega] at p3 p4
            have hy := hmod _ (getD_mem (L := R.flatten) p3)
            rw [p4] at hy
            refine nm_r (e' := nI ((R.getD k []).getD (i - 1) 0 % 256)) (by rw [cl_n (by omega), up_n _ (by omega), hq' _ (by omega), p4]) ?_
            refine before_w h3 hx.2 hy.2 ho ?_
            have hle : (R.getD k []).getD (i - 1) 0 ≤ (R.getD k []).getD i 0 := by
              have := pw_adj (rs _ (getD_mem2 (d := []) hkl)).2 (i := i - 1) (by omega)
              rw [Nat.sub_add_cancel (by omega)] at this
              exact this
            rw [decide_eq_false (by rw [hx.1, hy.1]; omega)]
            refine ⟨fun _ => ?_, fun z => (by cases z)⟩
            refine nm_r (e' := nI (((R.take k).flatten.length + i) + 1)) (nI_1 _) ?_
            refine nm_r (e' := nI (i + 1)) (nI_1 _) ?_
            exact go
      exact inner _ 0 o' q (by omega) h' (by rw [Nat.add_zero]; exact hq)
  exact key R.length 0 o2 _ (by omega) h2 (fun z hz => absurd hz (by simp))
