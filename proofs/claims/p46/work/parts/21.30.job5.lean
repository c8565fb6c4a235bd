/-- a whole job: the other tape is in order, and the costs are those of the plan -/
theorem doWhole_s {K : Nat → Int32} {ks : Nat → Int} {F : Nat → Nat → Int32} {n : Nat → Int32} {T : Nat → List Nat} {j into o wr m w k : Nat} {ic mh xc xf : Int32} {ip pl ro mm s0 l0 r0 rows mt ms ml mr xs xl xr : Nat → Int32} {Q : Int32 → Int32 → Int32 → Int32 → Int32 → Int32 → Int32 → Int32 → Int32 → Int32 → Int32 → Int32 → Int32 → Int32 → Int32 → Int32 → Int32 → (Nat → Int32) → (Nat → Int32) → Int32 → Int32 → (Nat → Int32) → (Nat → Int32) → (Nat → Int32) → (Nat → Int32) → (Nat → Int32) → (Nat → Int32) → (Nat → Int32) → (Nat → Int32) → (Nat → Int32) → (Nat → Int32) → (Nat → Int32) → (Nat → Int32) → (Nat → Int32) → (Nat → Nat → Int32) → (Nat → Int32) → Prop} (hK : KOk K ks) (hP : POk F n T) (hj : j < 18) (hin : into < 18) (ho : o < 2) (hwr : wr < 3) (hm : 1 ≤ m) (hm2 : m ≤ 50) (hw : w < 3) (hk : 2 ≤ k) (hk6 : k ≤ 6)
    (h : ∀ b1 b2 a1 a2 a3 a4 a5 a6 a7 a8 a9 a10 a11 a12 f1 f2 i1 i2 g1 g2 g3 g4 g5 g6 g7 g8 g9 g10 g11 g12 g13 F' n', POk F' n' (va_up T into (srt ks o (T j))) → Q b1 b2 (nI (planOf w k (lens (runsOf ks o wr m (T j)))).1) (nI (planOf w k (lens (runsOf ks o wr m (T j)))).2.2) (nI ((T j).length + (planOf w k (lens (runsOf ks o wr m (T j)))).2.1)) a1 a2 a3 a4 a5 a6 a7 a8 a9 a10 a11 a12 f1 f2 i1 i2 g1 g2 g3 g4 g5 g6 g7 g8 g9 g10 g11 g12 g13 F' n') :
    wp_X2_doWhole ic mh ip pl xc xf ro mm s0 l0 r0 rows mt ms ml mr xs xl xr K (nI o) (nI wr) (nI m) (nI w) (nI k) j into F n Q := by
  have h4 := (hP j hj).2.2.2
  have hTl := (hP j hj).2.1
  unfold wp_X2_doWhole
  refine start_s hK hP hj ho hwr hm hm2 hw hk hk6 (fun mh1 nc nf ro1 mm1 ns nl nr rows1 hJ => ⟨201, ?_⟩)
  obtain ⟨v1, v2⟩ := runs_ok (ks := ks) (o := o) (w := wr) (m := m) (L := T j) hwr hm
  obtain ⟨u1, u2⟩ := runs_len (ks := ks) (o := o) (w := wr) (m := m) (L := T j) hwr hm
  have fin : ∀ (rw' : List Nat) (now : List (List Nat)) (ic p m' v mop nc nf pm mc mf xc xf : Int32) (ip pl mt rows nr ns nl mr ms ml xs xl xr : Nat → Int32), now.length ≤ 1 → ROk nr ns nl nc nf now → now.flatten.Perm (rks ks o (T j)) → (∀ r ∈ now, r.Pairwise (· ≤ ·)) → p = nI (planOf w k (lens (runsOf ks o wr m (T j)))).1 → m' = nI (planOf w k (lens (runsOf ks o wr m (T j)))).2.2 → v = nI ((T j).length + (planOf w k (lens (runsOf ks o wr m (T j)))).2.1) → (wx_X2_doWhole_13_38 into F n Q 0 0 0 mh1 (nI w) (nI k) (nI (arL w k (runsOf ks o wr m (T j)).length)) ro1 mm1) ic p m' v mop nc nf pm mc mf ip pl xc xf ns nl nr rows mt ms ml mr xs xl xr := by
    intro rw' now ic p m' v mop nc nf pm mc mf xc xf ip pl mt rows nr ns nl mr ms ml xs xl xr hl hR hf hs e1 e2 e3
    unfold wx_X2_doWhole_13_38
    have hfin := fin_srt hl hf hs
    refine writeTo_s hR hP hin (fun x hx => ?_) (fun F' n' hP' => ?_)
    · rw [hfin] at hx
      obtain ⟨r, hr, rfl⟩ := List.mem_map.mp ((msort_perm _).mem_iff.mp hx)
      rw [rk_mod (h4 r hr)]; exact h4 r hr
    · rw [hfin] at hP'
      rw [e1, e2, e3]
      exact h _ _ _ _ _ _ _ _ _ _ _ _ _ _ _ _ _ _ _ _ _ _ _ _ _ _ _ _ _ _ _ _ _ hP'
  have loop : ∀ (d i p m' v mop dn : Nat) (rw' : List Nat) (now : List (List Nat)) (ic nc nf pm mc mf xc xf : Int32) (ip pl mt rows nr ns nl mr ms ml xs xl xr : Nat → Int32), i + d = 200 → JInv w k rw' now dn pm nc nf mc mf mt rows nr ns nl mr ms ml → (2 ≤ now.length → i + now.length - 1 - dn ≤ 199) → now.flatten.Perm (rks ks o (T j)) → p + (rst w k rw' now dn).1 = (planOf w k (lens (runsOf ks o wr m (T j)))).1 → m' + (rst w k rw' now dn).2.2 = (planOf w k (lens (runsOf ks o wr m (T j)))).2.2 → v + (rst w k rw' now dn).2.1 = (T j).length + (planOf w k (lens (runsOf ks o wr m (T j)))).2.1 → wl_X2_doWhole_13 (nI w) (nI k) (wx_X2_doWhole_13_38 into F n Q 0 0 0 mh1 (nI w) (nI k) (nI (arL w k (runsOf ks o wr m (T j)).length)) ro1 mm1) (d + 1) (nI i) ic (nI p) (nI m') (nI v) (nI mop) nc nf pm mc mf ip pl xc xf ns nl nr rows mt ms ml mr xs xl xr := by
    intro d
    induction d with
    | zero =>
      intro i p m' v mop dn rw' now ic nc nf pm mc mf xc xf ip pl mt rows nr ns nl mr ms ml xs xl xr hi hJ hpot hf e1 e2 e3
      rw [wl_X2_doWhole_13_s]
      refine pk_le 200 i (fun _ => ?_) (fun q => absurd q (by omega))
      have hl : now.length ≤ 1 := by
        rcases Nat.lt_or_ge now.length 2 with c | c
        · omega
        · have h9 := hpot c
          have h8 := hJ.2.2.2.2.2.1 c
          have h7 := (jga hJ hw hk hk6 c).2.2.1
          have h6 := ((jga hJ hw hk hk6 c).2.2.2.2 _ now rfl).2
          omega
      have e0 : rst w k rw' now dn = (0, 0, 0) := by unfold rst; rw [if_pos hl]
      rw [e0] at e1 e2 e3
      have e1 : p + 0 = _ := e1
      have e2 : m' + 0 = _ := e2
      have e3 : v + 0 = _ := e3
      exact fin rw' now _ _ _ _ _ _ _ _ _ _ _ _ _ _ _ _ _ _ _ _ _ _ _ _ _ hl hJ.1 hf hJ.2.2.2.2.2.2.2 (by rw [← e1]; rfl) (by rw [← e2]; rfl) (by rw [← e3]; rfl)
    | succ d ih =>
      intro i p m' v mop dn rw' now ic nc nf pm mc mf xc xf ip pl mt rows nr ns nl mr ms ml xs xl xr hi hJ hpot hf e1 e2 e3
      rw [wl_X2_doWhole_13_s]
      refine pk_le 200 i (fun q => absurd q (by omega)) (fun _ => ?_)
      have hnl := hJ.1.2.1
      refine isOver_s hJ.1.1 (by omega) ?_
      by_cases c : now.length ≤ 1
      · rw [decide_eq_true c]
        refine ⟨fun q => (by cases q), fun _ => ?_⟩
        have e0 : rst w k rw' now dn = (0, 0, 0) := by unfold rst; rw [if_pos c]
        rw [e0] at e1 e2 e3
        have e1 : p + 0 = _ := e1
        have e2 : m' + 0 = _ := e2
        have e3 : v + 0 = _ := e3
        exact fin rw' now _ _ _ _ _ _ _ _ _ _ _ _ _ _ _ _ _ _ _ _ _ _ _ _ _ c hJ.1 hf hJ.2.2.2.2.2.2.2 (by rw [← e1]; rfl) (by rw [← e2]; rfl) (by rw [← e3]; rfl)
      · rw [decide_eq_false c]
        refine ⟨fun _ => ?_, fun q => by cases q⟩
        have hn : 2 ≤ now.length := by omega
        have hga := jga hJ hw hk hk6 hn
        have g2 := hga.2.1
        have g6 := (hga.2.2.2.2 _ now rfl).2
        have hd := hJ.2.2.2.2.2.1 hn
        have hpt := hpot hn
        have hjl : (nxJ w k rw' now).length = chM w k rw' (lens now) + (pick (isN (chA w k rw' (lens now))) now).length := stepL_len _ _ _ _ _
        refine doMerge_s hw hk hk6 hn hJ (fun hdn ic pm' mc' mf' ip' pl' xc' xf' rows' mt' ms' ml' mr' xs' xl' xr' hJ' => ?_) (fun hdn ic pm' nc' nf' mc' mf' ip' pl' xc' xf' rows' mt' ms' ml' mr' ns' nl' nr' xs' xl' xr' hJ' => ?_)
        · refine nm_r (e' := nI (i + 1)) (nI_1 _) ?_
          obtain ⟨q1, q2, q3⟩ := rst_a (w := w) (k := k) (rw' := rw') hn hd
          exact ih (i + 1) p (m' + 1) _ _ (dn + 1) rw' now _ _ _ _ _ _ _ _ _ _ _ _ _ _ _ _ _ _ _ _ _ (by omega) hJ' (fun _ => by omega) hf (by omega) (by omega) (by omega)
        · refine nm_r (e' := nI (i + 1)) (nI_1 _) ?_
          have hr2 := hJ'.2.2.1
          obtain ⟨q1, q2, q3⟩ := rst_b (w := w) (k := k) (rw' := rw') hw hk hk6 hn hnl hJ.2.2.1 hdn (by omega) hr2
          exact ih (i + 1) (p + 1) (m' + 1) _ 0 0 _ _ _ _ _ _ _ _ _ _ _ _ _ _ _ _ _ _ _ _ _ _ _ (by omega) hJ' (fun _ => by omega) ((nxJ_perm hga).trans hf) (by omega) (by omega) (by omega)
  have hJ0 := hJ 0 mt mr ms ml
  have hnl := hJ0.1.2.1
  have hr0 := rst_0 (w := w) (k := k) hw hk hk6 hnl hJ0.2.2.1
  have hpl : rst w k (arR k (runsOf ks o wr m (T j)).length) (job0 w k (runsOf ks o wr m (T j))) 0 = planOf w k (lens (runsOf ks o wr m (T j))) := by
    rw [hr0, job0_lens]
    unfold planOf
    rw [lens_len]
  have := loop 200 0 0 0 (T j).length 0 0 _ _ ic nc nf 0 0 0 xc xf ip pl mt rows1 nr ns nl mr ms ml xs xl xr (by omega) hJ0 (fun _ => by omega) (by rw [job0_flat]; exact v1) (by rw [hpl]; omega) (by rw [hpl]; omega) (by rw [hpl])
  exact this
