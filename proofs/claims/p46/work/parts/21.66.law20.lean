/-! new offices, two alike; what a statement does by the calls -/
theorem off_0 : Off of_0 (fun _ => 0) 0 (fun _ => []) (0, 1, 4, 0, 2) [] none := by
  have h66 : of_I 66 = nI 0 := rfl
  refine ⟨⟨fun i _ => ⟨rfl, by show (-999 : Int) ≤ 0; decide, by show (0 : Int) ≤ 999; decide⟩, ⟨rfl, by decide⟩, fun j _ => ⟨rfl, Nat.zero_le _, fun i hi => absurd hi (Nat.not_lt_zero _), fun r hr => absurd hr List.not_mem_nil⟩, fun j _ r hr => absurd hr List.not_mem_nil⟩, ⟨⟨rfl, by decide⟩, ⟨rfl, by decide⟩, ⟨rfl, by decide, by decide⟩, ⟨rfl, by decide⟩, ⟨rfl, by decide, by decide⟩⟩, ⟨h66, by decide, fun i hi => absurd hi (Nat.not_lt_zero _), fun x hx => absurd hx List.not_mem_nil⟩, fun i _ => ⟨0, by decide, rfl⟩, rfl⟩
theorem copies_w {o o2 : OS} {ks : Nat → Int} {T : Nat → List Nat} {s : SS} {r : Nat → Int32} {Q : (Nat → Int32) → OS → OS → Prop} (h : Off o ks 0 T s [] none) (h2 : Off o2 ks 0 T s [] none) (hT : ∀ z, z < 7 → T z = []) (hQ : ∀ r' o' o2' ks' c' T', Off o' ks' c' T' s [] none → Off o2' ks' c' T' s [] none → Q r' o' o2') : wp_L_copies o o2 2 r Q := by
  unfold wp_L_copies
  refine ⟨8, by decide, ?_⟩
  have key : ∀ (d j : Nat) (r' : Nat → Int32) (o' o2' : OS) (ks' : Nat → Int) (c' : Nat) (T' : Nat → List Nat), j + d = 7 → c' ≤ 13 * j → Off o' ks' c' T' s [] none → Off o2' ks' c' T' s [] none → (∀ z, j ≤ z → z < 7 → T' z = []) → wl_L_copies_2 2 (wx_L_copies_2_88 Q) (d + 1) (nI j) r' o' o2' := by
    intro d
    induction d with
    | zero =>
      intro j r' o' o2' ks' c' T' hj hc g g2 hT'
      rw [wl_L_copies_2_s]
      refine pk_le 7 j (fun _ => ?_) (fun q => absurd q (by omega))
      exact hQ _ _ _ _ _ _ g g2
    | succ d ih =>
      intro j r' o' o2' ks' c' T' hj hc g g2 hT'
      have hj8 : j < 7 := by omega
      have hTj : (T' j).length = 0 := by rw [hT' j (Nat.le_refl _) hj8]; rfl
      rw [wl_L_copies_2_s]
      refine pk_le 7 j (fun q => absurd q (by omega)) (fun _ => ?_)
      refine next_w (fun v r1 => ?_)
      obtain ⟨a, ha, ea⟩ := shr1 v
      refine nm_r (e' := nI a) ea ?_
      refine draw_w (m := 14) (by decide) (by decide) (fun m r2 hm => ?_)
      refine draw_w (m := 40) (by decide) (by decide) (fun rg r3 hrg => ?_)
      refine nm_r (e' := nI (1 + rg)) (nI_add 1 rg) ?_
      refine scatter_o g (by omega) (by omega) (by omega) (by omega) (by rw [nI_toInt ha]; omega) (by omega) (by omega) (fun o3 g3 => ?_)
      refine scatter_o g2 (by omega) (by omega) (by omega) (by omega) (by rw [nI_toInt ha]; omega) (by omega) (by omega) (fun o4 g4 => ?_)
      intro x27 e27
      refine draw_w (m := 2) (by decide) (by decide) (fun z r4 hz => ?_)
      have hT2 : ∀ L : List Nat, ∀ z, j + 1 ≤ z → z < 7 → va_up T' j L z = [] := fun L z hz hz2 => by rw [va_up_ne _ _ (by omega)]; exact hT' z (by omega) hz2
      refine pk_eq z 0 (fun _ => ?_) (fun _ => ?_)
      · refine sort_o g3 (by omega) (by omega) (fun o5 g5 => ?_)
        refine sort_o g4 (by omega) (by omega) (fun o6 g6 => ?_)
        intro x38 e38
        refine nm_r (e' := nI (j + 1)) (nI_1 _) ?_
        exact ih (j + 1) r4 o5 o6 _ _ _ (by omega) (by omega) g5 g6 (fun z hz hz2 => by rw [va_up_ne _ _ (by omega)]; exact hT2 _ z hz hz2)
      · refine nm_r (e' := nI (j + 1)) (nI_1 _) ?_
        exact ih (j + 1) r4 o3 o4 _ _ _ (by omega) (by omega) g3 g4 (hT2 _)
  exact key 7 0 r o o2 ks 0 T rfl (by omega) h h2 (fun z _ hz => hT z hz)
/-- q's tapes are those of p's trial, but the spare one -/
def Rl (us : Bool) (Tp Tq : Nat → List Nat) : Prop := ∀ j, j < 8 → (j < 7 ∨ us = false) → Tq j = Tp (8 + j)
def uD (D : DS) : Bool := decide (1 ≤ D.1 ∧ D.1 < 4 ∧ D.2.2.2.1 ≠ 7)
def oD (D : DS) (s : SS) : Nat := if D.1 = 0 ∧ D.2.2.2.2.1 ≠ 0 then D.2.2.2.2.1 - 1 else s.1
theorem oD_tl (D : DS) (s : SS) : (tlD D (tlS s)).o = nI (oD D s) := by
  obtain ⟨d0, d1, d2, d3, a, b, m, e, y⟩ := D
  unfold tlD oD
  by_cases e0 : d0 = 0
  · rw [if_pos e0]
    have h1 : ∀ T : Tl, (fM e y T).o = T.o := fun T => by
      unfold fM
      by_cases x1 : e = 0
      · rw [if_pos x1]
      · rw [if_neg x1]
        by_cases x2 : e = 1
        · rw [if_pos x2]
        · rw [if_neg x2]
          by_cases x3 : e = 2
          · rw [if_pos x3]
          · rw [if_neg x3]
    have h2 : ∀ T : Tl, (fR b m T).o = T.o := fun T => by
      unfold fR
      by_cases x1 : b = 0
      · rw [if_pos x1]
      · rw [if_neg x1]
        by_cases x2 : b = 1
        · rw [if_pos x2]
        · rw [if_neg x2]
          by_cases x3 : b = 2
          · rw [if_pos x3]
          · rw [if_neg x3]
    rw [h1, h2]
    unfold fO
    by_cases ea : a = 0
    · rw [if_pos ea, if_neg (fun z => z.2 ea)]; rfl
    · rw [if_neg ea, if_pos ⟨e0, ea⟩]
  · rw [if_neg e0, if_neg (fun z => e0 z.1)]; rfl
theorem oD_lt {D : DS} {s : SS} {q : Nat → Int32} (hD : DOk q D) (hs : s.1 < 2) : oD D s < 2 := by
  obtain ⟨d0, d1, d2, d3, a, b, m, e, y⟩ := D
  have ha := hD.2.2.2.1
  unfold oD
  by_cases z : d0 = 0 ∧ a ≠ 0
  · rw [if_pos z]; show a - 1 < 2; omega
  · rw [if_neg z]; exact hs
theorem zn1 {b : Nat} (h : 1 ≤ b) : zI ((b : Int) - 1) = nI (b - 1) := by
  rw [zI_n]; congr 1; omega
theorem Rl.up {us u2 : Bool} {Tp Tq : Nat → List Nat} {v : Nat} {L L2 : List Nat} (h : Rl us Tp Tq) (hv : v < 8) (hu : us = true → u2 = true) (hL : (v < 7 ∨ u2 = false) → L = L2) : Rl u2 (va_up Tp (8 + v) L2) (va_up Tq v L) := by
  intro j hj hc
  by_cases e : j = v
  · subst e
    rw [va_up_self, va_up_self, hL hc]
  · rw [va_up_ne _ _ e, va_up_ne _ _ (by omega)]
    refine h j hj (hc.imp id (fun z => ?_))
    cases us with
    | false => rfl
    | true => rw [hu rfl] at z; cases z
theorem Rl.up16 {us : Bool} {Tp Tq : Nat → List Nat} {L L2 : List Nat} (h : Rl us Tp Tq) : Rl us (va_up Tp 16 L2) (va_up Tq 16 L) := by
  intro j hj hc
  rw [va_up_ne _ _ (by omega), va_up_ne _ _ (by omega)]; exact h j hj hc
theorem does_w {o : OS} {ks : Nat → Int} {c : Nat} {T Tp : Nat → List Nat} {s : SS} {tx : List Nat} {J : Option JS} {q : Nat → Int32} {D : DS} {us : Bool} {Q : Bool → OS → Prop} (h : Off o ks c T s tx J) (hD : DOk q D) (hR : Rl us Tp T) (hQ : stB ks Tp 8 (kD D) D.2.1 (v2D D) = true → ∀ o' T', Off o' ks c T' s tx J → Rl (us || uD D) (stT ks Tp 8 (kD D) D.2.1 (v2D D) (v3D D) (oD D s)) T' → Q true o') (hF : stB ks Tp 8 (kD D) D.2.1 (v2D D) = false → Q false o) : wp_L_does o 9 q Q := by
  have hod := oD_lt (s := s) hD h.2.1.1.2
  obtain ⟨d0, d1, d2, d3, a, b, m, e, y⟩ := D
  obtain ⟨⟨g0, g1, g2, g3⟩, ⟨b0, b1, b2, b3⟩, gs, ba, bb, bm1, bm2, be, by1, by2⟩ := hD
  have hor : ∀ z : Bool, us = true → (us || z) = true := fun z e => by rw [e]; rfl
  have hT1 : T d1 = Tp (8 + d1) := hR d1 (by omega) (Or.inl (by omega))
  have hT2 : T d2 = Tp (8 + d2) := hR d2 (by omega) (Or.inl (by omega))
  have hB : (¬ (1 ≤ d0 ∧ d0 < 4)) → stB ks Tp 8 (kD (d0, d1, d2, d3, a, b, m, e, y)) d1 (v2D (d0, d1, d2, d3, a, b, m, e, y)) = true := fun hn => by
    have : ¬ (kD (d0, d1, d2, d3, a, b, m, e, y) = 2 ∨ kD (d0, d1, d2, d3, a, b, m, e, y) = 3 ∨ kD (d0, d1, d2, d3, a, b, m, e, y) = 4) := by
      rcases (show d0 = 0 ∨ d0 = 4 ∨ d0 = 5 ∨ d0 = 6 ∨ d0 = 7 ∨ d0 = 8 by omega) with rfl | rfl | rfl | rfl | rfl | rfl
      · show ¬ ((0 : Nat) = 2 ∨ (0 : Nat) = 3 ∨ (0 : Nat) = 4)
        decide
      · show ¬ ((1 : Nat) = 2 ∨ (1 : Nat) = 3 ∨ (1 : Nat) = 4)
        decide
      · show ¬ ((6 : Nat) = 2 ∨ (6 : Nat) = 3 ∨ (6 : Nat) = 4)
        decide
      · show ¬ ((5 : Nat) = 2 ∨ (5 : Nat) = 3 ∨ (5 : Nat) = 4)
        decide
      · show ¬ ((7 : Nat) = 2 ∨ (7 : Nat) = 3 ∨ (7 : Nat) = 4)
        decide
      · show ¬ ((8 : Nat) = 2 ∨ (8 : Nat) = 3 ∨ (8 : Nat) = 4)
        decide
    unfold stB
    rw [if_neg this]
  unfold wp_L_does
  refine ⟨pk_in 0 9 (by omega), nm_r (e' := nI d0) g0 ?_⟩
  refine pk_eq d0 0 (fun e0 => ?_) (fun e0 => ?_)
  · subst e0
    obtain ⟨g4, g5, g6, g7, g8⟩ := gs rfl
    have hQ' := hQ (hB (by omega))
    obtain ⟨⟨so1, so2⟩, ⟨sw1, sw2⟩, ⟨sm1, sm2, sm3⟩, ⟨sg1, sg2⟩, ⟨sk1, sk2, sk3⟩⟩ := h.2.1
    refine ⟨6, by decide, ?_⟩
    have rest : ∀ q7 : Nat → Int32, (∀ k, k < 5 → q7 k = nI (setA s k)) → wx_L_does_13_35 9 q Q q7 o := by
      intro q7 hq7
      have s0 : q7 0 = nI s.1 := hq7 0 (by decide)
      have s1 : q7 1 = nI s.2.1 := hq7 1 (by decide)
      have s2 : q7 2 = nI s.2.2.1 := hq7 2 (by decide)
      have s3 : q7 3 = nI s.2.2.2.1 := hq7 3 (by decide)
      have s4 : q7 4 = nI s.2.2.2.2 := hq7 4 (by decide)
      have e141 : ∀ (o' : OS) (s' : SS) (w k : Nat), Off o' ks c T s' tx J → s'.1 = oD (0, d1, d2, d3, a, b, m, e, y) s → w < 3 → 2 ≤ k → k ≤ 6 → wj_L_does_141 9 q Q q7 o' (nI w) (nI k) := by
        intro o' s' w k h' hs' hw hk1 hk2
        unfold wj_L_does_141
        refine setMerge_o h' hw hk1 hk2 (fun o3 h3 => ?_)
        refine ⟨pk_in 1 9 (by omega), nm_r (e' := nI d1) g1 ?_⟩
        refine ⟨pk_in 2 9 (by omega), nm_r (e' := nI d2) g2 ?_⟩
        refine sort_o h3 (by omega) (by omega) (fun o4 h4 => ?_)
        refine nm_r (e' := nI s.1) s0 ?_
        refine nm_r (e' := nI s.2.1) s1 ?_
        refine nm_r (e' := nI s.2.2.1) s2 ?_
        refine setRuns_o h4 so2 sw2 sm2 sm3 (fun o5 h5 => ?_)
        refine nm_r (e' := nI s.2.2.2.1) s3 ?_
        refine nm_r (e' := nI s.2.2.2.2) s4 ?_
        refine setMerge_o h5 sg2 sk2 sk3 (fun o6 h6 => ?_)
        intro x94 e94
        refine hQ' o6 _ h6 ?_
        have hs2 : (s'.1, s'.2.1, s'.2.2.1, w, k).1 = oD (0, d1, d2, d3, a, b, m, e, y) s := hs'
        rw [hs2, hT1]
        exact Rl.up (v := d2) hR (by omega) (hor _) (fun _ => rfl)
      have e115 : ∀ (o' : OS) (s' : SS) (w : Nat), Off o' ks c T s' tx J → s'.1 = oD (0, d1, d2, d3, a, b, m, e, y) s → w < 3 → wj_L_does_115 9 q Q q7 o' (nI w) := by
        intro o' s' w h' hs' hw
        have e131 : wj_L_does_131 9 q Q q7 o' (nI w) := by
          unfold wj_L_does_131
          exact nm_r (e' := nI s.2.2.2.2) s4 (e141 o' s' w _ h' hs' hw sk2 sk3)
        unfold wj_L_does_115
        refine ⟨pk_in 7 9 (by omega), nm_r (e' := zI ((e : Int) - 1)) g7 ?_⟩
        refine zk_eq ((e : Int) - 1) (-1) (fun _ => e131) (fun _ => ?_) rfl rfl
        refine ⟨pk_in 7 9 (by omega), nm_r (e' := zI ((e : Int) - 1)) g7 ?_⟩
        refine zk_eq ((e : Int) - 1) 1 (fun _ => e131) (fun _ => ?_) rfl rfl
        refine ⟨pk_in 8 9 (by omega), nm_r (e' := nI y) g8 ?_⟩
        exact e141 o' s' w y h' hs' hw by1 by2
      have e92 : ∀ (bv mv : Nat), bv < 3 → 1 ≤ mv → mv ≤ 50 → wj_L_does_92 9 q Q q7 o (nI (oD (0, d1, d2, d3, a, b, m, e, y) s)) (nI bv) (nI mv) := by
        intro bv mv hb1 hm1 hm2
        unfold wj_L_does_92
        refine setRuns_o h hod hb1 hm1 hm2 (fun o3 h3 => ?_)
        refine ⟨pk_in 7 9 (by omega), nm_r (e' := zI ((e : Int) - 1)) g7 ?_⟩
        refine zk_eq ((e : Int) - 1) (-1) (fun _ => ?_) (fun e1 => ?_) rfl rfl
        · exact nm_r (e' := nI s.2.2.2.1) s3 (e115 o3 _ _ h3 rfl sg2)
        · refine ⟨pk_in 7 9 (by omega), nm_r (e' := nI (e - 1)) (by rw [← zn1 (by omega)]; exact g7) ?_⟩
          exact e115 o3 _ _ h3 rfl (by omega)
      have e68 : ∀ (bv : Nat), bv < 3 → wj_L_does_68 9 q Q q7 o (nI (oD (0, d1, d2, d3, a, b, m, e, y) s)) (nI bv) := by
        intro bv hb1
        have e82 : wj_L_does_82 9 q Q q7 o (nI (oD (0, d1, d2, d3, a, b, m, e, y) s)) (nI bv) := by
          unfold wj_L_does_82
          exact nm_r (e' := nI s.2.2.1) s2 (e92 bv _ hb1 sm2 sm3)
        unfold wj_L_does_68
        refine ⟨pk_in 5 9 (by omega), nm_r (e' := zI ((b : Int) - 1)) g5 ?_⟩
        refine zk_eq ((b : Int) - 1) (-1) (fun _ => e82) (fun _ => ?_) rfl rfl
        refine ⟨pk_in 5 9 (by omega), nm_r (e' := zI ((b : Int) - 1)) g5 ?_⟩
        refine zk_eq ((b : Int) - 1) 2 (fun _ => e82) (fun _ => ?_) rfl rfl
        refine ⟨pk_in 6 9 (by omega), nm_r (e' := nI m) g6 ?_⟩
        exact e92 bv m hb1 bm1 bm2
      have e52 : wj_L_does_52 9 q Q q7 o (nI (oD (0, d1, d2, d3, a, b, m, e, y) s)) := by
        unfold wj_L_does_52
        refine ⟨pk_in 5 9 (by omega), nm_r (e' := zI ((b : Int) - 1)) g5 ?_⟩
        refine zk_eq ((b : Int) - 1) (-1) (fun _ => ?_) (fun e1 => ?_) rfl rfl
        · exact nm_r (e' := nI s.2.1) s1 (e68 _ sw2)
        · refine ⟨pk_in 5 9 (by omega), nm_r (e' := nI (b - 1)) (by rw [← zn1 (by omega)]; exact g5) ?_⟩
          exact e68 _ (by omega)
      unfold wx_L_does_13_35
      refine ⟨pk_in 4 9 (by omega), nm_r (e' := zI ((a : Int) - 1)) g4 ?_⟩
      refine zk_eq ((a : Int) - 1) (-1) (fun e1 => ?_) (fun e1 => ?_) rfl rfl
      · have ho : oD (0, d1, d2, d3, a, b, m, e, y) s = s.1 := by unfold oD; rw [if_neg (fun z => z.2 (by show a = 0; omega))]
        rw [ho] at e52
        exact nm_r (e' := nI s.1) s0 e52
      · have ho : oD (0, d1, d2, d3, a, b, m, e, y) s = a - 1 := by unfold oD; rw [if_pos ⟨rfl, by show a ≠ 0; omega⟩]
        rw [ho] at e52
        exact ⟨pk_in 4 9 (by omega), nm_r (e' := nI (a - 1)) (by rw [← zn1 (by omega)]; exact g4) e52⟩
    have key : ∀ (d i : Nat) (q7 : Nat → Int32), i + d = 5 → (∀ k, k < i → q7 k = nI (setA s k)) → wl_L_does_13 (wx_L_does_13_35 9 q Q) (d + 1) (nI i) q7 o := by
      intro d
      induction d with
      | zero =>
        intro i q7 hi hq
        rw [wl_L_does_13_s]
        refine pk_le 5 i (fun _ => ?_) (fun q => absurd q (by omega))
        exact rest q7 (fun k hk => hq k (by omega))
      | succ d ih =>
        intro i q7 hi hq
        rw [wl_L_does_13_s]
        refine pk_le 5 i (fun q => absurd q (by omega)) (fun _ => ?_)
        refine setting_o h (by omega) ?_
        refine ⟨pk_in i 5 (by omega), ?_⟩
        refine nm_r (e' := nI (i + 1)) (nI_1 _) ?_
        rw [cl_n (by omega)]
        refine ih (i + 1) _ (by omega) (fun k hk => ?_)
        by_cases e2 : k = i
        · subst e2; rw [up_s]
        · rw [up_n _ e2]; exact hq k (by omega)
    exact key 5 0 _ (by omega) (fun k hk => absurd hk (Nat.not_lt_zero _))
  · refine ⟨pk_in 0 9 (by omega), nm_r (e' := nI d0) g0 ?_⟩
    refine pk_le 4 d0 (fun e4 => ?_) (fun e4 => ?_)
    · have hQ' := hQ (hB (by omega))
      refine ⟨pk_in 0 9 (by omega), nm_r (e' := nI d0) g0 ?_⟩
      refine pk_eq d0 4 (fun e5 => ?_) (fun e5 => ?_)
      · subst e5
        refine ⟨pk_in 1 9 (by omega), nm_r (e' := nI d1) g1 ?_⟩
        refine ⟨pk_in 3 9 (by omega), nm_r (e' := nI d3) g3 ?_⟩
        refine copy_o h (by omega) b3 (fun o3 h3 => ?_)
        refine hQ' o3 _ h3 ?_
        rw [hT1]
        exact Rl.up (v := d3) hR b3 (hor _) (fun _ => rfl)
      · refine ⟨pk_in 0 9 (by omega), nm_r (e' := nI d0) g0 ?_⟩
        refine pk_le 7 d0 (fun e6 => ?_) (fun e6 => ?_)
        · refine ⟨pk_in 0 9 (by omega), nm_r (e' := nI d0) g0 ?_⟩
          refine pk_eq d0 7 (fun e7 => ?_) (fun e7 => ?_)
          · subst e7
            refine ⟨pk_in 1 9 (by omega), nm_r (e' := nI d1) g1 ?_⟩
            refine turn_o h (by omega) (fun o3 h3 => ?_)
            refine hQ' o3 _ h3 ?_
            rw [hT1]
            exact Rl.up (v := d1) hR (by omega) (hor _) (fun _ => rfl)
          · have e8 : d0 = 8 := by omega
            subst e8
            refine ⟨pk_in 1 9 (by omega), nm_r (e' := nI d1) g1 ?_⟩
            refine clear_o h (by omega) (fun o3 h3 => ?_)
            refine hQ' o3 _ h3 ?_
            exact Rl.up (v := d1) hR (by omega) (hor _) (fun _ => rfl)
        · refine ⟨pk_in 1 9 (by omega), nm_r (e' := nI d1) g1 ?_⟩
          refine ⟨pk_in 0 9 (by omega), nm_r (e' := nI d0) g0 ?_⟩
          refine pk_eq d0 6 (fun e7 => ?_) (fun e7 => ?_)
          · subst e7
            unfold wj_L_does_295
            refine thin_o h (by omega) (fun o3 h3 => ?_)
            refine hQ' o3 _ h3 ?_
            rw [hT1]
            exact Rl.up (v := d1) hR (by omega) (hor _) (fun _ => rfl)
          · have e8 : d0 = 5 := by omega
            subst e8
            unfold wj_L_does_295
            refine thin_o h (by omega) (fun o3 h3 => ?_)
            refine hQ' o3 _ h3 ?_
            rw [hT1]
            exact Rl.up (v := d1) hR (by omega) (hor _) (fun _ => rfl)
    · -- two tapes joined, by way of the spare one
      have hk : kD (d0, d1, d2, d3, a, b, m, e, y) = d0 + 1 := by unfold kD; rw [if_neg e0, if_pos (by show d0 < 4; omega)]
      have hv2 : v2D (d0, d1, d2, d3, a, b, m, e, y) = d2 := by unfold v2D; rw [if_pos (by show 1 ≤ d0 ∧ d0 < 4; omega)]
      have hv3 : v3D (d0, d1, d2, d3, a, b, m, e, y) = d3 := by unfold v3D; rw [if_neg e0, if_pos (by show d0 < 5; omega)]
      have hsb : stB ks Tp 8 (d0 + 1) d1 d2 = joinB ks (T d1) (T d2) (d0 - 1) := by
        unfold stB
        rw [if_pos (by omega), hT1, hT2, show d0 + 1 - 2 = d0 - 1 by omega]
      have hst : stT ks Tp 8 (d0 + 1) d1 d2 d3 (oD (d0, d1, d2, d3, a, b, m, e, y) s) = va_up (va_up Tp 16 (joinL ks (T d1) (T d2) (d0 - 1))) (8 + d3) (joinL ks (T d1) (T d2) (d0 - 1)) := by
        unfold stT
        rw [if_neg (by omega), if_neg (by omega), if_pos (by omega), hT1, hT2, show d0 + 1 - 2 = d0 - 1 by omega]
      rw [hk, hv2, hv3] at hQ
      rw [hk, hv2] at hF
      have hQ2 : stB ks Tp 8 (d0 + 1) d1 d2 = true → ∀ o' T', Off o' ks c T' s tx J → Rl (us || uD (d0, d1, d2, d3, a, b, m, e, y)) (stT ks Tp 8 (d0 + 1) d1 d2 d3 (oD (d0, d1, d2, d3, a, b, m, e, y) s)) T' → Q true o' := hQ
      have hF2 : stB ks Tp 8 (d0 + 1) d1 d2 = false → Q false o := hF
      rw [hst, hsb] at hQ2
      rw [hsb] at hF2
      refine ⟨pk_in 1 9 (by omega), nm_r (e' := nI d1) g1 ?_⟩
      refine ⟨pk_in 2 9 (by omega), nm_r (e' := nI d2) g2 ?_⟩
      refine ⟨pk_in 0 9 (by omega), nm_r (e' := nI d0) g0 ?_⟩
      refine nm_r (e' := nI (d0 - 1)) (pk_sub (b := 1) (by omega)) ?_
      unfold wp_L_asks_18
      have n4 : ∀ z, z < 2 ^ 20 → ¬ nI z = -20004 := fun z hz q => by
        have := congrArg Int32.toInt q
        rw [nI_toInt (by omega), show (-20004 : Int32).toInt = -20004 by decide] at this
        omega
      refine combine_o (i := 7) h (by omega) (by omega) (by decide) (by omega) (fun hj o3 h3 => ?_) (fun hj => Or.inr (Or.inr (Or.inr ⟨rfl, fun _ => ?_, fun z => absurd rfl z⟩)))
      · have hjl : (joinL ks (T d1) (T d2) (d0 - 1)).length < 2 ^ 20 := by
          have := h3.len (j := 7) (by decide)
          rw [va_up_self] at this
          omega
        refine ⟨fun z => absurd z (n4 _ hjl), fun _ => ?_⟩
        refine ⟨pk_in 3 9 (by omega), nm_r (e' := nI d3) g3 ?_⟩
        have r7 : ∀ (u2 : Bool), (us = true → u2 = true) → (d3 ≠ 7 → u2 = true) → (∀ x : List Nat, Rl u2 (va_up (va_up Tp 16 x) (8 + d3) x) (va_up (va_up (va_up T 16 x) 7 x) d3 x)) ∧ (d3 = 7 → ∀ x : List Nat, Rl u2 (va_up (va_up Tp 16 x) (8 + d3) x) (va_up (va_up T 16 x) 7 x)) := by
          intro u2 h1 h2
          refine ⟨fun x j hj hc => ?_, fun e7 x j hj hc => ?_⟩
          · by_cases e9 : j = d3
            · subst e9; rw [va_up_self, va_up_self]
            · have l8 : va_up (va_up Tp 16 x) (8 + d3) x (8 + j) = Tp (8 + j) := by
                rw [va_up_ne _ _ (show 8 + j ≠ 8 + d3 by omega), va_up_ne _ _ (show 8 + j ≠ 16 by omega)]
              have j7 : j ≠ 7 := fun z => by
                rcases hc with hc | hc
                · exact absurd z (by omega)
                · rw [h2 (fun y => e9 (by rw [z, y]))] at hc; cases hc
              rw [l8, va_up_ne _ _ e9, va_up_ne _ _ j7, va_up_ne _ _ (show j ≠ 16 by omega)]
              exact hR j hj (Or.inl (by omega))
          · have e8 : 8 + d3 = 15 := by omega
            by_cases e9 : j = 7
            · rw [e9, e8, va_up_self, va_up_self]
            · rw [va_up_ne _ _ e9, va_up_ne _ _ (show j ≠ 16 by omega), va_up_ne _ _ (show 8 + j ≠ 8 + d3 by omega), va_up_ne _ _ (show 8 + j ≠ 16 by omega)]
              exact hR j hj (Or.inl (by omega))
        have hr7 := r7 (us || uD (d0, d1, d2, d3, a, b, m, e, y)) (hor _) (fun z => by
          have : uD (d0, d1, d2, d3, a, b, m, e, y) = true := decide_eq_true ⟨by show 1 ≤ d0; omega, by show d0 < 4; omega, z⟩
          rw [this, Bool.or_true])
        refine pk_eq d3 7 (fun e7 => ?_) (fun e7 => ?_)
        · unfold wj_L_does_236 wj_L_does_237
          refine ⟨fun z => absurd z (n4 _ hjl), fun _ => ?_⟩
          exact hQ2 hj o3 _ h3 (hr7.2 e7 _)
        · refine ⟨pk_in 3 9 (by omega), nm_r (e' := nI d3) g3 ?_⟩
          refine copy_o (i := 7) h3 (by decide) b3 (fun o4 h4 => ?_)
          unfold wj_L_does_236 wj_L_does_237
          rw [va_up_self] at h4 ⊢
          refine ⟨fun z => absurd z (n4 _ hjl), fun _ => ?_⟩
          exact hQ2 hj o4 _ h4 (hr7.1 _)
      · unfold wj_L_does_237
        exact ⟨fun _ => hF2 hj, fun z => absurd rfl z⟩
