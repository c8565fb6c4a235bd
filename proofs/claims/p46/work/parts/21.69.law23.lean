/-! the law -/
theorem law_w {n : Nat} {f : Nat → Int32} {Q : Bool → Prop} (hn : n < 2 ^ 20) (hQ : Q true) : wp_L_law n f Q := by
  have e216 : ∀ (r : Nat → Int32) (o : OS) (ks : Nat → Int) (c : Nat) (T : Nat → List Nat) (s : SS) (tx : List Nat) (J : Option JS), Off o ks c T s tx J → wx_L_law_15_216 Q 2 r o := by
    intro r o ks c T s tx J h
    unfold wx_L_law_15_216
    refine isProgram_w (fun r1 => ⟨fun q => (by cases q), fun _ => ?_⟩)
    refine isWrong_w h (fun r2 o2 tx2 h2 => ⟨fun q => (by cases q), fun _ => ?_⟩)
    exact areRefused_w h2 (fun r3 o3 => ⟨fun q => (by cases q), fun _ => hQ⟩)
  have key : ∀ (d v : Nat), v + d = 2 → ∀ (r : Nat → Int32) (o : OS) (ks : Nat → Int) (c : Nat) (T : Nat → List Nat) (s : SS) (tx : List Nat) (J : Option JS), c ≤ 60 * v → Off o ks c T s tx J → wl_L_law_15 2 (wx_L_law_15_99 Q) (wx_L_law_15_123 Q) (wx_L_law_15_174 Q) (wx_L_law_15_208 Q) (wx_L_law_15_216 Q 2) (d + 1) r o (nI v) := by
    intro d
    induction d with
    | zero =>
      intro v hv r o ks c T s tx J hc h
      rw [wl_L_law_15_s]
      refine pk_le 2 v (fun _ => ?_) (fun q => absurd q (by omega))
      exact e216 r o ks c T s tx J h
    | succ d ih =>
      intro v hv r o ks c T s tx J hc h
      have hv2 : v < 2 := by omega
      rw [wl_L_law_15_s]
      refine pk_le 2 v (fun q => absurd q (by omega)) (fun _ => ?_)
      refine ⟨by omega, ?_⟩
      refine draw_w (m := 3) (by decide) (by decide) (fun t r1 ht => ?_)
      refine draws_w h (by omega) (by omega) (fun r2 o2 ks2 c2 T2 h2 hc2 hl2 => ?_)
      refine draw_w (m := 2) (by decide) (by decide) (fun od r3 hod => ?_)
      refine draw_w (m := 3) (by decide) (by decide) (fun z r4 hz => ?_)
      have e68 : ∀ (m : Nat) (r5 : Nat → Int32), 1 ≤ m → m ≤ 50 → wj_L_law_68 2 (nI v) (wl_L_law_15 2 (wx_L_law_15_99 Q) (wx_L_law_15_123 Q) (wx_L_law_15_174 Q) (wx_L_law_15_208 Q) (wx_L_law_15_216 Q 2) (d + 1)) (wx_L_law_15_99 Q) (wx_L_law_15_123 Q) (wx_L_law_15_174 Q) (wx_L_law_15_208 Q) (nI t) o2 (nI od) (nI m) r5 := by
        intro m r5 hm1 hm2
        unfold wj_L_law_68
        refine draw_w (m := 3) (by decide) (by decide) (fun w r6 hw => ?_)
        refine areRuns_w h2 (by omega) hod hw hm1 hm2 (by omega) (fun o3 h3 => ⟨fun q => (by cases q), fun _ => ?_⟩)
        refine isPlanned_w h3 (by omega) (fun r7 o4 s4 h4 hs4 => ⟨fun q => (by cases q), fun _ => ?_⟩)
        have hs4' : s4.1 = od := hs4
        have e115 : ∀ i, i < 8 → wj_L_law_115 2 (nI v) (wl_L_law_15 2 (wx_L_law_15_99 Q) (wx_L_law_15_123 Q) (wx_L_law_15_174 Q) (wx_L_law_15_208 Q) (wx_L_law_15_216 Q 2) (d + 1)) (wx_L_law_15_123 Q) (wx_L_law_15_174 Q) (wx_L_law_15_208 Q) (nI t) (nI od) r7 o4 (nI i) := by
          intro i hi
          unfold wj_L_law_115
          refine isJob_w h4 (by omega) hi hs4' hl2 (fun r8 o5 T5 s5 J5 h5 => ⟨fun q => (by cases q), fun _ => ?_⟩)
          refine draws_w (j := 4) h5 (by decide) (by omega) (fun r9 o6 ks6 c6 T6 h6 hc6 hl6 => ?_)
          refine draw_w (m := 3) (by decide) (by decide) (fun y ra hy => ?_)
          have e148 : ∀ (b : Bool) (od2 : Nat), od2 < 2 → b2i b = nI od2 → wj_L_law_148 2 (nI v) (wl_L_law_15 2 (wx_L_law_15_99 Q) (wx_L_law_15_123 Q) (wx_L_law_15_174 Q) (wx_L_law_15_208 Q) (wx_L_law_15_216 Q 2) (d + 1)) (wx_L_law_15_174 Q) (wx_L_law_15_208 Q) o6 ra b := by
            intro b od2 ho2 hb
            unfold wj_L_law_148
            rw [hb]
            refine isSort_w (j := 4) (i := 5) h6 (by decide) (by decide) ho2 (by omega) (fun rb o7 T7 s7 h7 => ⟨fun q => (by cases q), fun _ => ?_⟩)
            refine isCombined_w (a := 3) (b := 5) h7 (by decide) (by decide) (fun rc o8 T8 h8 => ⟨fun q => (by cases q), fun _ => ?_⟩)
            refine isCombined_w (a := 5) (b := 5) h8 (by decide) (by decide) (fun rd o9 T9 h9 => ⟨fun q => (by cases q), fun _ => ?_⟩)
            refine isLookedUp_w (j := 5) h9 (by decide) (fun re oa Ta ha => ⟨fun q => (by cases q), fun _ => ?_⟩)
            refine isLookedUp_w (j := 3) ha (by decide) (fun rf ob Tb hb2 => ⟨fun q => (by cases q), fun _ => ?_⟩)
            refine draw_w (m := 6) (by decide) (by decide) (fun x rg hx => ?_)
            refine isThinned_w hb2 (by omega) (fun rh oc Tc hc3 => ⟨fun q => (by cases q), fun _ => ?_⟩)
            refine nm_r (e' := nI (v + 1)) (nI_1 _) ?_
            exact ih (v + 1) (by omega) rh oc _ _ _ _ _ _ (by omega) hc3
          exact pk_eq y 0 (fun _ => e148 true 1 (by decide) rfl) (fun _ => e148 false 0 (by decide) rfl)
        exact pk_eq v 0 (fun _ => e115 3 (by decide)) (fun _ => e115 t (by omega))
      refine pk_eq z 0 (fun _ => ?_) (fun _ => ?_)
      · refine draw_w (m := 50) (by decide) (by decide) (fun y r5 hy => ?_)
        refine nm_r (e' := nI (1 + y)) (nI_add 1 y) ?_
        exact e68 (1 + y) r5 (by omega) (by omega)
      · refine draw_w (m := 6) (by decide) (by decide) (fun y r5 hy => ?_)
        refine nm_r (e' := nI (1 + y)) (nI_add 1 y) ?_
        exact e68 (1 + y) r5 (by omega) (by omega)
  unfold wp_L_law
  refine seed_w hn (fun r => ?_)
  show ∃ n15 : Nat, n15 ≤ 3 ∧ _
  exact ⟨3, by decide, key 2 0 rfl r of_0 _ 0 _ _ _ _ (Nat.zero_le _) off_0⟩
