/-! looking up -/
theorem cnt_pre {f : Nat → Bool} : ∀ (l : List Nat), (∀ i j, i ≤ j → j < l.length → f (l.getD j 0) = true → f (l.getD i 0) = true) → ∀ i, i < l.length → (f (l.getD i 0) = true ↔ i < l.countP f)
  | [], _, i, hi => absurd hi (Nat.not_lt_zero _)
  | a :: l, hm, i, hi => by
    have ih := cnt_pre (f := f) l (fun i j h1 h2 h3 => by
      have := hm (i + 1) (j + 1) (by omega) (by rw [List.length_cons]; omega) (by rw [List.getD_cons_succ]; exact h3)
      rw [List.getD_cons_succ] at this; exact this)
    rw [List.countP_cons]
    by_cases e : f a = true
    · rw [if_pos e]
      cases i with
      | zero => exact ⟨fun _ => by omega, fun _ => e⟩
      | succ i =>
        rw [List.getD_cons_succ]
        rw [ih i (by rw [List.length_cons] at hi; omega)]
        omega
    · rw [if_neg e]
      have z : l.countP f = 0 := by
        refine Nat.eq_zero_of_not_pos (fun hp => ?_)
        have hl : 0 < l.length := Nat.lt_of_lt_of_le hp List.countP_le_length
        have h0 := (ih 0 hl).mpr hp
        have := hm 0 1 (by omega) (by rw [List.length_cons]; omega) (by rw [List.getD_cons_succ]; exact h0)
        exact e this
      rw [z]
      refine ⟨fun h => ?_, fun h => by omega⟩
      have := hm 0 i (by omega) hi h
      exact absurd this e
theorem ord_ks {ks : Nat → Int} {L : List Nat} (ho : ordB ks 0 L = true) (hr : ∀ r ∈ L, r < 200 ∧ -999 ≤ ks r ∧ ks r ≤ 999) : ∀ i j, i ≤ j → j < L.length → ks (L.getD i 0) ≤ ks (L.getD j 0) := by
  intro i j hij hj
  by_cases e : i = j
  · subst e; exact Int.le_refl _
  · have hp := List.pairwise_iff_getElem.mp (List.pairwise_map.mp (ordB_pw.mp ho)) i j (by omega) hj (by omega)
    have e1 : L.getD i 0 = L[i]'(by omega) := by rw [List.getD_eq_getElem?_getD, List.getElem?_eq_getElem (by omega)]; rfl
    have e2 : L.getD j 0 = L[j] := by rw [List.getD_eq_getElem?_getD, List.getElem?_eq_getElem hj]; rfl
    rw [← e1, ← e2] at hp
    obtain ⟨h1, h2, h3⟩ := hr _ (getD_mem (L := L) (i := i) (by omega))
    obtain ⟨h4, h5, h6⟩ := hr _ (getD_mem (L := L) (i := j) hj)
    unfold rk at hp
    rw [if_pos rfl, if_pos rfl] at hp
    omega
theorem isLookedUp_w {o : OS} {ks : Nat → Int} {c : Nat} {T : Nat → List Nat} {s : SS} {tx : List Nat} {J : Option JS} {j : Nat} {r : Nat → Int32} {Q : Bool → (Nat → Int32) → OS → Prop} (h : Off o ks c T s tx J) (hj : j < 8) (hQ : ∀ r' o' T', Off o' ks c T' s tx J → Q true r' o') : wp_L_isLookedUp o 2 r (nI j) Q := by
  have hc := h.c2
  have lL := h.len (j := j) (by omega)
  have rL := h.rec (j := j) (by omega)
  have main : ∀ (key : Int32) (r2 : Nat → Int32) (f : Nat → Int32), IsA (T j).length f (T j) → wj_L_isLookedUp_30 2 (nI j) Q o (T j).length f key r2 := by
    intro key r2 f hf
    unfold wj_L_isLookedUp_30
    refine draw_w (m := 40) (by decide) (by decide) (fun a r3 ha => ?_)
    intro x13 e13 to e14
    refine isSorted_o (od := 0) h hj (by decide) ⟨fun e => ?_, fun hs => ?_⟩
    · have nq : ∀ {P : Prop}, ordB ks 0 (T j) = true → P := fun q => by rw [e] at q; cases q
      unfold wp_L_asks_13
      refine find_o h hj (fun q => nq q) (fun _ => Or.inr (Or.inr (Or.inr ⟨rfl, fun _ => ?_, fun z => absurd rfl z⟩)))
      unfold wp_L_asks_14
      refine floor_o h hj (fun q => nq q) (fun q => nq q) (fun _ => Or.inr (Or.inr (Or.inr ⟨rfl, fun _ => ?_, fun z => absurd rfl z⟩)))
      unfold wp_L_asks_19
      exact between_o h hj (fun q => nq q) (fun _ => Or.inr (Or.inr (Or.inr ⟨rfl, fun _ => hQ _ _ _ h, fun z => absurd rfl z⟩)))
    · clear e13 e14
      obtain ⟨kz, k1, k2, ek⟩ := zI_of key
      obtain ⟨tz, t1, t2, et⟩ := zI_of to
      have hkz : key.toInt = kz := by rw [ek]; exact zI_t k1 k2
      have htz : to.toInt = tz := by rw [et]; exact zI_t t1 t2
      have hb : ∀ r ∈ T j, r < 200 ∧ -999 ≤ ks r ∧ ks r ≤ 999 := fun r hr => by
        have h1 := rL r hr
        exact ⟨by omega, h.key (by omega)⟩
      have mono := ord_ks hs hb
      have pre : ∀ (g : Int → Bool), (∀ x y, x ≤ y → g y = true → g x = true) → ∀ i, i < (T j).length → (g (ks ((T j).getD i 0)) = true ↔ i < (T j).countP (fun r => g (ks r))) := fun g hg =>
        cnt_pre (f := fun r => g (ks r)) (T j) (fun i k h1 h2 h3 => hg _ _ (mono i k h1 h2) h3)
      obtain ⟨p, hp⟩ : ∃ p, p = (T j).countP (fun r => decide (ks r < kz)) := ⟨_, rfl⟩
      obtain ⟨q, hq⟩ : ∃ q, q = (T j).countP (fun r => decide (ks r ≤ kz)) := ⟨_, rfl⟩
      obtain ⟨u, hu⟩ : ∃ u, u = (T j).countP (fun r => decide (ks r ≤ tz)) := ⟨_, rfl⟩
      have pp : ∀ i, i < (T j).length → (ks ((T j).getD i 0) < kz ↔ i < p) := fun i hi => by
        have := pre (fun x => decide (x < kz)) (fun x y h1 h2 => decide_eq_true (by have := of_decide_eq_true h2; omega)) i hi
        rw [hp]; simpa using this
      have pq : ∀ i, i < (T j).length → (ks ((T j).getD i 0) ≤ kz ↔ i < q) := fun i hi => by
        have := pre (fun x => decide (x ≤ kz)) (fun x y h1 h2 => decide_eq_true (by have := of_decide_eq_true h2; omega)) i hi
        rw [hq]; simpa using this
      have pu : ∀ i, i < (T j).length → (ks ((T j).getD i 0) ≤ tz ↔ i < u) := fun i hi => by
        have := pre (fun x => decide (x ≤ tz)) (fun x y h1 h2 => decide_eq_true (by have := of_decide_eq_true h2; omega)) i hi
        rw [hu]; simpa using this
      have lp : p ≤ (T j).length := by rw [hp]; exact List.countP_le_length
      have lq : q ≤ (T j).length := by rw [hq]; exact List.countP_le_length
      have lu : u ≤ (T j).length := by rw [hu]; exact List.countP_le_length
      have bd : ∀ i, i < (T j).length → -999 ≤ ks ((T j).getD i 0) ∧ ks ((T j).getD i 0) ≤ 999 := fun i hi => (hb _ (getD_mem hi)).2
      obtain ⟨Fst, hFst⟩ : ∃ F : Nat → Int32, F = fun i => if p < i ∧ p < q then nI p else -1 := ⟨_, rfl⟩
      obtain ⟨Flo, hFlo⟩ : ∃ F : Nat → Int32, F = fun i => if min i q = 0 then -20002 else zI (ks ((T j).getD (min i q - 1) 0)) := ⟨_, rfl⟩
      obtain ⟨Cei, hCei⟩ : ∃ F : Nat → Int32, F = fun i => if p < i then zI (ks ((T j).getD p 0)) else -20002 := ⟨_, rfl⟩
      obtain ⟨Kc, hKc⟩ : ∃ F : Nat → Nat, F = fun i => (List.range i).countP (fun i => i == 0 || !(ks ((T j).getD i 0) == ks ((T j).getD (i - 1) 0))) := ⟨_, rfl⟩
      refine ⟨(T j).length + 1, by omega, ?_⟩
      have key_ : ∀ (d i : Nat), i + d = (T j).length → wl_L_isLookedUp_131 (T j).length f key to (wx_L_isLookedUp_131_270 (nI j) Q key r3 to) (d + 1) (nI i) (nI (Kc i)) (Fst i) (Cei i) (nI (min i u - p)) o (Flo i) := by
        intro d
        induction d with
        | zero =>
          intro i hi
          rw [wl_L_isLookedUp_131_s]
          refine pk_le ((T j).length) i (fun _ => ?_) (fun q => absurd q (by omega))
          obtain rfl : i = (T j).length := by omega
          unfold wx_L_isLookedUp_131_270
          refine find_o h hj (fun _ => ?_) (fun z => by rw [hs] at z; cases z)
          have e1 : zI (fndA ks (T j) key.toInt) = Fst (T j).length := by
            rw [hFst, hkz]
            show zI (if (T j).countP (fun r => decide (ks r < kz)) < (T j).length ∧ ks ((T j).getD ((T j).countP (fun r => decide (ks r < kz))) 0) = kz then ((T j).countP (fun r => decide (ks r < kz)) : Int) else -1) = if p < (T j).length ∧ p < q then nI p else -1
            rw [← hp]
            by_cases e : p < (T j).length ∧ ks ((T j).getD p 0) = kz
            · have h1 := (pq p e.1).mp (by omega)
              rw [if_pos e, if_pos ⟨e.1, h1⟩, zI_n]
            · rw [if_neg e, if_neg (fun z => e ⟨z.1, by
                have h1 := (pq p z.1).mpr z.2
                have h2 := pp p z.1
                omega⟩)]; rfl
          rw [e1]
          refine ⟨fun _ => ?_, fun z => absurd rfl z⟩
          have tail : (((Cei (T j).length = Cei (T j).length) → ow_between o (nI j) key to (fun r_46 o_48 => ((r_46 = nI (min (T j).length u - p) → ow_keys o_48 (nI j) (fun r_50 o_52 => ((r_50 = nI (Kc (T j).length) → Q true r3 o_52) ∧ (¬ r_50 = nI (Kc (T j).length) → Q false r3 o_52))) (fun _ _ => False)) ∧ (¬ r_46 = nI (min (T j).length u - p) → Q false r3 o_48))) (fun _ _ => False)) ∧ (¬ Cei (T j).length = Cei (T j).length → Q false r3 o)) := by
            refine ⟨fun _ => ?_, fun z => absurd rfl z⟩
            refine between_o h hj (fun _ => ?_) (fun z => by rw [hs] at z; cases z)
            rw [hkz, htz, ← hp, ← hu, Nat.min_eq_right lu]
            refine ⟨fun _ => ?_, fun z => absurd rfl z⟩
            refine keys_o h hj (fun _ => ?_) (fun z => by rw [hs] at z; cases z)
            have e2 : nKeys ks (T j) = Kc (T j).length := by rw [hKc]; rfl
            rw [e2]
            exact ⟨fun _ => hQ _ _ _ h, fun z => absurd rfl z⟩
          have mid : (((Flo (T j).length = Flo (T j).length) → wp_L_asks_15 o (nI j) key (fun r_42 o_44 => ((r_42 = Cei (T j).length → ow_between o_44 (nI j) key to (fun r_46 o_48 => ((r_46 = nI (min (T j).length u - p) → ow_keys o_48 (nI j) (fun r_50 o_52 => ((r_50 = nI (Kc (T j).length) → Q true r3 o_52) ∧ (¬ r_50 = nI (Kc (T j).length) → Q false r3 o_52))) (fun _ _ => False)) ∧ (¬ r_46 = nI (min (T j).length u - p) → Q false r3 o_48))) (fun _ _ => False)) ∧ (¬ r_42 = Cei (T j).length → Q false r3 o_44)))) ∧ (¬ Flo (T j).length = Flo (T j).length → Q false r3 o)) := by
            refine ⟨fun _ => ?_, fun z => absurd rfl z⟩
            unfold wp_L_asks_15
            refine ceiling_o h hj (fun _ hpos => ?_) (fun _ hz => Or.inr (Or.inl ⟨rfl, ?_⟩)) (fun z => by rw [hs] at z; cases z)
            · rw [hkz, ← hp] at hpos ⊢
              have e : zI (ks ((T j).getD p 0)) = Cei (T j).length := by rw [hCei]; exact (if_pos hpos).symm
              rw [e]; exact tail
            · rw [hkz, ← hp] at hz
              have e : (-20002 : Int32) = Cei (T j).length := by rw [hCei]; exact (if_neg (by omega)).symm
              rw [e]; exact tail
          unfold wp_L_asks_14
          refine floor_o h hj (fun _ hpos => ?_) (fun _ hz => Or.inr (Or.inl ⟨rfl, ?_⟩)) (fun z => by rw [hs] at z; cases z)
          · rw [hkz, ← hq] at hpos ⊢
            have e : zI (ks ((T j).getD (q - 1) 0)) = Flo (T j).length := by
              rw [hFlo]
              show _ = if min (T j).length q = 0 then _ else _
              rw [if_neg (by omega), Nat.min_eq_right lq]
            rw [e]; exact mid
          · rw [hkz, ← hq] at hz
            have e : (-20002 : Int32) = Flo (T j).length := by
              rw [hFlo]
              show _ = if min (T j).length q = 0 then _ else _
              rw [if_pos (by omega)]
            rw [e]; exact mid
        | succ d ih =>
          intro i hi
          have hil : i < (T j).length := by omega
          obtain ⟨b1, b2⟩ := bd i hil
          have hmi := rL _ (getD_mem hil)
          have ihi := ih (i + 1) (by omega)
          have i1 := pp i hil
          have i2 := pq i hil
          have i3 := pu i hil
          have hfi : f i = nI ((T j).getD i 0) := hf.2 i hil
          have s231 : ∀ b : Bool, (b = true ↔ p ≤ i ∧ i < u) → wj_L_isLookedUp_231 (T j).length f (nI i) (nI (Kc i)) (nI (min i u - p)) (wl_L_isLookedUp_131 (T j).length f key to (wx_L_isLookedUp_131_270 (nI j) Q key r3 to) (d + 1)) o (zI (ks ((T j).getD i 0))) (Fst (i + 1)) (Flo (i + 1)) (Cei (i + 1)) b := by
            intro b hb9
            unfold wj_L_isLookedUp_231
            have em : nI (min i u - p) + b2i b = nI (min (i + 1) u - p) := by
              cases b with
              | true =>
                have := hb9.mp rfl
                show nI (min i u - p) + nI 1 = _
                rw [nI_add]; congr 1; omega
              | false =>
                have : ¬ (p ≤ i ∧ i < u) := fun z => by have := hb9.mpr z; cases this
                show nI (min i u - p) + nI 0 = _
                rw [nI_add]; congr 1; omega
            refine nm_r (e' := nI (min (i + 1) u - p)) em ?_
            have kstep : ∀ bb : Bool, bb = (i == 0 || !(ks ((T j).getD i 0) == ks ((T j).getD (i - 1) 0))) → Kc (i + 1) = Kc i + (if bb then 1 else 0) := by
              intro bb hbb
              rw [hKc, hbb]
              show (List.range (i + 1)).countP _ = _
              rw [List.range_succ, List.countP_append, List.countP_singleton]
            have up : (i == 0 || !(ks ((T j).getD i 0) == ks ((T j).getD (i - 1) 0))) = true → wj_L_isLookedUp_256 (nI i) (nI (Kc i)) (wl_L_isLookedUp_131 (T j).length f key to (wx_L_isLookedUp_131_270 (nI j) Q key r3 to) (d + 1)) (Fst (i + 1)) (Flo (i + 1)) (Cei (i + 1)) (nI (min (i + 1) u - p)) o := by
              intro hb8
              unfold wj_L_isLookedUp_256
              refine nm_r (e' := nI ((Kc i) + 1)) (nI_1 _) ?_
              refine nm_r (e' := nI (i + 1)) (nI_1 _) ?_
              rw [kstep true hb8.symm] at ihi
              exact ihi
            refine pk_eq i 0 (fun e => up (by simp [e])) (fun e => ?_)
            refine nm_r (e' := nI (i - 1)) (pk_sub (b := 1) (by omega)) ?_
            have hil2 : i - 1 < (T j).length := by omega
            have hmi2 := rL _ (getD_mem hil2)
            obtain ⟨b3, b4⟩ := bd (i - 1) hil2
            refine ⟨pk_in (i - 1) ((T j).length) (by omega), ?_⟩
            refine nm_r (e' := nI ((T j).getD (i - 1) 0)) (by rw [cl_n (by omega)]; exact hf.2 (i - 1) hil2) ?_
            refine key_o h hmi2 ?_
            refine zk_eq (ks ((T j).getD i 0)) (ks ((T j).getD (i - 1) 0)) (fun e2 => ?_) (fun e2 => up (by rw [Bool.or_eq_true]; exact Or.inr (by rw [beq_eq_false_iff_ne.mpr e2]; rfl))) rfl rfl
            refine nm_r (e' := nI (Kc i)) (by show nI (Kc i) + nI 0 = _; rw [nI_add]; rfl) ?_
            refine nm_r (e' := nI (i + 1)) (nI_1 _) ?_
            rw [kstep false (by rw [beq_eq_false_iff_ne.mpr e, beq_iff_eq.mpr e2]; rfl)] at ihi
            exact ihi
          have s208 : wj_L_isLookedUp_208 (T j).length f key to (nI i) (nI (Kc i)) (nI (min i u - p)) (wl_L_isLookedUp_131 (T j).length f key to (wx_L_isLookedUp_131_270 (nI j) Q key r3 to) (d + 1)) o (zI (ks ((T j).getD i 0))) (Fst (i + 1)) (Flo (i + 1)) (Cei (i + 1)) := by
            unfold wj_L_isLookedUp_208 wj_L_isLookedUp_230
            refine zk_lt (ks ((T j).getD i 0)) kz (fun e => s231 false ⟨fun z => (by cases z), fun z => by omega⟩) (fun e => ?_) rfl ek
            refine zk_lt tz (ks ((T j).getD i 0)) (fun e2 => s231 false ⟨fun z => (by cases z), fun z => by omega⟩) (fun e2 => s231 true ⟨fun _ => by omega, fun _ => rfl⟩) et rfl
          have s184 : wj_L_isLookedUp_184 (T j).length f key to (nI i) (nI (Kc i)) (Cei i) (nI (min i u - p)) (wl_L_isLookedUp_131 (T j).length f key to (wx_L_isLookedUp_131_270 (nI j) Q key r3 to) (d + 1)) o (zI (ks ((T j).getD i 0))) (Fst (i + 1)) (Flo (i + 1)) := by
            unfold wj_L_isLookedUp_184 wj_L_isLookedUp_206
            have keep : (i < p ∨ p < i) → Cei (i + 1) = Cei i := by
              intro z
              rw [hCei]
              show (if p < i + 1 then _ else _) = if p < i then _ else _
              by_cases e : p < i
              · rw [if_pos e, if_pos (by omega)]
              · rw [if_neg e, if_neg (by omega)]
            refine zk_lt (ks ((T j).getD i 0)) kz (fun e => ?_) (fun e => ?_) rfl ek
            · rw [← keep (Or.inl (by omega))]; exact s208
            · by_cases e2 : p < i
              · have e3 : Cei i = zI (ks ((T j).getD p 0)) := by rw [hCei]; exact if_pos e2
                obtain ⟨b5, b6⟩ := bd p (by omega)
                rw [e3]
                refine zk_eq (ks ((T j).getD p 0)) (-20002) (fun z => absurd z (by omega)) (fun _ => ?_) rfl rfl
                rw [← e3, ← keep (Or.inr e2)]; exact s208
              · have e3 : Cei i = -20002 := by rw [hCei]; exact if_neg e2
                have e4 : Cei (i + 1) = zI (ks ((T j).getD i 0)) := by
                  rw [hCei]
                  show (if p < i + 1 then _ else _) = _
                  rw [if_pos (by omega), show p = i by omega]
                rw [e3]
                refine ⟨fun _ => ?_, fun z => absurd rfl z⟩
                have z := s208; rw [e4] at z; exact z
          have s168 : wj_L_isLookedUp_168 (T j).length f key to (nI i) (nI (Kc i)) (Cei i) (nI (min i u - p)) (Flo i) (wl_L_isLookedUp_131 (T j).length f key to (wx_L_isLookedUp_131_270 (nI j) Q key r3 to) (d + 1)) o (zI (ks ((T j).getD i 0))) (Fst (i + 1)) := by
            unfold wj_L_isLookedUp_168
            refine zk_lt kz (ks ((T j).getD i 0)) (fun e => ?_) (fun e => ?_) ek rfl
            · have e1 : Flo (i + 1) = Flo i := by
                rw [hFlo]
                show (if min (i + 1) q = 0 then _ else _) = if min i q = 0 then _ else _
                rw [show min (i + 1) q = min i q by omega]
              have z := s184; rw [e1] at z; exact z
            · have e1 : Flo (i + 1) = zI (ks ((T j).getD i 0)) := by
                rw [hFlo]
                show (if min (i + 1) q = 0 then _ else _) = _
                rw [if_neg (by omega), show min (i + 1) q - 1 = i by omega]
              have z := s184; rw [e1] at z; exact z
          rw [wl_L_isLookedUp_131_s]
          refine pk_le ((T j).length) i (fun q => absurd q (by omega)) (fun _ => ?_)
          refine ⟨pk_in i ((T j).length) (by omega), ?_⟩
          refine nm_r (e' := nI ((T j).getD i 0)) (by rw [cl_n (by omega)]; exact hfi) ?_
          refine key_o h hmi ?_
          unfold wj_L_isLookedUp_166
          by_cases e : p < i ∧ p < q
          · have e1 : Fst i = nI p := by rw [hFst]; exact if_pos e
            have e2 : Fst (i + 1) = nI p := by rw [hFst]; exact if_pos ⟨by omega, e.2⟩
            rw [e1]
            refine zk_eq (p : Int) (-1) (fun z => absurd z (by omega)) (fun _ => ?_) (zI_n p) rfl
            have z := s168; rw [e2] at z; exact z
          · have e1 : Fst i = -1 := by rw [hFst]; exact if_neg e
            rw [e1]
            refine ⟨fun _ => ?_, fun z => absurd rfl z⟩
            refine zk_eq (ks ((T j).getD i 0)) kz (fun e3 => ?_) (fun e3 => ?_) rfl ek
            · have e2 : Fst (i + 1) = nI i := by
                rw [hFst]
                show (if p < i + 1 ∧ p < q then nI p else -1) = _
                rw [if_pos (by omega), show p = i by omega]
              have z := s168; rw [e2] at z; exact z
            · have e2 : Fst (i + 1) = -1 := by
                rw [hFst]
                show (if p < i + 1 ∧ p < q then nI p else -1) = _
                rw [if_neg (by omega)]
              have z := s168; rw [e2] at z; exact z
      have k0 : Kc 0 = 0 := by rw [hKc]; rfl
      have f0 : Fst 0 = -1 := by rw [hFst]; exact if_neg (by omega)
      have c0 : Cei 0 = -20002 := by rw [hCei]; exact if_neg (by omega)
      have l0 : Flo 0 = -20002 := by rw [hFlo]; exact if_pos (by omega)
      have m0 : min 0 u - p = 0 := by omega
      have := key_ (T j).length 0 (by omega)
      rw [k0, f0, c0, l0, m0] at this
      exact this
  unfold wp_L_isLookedUp
  refine tape_w h hj (fun f hf => ?_)
  refine draw_w (m := 5) (by decide) (by decide) (fun a r2 ha => ?_)
  refine pk_eq a 0 (fun _ => ?_) (fun _ => ?_)
  · exact next_w (fun v r3 => main v r3 f hf)
  · refine draw_w (m := 60) (by decide) (by decide) (fun b r3 hb => ?_)
    intro x99 e99
    exact main x99 r3 f hf
