/-! tapes: looked up, thinned, joined -/
theorem countUpTo_s {K : Nat → Int32} {ks : Nat → Int} {F : Nat → Nat → Int32} {n : Nat → Int32} {T : Nat → List Nat} {j : Nat} {key : Int32} {Q : Int32 → Prop} (hK : KOk K ks) (hP : POk F n T) (hj : j < 18) (h : Q (nI ((T j).countP (fun r => decide (ks r ≤ key.toInt))))) : wp_X9_countUpTo K j key F n Q := by
  obtain ⟨h1, h2, h3, h4⟩ := hP j hj
  unfold wp_X9_countUpTo
  refine ⟨(T j).length + 1, ?_⟩
  have ky : ∀ (d i : Nat), i + d = (T j).length → wl_X9_countUpTo_5 K j key F n (wx_X9_countUpTo_5_39 Q) (d + 1) (nI i) (nI (((T j).take i).countP (fun r => decide (ks r ≤ key.toInt)))) := by
    intro d
    induction d with
    | zero =>
      intro i hi
      rw [wl_X9_countUpTo_5_s]
      refine pk_le ((T j).length) i (fun _ => ?_) (fun q => absurd q (by omega)) h1
      unfold wx_X9_countUpTo_5_39
      rwa [List.take_of_length_le (by omega)]
    | succ d ih =>
      intro i hi
      rw [wl_X9_countUpTo_5_s]
      refine pk_le ((T j).length) i (fun q => absurd q (by omega)) (fun _ => ?_) h1
      refine keyAt_s hK hP hj (by omega) ?_
      have hi2 : i < (T j).length := by omega
      obtain ⟨-, k1, k2⟩ := hK _ (h4 _ (getD_mem (L := T j) hi2))
      have e := take_snoc (l := T j) hi2
      have it := ih (i + 1) (by omega)
      rw [e, List.countP_append] at it
      have z1 := zI_t (z := ks ((T j).getD i 0)) (by omega) (by omega)
      refine ⟨fun c => ?_, fun c => ?_⟩
      · rw [Int32.lt_iff_toInt_lt, z1] at c
        refine nm_r (e' := nI (((T j).take i).countP (fun r => decide (ks r ≤ key.toInt)))) (Int32.add_zero _) ?_
        refine nm_r (e' := nI (i + 1)) (nI_1 _) ?_
        have e0 : [(T j).getD i 0].countP (fun r => decide (ks r ≤ key.toInt)) = 0 := by
          rw [List.countP_cons_of_neg (by rw [decide_eq_true_eq]; omega)]; rfl
        rw [e0] at it
        exact it
      · rw [Int32.lt_iff_toInt_lt, z1] at c
        refine nm_r (e' := nI (((T j).take i).countP (fun r => decide (ks r ≤ key.toInt)) + 1)) (nI_1 _) ?_
        refine nm_r (e' := nI (i + 1)) (nI_1 _) ?_
        have e0 : [(T j).getD i 0].countP (fun r => decide (ks r ≤ key.toInt)) = 1 := by
          rw [List.countP_cons_of_pos (by rw [decide_eq_true_eq]; omega)]; rfl
        rw [e0] at it
        exact it
  exact ky _ 0 (by omega)
theorem recordAt_r {F : Nat → Nat → Int32} {n : Nat → Int32} {j i l r : Nat} {Q : Int32 → Prop} (hn : n j = nI l) (hl : l ≤ 100) (hi : i < l) (hv : F j i = nI r) (h : Q (nI r)) : wp_X9_recordAt j (nI i) F n Q := by
  unfold wp_X9_recordAt
  refine pk_lt i 0 (fun q => absurd q (by omega)) (fun _ => ?_)
  refine pk_le l i (fun q => absurd q (by omega)) (fun _ => ?_) hn
  refine pk_le 100 i (fun q => absurd q (by omega)) (fun _ => ?_)
  refine ⟨pk_in i 100 (by omega), nm_r (e' := nI r) (by rw [cl_n (by omega)]; exact hv) ?_⟩
  exact h
theorem keyAt_r {K : Nat → Int32} {ks : Nat → Int} {F : Nat → Nat → Int32} {n : Nat → Int32} {j i l r : Nat} {Q : Int32 → Prop} (hK : KOk K ks) (hn : n j = nI l) (hl : l ≤ 100) (hi : i < l) (hv : F j i = nI r) (hr : r < 200) (h : Q (zI (ks r))) : wp_X9_keyAt K j (nI i) F n Q := by
  unfold wp_X9_keyAt
  exact recordAt_r hn hl hi hv (keyOf_s hK hr h)
/-- which records a tape keeps when it is thinned -/
def keepB (ks : Nat → Int) (isLast : Bool) (L : List Nat) (i : Nat) : Bool :=
  if isLast then decide (L.length ≤ i + 1) || !(ks (L.getD (i + 1) 0) == ks (L.getD i 0)) else i == 0 || !(ks (L.getD (i - 1) 0) == ks (L.getD i 0))
def thinL (ks : Nat → Int) (isLast : Bool) (L : List Nat) : List Nat := pick (keepB ks isLast L) L
theorem thin_s {K : Nat → Int32} {ks : Nat → Int} {F : Nat → Nat → Int32} {n : Nat → Int32} {T : Nat → List Nat} {j : Nat} {isLast : Bool} {Q : Int32 → (Nat → Nat → Int32) → (Nat → Int32) → Prop} (hK : KOk K ks) (hP : POk F n T) (hj : j < 18) (h : ∀ F' n', POk F' n' (va_up T j (thinL ks isLast (T j))) → Q (nI ((T j).length - (thinL ks isLast (T j)).length)) F' n') : wp_X9_thinOut K j isLast F n Q := by
  obtain ⟨h1, h2, h3, h4⟩ := hP j hj
  unfold wp_X9_thinOut
  refine nm_r (e' := nI (T j).length) (min100 h1 h2) ?_
  refine ⟨(T j).length + 1, ?_⟩
  have key : ∀ (d i kp : Nat) (F1 : Nat → Nat → Int32), i + d = (T j).length → kp = (pick (keepB ks isLast (T j)) ((T j).take i)).length → (∀ q, q ≠ j → F1 q = F q) → (∀ q, q < kp → F1 j q = nI ((pick (keepB ks isLast (T j)) ((T j).take i)).getD q 0)) → (∀ q, kp ≤ q → F1 j q = F j q) → wl_X9_thinOut_16 K j isLast n (nI (T j).length) (wx_X9_thinOut_16_109 j n Q (nI (T j).length)) (d + 1) (nI i) (nI kp) F1 := by
    intro d
    induction d with
    | zero =>
      intro i kp F1 hi hk a1 a2 a3
      rw [wl_X9_thinOut_16_s]
      refine pk_le ((T j).length) i (fun _ => ?_) (fun q => absurd q (by omega))
      unfold wx_X9_thinOut_16_109
      rw [List.take_of_length_le (by omega)] at hk a2
      have hle := pick_len (T j) (keepB ks isLast (T j))
      refine nm_r (e' := nI ((T j).length - kp)) (pk_sub (by omega)) ?_
      subst hk
      refine h _ _ (hP.of a1 (fun q hq => va_up_ne _ _ hq) ⟨by rw [va_up_self]; rfl, by unfold thinL; omega, a2, fun r hr => h4 r ((pick_sub (T j) _).subset hr)⟩)
    | succ d ih =>
      intro i kp F1 hi hk a1 a2 a3
      rw [wl_X9_thinOut_16_s]
      refine pk_le ((T j).length) i (fun q => absurd q (by omega)) (fun _ => ?_)
      have hi2 : i < (T j).length := by omega
      have hle := pick_len ((T j).take i) (keepB ks isLast (T j))
      have hkp : kp ≤ i := by rw [hk]; refine Nat.le_trans hle ?_; rw [List.length_take]; omega
      have hpt := pick_take (d := 0) (keepB ks isLast (T j)) hi2
      -- what stands at the places that are looked at
      have at' : ∀ q, q < (T j).length → (i ≤ q ∨ q + 1 = i) → F1 j q = nI ((T j).getD q 0) := by
        intro q hq hq2
        by_cases c : kp ≤ q
        · rw [a3 q c]; exact h3 q hq
        · have e : kp = i := by omega
          have e2 : pick (keepB ks isLast (T j)) ((T j).take i) = (T j).take i := by
            refine (pick_sub _ _).eq_of_length ?_
            rw [← hk, e, List.length_take]; omega
          rw [a2 q (by omega), e2, List.getD_eq_getElem?_getD, List.getElem?_take, if_pos (by omega), ← List.getD_eq_getElem?_getD]
      have step : ∀ b : Bool, b = keepB ks isLast (T j) i → wj_X9_thinOut_72 j (nI i) (nI kp) F1 (wl_X9_thinOut_16 K j isLast n (nI (T j).length) (wx_X9_thinOut_16_109 j n Q (nI (T j).length)) (d + 1)) b := by
        intro b hb
        unfold wj_X9_thinOut_72
        cases b with
        | false =>
          refine ⟨fun _ => ?_, fun q => by cases q⟩
          refine nm_r (e' := nI (i + 1)) (nI_1 _) ?_
          rw [← hb, if_neg (by simp), List.append_nil] at hpt
          exact ih (i + 1) kp F1 (by omega) (by rw [hpt]; exact hk) a1 (by rw [hpt]; exact a2) a3
        | true =>
          refine ⟨fun q => (by cases q), fun _ => ?_⟩
          refine pk_le 100 kp (fun q => absurd q (by omega)) (fun _ => ?_)
          refine ⟨pk_in i 100 (by omega), nm_r (e' := nI ((T j).getD i 0)) (by rw [cl_n (by omega)]; exact at' i hi2 (Or.inl (Nat.le_refl _))) ?_⟩
          refine ⟨pk_in kp 100 (by omega), ?_⟩
          refine nm_r (e' := nI (kp + 1)) (nI_1 _) ?_
          refine nm_r (e' := nI (i + 1)) (nI_1 _) ?_
          rw [cl_n (by omega)]
          rw [← hb, if_pos rfl] at hpt
          refine ih (i + 1) (kp + 1) _ (by omega) (by rw [hpt, List.length_append, ← hk]; rfl) (fun q hq => by rw [va_up_ne _ _ hq]; exact a1 q hq) (fun q hq => ?_) (fun q hq => ?_)
          · rw [va_up_self, hpt]
            by_cases c : q = kp
            · rw [c, up_s, hk, getD_app_r (Nat.le_refl _), Nat.sub_self]; rfl
            · rw [up_n _ c, getD_app_l (by omega)]
              exact a2 q (by omega)
          · rw [va_up_self, up_n _ (by omega)]
            exact a3 q (by omega)
      have nb : ∀ q, q < (T j).length → (i ≤ q ∨ q + 1 = i) → keepB ks isLast (T j) i = (!(ks ((T j).getD q 0) == ks ((T j).getD i 0))) → wp_X9_keyAt K j (nI q) F1 n (fun r_24 => wp_X9_keyAt K j (nI i) F1 n (fun r_25 => ((r_24 = r_25 → (wj_X9_thinOut_72 j (nI i) (nI kp) F1 (wl_X9_thinOut_16 K j isLast n (nI (T j).length) (wx_X9_thinOut_16_109 j n Q (nI (T j).length)) (d + 1))) false) ∧ (¬ r_24 = r_25 → (wj_X9_thinOut_67 j (nI i) (nI kp) F1 (wl_X9_thinOut_16 K j isLast n (nI (T j).length) (wx_X9_thinOut_16_109 j n Q (nI (T j).length)) (d + 1))))))) := by
        intro q hq hq2 hkb
        have hr1 := h4 _ (getD_mem (L := T j) hq)
        have hr2 := h4 _ (getD_mem (L := T j) hi2)
        obtain ⟨-, k1, k2⟩ := hK _ hr1
        obtain ⟨-, k3, k4⟩ := hK _ hr2
        refine keyAt_r hK h1 h2 hq (at' q hq hq2) hr1 ?_
        refine keyAt_r hK h1 h2 hi2 (at' i hi2 (Or.inl (Nat.le_refl _))) hr2 ?_
        refine zk_eq (ks ((T j).getD q 0)) (ks ((T j).getD i 0)) (fun c => ?_) (fun c => ?_) rfl rfl
        · refine step false ?_
          rw [hkb, c]; simp
        · unfold wj_X9_thinOut_67
          refine step true ?_
          rw [hkb]; simpa using c
      cases isLast with
      | false =>
        refine ⟨fun _ => ?_, fun q => by cases q⟩
        cases i with
        | zero =>
          refine nm_r (e' := -1) (by decide) ?_
          unfold wj_X9_thinOut_37
          refine ⟨fun _ => ?_, fun q => absurd (by decide) q⟩
          unfold wj_X9_thinOut_67
          exact step true rfl
        | succ i =>
          refine nm_r (e' := nI i) (nI_pred i) ?_
          unfold wj_X9_thinOut_37
          refine pk_lt i 0 (fun q => absurd q (by omega)) (fun _ => ?_)
          refine pk_le ((T j).length) i (fun q => absurd q (by omega)) (fun _ => ?_)
          refine nb i (by omega) (Or.inr rfl) ?_
          unfold keepB
          simp
      | true =>
        refine ⟨fun q => (by cases q), fun _ => ?_⟩
        refine nm_r (e' := nI (i + 1)) (nI_1 _) ?_
        unfold wj_X9_thinOut_37
        refine pk_lt (i + 1) 0 (fun q => absurd q (by omega)) (fun _ => ?_)
        refine pk_le (T j).length (i + 1) (fun c => ?_) (fun c => ?_)
        · unfold wj_X9_thinOut_67
          refine step true ?_
          unfold keepB
          simp [c]
        · refine nb (i + 1) c (Or.inl (by omega)) ?_
          unfold keepB
          simp [show ¬ (T j).length ≤ i + 1 by omega]
  exact key _ 0 0 F (by omega) rfl (fun _ _ => rfl) (fun q hq => absurd hq (by omega)) (fun _ _ => rfl)
theorem holdsKey_s {K : Nat → Int32} {ks : Nat → Int} {F : Nat → Nat → Int32} {n : Nat → Int32} {T : Nat → List Nat} {j : Nat} {key : Int} {Q : Bool → Prop} (hK : KOk K ks) (hP : POk F n T) (hj : j < 18) (hk1 : -999 ≤ key) (hk2 : key ≤ 999) (h : Q ((T j).any (fun r => ks r == key))) : wp_X9_holdsKey K j (zI key) F n Q := by
  obtain ⟨h1, h2, h3, h4⟩ := hP j hj
  unfold wp_X9_holdsKey
  refine ⟨(T j).length + 1, ?_⟩
  have ky : ∀ (d i : Nat), i + d = (T j).length → ((T j).take i).any (fun r => ks r == key) = false → wl_X9_holdsKey_2 K j (zI key) F n (wx_X9_holdsKey_2_20 Q) (wx_X9_holdsKey_2_28 Q) (d + 1) (nI i) := by
    intro d
    induction d with
    | zero =>
      intro i hi hf
      rw [wl_X9_holdsKey_2_s]
      refine pk_le ((T j).length) i (fun _ => ?_) (fun q => absurd q (by omega)) h1
      unfold wx_X9_holdsKey_2_28
      rw [List.take_of_length_le (by omega)] at hf
      rwa [hf] at h
    | succ d ih =>
      intro i hi hf
      rw [wl_X9_holdsKey_2_s]
      refine pk_le ((T j).length) i (fun q => absurd q (by omega)) (fun _ => ?_) h1
      have hi2 : i < (T j).length := by omega
      obtain ⟨-, k1, k2⟩ := hK _ (h4 _ (getD_mem (L := T j) hi2))
      refine keyAt_s hK hP hj hi2 ?_
      refine zk_eq (ks ((T j).getD i 0)) key (fun c => ?_) (fun c => ?_) rfl rfl
      · unfold wx_X9_holdsKey_2_20
        have : (T j).any (fun r => ks r == key) = true := List.any_eq_true.mpr ⟨_, getD_mem hi2, by simpa using c⟩
        rwa [this] at h
      · refine nm_r (e' := nI (i + 1)) (nI_1 _) ?_
        refine ih (i + 1) (by omega) ?_
        rw [take_snoc hi2, List.any_append, hf]
        simpa using c
  exact ky _ 0 (by omega) rfl
/-- what the second tape's keys leave of the first one -/
def pickL (ks : Nat → Int) (A B : List Nat) (c : Bool) : List Nat := A.filter (fun r => B.any (fun q => ks q == ks r) == c)
theorem filter_snoc {L : List Nat} {i : Nat} (p : Nat → Bool) (h : i < L.length) : (L.take (i + 1)).filter p = (L.take i).filter p ++ (if p (L.getD i 0) then [L.getD i 0] else []) := by
  rw [take_snoc h, List.filter_append]
  congr 1
  by_cases c : p (L.getD i 0) = true
  · rw [if_pos c, List.filter_cons_of_pos c]; rfl
  · rw [if_neg c, List.filter_cons_of_neg c]; rfl
theorem pickT_s {K : Nat → Int32} {ks : Nat → Int} {F : Nat → Nat → Int32} {n : Nat → Int32} {T : Nat → List Nat} {j a b : Nat} {c : Bool} {Q : (Nat → Nat → Int32) → (Nat → Int32) → Prop} (hK : KOk K ks) (hP : POk F n T) (hj : j < 18) (ha : a < 18) (hb : b < 18) (haj : a ≠ j) (hbj : b ≠ j) (he : T j = []) (h : ∀ F' n', POk F' n' (va_up T j (pickL ks (T a) (T b) c)) → Q F' n') : wp_X9_pick K j a b c F n Q := by
  have h4 := (hP a ha).2.2.2
  have h2 := (hP a ha).2.1
  unfold wp_X9_pick
  refine ⟨(T a).length + 1, ?_⟩
  have ky : ∀ (d i : Nat) (F1 : Nat → Nat → Int32) (n1 : Nat → Int32), i + d = (T a).length → POk F1 n1 (va_up T j (((T a).take i).filter (fun r => (T b).any (fun q => ks q == ks r) == c))) → wl_X9_pick_3 K j a b c (wx_X9_pick_3_45 Q) (d + 1) (nI i) F1 n1 := by
    intro d
    induction d with
    | zero =>
      intro i F1 n1 hi hP1
      have e1 := (hP1 a ha).1
      rw [va_up_ne _ _ haj] at e1
      rw [wl_X9_pick_3_s]
      refine pk_le ((T a).length) i (fun _ => ?_) (fun q => absurd q (by omega)) e1
      unfold wx_X9_pick_3_45
      rw [List.take_of_length_le (by omega)] at hP1
      exact h F1 n1 hP1
    | succ d ih =>
      intro i F1 n1 hi hP1
      have e1 := (hP1 a ha).1
      rw [va_up_ne _ _ haj] at e1
      rw [wl_X9_pick_3_s]
      refine pk_le ((T a).length) i (fun q => absurd q (by omega)) (fun _ => ?_) e1
      have hi2 : i < (T a).length := by omega
      have hr := h4 _ (getD_mem (L := T a) hi2)
      obtain ⟨-, k1, k2⟩ := hK _ hr
      have ea : va_up T j (((T a).take i).filter (fun r => (T b).any (fun q => ks q == ks r) == c)) a = T a := va_up_ne _ _ haj
      have eb : va_up T j (((T a).take i).filter (fun r => (T b).any (fun q => ks q == ks r) == c)) b = T b := va_up_ne _ _ hbj
      have fs := filter_snoc (fun r => (T b).any (fun q => ks q == ks r) == c) hi2
      refine keyAt_s hK hP1 ha (by rw [ea]; exact hi2) ?_
      rw [ea]
      refine holdsKey_s hK hP1 hb k1 k2 ?_
      rw [eb]
      have it := ih (i + 1)
      rw [fs] at it
      by_cases cc : ((T b).any (fun q => ks q == ks ((T a).getD i 0)) == c) = true
      · rw [if_pos cc] at it
        have cc2 : (T b).any (fun q => ks q == ks ((T a).getD i 0)) = c := by simpa using cc
        refine ⟨fun _ => ?_, fun q => absurd (by rw [cc2]) q⟩
        refine recordAt_s hP1 ha (by rw [ea]; exact hi2) ?_
        rw [ea]
        refine add_s hP1 hj ?_ hr (fun F2 n2 hP2 => ?_)
        · rw [va_up_self]
          refine Nat.lt_of_le_of_lt (List.length_filter_le _ _) ?_
          rw [List.length_take]; omega
        · refine nm_r (e' := nI (i + 1)) (nI_1 _) ?_
          rw [va_up_self, va_up_up] at hP2
          exact it F2 n2 (by omega) hP2
      · rw [if_neg cc, List.append_nil] at it
        have cc2 : ¬ (T b).any (fun q => ks q == ks ((T a).getD i 0)) = c := by simpa using cc
        refine ⟨fun q => absurd (b2i_inj q) cc2, fun _ => ?_⟩
        refine nm_r (e' := nI (i + 1)) (nI_1 _) ?_
        exact it F1 n1 (by omega) hP1
  refine ky (T a).length 0 F n (by omega) ?_
  have : va_up T j (((T a).take 0).filter (fun r => (T b).any (fun q => ks q == ks r) == c)) = T := by
    rw [List.take_zero]
    show va_up T j [] = T
    rw [← he, va_up_same]
  rw [this]; exact hP
theorem recordAt_o {F : Nat → Nat → Int32} {n : Nat → Int32} {T : Nat → List Nat} {j i : Nat} {Q : Int32 → Prop} (hP : POk F n T) (hj : j < 18) (hi : i < 2 ^ 20) (h1 : i < (T j).length → Q (nI ((T j).getD i 0))) (h2 : (T j).length ≤ i → Q (-1)) : wp_X9_recordAt j (nI i) F n Q := by
  rcases Nat.lt_or_ge i (T j).length with c | c
  · exact recordAt_s hP hj c (h1 c)
  · have e := (hP j hj).1
    have e2 := (hP j hj).2.1
    unfold wp_X9_recordAt
    refine pk_lt i 0 (fun q => absurd q (by omega)) (fun _ => ?_)
    refine pk_le ((T j).length) i (fun _ => ?_) (fun q => absurd q (by omega)) e
    exact h2 c
/-- two rows in order, put together -/
theorem unite_s {K : Nat → Int32} {ks : Nat → Int} {F : Nat → Nat → Int32} {n : Nat → Int32} {T : Nat → List Nat} {j a b : Nat} {Q : (Nat → Nat → Int32) → (Nat → Int32) → Prop} (hK : KOk K ks) (hP : POk F n T) (hj : j < 18) (ha : a < 18) (hb : b < 18) (haj : a ≠ j) (hbj : b ≠ j) (he : T j = []) (hsa : (rks ks 0 (T a)).Pairwise (· ≤ ·)) (hsb : (rks ks 0 (T b)).Pairwise (· ≤ ·)) (hl : (T a).length + (T b).length ≤ 100) (h : ∀ F' n', POk F' n' (va_up T j (srt ks 0 (T a ++ T b))) → Q F' n') : wp_X9_unite K j a b F n Q := by
  have ea := hP a ha
  have eb := hP b hb
  have hmab : ∀ r ∈ T a ++ T b, r < 200 := fun r hr => by
    rcases List.mem_append.mp hr with q | q
    · exact ea.2.2.2 r q
    · exact eb.2.2.2 r q
  unfold wp_X9_unite
  refine nm_r (e' := nI ((T a).length + (T b).length)) (by rw [ea.1, eb.1]; exact nI_add _ _) ?_
  refine ⟨(T a).length + (T b).length + 1, ?_⟩
  have key : ∀ (d one two : Nat) (out : List Nat) (F1 : Nat → Nat → Int32) (n1 : Nat → Int32), one + two + d = (T a).length + (T b).length → one ≤ (T a).length → two ≤ (T b).length → POk F1 n1 (va_up T j out) → out.length = one + two → out.Perm ((T a).take one ++ (T b).take two) → (rks ks 0 out).Pairwise (· ≤ ·) → (∀ x ∈ out, (∀ y ∈ (T a).drop one, rk ks 0 x ≤ rk ks 0 y) ∧ ∀ y ∈ (T b).drop two, rk ks 0 x ≤ rk ks 0 y) → wl_X9_unite_20 K j a b (nI ((T a).length + (T b).length)) (wx_X9_unite_20_137 Q) (d + 1) (nI (one + two)) (nI one) F1 n1 (nI two) := by
    intro d
    induction d with
    | zero =>
      intro one two out F1 n1 hi h1 h2 hP1 hlo hp hs hx
      rw [wl_X9_unite_20_s]
      refine pk_le ((T a).length + (T b).length) (one + two) (fun _ => ?_) (fun q => absurd q (by omega))
      unfold wx_X9_unite_20_137
      rw [List.take_of_length_le (by omega), List.take_of_length_le (by omega)] at hp
      have e : out = srt ks 0 (T a ++ T b) := by
        unfold srt
        have e1 : rks ks 0 out = (rks ks 0 (T a ++ T b)).mergeSort := msort_of (hp.map _) hs
        rw [← e1]
        unfold rks
        rw [List.map_map]
        conv => lhs; rw [← List.map_id out]
        exact List.map_congr_left (fun r hr => (rk_mod (hmab r (hp.mem_iff.mp hr))).symm)
      rw [e] at hP1
      exact h F1 n1 hP1
    | succ d ih =>
      intro one two out F1 n1 hi h1 h2 hP1 hlo hp hs hx
      have fa : va_up T j out a = T a := va_up_ne _ _ haj
      have fb : va_up T j out b = T b := va_up_ne _ _ hbj
      have na := (hP1 a ha).1
      have nb := (hP1 b hb).1
      rw [fa] at na
      rw [fb] at nb
      rw [wl_X9_unite_20_s]
      refine pk_le ((T a).length + (T b).length) (one + two) (fun q => absurd q (by omega)) (fun _ => ?_)
      -- the next record is the first tape's, or the second one's
      have takeA : ∀ x : Int32, one < (T a).length → (∀ y ∈ (T b).drop two, rk ks 0 ((T a).getD one 0) ≤ rk ks 0 y) → wj_X9_unite_82 j (nI (one + two)) (nI one) F1 n1 (nI two) (wl_X9_unite_20 K j a b (nI ((T a).length + (T b).length)) (wx_X9_unite_20_137 Q) (d + 1)) (nI ((T a).getD one 0)) x := by
        intro x c1 hle
        have hr := ea.2.2.2 _ (getD_mem (L := T a) c1)
        unfold wj_X9_unite_82 wj_X9_unite_83
        refine ⟨fun _ => ?_, fun q => by cases q⟩
        unfold wj_X9_unite_98
        refine add_s hP1 hj (by rw [va_up_self]; omega) hr (fun F2 n2 hP2 => ?_)
        refine ⟨fun _ => ?_, fun q => by cases q⟩
        unfold wj_X9_unite_113
        refine nm_r (e' := nI (one + 1)) (nI_1 _) ?_
        refine ⟨fun _ => ?_, fun q => by cases q⟩
        refine nm_r (e' := nI two) (Int32.add_zero _) ?_
        refine nm_r (e' := nI ((one + two) + 1)) (nI_1 _) ?_
        rw [va_up_self, va_up_up] at hP2
        rw [show one + two + 1 = one + 1 + two by omega]
        have hdrop := drop_cons_getD c1
        have hxa : ∀ x ∈ out, rk ks 0 x ≤ rk ks 0 ((T a).getD one 0) := fun x hx9 => (hx x hx9).1 _ (by rw [hdrop]; exact List.mem_cons_self)
        have hsd : ∀ y ∈ (T a).drop (one + 1), rk ks 0 ((T a).getD one 0) ≤ rk ks 0 y := by
          intro y hy
          have hsub : (rks ks 0 ((T a).drop one)).Pairwise (· ≤ ·) := by
            unfold rks
            rw [List.map_drop]
            exact hsa.sublist (List.drop_sublist _ _)
          rw [hdrop] at hsub
          exact (List.pairwise_cons.mp hsub).1 _ (List.mem_map.mpr ⟨y, hy, rfl⟩)
        refine ih (one + 1) two (out ++ [(T a).getD one 0]) F2 n2 (by omega) (by omega) h2 hP2 (by rw [List.length_append, hlo]; simp; omega) ?_ ?_ (fun x hx9 => ?_)
        · rw [take_snoc c1, List.append_assoc]
          refine (hp.append_right _).trans ?_
          rw [List.append_assoc]
          exact List.Perm.append_left _ List.perm_append_comm
        · unfold rks
          rw [List.map_append]
          refine List.pairwise_append.mpr ⟨hs, by simp, fun x hx9 y hy => ?_⟩
          simp at hy; subst hy
          obtain ⟨z, hz, rfl⟩ := List.mem_map.mp hx9
          exact hxa z hz
        · rcases List.mem_append.mp hx9 with q | q
          · exact ⟨fun y hy => (hx x q).1 y (by rw [hdrop]; exact List.mem_cons_of_mem _ hy), (hx x q).2⟩
          · simp at q; subst q
            exact ⟨hsd, hle⟩
      have takeB : ∀ x : Int32, two < (T b).length → (∀ y ∈ (T a).drop one, rk ks 0 ((T b).getD two 0) ≤ rk ks 0 y) → wj_X9_unite_78 j (nI (one + two)) (nI one) F1 n1 (nI two) (wl_X9_unite_20 K j a b (nI ((T a).length + (T b).length)) (wx_X9_unite_20_137 Q) (d + 1)) x (nI ((T b).getD two 0)) := by
        intro x c1 hle
        have hr := eb.2.2.2 _ (getD_mem (L := T b) c1)
        unfold wj_X9_unite_78 wj_X9_unite_83
        refine ⟨fun q => (by cases q), fun _ => ?_⟩
        unfold wj_X9_unite_98
        refine add_s hP1 hj (by rw [va_up_self]; omega) hr (fun F2 n2 hP2 => ?_)
        refine ⟨fun q => (by cases q), fun _ => ?_⟩
        unfold wj_X9_unite_113
        refine nm_r (e' := nI one) (Int32.add_zero _) ?_
        refine ⟨fun q => (by cases q), fun _ => ?_⟩
        refine nm_r (e' := nI (two + 1)) (nI_1 _) ?_
        refine nm_r (e' := nI ((one + two) + 1)) (nI_1 _) ?_
        rw [va_up_self, va_up_up] at hP2
        rw [show one + two + 1 = one + (two + 1) by omega]
        have hdrop := drop_cons_getD c1
        have hxb : ∀ x ∈ out, rk ks 0 x ≤ rk ks 0 ((T b).getD two 0) := fun x hx9 => (hx x hx9).2 _ (by rw [hdrop]; exact List.mem_cons_self)
        have hsd : ∀ y ∈ (T b).drop (two + 1), rk ks 0 ((T b).getD two 0) ≤ rk ks 0 y := by
          intro y hy
          have hsub : (rks ks 0 ((T b).drop two)).Pairwise (· ≤ ·) := by
            unfold rks
            rw [List.map_drop]
            exact hsb.sublist (List.drop_sublist _ _)
          rw [hdrop] at hsub
          exact (List.pairwise_cons.mp hsub).1 _ (List.mem_map.mpr ⟨y, hy, rfl⟩)
        refine ih one (two + 1) (out ++ [(T b).getD two 0]) F2 n2 (by omega) h1 (by omega) hP2 (by rw [List.length_append, hlo]; simp; omega) ?_ ?_ (fun x hx9 => ?_)
        · rw [take_snoc c1, ← List.append_assoc]
          exact hp.append_right _
        · unfold rks
          rw [List.map_append]
          refine List.pairwise_append.mpr ⟨hs, by simp, fun x hx9 y hy => ?_⟩
          simp at hy; subst hy
          obtain ⟨z, hz, rfl⟩ := List.mem_map.mp hx9
          exact hxb z hz
        · rcases List.mem_append.mp hx9 with q | q
          · exact ⟨(hx x q).1, fun y hy => (hx x q).2 y (by rw [hdrop]; exact List.mem_cons_of_mem _ hy)⟩
          · simp at q; subst q
            exact ⟨hle, hsd⟩
      have toB : (T a).length ≤ one → two < (T b).length ∧ ∀ y ∈ (T a).drop one, rk ks 0 ((T b).getD two 0) ≤ rk ks 0 y := fun c => ⟨by omega, fun y hy => by rw [List.drop_of_length_le c] at hy; simp at hy⟩
      have toA : (T b).length ≤ two → one < (T a).length ∧ ∀ y ∈ (T b).drop two, rk ks 0 ((T a).getD one 0) ≤ rk ks 0 y := fun c => ⟨by omega, fun y hy => by rw [List.drop_of_length_le c] at hy; simp at hy⟩
      have dropA : ∀ x, one < (T a).length → x ≤ rk ks 0 ((T a).getD one 0) → ∀ y ∈ (T a).drop one, x ≤ rk ks 0 y := by
        intro x c1 hx1 y hy
        have hsub : (rks ks 0 ((T a).drop one)).Pairwise (· ≤ ·) := by
          unfold rks
          rw [List.map_drop]
          exact hsa.sublist (List.drop_sublist _ _)
        rw [drop_cons_getD c1] at hsub hy
        rcases List.mem_cons.mp hy with q | q
        · rw [q]; exact hx1
        · exact Nat.le_trans hx1 ((List.pairwise_cons.mp hsub).1 _ (List.mem_map.mpr ⟨y, q, rfl⟩))
      have dropB : ∀ x, two < (T b).length → x ≤ rk ks 0 ((T b).getD two 0) → ∀ y ∈ (T b).drop two, x ≤ rk ks 0 y := by
        intro x c1 hx1 y hy
        have hsub : (rks ks 0 ((T b).drop two)).Pairwise (· ≤ ·) := by
          unfold rks
          rw [List.map_drop]
          exact hsb.sublist (List.drop_sublist _ _)
        rw [drop_cons_getD c1] at hsub hy
        rcases List.mem_cons.mp hy with q | q
        · rw [q]; exact hx1
        · exact Nat.le_trans hx1 ((List.pairwise_cons.mp hsub).1 _ (List.mem_map.mpr ⟨y, q, rfl⟩))
      refine recordAt_o hP1 ha (by omega) (fun c1 => ?_) (fun c1 => ?_)
      · rw [fa] at c1
        rw [fa]
        refine recordAt_o hP1 hb (by omega) (fun c2 => ?_) (fun c2 => ?_)
        · rw [fb] at c2
          rw [fb]
          refine pk_le ((T a).length) one (fun q => absurd q (by omega)) (fun _ => ?_) na
          refine pk_le ((T b).length) two (fun q => absurd q (by omega)) (fun _ => ?_) nb
          have hra := ea.2.2.2 _ (getD_mem (L := T a) c1)
          have hrb := eb.2.2.2 _ (getD_mem (L := T b) c2)
          have la := rk_lt hK (o := 0) hra
          have lb := rk_lt hK (o := 0) hrb
          refine rankOf_s (o := 0) hK hrb (by omega) ?_
          refine rankOf_s (o := 0) hK hra (by omega) ?_
          refine pk_le (rk ks 0 ((T a).getD one 0)) (rk ks 0 ((T b).getD two 0)) (fun c => ?_) (fun c => ?_)
          · exact takeA _ c1 (dropB _ c2 c)
          · exact takeB _ c2 (dropA _ c1 (by omega))
        · rw [fb] at c2
          refine pk_le ((T a).length) one (fun q => absurd q (by omega)) (fun _ => ?_) na
          refine pk_le ((T b).length) two (fun _ => ?_) (fun q => absurd q (by omega)) nb
          exact takeA _ c1 (toA c2).2
      · rw [fa] at c1
        have hb2 := toB c1
        refine recordAt_s hP1 hb (by rw [fb]; exact hb2.1) ?_
        rw [fb]
        refine pk_le ((T a).length) one (fun _ => ?_) (fun q => absurd q (by omega)) na
        exact takeB _ hb2.1 hb2.2
  refine key ((T a).length + (T b).length) 0 0 [] F n (by omega) (Nat.zero_le _) (Nat.zero_le _) ?_ rfl (List.Perm.refl _) List.Pairwise.nil (fun x hx => absurd hx (by simp))
  rw [← he, va_up_same]; exact hP
