/-! two rows together -/
theorem hasKey_w {o : OS} {ks : Nat → Int} {c : Nat} {T : Nat → List Nat} {s : SS} {tx : List Nat} {J : Option JS} {n : Nat} {f : Nat → Int32} {L : List Nat} {z : Int} {Q : Bool → OS → Prop} (h : Off o ks c T s tx J) (hf : IsA n f L) (hn : n ≤ 100) (hr : ∀ r ∈ L, r < c) (hz1 : -999 ≤ z) (hz2 : z ≤ 999) (hQ : Q (L.any (fun q => ks q == z)) o) : wp_L_hasKey o n f (zI z) Q := by
  have hc := h.c2
  have hL := hf.1
  unfold wp_L_hasKey
  refine ⟨n + 1, by omega, ?_⟩
  have key : ∀ (d i : Nat) (b : Bool), i + d = n → b = (L.take i).any (fun q => ks q == z) → wl_L_hasKey_13 n f (zI z) (wx_L_hasKey_13_51 Q) (d + 1) (nI i) o b := by
    intro d
    induction d with
    | zero =>
      intro i b hi hb
      rw [wl_L_hasKey_13_s]
      refine pk_le n i (fun _ => ?_) (fun q => absurd q (by omega))
      unfold wx_L_hasKey_13_51
      rw [List.take_of_length_le (by omega)] at hb
      rw [hb]; exact hQ
    | succ d ih =>
      intro i b hi hb
      rw [wl_L_hasKey_13_s]
      refine pk_le n i (fun q => absurd q (by omega)) (fun _ => ?_)
      refine ⟨pk_in i n (by omega), ?_⟩
      have hiL : i < L.length := by omega
      have hm := hr _ (getD_mem hiL)
      obtain ⟨k1, k2⟩ := h.key (r := L.getD i 0) (by omega)
      refine nm_r (e' := nI (L.getD i 0)) (by rw [cl_n (by omega)]; exact hf.2 i hiL) ?_
      refine key_o h hm ?_
      have ht : (L.take (i + 1)).any (fun q => ks q == z) = ((L.take i).any (fun q => ks q == z) || (ks (L.getD i 0) == z)) := by
        rw [take_snoc hiL, List.any_append]; simp
      refine zk_eq (ks (L.getD i 0)) z (fun e => ?_) (fun e => ?_) rfl rfl
      · refine nm_r (e' := nI (i + 1)) (nI_1 _) ?_
        refine ih (i + 1) _ (by omega) ?_
        rw [ht, hb, beq_iff_eq.mpr e]
      · refine nm_r (e' := nI (i + 1)) (nI_1 _) ?_
        refine ih (i + 1) _ (by omega) ?_
        rw [ht, hb, beq_eq_false_iff_ne.mpr e]
  exact key n 0 false (by omega) rfl
def togL (ks : Nat → Int) (A B : List Nat) (how : Nat) : List Nat := if how = 0 then A ++ B else pickL ks A B (how == 1)
theorem togL_join {ks : Nat → Int} {A B : List Nat} {how : Nat} (ho : ordB ks 0 A = true) (hr : ∀ r ∈ A, r < 200) : srt ks 0 (togL ks A B how) = joinL ks A B how := by
  unfold togL joinL
  by_cases e : how = 0
  · rw [if_pos e, if_pos e]
  · rw [if_neg e, if_neg e]
    have hp : A.Pairwise (fun a b => rk ks 0 a ≤ rk ks 0 b) := List.pairwise_map.mp (ordB_pw.mp ho)
    exact srt_of (List.Perm.refl _) (hp.sublist List.filter_sublist) (fun r hr2 => hr r (List.mem_filter.mp hr2).1)
theorem together_w {o : OS} {ks : Nat → Int} {c : Nat} {T : Nat → List Nat} {s : SS} {tx : List Nat} {J : Option JS} {n m how : Nat} {f g : Nat → Int32} {A B : List Nat} {Q : Nat → (Nat → Int32) → OS → Prop} (h : Off o ks c T s tx J) (hA : IsA n f A) (hB : IsA m g B) (hn : n ≤ 100) (hm : m ≤ 100) (hrA : ∀ r ∈ A, r < c) (hrB : ∀ r ∈ B, r < c) (hh : how < 3) (hQ : ∀ q, IsA (togL ks A B how).length q (srt ks 0 (togL ks A B how)) → Q (togL ks A B how).length q o) : wp_L_together o n f m g (nI how) Q := by
  have hc := h.c2
  have hLA := hA.1
  have hLB := hB.1
  have hpl : (pickL ks A B (how == 1)).length ≤ n := by rw [hLA]; exact List.length_filter_le _ _
  -- the end: the row is cut to its length and sorted
  have fin : ∀ (N : Nat) (W : List Nat) (q : Nat → Int32), W = togL ks A B how → W.length ≤ N → N ≤ 200 → (∀ k, k < W.length → q k = nI (W.getD k 0)) → wj_L_together_134 Q N o (nI W.length) q := by
    intro N W q hW hN hN2 hq
    have hrW : ∀ r ∈ W, r < c := by
      intro r hr
      rw [hW] at hr
      unfold togL at hr
      by_cases e : how = 0
      · rw [if_pos e] at hr
        rcases List.mem_append.mp hr with x | x
        · exact hrA r x
        · exact hrB r x
      · rw [if_neg e] at hr
        exact hrA r (List.mem_filter.mp hr).1
    refine ⟨W.length, rfl, by omega, W.length + 1, ?_⟩
    have key : ∀ (d i : Nat) (q2 : Nat → Int32), i + d = W.length → (∀ k, k < i → q2 k = nI (W.getD k 0)) → wl_L_together_143 N (nI W.length) q W.length (wx_L_together_143_166 Q o W.length) (d + 1) (nI i) q2 := by
      intro d
      induction d with
      | zero =>
        intro i q2 hi hq2
        rw [wl_L_together_143_s]
        refine pk_le W.length i (fun _ => ?_) (fun q => absurd q (by omega))
        unfold wx_L_together_143_166
        refine sorted_b_w h (L := W) (od := 0) ⟨rfl, fun k hk => hq2 k (by omega)⟩ (by omega) hrW (by decide) (fun q3 h3 => ?_)
        have e : W.length = (togL ks A B how).length := by rw [hW]
        rw [hW] at h3 ⊢
        exact hQ q3 h3
      | succ d ih =>
        intro i q2 hi hq2
        rw [wl_L_together_143_s]
        refine pk_le W.length i (fun q => absurd q (by omega)) (fun _ => ?_)
        refine ⟨pk_in i N (by omega), ?_⟩
        refine nm_r (e' := nI (W.getD i 0)) (by rw [cl_n (by omega)]; exact hq i (by omega)) ?_
        refine ⟨pk_in i W.length (by omega), ?_⟩
        refine nm_r (e' := nI (i + 1)) (nI_1 _) ?_
        rw [cl_n (by omega)]
        refine ih (i + 1) _ (by omega) (fun k hk => ?_)
        by_cases e : k = i
        · subst e; rw [up_s]
        · rw [up_n _ e]; exact hq2 k (by omega)
    exact key W.length 0 _ (by omega) (fun k hk => absurd hk (Nat.not_lt_zero _))
  -- the records of the second
  have second : ∀ (q : Nat → Int32), how = 0 → (∀ k, k < n → q k = nI (A.getD k 0)) → ∃ n104 : Nat, wl_L_together_104 m g (n + m) (wx_L_together_104_134 Q (n + m) o) n104 0 (nI n) q := by
    intro q e hq
    refine ⟨m + 1, ?_⟩
    have key : ∀ (d i : Nat) (q2 : Nat → Int32), i + d = m → (∀ k, k < n + i → q2 k = nI ((A ++ B).getD k 0)) → wl_L_together_104 m g (n + m) (wx_L_together_104_134 Q (n + m) o) (d + 1) (nI i) (nI (n + i)) q2 := by
      intro d
      induction d with
      | zero =>
        intro i q2 hi hq2
        rw [wl_L_together_104_s]
        refine pk_le m i (fun _ => ?_) (fun q => absurd q (by omega))
        unfold wx_L_together_104_134
        have e2 : (A ++ B).length = n + i := by rw [List.length_append]; omega
        have := fin (n + m) (A ++ B) q2 (by unfold togL; rw [if_pos e]) (by omega) (by omega) (fun k hk => hq2 k (by omega))
        rw [e2] at this
        exact this
      | succ d ih =>
        intro i q2 hi hq2
        rw [wl_L_together_104_s]
        refine pk_le m i (fun q => absurd q (by omega)) (fun _ => ?_)
        refine ⟨pk_in i m (by omega), ?_⟩
        refine nm_r (e' := nI (B.getD i 0)) (by rw [cl_n (by omega)]; exact hB.2 i (by omega)) ?_
        refine nm_r (e' := nI ((n + i) + 1)) (nI_1 _) ?_
        refine ⟨pk_in (n + i) (n + m) (by omega), ?_⟩
        refine nm_r (e' := nI (i + 1)) (nI_1 _) ?_
        rw [cl_n (by omega)]
        refine ih (i + 1) _ (by omega) (fun k hk => ?_)
        by_cases e2 : k = n + i
        · subst e2; rw [up_s, getD_app_r (by omega), show n + i - A.length = i by omega]
        · rw [up_n _ e2]; exact hq2 k (by omega)
    exact key m 0 q (by omega) (fun k hk => by rw [getD_app_l (by omega)]; exact hq k (by omega))
  have main : ∀ (N : Nat), N = n + (if how = 0 then m else 0) → ∃ n31 : Nat, n31 ≤ 101 ∧ wl_L_together_31 n f m g (nI how) N (wx_L_together_31_89 m g (nI how) Q N) n31 0 0 (fun _ => 0) o := by
    intro N hN
    have hN2 : N ≤ 200 := by rw [hN]; split <;> omega
    refine ⟨n + 1, by omega, ?_⟩
    have key : ∀ (d i : Nat) (W : List Nat) (q : Nat → Int32), i + d = n → W = (if how = 0 then A.take i else pickL ks (A.take i) B (how == 1)) → (∀ k, k < W.length → q k = nI (W.getD k 0)) → wl_L_together_31 n f m g (nI how) N (wx_L_together_31_89 m g (nI how) Q N) (d + 1) (nI i) (nI W.length) q o := by
      intro d
      induction d with
      | zero =>
        intro i W q hi hW hq
        rw [wl_L_together_31_s]
        refine pk_le n i (fun _ => ?_) (fun q => absurd q (by omega))
        rw [List.take_of_length_le (by omega)] at hW
        unfold wx_L_together_31_89
        refine pk_eq how 0 (fun e => ?_) (fun e => ?_)
        · rw [if_pos e] at hW hN
          subst hW
          rw [hN, ← hLA]
          exact second q e (fun k hk => hq k (by omega))
        · rw [if_neg e] at hW hN
          exact fin N W q (by unfold togL; rw [if_neg e]; exact hW) (by rw [hW]; omega) (by omega) hq
      | succ d ih =>
        intro i W q hi hW hq
        rw [wl_L_together_31_s]
        refine pk_le n i (fun q => absurd q (by omega)) (fun _ => ?_)
        refine ⟨pk_in i n (by omega), ?_⟩
        have hiL : i < A.length := by omega
        have hmem := hrA _ (getD_mem hiL)
        obtain ⟨k1, k2⟩ := h.key (r := A.getD i 0) (by omega)
        refine nm_r (e' := nI (A.getD i 0)) (by rw [cl_n (by omega)]; exact hA.2 i hiL) ?_
        have put : W.length < N → (if how = 0 then A.take (i + 1) else pickL ks (A.take (i + 1)) B (how == 1)) = W ++ [A.getD i 0] → wj_L_together_73 N (nI i) (nI W.length) q (wl_L_together_31 n f m g (nI how) N (wx_L_together_31_89 m g (nI how) Q N) (d + 1)) (nI (A.getD i 0)) o := by
          intro hlt hW2
          unfold wj_L_together_73
          refine nm_r (e' := nI (W.length + 1)) (nI_1 _) ?_
          refine ⟨pk_in W.length N (by omega), ?_⟩
          refine nm_r (e' := nI (i + 1)) (nI_1 _) ?_
          rw [cl_n (by omega)]
          have := ih (i + 1) (W ++ [A.getD i 0]) (upd q W.length (nI (A.getD i 0))) (by omega) hW2.symm (fun k hk => by
            rw [List.length_append, List.length_singleton] at hk
            by_cases e2 : k = W.length
            · subst e2; rw [up_s, getD_app_r (Nat.le_refl _), Nat.sub_self]; rfl
            · rw [up_n _ e2, getD_app_l (by omega)]; exact hq k (by omega))
          rw [List.length_append, List.length_singleton] at this
          exact this
        refine pk_eq how 0 (fun e => ?_) (fun e => ?_)
        · rw [if_pos e] at hW
          refine put (by rw [hN, if_pos e, hW, List.length_take]; omega) ?_
          rw [if_pos e, hW]
          exact take_snoc hiL
        · refine key_o h hmem ?_
          refine hasKey_w h hB hm hrB k1 k2 ?_
          rw [if_neg e] at hW
          have hWl : W.length ≤ i := by
            rw [hW]
            refine Nat.le_trans (List.length_filter_le _ _) ?_
            rw [List.length_take]; omega
          have hfs := filter_snoc (L := A) (i := i) (fun r => B.any (fun q => ks q == ks r) == (how == 1)) hiL
          have yes : ∀ bb : Bool, bb = (how == 1) → wj_L_together_70 N (nI i) (nI W.length) q (wl_L_together_31 n f m g (nI how) N (wx_L_together_31_89 m g (nI how) Q N) (d + 1)) (nI (A.getD i 0)) o (B.any (fun q => ks q == ks (A.getD i 0))) bb := by
            intro bb hbb
            unfold wj_L_together_70
            refine ⟨fun e2 => ?_, fun e2 => ?_⟩
            · have e3 := b2i_inj e2
              refine put (by rw [hN, if_neg e]; omega) ?_
              rw [if_neg e]
              show (A.take (i + 1)).filter _ = _
              rw [hfs, if_pos (by rw [e3, hbb]; exact beq_self_eq_true _), hW]; rfl
            · refine nm_r (e' := nI (i + 1)) (nI_1 _) ?_
              refine ih (i + 1) W q (by omega) ?_ hq
              rw [if_neg e]
              show W = (A.take (i + 1)).filter _
              rw [hfs, if_neg (fun e4 => e2 (by rw [hbb, eq_of_beq e4])), List.append_nil, hW]; rfl
          refine pk_eq how 1 (fun e2 => ?_) (fun e2 => ?_)
          · exact yes true (by rw [e2]; rfl)
          · exact yes false (beq_eq_false_iff_ne.mpr e2).symm
    exact key n 0 [] _ (by omega) (by by_cases e : how = 0 <;> simp [e, pickL]) (fun k hk => absurd hk (Nat.not_lt_zero _))
  unfold wp_L_together wj_L_together_12
  refine pk_eq how 0 (fun e => ?_) (fun e => ?_)
  · refine nm_r (e' := nI (n + m)) (nI_add _ _) ?_
    exact ⟨n + m, rfl, by omega, main _ (by rw [if_pos e])⟩
  · refine nm_r (e' := nI n) (by rw [show (0 : Int32) = nI 0 from rfl, nI_add]; rfl) ?_
    exact ⟨n, rfl, by omega, main _ (by rw [if_neg e]; rfl)⟩
