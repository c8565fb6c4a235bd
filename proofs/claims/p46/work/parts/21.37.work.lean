/-! the job's calls -/
def Rel (w k : Nat) (rw' : List Nat) (now : List (List Nat)) (dn p m v : Nat) (d : Nat) (rw1 : List Nat) (now1 : List (List Nat)) (dn1 p1 m1 v1 mop1 : Nat) : Prop :=
  p1 + (rst w k rw1 now1 dn1).1 = p + (rst w k rw' now dn).1 ∧ m1 = m + d ∧ v1 + (rst w k rw1 now1 dn1).2.1 = v + (rst w k rw' now dn).2.1 ∧ d + (rst w k rw1 now1 dn1).2.2 = (rst w k rw' now dn).2.2 ∧ now1.flatten.Perm now.flatten ∧ mop1 = ((grS (chM w k rw1 (lens now1)) (chA w k rw1 (lens now1)) (lens now1)).take dn1).sum
theorem flat_mem {R : List (List Nat)} {P : Nat → Prop} : (∀ r ∈ R, ∀ x ∈ r, P x) ↔ ∀ x ∈ R.flatten, P x := by
  constructor
  · intro h x hx
    obtain ⟨r, hr, hxr⟩ := List.mem_flatten.mp hx
    exact h r hr x hxr
  · intro h r hr x hx
    exact h x (List.mem_flatten.mpr ⟨r, hr, hx⟩)
/-- what the tapes are behind a call of the job -/
def overT (T : Nat → List Nat) (to : Nat) (now : List (List Nat)) : Nat → List Nat := if now.length ≤ 1 then va_up T to ((now.getD 0 []).map (fun x => x % 256)) else T
theorem work_w {F : Nat → Nat → Int32} {n : Nat → Int32} {T : Nat → List Nat} {to w k dn p m v mop M : Nat} {rw' : List Nat} {now : List (List Nat)} {ic nc nf mc mf pm xc xf : Int32} {ip pl mt rows nr ns nl mr ms ml xs xl xr : Nat → Int32} {Q : Int32 → Int32 → Int32 → Int32 → Int32 → Int32 → Int32 → Int32 → Int32 → Int32 → Int32 → (Nat → Int32) → (Nat → Int32) → Int32 → Int32 → (Nat → Int32) → (Nat → Int32) → (Nat → Int32) → (Nat → Int32) → (Nat → Int32) → (Nat → Int32) → (Nat → Int32) → (Nat → Int32) → (Nat → Int32) → (Nat → Int32) → (Nat → Int32) → (Nat → Nat → Int32) → (Nat → Int32) → Prop} {X : String → Int32 → Int32 → Int32 → Int32 → Int32 → Int32 → Int32 → Int32 → Int32 → Int32 → (Nat → Int32) → (Nat → Int32) → Int32 → Int32 → (Nat → Int32) → (Nat → Int32) → (Nat → Int32) → (Nat → Int32) → (Nat → Int32) → (Nat → Int32) → (Nat → Int32) → (Nat → Int32) → (Nat → Int32) → (Nat → Int32) → (Nat → Int32) → (Nat → Nat → Int32) → (Nat → Int32) → Prop} (hP : POk F n T) (hto : to < 8) (hw : w < 3) (hk : 2 ≤ k) (hk6 : k ≤ 6) (hn : 2 ≤ now.length) (hM1 : 1 ≤ M) (hM2 : M ≤ 200) (hJ : JInv w k rw' now dn pm nc nf mc mf mt rows nr ns nl mr ms ml) (hmop : mop = ((grS (chM w k rw' (lens now)) (chA w k rw' (lens now)) (lens now)).take dn).sum) (hmem : ∀ r ∈ now, ∀ x ∈ r, x % 256 < 200)
    (h : ∀ (d : Nat) (rw1 : List Nat) (now1 : List (List Nat)) (dn1 p1 m1 v1 mop1 : Nat) (ic nc nf mc mf pm xc xf : Int32) (ip pl mt rows nr ns nl mr ms ml xs xl xr : Nat → Int32) (F' : Nat → Nat → Int32) (n' : Nat → Int32), 1 ≤ d → d ≤ M → (d < M → now1.length ≤ 1) → JInv w k rw1 now1 dn1 pm nc nf mc mf mt rows nr ns nl mr ms ml → Rel w k rw' now dn p m v d rw1 now1 dn1 p1 m1 v1 mop1 → (∀ r ∈ now1, ∀ x ∈ r, x % 256 < 200) → POk F' n' (overT T to now1) → Q (nI d) ic (nI p1) (nI m1) (nI v1) (nI mop1) nc nf mc mf pm ip pl xc xf nl ns nr rows mt ms ml mr xs xl xr F' n') :
    wp_X11_work true ic (nI to) (nI p) (nI m) (nI v) (nI mop) nc nf mc mf (nI w) (nI k) pm ip pl xc xf nl ns nr rows mt ms ml mr xs xl xr (nI M) F n Q X := by
  have hnl := hJ.1.2.1
  unfold wp_X11_work
  refine rangeN_s (lo := 1) (hi := 200) ⟨hM1, hM2⟩ (by omega) ?_
  unfold wp_X11_demandJobUnderWay
  refine ⟨fun q => (by cases q), fun _ => ?_⟩
  refine isOver_s hJ.1.1 (by omega) ?_
  rw [decide_eq_false (by omega)]
  refine ⟨fun _ => ⟨M + 1, ?_⟩, fun q => by cases q⟩
  have hM3 : ∀ (z : List (List Nat)), z.flatten.Perm now.flatten → ∀ r ∈ z, ∀ x ∈ r, x % 256 < 200 := fun z hz => flat_mem.mpr (fun x hx => flat_mem.mp hmem x (hz.mem_iff.mp hx))
  have fin : ∀ (d : Nat) (rw1 : List Nat) (now1 : List (List Nat)) (dn1 p1 m1 v1 mop1 : Nat) (ic nc nf mc mf pm xc xf : Int32) (ip pl mt rows nr ns nl mr ms ml xs xl xr : Nat → Int32), 1 ≤ d → d ≤ M → (d < M → now1.length ≤ 1) → JInv w k rw1 now1 dn1 pm nc nf mc mf mt rows nr ns nl mr ms ml → Rel w k rw' now dn p m v d rw1 now1 dn1 p1 m1 v1 mop1 → wx_X11_work_15_43 (nI to) F n Q X (nI d) ic (nI p1) (nI m1) (nI v1) (nI mop1) nc nf mc mf pm ip pl xc xf nl ns nr rows mt ms ml mr xs xl xr := by
    intro d rw1 now1 dn1 p1 m1 v1 mop1 ic nc nf mc mf pm xc xf ip pl mt rows nr ns nl mr ms ml xs xl xr hd1 hd2 hd3 hJ1 hR1
    have hnl1 := hJ1.1.2.1
    have hm1 := hM3 now1 hR1.2.2.2.2.1
    unfold wx_X11_work_15_43
    refine isOver_s hJ1.1.1 (by omega) ?_
    by_cases c : now1.length ≤ 1
    · rw [decide_eq_true c]
      refine ⟨fun q => (by cases q), fun _ => ?_⟩
      refine tapeOf_s hto ?_
      refine writeTo_s hJ1.1 hP (by omega) (fun x hx => ?_) (fun F' n' hP' => ?_)
      · cases now1 with
        | nil => simp at hx
        | cons r t => exact hm1 r List.mem_cons_self x hx
      · refine h d rw1 now1 dn1 p1 m1 v1 mop1 _ _ _ _ _ _ _ _ _ _ _ _ _ _ _ _ _ _ _ _ _ F' n' hd1 hd2 hd3 hJ1 hR1 hm1 ?_
        unfold overT
        rw [if_pos c]; exact hP'
    · rw [decide_eq_false c]
      refine ⟨fun _ => ?_, fun q => by cases q⟩
      refine h d rw1 now1 dn1 p1 m1 v1 mop1 _ _ _ _ _ _ _ _ _ _ _ _ _ _ _ _ _ _ _ _ _ F n hd1 hd2 hd3 hJ1 hR1 hm1 ?_
      unfold overT
      rw [if_neg c]; exact hP
  have loop : ∀ (e d : Nat) (rw1 : List Nat) (now1 : List (List Nat)) (dn1 p1 m1 v1 mop1 : Nat) (ic nc nf mc mf pm xc xf : Int32) (ip pl mt rows nr ns nl mr ms ml xs xl xr : Nat → Int32), d + e = M → (d = 0 → 2 ≤ now1.length) → JInv w k rw1 now1 dn1 pm nc nf mc mf mt rows nr ns nl mr ms ml → Rel w k rw' now dn p m v d rw1 now1 dn1 p1 m1 v1 mop1 → wl_X11_work_15 (nI w) (nI k) (nI M) (wx_X11_work_15_43 (nI to) F n Q X) (e + 1) (nI d) ic (nI p1) (nI m1) (nI v1) (nI mop1) nc nf mc mf pm ip pl xc xf nl ns nr rows mt ms ml mr xs xl xr := by
    intro e
    induction e with
    | zero =>
      intro d rw1 now1 dn1 p1 m1 v1 mop1 ic nc nf mc mf pm xc xf ip pl mt rows nr ns nl mr ms ml xs xl xr hd h0 hJ1 hR1
      rw [wl_X11_work_15_s]
      refine pk_le M d (fun _ => ?_) (fun q => absurd q (by omega))
      exact fin d rw1 now1 dn1 p1 m1 v1 mop1 _ _ _ _ _ _ _ _ _ _ _ _ _ _ _ _ _ _ _ _ _ (by omega) (by omega) (fun q => absurd q (by omega)) hJ1 hR1
    | succ e ih =>
      intro d rw1 now1 dn1 p1 m1 v1 mop1 ic nc nf mc mf pm xc xf ip pl mt rows nr ns nl mr ms ml xs xl xr hd h0 hJ1 hR1
      have hnl1 := hJ1.1.2.1
      rw [wl_X11_work_15_s]
      refine pk_le M d (fun q => absurd q (by omega)) (fun _ => ?_)
      refine isOver_s hJ1.1.1 (by omega) ?_
      by_cases c : now1.length ≤ 1
      · rw [decide_eq_true c]
        refine ⟨fun q => (by cases q), fun _ => ?_⟩
        exact fin d rw1 now1 dn1 p1 m1 v1 mop1 _ _ _ _ _ _ _ _ _ _ _ _ _ _ _ _ _ _ _ _ _ (by rcases Nat.eq_zero_or_pos d with q | q; exact absurd (h0 q) (by omega); exact q) (by omega) (fun _ => c) hJ1 hR1
      · rw [decide_eq_false c]
        refine ⟨fun _ => ?_, fun q => by cases q⟩
        have hn1 : 2 ≤ now1.length := by omega
        have hga := jga hJ1 hw hk hk6 hn1
        have hd1 := hJ1.2.2.2.2.2.1 hn1
        obtain ⟨r1, r2, r3, r4, r5, r6⟩ := hR1
        have hgl := grS_len (chM w k rw1 (lens now1)) (chA w k rw1 (lens now1)) (lens now1)
        refine doMerge_s hw hk hk6 hn1 hJ1 (fun hdn ic pm' mc' mf' ip' pl' xc' xf' rows' mt' ms' ml' mr' xs' xl' xr' hJ' => ?_) (fun hdn ic pm' nc' nf' mc' mf' ip' pl' xc' xf' rows' mt' ms' ml' mr' ns' nl' nr' xs' xl' xr' hJ' => ?_)
        · refine nm_r (e' := nI (d + 1)) (nI_1 _) ?_
          obtain ⟨q1, q2, q3⟩ := rst_a (w := w) (k := k) (rw' := rw1) hn1 hd1
          exact ih (d + 1) rw1 now1 (dn1 + 1) p1 (m1 + 1) _ _ _ _ _ _ _ _ _ _ _ _ _ _ _ _ _ _ _ _ _ _ _ (by omega) (fun q => absurd q (by omega)) hJ' ⟨by omega, by omega, by omega, by omega, r5, by rw [sum_take_s (by omega), r6]; rfl⟩
        · refine nm_r (e' := nI (d + 1)) (nI_1 _) ?_
          have hr2 := hJ'.2.2.1
          have g2 := hga.2.1
          have g6 := (hga.2.2.2.2 _ now1 rfl).2
          have hjl : (nxJ w k rw1 now1).length = chM w k rw1 (lens now1) + (pick (isN (chA w k rw1 (lens now1))) now1).length := stepL_len _ _ _ _ _
          obtain ⟨q1, q2, q3⟩ := rst_b (w := w) (k := k) (rw' := rw1) hw hk hk6 hn1 hnl1 hJ1.2.2.1 hdn (by omega) hr2
          exact ih (d + 1) _ _ 0 (p1 + 1) (m1 + 1) _ 0 _ _ _ _ _ _ _ _ _ _ _ _ _ _ _ _ _ _ _ _ _ (by omega) (fun q => absurd q (by omega)) hJ' ⟨by omega, by omega, by omega, by omega, (nxJ_perm hga).trans r5, by rw [List.take_zero]; rfl⟩
  exact loop M 0 rw' now dn p m v mop _ _ _ _ _ _ _ _ _ _ _ _ _ _ _ _ _ _ _ _ _ (by omega) (fun _ => hn) hJ ⟨rfl, rfl, rfl, by omega, List.Perm.refl _, hmop⟩
