/-! the job, on the whole office -/
theorem begin_o {o : OS} {ks : Nat → Int} {c : Nat} {T : Nat → List Nat} {s : SS} {tx : List Nat} {J : Option JS} {Q : Int32 → OS → Prop} {X : String → OS → Prop} {j : Nat} {i : Nat} (h : Off o ks c T s tx J) (hj : j < 8) (hi : i < 8) (hQ : ∀ o', Off o' ks c (overT T i (job0 s.2.2.2.1 s.2.2.2.2 (rnO ks s (T j)))) s tx (some (i, s.2.2.2.1, s.2.2.2.2, arR s.2.2.2.2 (rnO ks s (T j)).length, job0 s.2.2.2.1 s.2.2.2.2 (rnO ks s (T j)), 0, 0, 0, (T j).length, 0, 0, 0)) → Q (nI (rnO ks s (T j)).length) o') : ow_begin o (nI j) (nI i) Q X := by
  obtain ⟨sa, sb, sc, sd, se⟩ := s
  obtain ⟨⟨b1, ⟨b2, b3⟩, b4, b5⟩, ⟨s1, s2, s3, s4, s5⟩, h3, h4, h5⟩ := h
  have hh2 : SetO o (sa, sb, sc, sd, se) := ⟨s1, s2, s3, s4, s5⟩
  obtain ⟨u1, u2⟩ := runs_len (ks := ks) (o := sa) (w := sb) (m := sc) (L := T j) s2.2 s3.2.1
  have ul := (b4 j (by omega)).2.1
  have t4 := (b4 j (by omega)).2.2.2
  obtain ⟨v1, v2⟩ := runs_ok (ks := ks) (o := sa) (w := sb) (m := sc) (L := T j) s2.2 s3.2.1
  have hmem : ∀ r ∈ job0 sd se (runsOf ks sa sb sc (T j)), ∀ x ∈ r, x % 256 < 200 ∧ x % 256 < c := by
    refine (flat_mem (P := fun x => x % 256 < 200 ∧ x % 256 < c)).mpr (fun x hx => ?_)
    rw [job0_flat] at hx
    obtain ⟨r, hr, rfl⟩ := List.mem_map.mp (v1.mem_iff.mp hx)
    rw [rk_mod (t4 r hr)]
    exact ⟨t4 r hr, b5 j (by omega) r hr⟩
  unfold ow_begin wp_X11_begin
  refine tapeOf_s hj ?_
  refine tapeOf_s hi ?_
  rw [s1.1, s2.1, s3.1, s4.1, s5.1]
  refine start_s b1 b4 (by omega) s1.2 s2.2 s3.2.1 s3.2.2 s4.2 s5.2.1 s5.2.2 (fun mh nc nf ro mm ns nl nr rows hJ => ?_)
  have hJ0 := hJ 0 (o.2.2.1 19) (o.2.2.1 24) (o.2.2.1 25) (o.2.2.1 26)
  have hn0 := hJ0.1.2.1
  have fin : ∀ (o' : OS), BookO o' ks c (overT T i (job0 sd se (runsOf ks sa sb sc (T j)))) → SetO o' (sa, sb, sc, sd, se) → TxOk (o'.1 66) (o'.2.2.1 43) tx → OprO o' → JobO o' (some (i, sd, se, arR se (runsOf ks sa sb sc (T j)).length, job0 sd se (runsOf ks sa sb sc (T j)), 0, 0, 0, (T j).length, 0, 0, 0)) → Q (nI (runsOf ks sa sb sc (T j)).length) o' := fun o' q1 q2 q3 q4 q5 => hQ o' ⟨q1, q2, q3, q4, q5⟩
  have hfld : (0 : Nat) = ((grS (chM sd se (arR se (runsOf ks sa sb sc (T j)).length) (lens (job0 sd se (runsOf ks sa sb sc (T j))))) (chA sd se (arR se (runsOf ks sa sb sc (T j)).length) (lens (job0 sd se (runsOf ks sa sb sc (T j))))) (lens (job0 sd se (runsOf ks sa sb sc (T j))))).take 0).sum := by rw [List.take_zero]; rfl
  refine isOver_s hJ0.1.1 (by omega) ?_
  by_cases c1 : (job0 sd se (runsOf ks sa sb sc (T j))).length ≤ 1
  · rw [decide_eq_true c1]
    refine ⟨fun q => (by cases q), fun _ => ?_⟩
    refine writeTo_s hJ0.1 b4 (by omega) (fun x hx => ?_) (fun F' n' hP' => ?_)
    · have hne : 0 < (job0 sd se (runsOf ks sa sb sc (T j))).length := by
        rcases Nat.eq_zero_or_pos (job0 sd se (runsOf ks sa sb sc (T j))).length with q | q
        · rw [getD_ge (by omega)] at hx; simp at hx
        · exact q
      exact (hmem _ (getD_mem2 hne) x hx).1
    · refine fin _ ⟨b1, ⟨b2, b3⟩, ?_, ?_⟩ hh2 h3 h4 ⟨rfl, hJ0, ⟨rfl, hi⟩, ⟨rfl, s4.2⟩, ⟨rfl, s5.2⟩, ⟨rfl, by omega⟩, ⟨rfl, by omega⟩, ⟨rfl, by omega⟩, ⟨rfl, by omega⟩, ⟨rfl, by omega⟩, ⟨rfl, by omega⟩, hfld, fun r hr x hx => (hmem r hr x hx).1⟩
      · unfold overT; rw [if_pos c1]; exact hP'
      · unfold overT; rw [if_pos c1]
        refine tapes_put b5 (Nat.le_refl _) (fun r hr => ?_)
        obtain ⟨x, hx, rfl⟩ := List.mem_map.mp hr
        have hne : 0 < (job0 sd se (runsOf ks sa sb sc (T j))).length := by
          rcases Nat.eq_zero_or_pos (job0 sd se (runsOf ks sa sb sc (T j))).length with q | q
          · rw [getD_ge (by omega)] at hx; simp at hx
          · exact q
        exact (hmem _ (getD_mem2 hne) x hx).2
  · rw [decide_eq_false c1]
    refine ⟨fun _ => ?_, fun q => by cases q⟩
    refine fin _ ⟨b1, ⟨b2, b3⟩, ?_, ?_⟩ hh2 h3 h4 ⟨rfl, hJ0, ⟨rfl, hi⟩, ⟨rfl, s4.2⟩, ⟨rfl, s5.2⟩, ⟨rfl, by omega⟩, ⟨rfl, by omega⟩, ⟨rfl, by omega⟩, ⟨rfl, by omega⟩, ⟨rfl, by omega⟩, ⟨rfl, by omega⟩, hfld, fun r hr x hx => (hmem r hr x hx).1⟩
    · unfold overT; rw [if_neg c1]; exact b4
    · unfold overT; rw [if_neg c1]; exact b5
theorem tear_o {o : OS} {ks : Nat → Int} {c : Nat} {T : Nat → List Nat} {s : SS} {tx : List Nat} {to w k dn p m v mop lost torn : Nat} {rw' : List Nat} {now : List (List Nat)} {Q : Int32 → OS → Prop} {X : String → OS → Prop}  (h : Off o ks c T s tx (some (to, w, k, rw', now, dn, p, m, v, mop, lost, torn))) (hn : 2 ≤ now.length) (hl : lost + mop < 2 ^ 20) (ht : torn + 1 < 2 ^ 20) (hQ : ∀ o', Off o' ks c T s tx (some (to, w, k, rw', now, 0, p, m, v, 0, lost + mop, torn + 1)) → Q (nI mop) o') : ow_tear o Q X := by
  obtain ⟨⟨b1, ⟨b2, b3⟩, b4, b5⟩, h2, h3, h4, h5⟩ := h
  have h5' := h5
  obtain ⟨e0, hJ, ⟨e1, f1⟩, ⟨e2, f2⟩, ⟨e3, f3, f4⟩, ⟨e4, f5⟩, ⟨e5, f6⟩, ⟨e6, f7⟩, ⟨e7, f8⟩, ⟨e8, f9⟩, ⟨e9, f10⟩, e10, e11⟩ := h5'
  have hn0 := hJ.1.2.1
  unfold ow_tear wp_X11_tear wp_X11_demandJobUnderWay
  rw [e0, e7, e8, e9]
  refine ⟨fun q => (by cases q), fun _ => ?_⟩
  refine isOver_s hJ.1.1 (by omega) ?_
  rw [decide_eq_false (by omega)]
  refine ⟨fun _ => ?_, fun q => by cases q⟩
  refine losePass_s ?_
  have hga := jga hJ f2 f3 f4 hn
  obtain ⟨j1, j2, j3, j4, j5, j6, j7, j8⟩ := hJ
  exact hQ _ ⟨⟨b1, ⟨b2, b3⟩, b4, b5⟩, h2, h3, h4, ⟨e0, ⟨j1, by rw [List.take_zero]; exact ROk.nil _ _ _, j3, j4, fun _ => rfl, fun _ => hga.2.1, fun q => absurd q (by omega), j8⟩, ⟨e1, f1⟩, ⟨e2, f2⟩, ⟨e3, f3, f4⟩, ⟨e4, f5⟩, ⟨e5, f6⟩, ⟨e6, f7⟩, ⟨rfl, by omega⟩, ⟨rfl, hl⟩, ⟨rfl, ht⟩, by rw [List.take_zero]; rfl, e11⟩⟩
theorem tear_x {o : OS} {ks : Nat → Int} {c : Nat} {T : Nat → List Nat} {s : SS} {tx : List Nat} {to w k dn p m v mop lost torn : Nat} {rw' : List Nat} {now : List (List Nat)} {Q : Int32 → OS → Prop} {X : String → OS → Prop}  (h : Off o ks c T s tx (some (to, w, k, rw', now, dn, p, m, v, mop, lost, torn))) (hn : now.length ≤ 1) (hX : ∀ o', Off o' ks c T s tx (some (to, w, k, rw', now, dn, p, m, v, mop, lost, torn)) → X eIS o') : ow_tear o Q X := by
  obtain ⟨⟨b1, ⟨b2, b3⟩, b4, b5⟩, h2, h3, h4, h5⟩ := h
  have h5' := h5
  obtain ⟨e0, hJ, ⟨e1, f1⟩, ⟨e2, f2⟩, ⟨e3, f3, f4⟩, ⟨e4, f5⟩, ⟨e5, f6⟩, ⟨e6, f7⟩, ⟨e7, f8⟩, ⟨e8, f9⟩, ⟨e9, f10⟩, e10, e11⟩ := h5'
  have hn0 := hJ.1.2.1
  unfold ow_tear wp_X11_tear wp_X11_demandJobUnderWay
  rw [e0]
  refine ⟨fun q => (by cases q), fun _ => ?_⟩
  refine isOver_s hJ.1.1 (by omega) ?_
  rw [decide_eq_true hn]
  refine ⟨fun q => (by cases q), fun _ => ?_⟩
  exact hX _ ⟨⟨b1, ⟨b2, b3⟩, b4, b5⟩, h2, h3, h4, h5⟩
theorem work_x {o : OS} {ks : Nat → Int} {c : Nat} {T : Nat → List Nat} {s : SS} {tx : List Nat} {to w k dn p m v mop lost torn : Nat} {rw' : List Nat} {now : List (List Nat)} {Q : Int32 → OS → Prop} {X : String → OS → Prop} {M : Nat} (h : Off o ks c T s tx (some (to, w, k, rw', now, dn, p, m, v, mop, lost, torn))) (hn : now.length ≤ 1) (hM1 : 1 ≤ M) (hM2 : M ≤ 200) (hX : ∀ o', Off o' ks c T s tx (some (to, w, k, rw', now, dn, p, m, v, mop, lost, torn)) → X eIS o') : ow_work o (nI M) Q X := by
  obtain ⟨⟨b1, ⟨b2, b3⟩, b4, b5⟩, h2, h3, h4, h5⟩ := h
  have h5' := h5
  obtain ⟨e0, hJ, ⟨e1, f1⟩, ⟨e2, f2⟩, ⟨e3, f3, f4⟩, ⟨e4, f5⟩, ⟨e5, f6⟩, ⟨e6, f7⟩, ⟨e7, f8⟩, ⟨e8, f9⟩, ⟨e9, f10⟩, e10, e11⟩ := h5'
  have hn0 := hJ.1.2.1
  unfold ow_work wp_X11_work wp_X11_demandJobUnderWay
  refine rangeN_s (lo := 1) (hi := 200) ⟨hM1, hM2⟩ (by omega) ?_
  rw [e0]
  refine ⟨fun q => (by cases q), fun _ => ?_⟩
  refine isOver_s hJ.1.1 (by omega) ?_
  rw [decide_eq_true hn]
  refine ⟨fun q => (by cases q), fun _ => ?_⟩
  exact hX _ ⟨⟨b1, ⟨b2, b3⟩, b4, b5⟩, h2, h3, h4, h5⟩
theorem work_o {o : OS} {ks : Nat → Int} {c : Nat} {T : Nat → List Nat} {s : SS} {tx : List Nat} {to w k dn p m v mop lost torn : Nat} {rw' : List Nat} {now : List (List Nat)} {Q : Int32 → OS → Prop} {X : String → OS → Prop} {M : Nat} (h : Off o ks c T s tx (some (to, w, k, rw', now, dn, p, m, v, mop, lost, torn))) (hn : 2 ≤ now.length) (hM1 : 1 ≤ M) (hM2 : M ≤ 200) (hmb : m + M < 2 ^ 20) (hpb : p + (rst w k rw' now dn).1 < 2 ^ 20) (hvb : v + (rst w k rw' now dn).2.1 < 2 ^ 20) (hQ : ∀ o' d rw1 now1 dn1 p1 m1 v1 mop1, 1 ≤ d → d ≤ M → (d < M → now1.length ≤ 1) → Rel w k rw' now dn p m v d rw1 now1 dn1 p1 m1 v1 mop1 → Off o' ks c (overT T to now1) s tx (some (to, w, k, rw1, now1, dn1, p1, m1, v1, mop1, lost, torn)) → Q (nI d) o') (hc : ∀ r ∈ now, ∀ x ∈ r, x % 256 < c) : ow_work o (nI M) Q X := by
  obtain ⟨⟨b1, ⟨b2, b3⟩, b4, b5⟩, h2, h3, h4, h5⟩ := h
  have h5' := h5
  obtain ⟨e0, hJ, ⟨e1, f1⟩, ⟨e2, f2⟩, ⟨e3, f3, f4⟩, ⟨e4, f5⟩, ⟨e5, f6⟩, ⟨e6, f7⟩, ⟨e7, f8⟩, ⟨e8, f9⟩, ⟨e9, f10⟩, e10, e11⟩ := h5'
  have hn0 := hJ.1.2.1
  unfold ow_work
  rw [e0, e1, e2, e3, e4, e5, e6, e7]
  refine work_w b4 f1 f2 f3 f4 hn hM1 hM2 hJ e10 e11 (fun d rw1 now1 dn1 p1 m1 v1 mop1 ic nc nf mc mf pm xc xf ip pl mt rows nr ns nl mr ms ml xs xl xr F' n' hd1 hd2 hd3 hJ1 hR1 hm1 hP' => ?_)
  have hR2 := hR1
  obtain ⟨r1, r2, r3, r4, r5, r6⟩ := hR2
  have hmop : mop1 < 2 ^ 20 := by
    have q1 := sum_take_le (grS (chM w k rw1 (lens now1)) (chA w k rw1 (lens now1)) (lens now1)) dn1
    have hfl := hJ1.1.2.2.2.1
    have q2 : (grS (chM w k rw1 (lens now1)) (chA w k rw1 (lens now1)) (lens now1)).sum ≤ (lens now1).sum ∨ now1.length ≤ 1 := by
      rcases Nat.lt_or_ge now1.length 2 with q | q
      · right; omega
      · left
        have hga := jga hJ1 f2 f3 f4 q
        have := grS_sum (as := chA w k rw1 (lens now1)) (ls := lens now1) (mg := chM w k rw1 (lens now1)) (fun i _ j e => hga.1 i j e)
        omega
    rcases q2 with q | q
    · rw [lens_sum] at q; omega
    · have hdn := hJ1.2.2.2.2.1 q
      rw [hdn, List.take_zero] at r6
      rw [r6]; decide
  refine hQ _ d rw1 now1 dn1 p1 m1 v1 mop1 hd1 hd2 hd3 hR1 ⟨⟨b1, ⟨b2, b3⟩, hP', ?_⟩, h2, h3, h4, ⟨e0, hJ1, ⟨e1, f1⟩, ⟨e2, f2⟩, ⟨e3, f3, f4⟩, ⟨rfl, by omega⟩, ⟨rfl, by omega⟩, ⟨rfl, by omega⟩, ⟨rfl, hmop⟩, ⟨e8, f9⟩, ⟨e9, f10⟩, r6, hm1⟩⟩
  unfold overT
  by_cases c1 : now1.length ≤ 1
  · rw [if_pos c1]
    refine tapes_put b5 (Nat.le_refl _) (fun r hr => ?_)
    obtain ⟨x, hx, rfl⟩ := List.mem_map.mp hr
    have hx2 : x ∈ now1.flatten := by
      cases now1 with
      | nil => simp at hx
      | cons a t => exact List.mem_append_left _ hx
    exact flat_mem.mp hc x (r5.mem_iff.mp hx2)
  · rw [if_neg c1]; exact b5
/-- what a job tells, by its number (2, the runs, aside) -/
def jobA (J : JS) (i : Nat) : Nat :=
  if i = 0 then J.1 else if i = 1 then (if J.2.2.2.2.1.length ≤ 1 then 1 else 0) else if i = 3 then J.2.2.2.2.2.2.1 else if i = 4 then J.2.2.2.2.2.2.2.1 else if i = 5 then J.2.2.2.2.2.2.2.2.1 else if i = 6 then J.2.2.2.2.2.2.2.2.2.2.1 else J.2.2.2.2.2.2.2.2.2.2.2
theorem job_o {o : OS} {ks : Nat → Int} {c : Nat} {T : Nat → List Nat} {s : SS} {tx : List Nat} {to w k dn p m v mop lost torn : Nat} {rw' : List Nat} {now : List (List Nat)} {Q : Int32 → OS → Prop} {X : String → OS → Prop} {i : Nat} (h : Off o ks c T s tx (some (to, w, k, rw', now, dn, p, m, v, mop, lost, torn))) (hi : i < 8) (hi2 : i ≠ 2) (hQ : Q (nI (jobA (to, w, k, rw', now, dn, p, m, v, mop, lost, torn) i)) o) : ow_job o (nI i) Q X := by
  obtain ⟨⟨b1, ⟨b2, b3⟩, b4, b5⟩, h2, h3, h4, h5⟩ := h
  have h5' := h5
  obtain ⟨e0, hJ, ⟨e1, f1⟩, ⟨e2, f2⟩, ⟨e3, f3, f4⟩, ⟨e4, f5⟩, ⟨e5, f6⟩, ⟨e6, f7⟩, ⟨e7, f8⟩, ⟨e8, f9⟩, ⟨e9, f10⟩, e10, e11⟩ := h5'
  have hn0 := hJ.1.2.1
  unfold ow_job wp_X11_job
  refine rangeN_s (lo := 0) (hi := 7) ⟨Nat.zero_le _, by omega⟩ (by omega) ?_
  rw [e0, e1, e4, e5, e6, e8, e9]
  refine ⟨fun q => (by cases q), fun _ => ?_⟩
  match i, hi, hi2 with
  | 0, _, _ => exact ⟨fun _ => hQ, fun q => absurd q (by decide), fun q => absurd q (by decide), fun q => absurd q (by decide), fun q => absurd q (by decide), fun q => absurd q (by decide), fun q => absurd q (by decide), fun q => absurd q (by decide)⟩
  | 1, _, _ =>
    refine ⟨fun q => absurd q (by decide), fun _ => ?_, fun q => absurd q (by decide), fun q => absurd q (by decide), fun q => absurd q (by decide), fun q => absurd q (by decide), fun q => absurd q (by decide), fun q => absurd q (by decide)⟩
    refine isOver_s hJ.1.1 (by omega) ?_
    have hQ : Q (nI (if now.length ≤ 1 then 1 else 0)) o := hQ
    by_cases c1 : now.length ≤ 1
    · rw [if_pos c1] at hQ
      rw [decide_eq_true c1]
      exact ⟨fun q => (by cases q), fun _ => hQ⟩
    · rw [if_neg c1] at hQ
      rw [decide_eq_false c1]
      exact ⟨fun _ => hQ, fun q => by cases q⟩
  | 3, _, _ => exact ⟨fun q => absurd q (by decide), fun q => absurd q (by decide), fun q => absurd q (by decide), fun _ => hQ, fun q => absurd q (by decide), fun q => absurd q (by decide), fun q => absurd q (by decide), fun q => absurd q (by decide)⟩
  | 4, _, _ => exact ⟨fun q => absurd q (by decide), fun q => absurd q (by decide), fun q => absurd q (by decide), fun q => absurd q (by decide), fun _ => hQ, fun q => absurd q (by decide), fun q => absurd q (by decide), fun q => absurd q (by decide)⟩
  | 5, _, _ => exact ⟨fun q => absurd q (by decide), fun q => absurd q (by decide), fun q => absurd q (by decide), fun q => absurd q (by decide), fun q => absurd q (by decide), fun _ => hQ, fun q => absurd q (by decide), fun q => absurd q (by decide)⟩
  | 6, _, _ => exact ⟨fun q => absurd q (by decide), fun q => absurd q (by decide), fun q => absurd q (by decide), fun q => absurd q (by decide), fun q => absurd q (by decide), fun q => absurd q (by decide), fun _ => hQ, fun q => absurd q (by decide)⟩
  | 7, _, _ => exact ⟨fun q => absurd q (by decide), fun q => absurd q (by decide), fun q => absurd q (by decide), fun q => absurd q (by decide), fun q => absurd q (by decide), fun q => absurd q (by decide), fun q => absurd q (by decide), fun _ => hQ⟩
theorem job2_o {o : OS} {ks : Nat → Int} {c : Nat} {T : Nat → List Nat} {s : SS} {tx : List Nat} {to w k dn p m v mop lost torn : Nat} {rw' : List Nat} {now : List (List Nat)} {Q : Int32 → OS → Prop} {X : String → OS → Prop}  (h : Off o ks c T s tx (some (to, w, k, rw', now, dn, p, m, v, mop, lost, torn))) (hQ : ∀ r, (now.length = 0 → r = 0) → (1 ≤ now.length → 1 ≤ r) → (now.length ≤ 1 → r = now.length) → r ≤ 400 → Q (nI r) o) : ow_job o (nI 2) Q X := by
  obtain ⟨⟨b1, ⟨b2, b3⟩, b4, b5⟩, h2, h3, h4, h5⟩ := h
  have h5' := h5
  obtain ⟨e0, hJ, ⟨e1, f1⟩, ⟨e2, f2⟩, ⟨e3, f3, f4⟩, ⟨e4, f5⟩, ⟨e5, f6⟩, ⟨e6, f7⟩, ⟨e7, f8⟩, ⟨e8, f9⟩, ⟨e9, f10⟩, e10, e11⟩ := h5'
  have hn0 := hJ.1.2.1
  unfold ow_job wp_X11_job
  refine rangeN_s (lo := 0) (hi := 7) ⟨Nat.zero_le _, by omega⟩ (by omega) ?_
  rw [e0]
  refine ⟨fun q => (by cases q), fun _ => ?_⟩
  refine ⟨fun q => absurd q (by decide), fun q => absurd q (by decide), fun _ => ?_, fun q => absurd q (by decide), fun q => absurd q (by decide), fun q => absurd q (by decide), fun q => absurd q (by decide), fun q => absurd q (by decide)⟩
  exact runsLeft_s f2 f3 f4 hJ hQ
theorem job_x {o : OS} {ks : Nat → Int} {c : Nat} {T : Nat → List Nat} {s : SS} {tx : List Nat} {Q : Int32 → OS → Prop} {X : String → OS → Prop} {i : Nat} (h : Off o ks c T s tx none) (hi : i < 8) (hX : X eIS o) : ow_job o (nI i) Q X := by
  obtain ⟨-, -, -, -, h5⟩ := h
  have h5 : (o.2.1 0) = false := h5
  unfold ow_job wp_X11_job
  refine rangeN_s (lo := 0) (hi := 7) ⟨Nat.zero_le _, by omega⟩ (by omega) ?_
  rw [h5]
  exact ⟨fun _ => hX, fun q => by cases q⟩
