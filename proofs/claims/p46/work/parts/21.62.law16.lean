/-! jobs, worked in pieces and torn -/
theorem rst_tear {w k dn : Nat} {rw' : List Nat} {now : List (List Nat)} (hn : 2 ≤ now.length) (hd : dn ≤ chM w k rw' (lens now)) : (rst w k rw' now 0).1 = (rst w k rw' now dn).1 ∧ (rst w k rw' now 0).2.1 = (rst w k rw' now dn).2.1 + ((grS (chM w k rw' (lens now)) (chA w k rw' (lens now)) (lens now)).take dn).sum ∧ (rst w k rw' now 0).2.2 = (rst w k rw' now dn).2.2 + dn := by
  unfold rst
  rw [if_neg (by omega), if_neg (by omega)]
  refine ⟨rfl, ?_, ?_⟩
  · show _ + (List.drop 0 _).sum = _ + (List.drop dn _).sum + _
    rw [List.drop_zero]
    have e : (grS (chM w k rw' (lens now)) (chA w k rw' (lens now)) (lens now)).sum = ((grS (chM w k rw' (lens now)) (chA w k rw' (lens now)) (lens now)).take dn).sum + ((grS (chM w k rw' (lens now)) (chA w k rw' (lens now)) (lens now)).drop dn).sum := by
      rw [← List.sum_append, List.take_append_drop]
    rw [e]; omega
  · show _ + (_ - 0) = _ + (_ - dn) + dn
    omega
theorem rst_done {w k dn : Nat} {rw' : List Nat} {now : List (List Nat)} (hn : now.length ≤ 1) : rst w k rw' now dn = (0, 0, 0) := by
  unfold rst
  rw [if_pos hn]
theorem arN_49 : ∀ k, k < 7 → 2 ≤ k → ∀ n, n < 31 → (lvR k (lvN k n)).sum ≤ 49 := by decide +kernel
theorem isJob_w {o : OS} {ks : Nat → Int} {c : Nat} {T : Nat → List Nat} {s : SS} {tx : List Nat} {J : Option JS} {j i od : Nat} {r : Nat → Int32} {Q : Bool → (Nat → Int32) → OS → Prop} (h : Off o ks c T s tx J) (hj : j < 8) (hi : i < 8) (hod : s.1 = od) (hl : (T j).length ≤ 30) (hQ : ∀ r' o' T' s' J', Off o' ks c T' s' tx J' → Q true r' o') : wp_L_isJob o 2 r (nI j) (nI i) (nI od) Q := by
  have hc := h.c2
  have rL := h.rec (j := j) (by omega)
  have hn := h.nr (j := j) (by omega)
  obtain ⟨⟨so1, so2⟩, ⟨sw1, sw2⟩, ⟨sm1, sm2, sm3⟩, ⟨sg1, sg2⟩, ⟨sk1, sk2, sk3⟩⟩ := h.2.1
  have ho : od < 2 := by rw [← hod]; exact so2
  obtain ⟨R, hR⟩ : ∃ R, R = rnO ks s (T j) := ⟨_, rfl⟩
  obtain ⟨w, hw⟩ : ∃ w, w = s.2.2.2.1 := ⟨_, rfl⟩
  obtain ⟨k, hk⟩ : ∃ k, k = s.2.2.2.2 := ⟨_, rfl⟩
  obtain ⟨n, hnn⟩ : ∃ n, n = (T j).length := ⟨_, rfl⟩
  have hw3 : w < 3 := by rw [hw]; exact sg2
  have hk2 : 2 ≤ k := by rw [hk]; exact sk2
  have hk6 : k ≤ 6 := by rw [hk]; exact sk3
  obtain ⟨rp, rs⟩ : R.flatten.Perm (rks ks od (T j)) ∧ ∀ r ∈ R, r ≠ [] ∧ r.Pairwise (· ≤ ·) := by rw [hR, ← hod]; exact runs_ok sw2 sm2
  rw [← hR, ← hnn] at hn
  rw [← hnn] at hl
  have hrk : (rks ks od (T j)).length = n := by rw [rks_len, hnn]
  have hmem : ∀ x ∈ rks ks od (T j), x % 256 < c := fun x hx => by
    obtain ⟨y, hy, e⟩ := List.mem_map.mp hx
    have hyc := rL y hy
    rw [← e, rk_mod (by omega)]; exact hyc
  -- what was planned
  obtain ⟨P, hP⟩ : ∃ P, P = (planOf w k (lens R)).1 := ⟨_, rfl⟩
  obtain ⟨V, hV⟩ : ∃ V, V = (planOf w k (lens R)).2.1 := ⟨_, rfl⟩
  obtain ⟨M, hM⟩ : ∃ M, M = (planOf w k (lens R)).2.2 := ⟨_, rfl⟩
  have hp0 : plA ks s (T j) 0 = P := by rw [hP, hw, hk, hR]; rfl
  have hp1 : plA ks s (T j) 1 = V := by rw [hV, hw, hk, hR]; rfl
  have hp2 : plA ks s (T j) 2 = M := by rw [hM, hw, hk, hR]; rfl
  obtain ⟨ar1, ar2, ar3, ar4⟩ := arN_ok (w := w) (k := k) (n := R.length) hk2 hk6 (by omega)
  have ar49 : arN w k R.length ≤ 49 := by
    by_cases e : w = 2 ∧ R.length ≠ 0
    · unfold arN; rw [if_pos e]; exact arN_49 k (by omega) hk2 R.length (by omega)
    · unfold arN; rw [if_neg e]; omega
  have jl : (job0 w k R).length = arN w k R.length := by
    unfold job0
    rw [List.length_append, List.length_replicate]; omega
  have tll : (toL w k (lens R)).length = arN w k R.length := by rw [← job0_lens, lens_len, jl]
  have pb : P ≤ 200 ∧ V ≤ 200 * n ∧ M ≤ 49 := by
    have h1 := plan_le hw3 hk2 hk6 200 (arR k (lens R).length) (toL w k (lens R)) (by omega) (by rw [tll, lens_len]; exact ar4)
    have h2 : (toL w k (lens R)).sum = n := by rw [← job0_lens, lens_sum, job0_flat]; exact hn.2
    rw [h2, tll] at h1
    rw [hP, hV, hM]
    unfold planOf
    exact ⟨h1.1, h1.2.1, by omega⟩
  have rst0 : rst w k (arR k R.length) (job0 w k R) 0 = (P, V, M) := by
    rw [rst_0 hw3 hk2 hk6 (by omega) (by rw [jl]; exact ar4), job0_lens, hP, hV, hM]
    unfold planOf
    rw [lens_len]
  have hVn : V ≤ 6000 := Nat.le_trans pb.2.1 (Nat.mul_le_mul_left 200 hl)
  unfold wp_L_isJob
  refine tape_w h hj (fun q6 a6 => ?_)
  refine sorted_s_w h a6 (by omega) rL ho (fun q12 a12 => ?_)
  refine runs_o h hj (fun o1 h1 => ?_)
  refine plan_o (k := 0) h1 hj (by decide) (fun o2 h2 => ?_)
  refine plan_o (k := 1) h2 hj (by decide) (fun o3 h3 => ?_)
  rw [hp0, hp1, ← hR, ← hnn]
  refine nm_r (e' := nI (V + n)) (nI_add _ _) ?_
  refine plan_o (k := 2) h3 hj (by decide) (fun o4 h4 => ?_)
  rw [hp2]
  refine begin_o h4 hj hi (fun o5 h5 => ?_)
  rw [← hR, ← hw, ← hk, ← hnn] at h5
  rw [← hR]
  rw [← hnn] at a6 a12
  -- the end: the tape is in order, the counts are right
  have e490 : ∀ (o' : OS) (r' : Nat → Int32) (T' : Nat → List Nat) (s' : SS) (rw1 : List Nat) (now : List (List Nat)) (dn p m v mop l t : Nat), Off o' ks c T' s' tx (some (i, w, k, rw1, now, dn, p, m, v, mop, l, t)) → now.length ≤ 1 → T' i = srt ks od (T j) → wj_L_isJob_490 (nI i) (nI od) Q n q12 r' o' := by
    intro o' r' T' s' rw1 now dn p m v mop l t h' hno hT
    unfold wj_L_isJob_490
    have l1 := h'.len (j := i) (by omega)
    have r1 := h'.rec (j := i) (by omega)
    refine tape_w h' hi (fun q1 a1 => ?_)
    refine same_t a1 a12 hT (by omega) (fun r hr => by have := r1 r hr; omega) ⟨fun z => (by cases z), fun _ => ?_⟩
    refine isSorted_o h' hi ho ?_
    rw [hT, srt_ord h.1.1 (fun r hr => by have := rL r hr; omega)]
    refine ⟨fun z => (by cases z), fun _ => ?_⟩
    unfold wp_L_asks_9
    refine work_x (M := 1) h' hno (by decide) (by decide) (fun o7 h7 => Or.inr (Or.inr (Or.inr ⟨rfl, fun _ => ?_, fun z => absurd rfl z⟩)))
    unfold wp_L_asks_10
    refine tear_x h7 hno (fun o8 h8 => Or.inr (Or.inr (Or.inr ⟨rfl, fun _ => ?_, fun z => absurd rfl z⟩)))
    exact job_o (i := 0) h8 (by decide) (by decide) ⟨fun _ => hQ _ _ _ _ _ h8, fun z => absurd rfl z⟩
  have e408 : ∀ (o' : OS) (r' : Nat → Int32) (T' : Nat → List Nat) (s' : SS) (rw1 : List Nat) (now : List (List Nat)) (dn m v mop l t : Nat), Off o' ks c T' s' tx (some (i, w, k, rw1, now, dn, P, m, v, mop, l, t)) → now.length ≤ 1 → (n = 0 → now.length = 0) → (1 ≤ n → 1 ≤ now.length) → T' i = srt ks od (T j) → v = V + n + l → M ≤ m → (t = 0 → m = M) → m < 2 ^ 20 → t < 2 ^ 20 → wx_L_isJob_194_408 (nI i) (nI od) Q n q12 (nI P) (nI (V + n)) (nI M) o' r' (nI l) (nI t) (nI m) := by
    intro o' r' T' s' rw1 now dn m v mop l t h' hno hn0 hn1 hT hv hm1 hm2 hmb htb
    unfold wx_L_isJob_194_408
    refine job_o (i := 1) h' (by decide) (by decide) ?_
    have e1 : jobA (i, w, k, rw1, now, dn, P, m, v, mop, l, t) 1 = 1 := by
      show (if now.length ≤ 1 then 1 else 0) = 1
      rw [if_pos hno]
    rw [e1]
    refine ⟨fun _ => ?_, fun z => absurd rfl z⟩
    refine job2_o h' (fun r2 z1 z2 z3 z4 => ?_)
    have z5 := z3 hno
    have go : ∀ b : Bool, nI r2 = b2i b → wj_L_isJob_433 (nI i) (nI od) Q n q12 (nI P) (nI (V + n)) (nI M) r' (nI l) (nI t) (nI m) o' (nI r2) b := by
      intro b hb
      have fin := e490 o' r' T' s' rw1 now dn P m v mop l t h' hno hT
      unfold wj_L_isJob_433
      refine ⟨fun _ => ?_, fun z => absurd hb z⟩
      refine job_o (i := 3) h' (by decide) (by decide) ⟨fun _ => ?_, fun z => absurd rfl z⟩
      refine job_o (i := 4) h' (by decide) (by decide) ⟨fun _ => ?_, fun z => absurd rfl z⟩
      refine job_o (i := 5) h' (by decide) (by decide) ?_
      refine nm_r (e' := nI v) (by rw [nI_add, hv]) ?_
      refine ⟨fun _ => ?_, fun z => absurd rfl z⟩
      refine pk_lt m M (fun q => absurd q (by omega)) (fun _ => ?_)
      refine pk_eq t 0 (fun e => ?_) (fun _ => fin)
      rw [hm2 e]
      exact ⟨fun _ => fin, fun z => absurd rfl z⟩
    refine pk_eq n 0 (fun e => ?_) (fun e => ?_)
    · exact go false (by rw [z5, hn0 e]; rfl)
    · exact go true (by rw [z5, show now.length = 1 by have := hn1 (by omega); omega]; rfl)
  -- the job, piece by piece
  have loop : ∀ (f : Nat) (o' : OS) (r' : Nat → Int32) (T' : Nat → List Nat) (s' : SS) (rw1 : List Nat) (now : List (List Nat)) (dn p m v mop l t u z : Nat), Off o' ks c T' s' tx (some (i, w, k, rw1, now, dn, p, m, v, mop, l, t)) → now.flatten.Perm (rks ks od (T j)) → (n = 0 → now.length = 0) → (now.length ≤ 1 → T' i = srt ks od (T j)) → t = 2 * u → u ≤ 3 → l ≤ 100 * t → p + (rst w k rw1 now dn).1 = P → v + (rst w k rw1 now dn).2.1 = V + n + l → M ≤ m + (rst w k rw1 now dn).2.2 → (t = 0 → m + (rst w k rw1 now dn).2.2 = M) → m + (rst w k rw1 now dn).2.2 + (3 - u) * 100 ≤ 349 → z + (rst w k rw1 now dn).2.2 + (3 - u) * 100 ≤ 349 → (rst w k rw1 now dn).2.2 + (3 - u) * 100 < f → wl_L_isJob_194 2 (wx_L_isJob_194_287 Q) (wx_L_isJob_194_367 Q) (wx_L_isJob_194_400 Q) (wx_L_isJob_194_408 (nI i) (nI od) Q n q12 (nI P) (nI (V + n)) (nI M)) f o' r' (nI z) (nI l) (nI t) (nI m) := by
    intro f
    induction f with
    | zero => intro o' r' T' s' rw1 now dn p m v mop l t u z _ _ _ _ _ _ _ _ _ _ _ _ _ hf; exact absurd hf (Nat.not_lt_zero _)
    | succ f ih =>
      intro o' r' T' s' rw1 now dn p m v mop l t u z h' hper hn0 hT ht hu hlb hpp hvv hm1 hm2 hmz hzz hf
      have hJ := h'.2.2.2.2.2
      have hmop := hJ.2.2.2.2.2.2.2.2.2.2.1
      have hJ1 := hJ.1
      have hnl : now.length ≤ 200 := hJ1.1.2.1
      have hfl : now.flatten.length = n := by rw [hper.length_eq, hrk]
      have hn1 : 1 ≤ n → 1 ≤ now.length := fun e => by
        cases now with
        | nil => simp at hfl; omega
        | cons a b => simp
      rw [wl_L_isJob_194_s]
      refine pk_le 400 z (fun q => absurd q (by omega)) (fun _ => ?_)
      refine job_o (i := 1) h' (by decide) (by decide) ?_
      by_cases hno : now.length ≤ 1
      · have e1 : jobA (i, w, k, rw1, now, dn, p, m, v, mop, l, t) 1 = 1 := by
          show (if now.length ≤ 1 then 1 else 0) = 1
          rw [if_pos hno]
        rw [e1]
        refine ⟨fun q => absurd q (by decide), fun _ => ?_⟩
        rw [rst_done hno] at hpp hvv hm1 hm2 hmz
        have hpp' : p = P := hpp
        have hvv' : v = V + n + l := hvv
        have hm1' : M ≤ m := hm1
        have hm2' : t = 0 → m = M := hm2
        rw [hpp'] at h'
        exact e408 o' r' T' s' rw1 now dn m v mop l t h' hno hn0 hn1 (hT hno) hvv' hm1' hm2' (by omega) (by omega)
      · have hn2 : 2 ≤ now.length := by omega
        have e1 : jobA (i, w, k, rw1, now, dn, p, m, v, mop, l, t) 1 = 0 := by
          show (if now.length ≤ 1 then 1 else 0) = 0
          rw [if_neg hno]
        rw [e1]
        refine ⟨fun _ => ?_, fun q => absurd rfl q⟩
        have hdn := hJ1.2.2.2.2.2.1 hn2
        have hga := jga hJ1 hw3 hk2 hk6 hn2
        have hch : 2 * chM w k rw1 (lens now) ≤ 200 := by
          have := (hga.2.2.2.2 (List Nat) now rfl).2
          omega
        have hn1n : 1 ≤ n := by
          refine Nat.one_le_iff_ne_zero.mpr (fun e => ?_)
          have := hn0 e; omega
        obtain ⟨t1, t2, t3⟩ := rst_tear (w := w) (k := k) (rw' := rw1) hn2 (Nat.le_of_lt hdn)
        rw [← hmop] at t2
        have hmb : mop ≤ 100 := by
          have g1 := grS_sum (mg := chM w k rw1 (lens now)) (as := chA w k rw1 (lens now)) (ls := lens now) (fun a ha b hb => hga.1 a b hb)
          rw [lens_sum, hfl] at g1
          have g2 := sum_take_le (grS (chM w k rw1 (lens now)) (chA w k rw1 (lens now)) (lens now)) dn
          rw [hmop]
          omega
        -- behind each piece
        have e369 : ∀ (o2 : OS) (r2 : Nat → Int32) (T2 : Nat → List Nat) (rw2 : List Nat) (now2 : List (List Nat)) (dn2 p2 m2 v2 mop2 l2 t2 u2 : Nat), Off o2 ks c T2 s' tx (some (i, w, k, rw2, now2, dn2, p2, m2, v2, mop2, l2, t2)) → now2.flatten.Perm (rks ks od (T j)) → (now2.length ≤ 1 → T2 i = srt ks od (T j)) → t2 = 2 * u2 → u2 ≤ 3 → l2 ≤ 100 * t2 → p2 + (rst w k rw2 now2 dn2).1 = P → v2 + (rst w k rw2 now2 dn2).2.1 = V + n + l2 → M ≤ m2 + (rst w k rw2 now2 dn2).2.2 → (t2 = 0 → m2 + (rst w k rw2 now2 dn2).2.2 = M) → m2 + (rst w k rw2 now2 dn2).2.2 + (3 - u2) * 100 ≤ 349 → z + 1 + (rst w k rw2 now2 dn2).2.2 + (3 - u2) * 100 ≤ 349 → (rst w k rw2 now2 dn2).2.2 + (3 - u2) * 100 < f → wj_L_isJob_369 (nI z) (wl_L_isJob_194 2 (wx_L_isJob_194_287 Q) (wx_L_isJob_194_367 Q) (wx_L_isJob_194_400 Q) (wx_L_isJob_194_408 (nI i) (nI od) Q n q12 (nI P) (nI (V + n)) (nI M)) f) (wx_L_isJob_194_400 Q) (nI l2) (nI m2) (nI t2) r2 o2 := by
          intro o2 r2 T2 rw2 now2 dn2 p2 m2 v2 mop2 l2 t2 u2 h2' b1 b2 b3 b4 b5 b6 b7 b8 b9 b10 b11 b12
          have hfl2 : now2.flatten.length = n := by rw [b1.length_eq, hrk]
          have hn2' : 1 ≤ now2.length := by
            cases now2 with
            | nil => simp at hfl2; omega
            | cons a b => simp
          unfold wj_L_isJob_369
          refine job2_o h2' (fun r3 z1 z2 z3 z4 => ?_)
          have z5 := z2 hn2'
          refine pk_lt r3 1 (fun q => absurd q (by omega)) (fun _ => ?_)
          refine job_o (i := 6) h2' (by decide) (by decide) ⟨fun _ => ?_, fun q => absurd rfl q⟩
          refine job_o (i := 7) h2' (by decide) (by decide) ⟨fun _ => ?_, fun q => absurd rfl q⟩
          refine nm_r (e' := nI (z + 1)) (nI_1 _) ?_
          exact ih o2 r2 T2 s' rw2 now2 dn2 p2 m2 v2 mop2 l2 t2 u2 (z + 1) h2' b1 (fun e => by omega) b2 b3 b4 b5 b6 b7 b8 b9 b10 b11 b12
        have e295 : ∀ r2 : Nat → Int32, wj_L_isJob_295 2 (nI z) (nI l) (nI t) (nI m) (wl_L_isJob_194 2 (wx_L_isJob_194_287 Q) (wx_L_isJob_194_367 Q) (wx_L_isJob_194_400 Q) (wx_L_isJob_194_408 (nI i) (nI od) Q n q12 (nI P) (nI (V + n)) (nI M)) f) (wx_L_isJob_194_367 Q) (wx_L_isJob_194_400 Q) o' r2 := by
          intro r2
          unfold wj_L_isJob_295
          refine draw_w (m := 5) (by decide) (by decide) (fun a r3 ha => ?_)
          refine nm_r (e' := nI (1 + a)) (nI_add 1 a) ?_
          refine job_o (i := 4) h' (by decide) (by decide) ?_
          refine work_o h' hn2 (by omega) (by omega) (by omega) (by omega) (by omega) (fun o2 d rw2 now2 dn2 p2 m2 v2 mop2 d1 d2 d3 hrel h2' => ?_) (fun x hx y hy => hmem y (hper.mem_iff.mp (List.mem_flatten_of_mem hx hy)))
          obtain ⟨w1, w2, w3, w4, w5, w6⟩ := hrel
          have hper2 : now2.flatten.Perm (rks ks od (T j)) := w5.trans hper
          refine nm_r (e' := nI (m + d)) (nI_add _ _) ?_
          refine pk_lt d 1 (fun q => absurd q (by omega)) (fun _ => ?_)
          refine pk_lt (1 + a) d (fun q => absurd q (by omega)) (fun _ => ?_)
          have e354 : wj_L_isJob_354 (nI z) (nI l) (nI t) (wl_L_isJob_194 2 (wx_L_isJob_194_287 Q) (wx_L_isJob_194_367 Q) (wx_L_isJob_194_400 Q) (wx_L_isJob_194_408 (nI i) (nI od) Q n q12 (nI P) (nI (V + n)) (nI M)) f) (wx_L_isJob_194_367 Q) (wx_L_isJob_194_400 Q) r3 (nI m) (nI d) (nI (m + d)) o2 := by
            unfold wj_L_isJob_354
            refine job_o (i := 4) h2' (by decide) (by decide) ?_
            refine nm_r (e' := nI m2) (by rw [nI_add, w2]) ?_
            refine ⟨fun _ => ?_, fun q => absurd rfl q⟩
            rw [← w2]
            refine e369 o2 r3 _ rw2 now2 dn2 p2 m2 v2 mop2 l t u h2' hper2 (fun e => ?_) ht hu hlb (by omega) (by omega) (by omega) (fun e => by have := hm2 e; omega) (by omega) (by omega) (by omega)
            unfold overT
            rw [if_pos e, va_up_self, fin_srt e hper2 h2'.2.2.2.2.2.1.2.2.2.2.2.2.2]
            rfl
          refine pk_le (1 + a) d (fun _ => e354) (fun e => ?_)
          have hno2 := d3 (by omega)
          refine job_o (i := 1) h2' (by decide) (by decide) ?_
          have e2 : jobA (i, w, k, rw2, now2, dn2, p2, m2, v2, mop2, l, t) 1 = 1 := by
            show (if now2.length ≤ 1 then 1 else 0) = 1
            rw [if_pos hno2]
          rw [e2]
          exact ⟨fun q => absurd q (by decide), fun _ => e354⟩
        refine job_o (i := 3) h' (by decide) (by decide) ?_
        refine draw_w (m := 6) (by decide) (by decide) (fun a r2 ha => ?_)
        refine pk_eq a 0 (fun _ => ?_) (fun _ => e295 r2)
        refine pk_le 5 t (fun _ => e295 r2) (fun ht5 => ?_)
        have hu2 : u ≤ 2 := by omega
        refine job_o (i := 4) h' (by decide) (by decide) ?_
        refine tear_o h' hn2 (by omega) (by omega) (fun o2 h2' => ?_)
        refine nm_r (e' := nI (l + mop)) (nI_add _ _) ?_
        refine nm_r (e' := nI (t + 1)) (nI_1 _) ?_
        refine pk_lt mop 0 (fun q => absurd q (by omega)) (fun _ => ?_)
        refine job_o (i := 3) h2' (by decide) (by decide) ⟨fun _ => ?_, fun q => absurd rfl q⟩
        refine job_o (i := 4) h2' (by decide) (by decide) ⟨fun _ => ?_, fun q => absurd rfl q⟩
        refine tear_o h2' hn2 (by omega) (by omega) (fun o3 h3' => ⟨fun _ => ?_, fun q => absurd rfl q⟩)
        refine nm_r (e' := nI ((t + 1) + 1)) (nI_1 _) ?_
        have hb3 : (3 - u) * 100 = (3 - (u + 1)) * 100 + 100 := by
          rw [show 3 - u = (3 - (u + 1)) + 1 by omega, Nat.add_mul]
        exact e369 o3 r2 T' rw1 now 0 p m v 0 (l + mop) (t + 1 + 1) (u + 1) h3' hper hT (by omega) (by omega) (by omega) (by omega) (by omega) (by omega) (fun e => by omega) (by omega) (by omega) (by omega)
  -- the beginning
  have e139 : ∀ (o' : OS) (x : Int32) (T' : Nat → List Nat) (s' : SS), Off o' ks c T' s' tx (some (i, w, k, arR k R.length, job0 w k R, 0, 0, 0, n, 0, 0, 0)) → ((job0 w k R).length ≤ 1 → T' i = srt ks od (T j)) → wj_L_isJob_139 2 r (nI i) (nI od) Q n q12 (nI P) (nI (V + n)) (nI M) x o' := by
    intro o' x T' s' h' hT
    unfold wj_L_isJob_139
    refine nm_r (e' := nI (1 - od)) (pk_sub (a := 1) (by omega)) ?_
    refine draw_w (m := 3) (by decide) (by decide) (fun a1 r1 ha1 => ?_)
    refine draw_w (m := 50) (by decide) (by decide) (fun a2 r2 ha2 => ?_)
    refine nm_r (e' := nI (1 + a2)) (nI_add 1 a2) ?_
    refine setRuns_o h' (by omega) ha1 (by omega) (by omega) (fun o1 h1' => ?_)
    refine draw_w (m := 3) (by decide) (by decide) (fun a3 r3 ha3 => ?_)
    refine draw_w (m := 5) (by decide) (by decide) (fun a4 r4 ha4 => ?_)
    refine nm_r (e' := nI (2 + a4)) (nI_add 2 a4) ?_
    refine setMerge_o h1' ha3 (by omega) (by omega) (fun o2 h2' => ?_)
    refine ⟨350, by omega, ?_⟩
    refine loop 350 o2 r4 T' _ _ (job0 w k R) 0 0 0 n 0 0 0 0 0 h2' (by rw [job0_flat]; exact rp) (fun e => ?_) hT rfl (by omega) (by omega) (by rw [rst0]; exact Nat.zero_add _) (by rw [rst0]; show n + V = V + n + 0; omega) (by rw [rst0]; show M ≤ 0 + M; omega) (fun _ => by rw [rst0]; exact Nat.zero_add _) (by rw [rst0]; show 0 + M + 3 * 100 ≤ 349; omega) (by rw [rst0]; show 0 + M + 3 * 100 ≤ 349; omega) (by rw [rst0]; show M + 3 * 100 < 350; omega)
    rw [jl, show R.length = 0 by omega]
    unfold arN
    rw [if_neg (by simp)]
  have hT0 : ∀ X : List Nat, (job0 w k R).length ≤ 1 → overT T i (job0 w k R) i = srt ks od (T j) := fun X e => by
    unfold overT
    rw [if_pos e, va_up_self, fin_srt e (by rw [job0_flat]; exact rp) h5.2.2.2.2.2.1.2.2.2.2.2.2.2]
    rfl
  have e120 : ∀ b1 b2 : Bool, b1 = b2 → wj_L_isJob_120 2 r (nI j) (nI i) (nI od) Q n q12 (nI P) (nI (V + n)) (nI M) o5 b1 b2 := by
    intro b1 b2 hb
    subst hb
    unfold wj_L_isJob_120
    refine ⟨fun _ => ?_, fun q => absurd rfl q⟩
    refine pk_eq j i (fun _ => e139 o5 _ _ _ h5 (hT0 [])) (fun e => ?_)
    refine clear_o h5 hj (fun o6 h6 => ?_)
    exact e139 o6 _ _ _ h6 (fun e2 => by rw [va_up_ne _ _ (Ne.symm e)]; exact hT0 [] e2)
  have e109 : ∀ b : Bool, b = decide (R.length < 2) → wj_L_isJob_109 2 r (nI j) (nI i) (nI od) Q n q12 (nI R.length) (nI P) (nI (V + n)) (nI M) o5 b := by
    intro b hb
    unfold wj_L_isJob_109
    refine pk_le 2 R.length (fun e => e120 b false (by rw [hb]; exact decide_eq_false (by omega))) (fun e => e120 b true (by rw [hb]; exact decide_eq_true (by omega)))
  refine ⟨fun _ => ?_, fun q => absurd rfl q⟩
  refine job_o (i := 0) h5 (by decide) (by decide) ⟨fun _ => ?_, fun q => absurd rfl q⟩
  refine job_o (i := 5) h5 (by decide) (by decide) ⟨fun _ => ?_, fun q => absurd rfl q⟩
  refine job_o (i := 4) h5 (by decide) (by decide) ⟨fun _ => ?_, fun q => absurd rfl q⟩
  refine job_o (i := 3) h5 (by decide) (by decide) ⟨fun _ => ?_, fun q => absurd rfl q⟩
  refine job_o (i := 1) h5 (by decide) (by decide) ?_
  by_cases e : (job0 w k R).length ≤ 1
  · have e1 : jobA (i, w, k, arR k R.length, job0 w k R, 0, 0, 0, n, 0, 0, 0) 1 = 1 := by
      show (if (job0 w k R).length ≤ 1 then 1 else 0) = 1
      rw [if_pos e]
    rw [e1]
    refine ⟨fun _ => e109 true ?_, fun q => absurd rfl q⟩
    rw [jl] at e
    have := ar3.mp e
    exact (decide_eq_true (by omega)).symm
  · have e1 : jobA (i, w, k, arR k R.length, job0 w k R, 0, 0, 0, n, 0, 0, 0) 1 = 0 := by
      show (if (job0 w k R).length ≤ 1 then 1 else 0) = 0
      rw [if_neg e]
    rw [e1]
    refine ⟨fun q => absurd q (by decide), fun _ => e109 false ?_⟩
    rw [jl] at e
    have := fun z => e (ar3.mpr z)
    exact (decide_eq_false (by omega)).symm
