/-! the checker's methods -/
theorem demand_s {f : Int32} {Q : Int32 → Prop} (h : Q f) : wp_X1_demand f true Q := by
  unfold wp_X1_demand
  refine ⟨fun q => (by cases q), fun _ => ?_⟩
  refine nm_r (e' := f) (Int32.add_zero _) ?_
  exact h
theorem adj_pw : ∀ (l : List Nat), (∀ i, i + 1 < l.length → l.getD i 0 ≤ l.getD (i + 1) 0) → l.Pairwise (· ≤ ·)
  | [], _ => List.Pairwise.nil
  | [a], _ => by simp
  | a :: b :: l, h => by
    have ih := adj_pw (b :: l) (fun i hi => h (i + 1) (by simp at hi ⊢; omega))
    have h0 : a ≤ b := h 0 (by simp)
    refine List.pairwise_cons.mpr ⟨fun x hx => ?_, ih⟩
    rcases List.mem_cons.mp hx with q | q
    · rw [q]; exact h0
    · exact Nat.le_trans h0 ((List.pairwise_cons.mp ih).1 x q)
theorem pw_adj {l : List Nat} (h : l.Pairwise (· ≤ ·)) {i : Nat} (hi : i + 1 < l.length) : l.getD i 0 ≤ l.getD (i + 1) 0 := by
  have := List.pairwise_iff_getElem.mp h i (i + 1) (by omega) hi (by omega)
  rw [List.getD_eq_getElem?_getD, List.getD_eq_getElem?_getD, List.getElem?_eq_getElem (by omega), List.getElem?_eq_getElem hi]
  exact this
theorem ordB_pw {ks : Nat → Int} {o : Nat} {L : List Nat} : ordB ks o L = true ↔ (rks ks o L).Pairwise (· ≤ ·) := by
  rw [ordB_iff]
  constructor
  · intro h
    refine adj_pw _ (fun i hi => ?_)
    rw [rks_len] at hi
    rw [rks_getD (by omega), rks_getD hi]
    exact h i hi
  · intro h i hi
    have := pw_adj h (i := i) (by rw [rks_len]; exact hi)
    rwa [rks_getD (by omega), rks_getD hi] at this
theorem headD_mem {l : List Nat} (h : l ≠ []) : l.headD 0 ∈ l := by
  cases l with
  | nil => exact absurd rfl h
  | cons a t => exact List.mem_cons_self
theorem lastD_mem {l : List Nat} (h : l ≠ []) : l.getLastD 0 ∈ l := by
  obtain ⟨l0, x, rfl⟩ := split_last h
  rw [List.getLastD_concat]; simp
/-- a row is in order just if it is one natural run, or none -/
theorem cN_1 {l : List Nat} : cN l ≤ 1 ↔ l.Pairwise (· ≤ ·) := by
  obtain ⟨h1, h2, -, h4⟩ := natR_ok l
  unfold cN
  generalize natR l = R at *
  constructor
  · intro h
    cases R with
    | nil => rw [← h1]; exact List.Pairwise.nil
    | cons r t =>
      have e : t = [] := by simpa using h
      subst e
      rw [← h1]
      simp only [List.flatten_cons, List.flatten_nil, List.append_nil]
      exact (h2 r List.mem_cons_self).2
  · intro hs
    cases R with
    | nil => simp
    | cons r t =>
      cases t with
      | nil => simp
      | cons r2 t =>
        exfalso
        have h5 := h4 0 (by simp)
        have h5 : r2.headD 0 < r.getLastD 0 := h5
        rw [← h1, List.flatten_cons, List.flatten_cons] at hs
        have h6 := (List.pairwise_append.mp hs).2.2 _ (lastD_mem (h2 r List.mem_cons_self).1) (r2.headD 0) (List.mem_append_left _ (headD_mem (h2 r2 (by simp)).1))
        omega
theorem checkReplacement_s {f : Int32} {K : Nat → Int32} {ks : Nat → Int} {F : Nat → Nat → Int32} {n : Nat → Int32} {T : Nat → List Nat} {j o m : Nat} {rks' st ln : Nat → Int32} {cnt fl : Int32} {Q : Int32 → Prop} (hK : KOk K ks) (hP : POk F n T) (hj : j < 18) (ho : o < 2) (hm : 1 ≤ m) (hm2 : m ≤ 50) (hR : ROk rks' st ln cnt fl (runsOf ks o 1 m (T j))) (h : Q f) : wp_X1_checkReplacement f cnt (nI o) (nI m) ln K j F n Q := by
  obtain ⟨u1, u2⟩ := runs_len (ks := ks) (o := o) (w := 1) (m := m) (L := T j) (by omega) hm
  have hg := replR_good (rks ks o (T j)) hm
  have hTl := (hP j hj).2.1
  have hg : RGood m (rks ks o (T j)) (runsOf ks o 1 m (T j)) := hg
  generalize runsOf ks o 1 m (T j) = R at *
  obtain ⟨g1, g2, g3, g4⟩ := hg
  have hc := hR.1
  subst hc
  have hend : wx_X1_checkReplacement_2_48 (nI R.length) (nI o) K j F n Q f := by
    unfold wx_X1_checkReplacement_2_48
    have ok : wj_X1_checkReplacement_75 Q f := by
      unfold wj_X1_checkReplacement_75 wj_X1_checkReplacement_80
      exact demand_s h
    refine pk_le R.length 1 (fun _ => ok) (fun c => ?_)
    refine isInOrder_s hK hP hj ho ?_
    have hb : ordB ks o (T j) = false := by
      cases e : ordB ks o (T j) with
      | false => rfl
      | true =>
        have := cN_1.mpr (ordB_pw.mp e)
        omega
    rw [hb]
    exact ⟨fun _ => ok, fun q => by cases q⟩
  unfold wp_X1_checkReplacement
  refine ⟨R.length + 1, ?_⟩
  have key : ∀ (d i : Nat), i + d = R.length → wl_X1_checkReplacement_2 (nI R.length) (nI m) ln (wx_X1_checkReplacement_2_48 (nI R.length) (nI o) K j F n Q) (d + 1) (nI i) f := by
    intro d
    induction d with
    | zero =>
      intro i hi
      rw [wl_X1_checkReplacement_2_s]
      refine nm_r (e' := nI (i + 1)) (nI_1 _) ?_
      refine pk_le R.length (i + 1) (fun _ => ?_) (fun q => absurd q (by omega))
      exact hend
    | succ d ih =>
      intro i hi
      rw [wl_X1_checkReplacement_2_s]
      refine nm_r (e' := nI (i + 1)) (nI_1 _) ?_
      refine pk_le R.length (i + 1) (fun _ => hend) (fun c => ?_)
      refine lengthOf_s hR (by omega) ?_
      have hrl := hR.runlen i
      have hge := g3 i c
      refine pk_lt (R.getD i []).length m (fun q => absurd q (by omega)) (fun _ => ?_)
      unfold wj_X1_checkReplacement_39
      refine demand_s ?_
      refine nm_r (e' := nI (i + 1)) (nI_1 _) ?_
      exact ih (i + 1) (by omega)
  exact key R.length 0 (by omega)
theorem passesNeeded_s {c k : Nat} {Q : Int32 → Prop} (hk : 2 ≤ k) (hk6 : k ≤ 6) (hc : c ≤ 100) (h : Q (nI (pnG k c 20 1 0))) : wp_X1_passesNeeded (nI c) (nI k) Q := by
  unfold wp_X1_passesNeeded
  refine ⟨21, ?_⟩
  have h2 : ∀ (f r p : Nat), 1 ≤ r → r ≤ 2 ^ 20 → p + f = 20 → 2 ^ p ≤ r → r ≤ 600 → pnG k c f r p = pnG k c 20 1 0 → wl_X1_passesNeeded_4 (nI c) (nI k) (wx_X1_passesNeeded_4_38 Q) (f + 1) (nI r) (nI p) := by
    intro f
    induction f with
    | zero =>
      intro r p h1 h2 h3 h4 h5 h6
      have : 2 ^ p = 2 ^ 20 := by rw [show p = 20 by omega]
      omega
    | succ f ih =>
      intro r p h1 h2 h3 h4 h5 h6
      rw [wl_X1_passesNeeded_4_s]
      have h7 : (if c ≤ r then p else pnG k c f (r * k) (p + 1)) = pnG k c 20 1 0 := h6
      refine pk_le c r (fun q => ?_) (fun q => ?_)
      · unfold wx_X1_passesNeeded_4_38
        rw [if_pos q] at h7
        rw [h7]; exact h
      · rw [if_neg (by omega)] at h7
        refine pk_le 200 p (fun q => absurd q (by omega)) (fun _ => ?_)
        refine nm_r (e' := nI (p + 1)) (nI_1 _) ?_
        have hm1 : r * 2 ≤ r * k := Nat.mul_le_mul_left _ hk
        have hm2 : r * k ≤ r * 6 := Nat.mul_le_mul_left _ hk6
        refine nm_r (e' := nI (r * k)) (pk_mul _ _) ?_
        refine ih (r * k) (p + 1) (by omega) (by omega) (by omega) ?_ (by omega) h7
        rw [Nat.pow_succ]
        exact Nat.le_trans (Nat.mul_le_mul_right 2 h4) hm1
  exact h2 20 1 0 (by omega) (by omega) rfl (by omega) (by omega) rfl
/-! the same records: counted -/
def TmOk (tm : Nat → Int32) (t : Nat → Int) : Prop := ∀ r, r < 200 → tm r = zI (t r)
theorem cnt_snoc {L : List Nat} {i : Nat} (h : i < L.length) (r : Nat) : (L.take (i + 1)).count r = (L.take i).count r + (if L.getD i 0 = r then 1 else 0) := by
  rw [take_snoc h, List.count_append, List.count_cons, List.count_nil]
  by_cases c : L.getD i 0 = r
  · rw [if_pos c, c]; simp
  · rw [if_neg c]
    have : (L.getD i 0 == r) = false := by simpa using c
    rw [this]; simp
theorem countRecords_s {tm : Nat → Int32} {t : Nat → Int} {w : Int} {F : Nat → Nat → Int32} {n : Nat → Int32} {T : Nat → List Nat} {j : Nat} {Q : (Nat → Int32) → Prop} (hP : POk F n T) (hj : j < 18) (hT : TmOk tm t) (h : ∀ tm', TmOk tm' (fun r => t r + w * ((T j).count r : Nat)) → Q tm') : wp_X1_countRecords tm j (zI w) F n Q := by
  obtain ⟨h1, h2, h3, h4⟩ := hP j hj
  unfold wp_X1_countRecords
  refine ⟨(T j).length + 1, ?_⟩
  have key : ∀ (d i : Nat) (tm : Nat → Int32), i + d = (T j).length → TmOk tm (fun r => t r + w * (((T j).take i).count r : Nat)) → wl_X1_countRecords_2 j (zI w) F n (wx_X1_countRecords_2_47 Q) (d + 1) (nI i) tm := by
    intro d
    induction d with
    | zero =>
      intro i tm hi hT
      rw [wl_X1_countRecords_2_s]
      refine pk_le ((T j).length) i (fun _ => ?_) (fun q => absurd q (by omega)) h1
      unfold wx_X1_countRecords_2_47
      rw [List.take_of_length_le (by omega)] at hT
      exact h tm hT
    | succ d ih =>
      intro i tm hi hT
      rw [wl_X1_countRecords_2_s]
      refine pk_le ((T j).length) i (fun q => absurd q (by omega)) (fun _ => ?_) h1
      have hi2 : i < (T j).length := by omega
      have hr := h4 _ (getD_mem (L := T j) hi2)
      refine recordAt_s hP hj hi2 ?_
      refine pk_lt ((T j).getD i 0) 0 (fun q => absurd q (by omega)) (fun _ => ?_)
      refine pk_le 200 ((T j).getD i 0) (fun q => absurd q (by omega)) (fun _ => ?_)
      refine ⟨pk_in ((T j).getD i 0) 200 (by omega), nm_r (e' := zI (t ((T j).getD i 0) + w * (((T j).take i).count ((T j).getD i 0) : Nat))) (by rw [cl_n (by omega)]; exact hT _ hr) ?_⟩
      refine nm_r (zI_a _ _) ?_
      refine ⟨pk_in ((T j).getD i 0) 200 (by omega), ?_⟩
      refine nm_r (e' := nI (i + 1)) (nI_1 _) ?_
      rw [cl_n (by omega)]
      refine ih (i + 1) _ (by omega) (fun r hr2 => ?_)
      show _ = zI (t r + w * (((T j).take (i + 1)).count r : Nat))
      rw [cnt_snoc hi2]
      by_cases c : (T j).getD i 0 = r
      · rw [if_pos c, ← c, up_s]
        congr 1
        rw [Int.natCast_add, Int.mul_add]
        omega
      · rw [if_neg c, up_n _ (fun e => c e.symm), Nat.add_zero]
        exact hT r hr2
  refine key (T j).length 0 tm (by omega) (fun r hr => ?_)
  show tm r = zI (t r + w * ((([] : List Nat).count r : Nat) : Int))
  rw [hT r hr]
  simp
theorem hasSameRecords_s {j out : Nat} {tm : Nat → Int32} {F : Nat → Nat → Int32} {n : Nat → Int32} {T : Nat → List Nat} {Q : Bool → (Nat → Int32) → Prop} (hP : POk F n T) (hj : j < 18) (hout : out < 18) (hp : (T j).Perm (T out)) (h : ∀ tm', Q true tm') : wp_X1_hasSameRecords out tm j F n Q := by
  unfold wp_X1_hasSameRecords
  refine ⟨201, ?_⟩
  have fin : ∀ tm, TmOk tm (fun _ => 0) → wx_X1_hasSameRecords_2_22 out j F n Q tm := by
    intro tm hT
    unfold wx_X1_hasSameRecords_2_22
    have c1 : ∀ Q' : (Nat → Int32) → Prop, (∀ tm', TmOk tm' (fun r => 0 + 1 * ((T j).count r : Nat)) → Q' tm') → wp_X1_countRecords tm j 1 F n Q' := by
      intro Q' hq
      have := countRecords_s (w := 1) hP hj hT hq
      rwa [show zI 1 = 1 from by decide] at this
    refine c1 _ (fun tm1 hT1 => ?_)
    have c2 : ∀ Q' : (Nat → Int32) → Prop, (∀ tm', TmOk tm' (fun r => 0 + 1 * ((T j).count r : Nat) + -1 * ((T out).count r : Nat)) → Q' tm') → wp_X1_countRecords tm1 out (-1) F n Q' := by
      intro Q' hq
      have := countRecords_s (w := -1) hP hout hT1 hq
      rwa [show zI (-1) = -1 from by decide] at this
    refine c2 _ (fun tm2 hT2 => ?_)
    refine ⟨201, ?_⟩
    have z : ∀ r, r < 200 → tm2 r = 0 := by
      intro r hr
      have := hT2 r hr
      have e := hp.count_eq r
      have this : tm2 r = zI (0 + 1 * ((T j).count r : Nat) + -1 * ((T out).count r : Nat)) := this
      rw [this, e]
      have : (0 + 1 * (((T out).count r : Nat) : Int) + -1 * (((T out).count r : Nat) : Int)) = 0 := by omega
      rw [this]; rfl
    have key : ∀ (d i : Nat), i + d = 200 → wl_X1_hasSameRecords_39 tm2 (wx_X1_hasSameRecords_39_55 Q tm2) (wx_X1_hasSameRecords_39_63 Q tm2) (d + 1) (nI i) := by
      intro d
      induction d with
      | zero =>
        intro i hi
        rw [wl_X1_hasSameRecords_39_s]
        refine pk_le 200 i (fun _ => ?_) (fun q => absurd q (by omega))
        unfold wx_X1_hasSameRecords_39_63
        exact h tm2
      | succ d ih =>
        intro i hi
        rw [wl_X1_hasSameRecords_39_s]
        refine pk_le 200 i (fun q => absurd q (by omega)) (fun _ => ?_)
        refine ⟨pk_in i 200 (by omega), nm_r (e' := 0) (by rw [cl_n (by omega)]; exact z i (by omega)) ?_⟩
        refine ⟨fun _ => ?_, fun q => absurd rfl q⟩
        refine nm_r (e' := nI (i + 1)) (nI_1 _) ?_
        exact ih (i + 1) (by omega)
    exact key 200 0 (by omega)
  have key : ∀ (d i : Nat) (tm : Nat → Int32), i + d = 200 → (∀ r, r < i → tm r = 0) → wl_X1_hasSameRecords_2 (wx_X1_hasSameRecords_2_22 out j F n Q) (d + 1) (nI i) tm := by
    intro d
    induction d with
    | zero =>
      intro i tm hi hz
      rw [wl_X1_hasSameRecords_2_s]
      refine pk_le 200 i (fun _ => ?_) (fun q => absurd q (by omega))
      exact fin tm (fun r hr => hz r (by omega))
    | succ d ih =>
      intro i tm hi hz
      rw [wl_X1_hasSameRecords_2_s]
      refine pk_le 200 i (fun q => absurd q (by omega)) (fun _ => ?_)
      refine ⟨pk_in i 200 (by omega), ?_⟩
      refine nm_r (e' := nI (i + 1)) (nI_1 _) ?_
      rw [cl_n (by omega)]
      refine ih (i + 1) _ (by omega) (fun r hr => ?_)
      by_cases c : r = i
      · rw [c, up_s]
      · rw [up_n _ c]; exact hz r (by omega)
  exact key 200 0 tm (by omega) (fun r hr => absurd hr (by omega))
theorem srt_perm {ks : Nat → Int} {o : Nat} {L : List Nat} (hL : ∀ r ∈ L, r < 200) : (srt ks o L).Perm L := by
  unfold srt
  have h := (msort_perm (rks ks o L)).map (fun x => x % 256)
  refine h.trans (List.Perm.of_eq ?_)
  unfold rks
  rw [List.map_map]
  conv => rhs; rw [← List.map_id L]
  exact List.map_congr_left (fun r hr => rk_mod (hL r hr))
theorem rk_inj {K : Nat → Int32} {ks : Nat → Int} (hK : KOk K ks) {o x : Nat} {L : List Nat} (hL : ∀ r ∈ L, r < 200) (hx : x ∈ rks ks o L) : rk ks o (x % 256) = x := by
  obtain ⟨r, hr, rfl⟩ := List.mem_map.mp hx
  rw [rk_mod (hL r hr)]
theorem srt_rks {K : Nat → Int32} {ks : Nat → Int} (hK : KOk K ks) {o : Nat} {L : List Nat} (hL : ∀ r ∈ L, r < 200) : rks ks o (srt ks o L) = (rks ks o L).mergeSort := by
  unfold srt
  show ((rks ks o L).mergeSort.map (fun x => x % 256)).map (rk ks o) = _
  rw [List.map_map]
  refine (List.map_congr_left (g := id) (fun x hx => ?_)).trans (List.map_id _)
  exact rk_inj hK hL ((msort_perm _).mem_iff.mp hx)
theorem srt_ord {K : Nat → Int32} {ks : Nat → Int} (hK : KOk K ks) {o : Nat} {L : List Nat} (hL : ∀ r ∈ L, r < 200) : ordB ks o (srt ks o L) = true := by
  rw [ordB_pw, srt_rks hK hL]
  exact msort_sorted _
theorem srt_len {ks : Nat → Int} {o : Nat} {L : List Nat} : (srt ks o L).length = L.length := by
  unfold srt
  rw [List.length_map, (msort_perm _).length_eq, rks_len]
