/-! strings as lists of bytes -/
theorem sl0 (x : Int32) : x <<< ((0 : Int32) &&& 31) = x := by
  rw [show ((0 : Int32) &&& 31) = 0 from by decide]; exact Int32.shiftLeft_zero
theorem sr0 (x : Int32) : x >>> ((0 : Int32) &&& 31) = x := by
  rw [show ((0 : Int32) &&& 31) = 0 from by decide]; exact Int32.shiftRight_zero
theorem fitsN {x : Nat} (h : x ≤ 127) : fits .byte (.int (nI x)) = true := by
  show (decide ((-128 : Int32) ≤ nI x) && decide (nI x ≤ 127)) = true
  have h1 : (-128 : Int32) ≤ nI x := by
    rw [Int32.le_iff_toInt_le, nI_toInt (by omega), show (-128 : Int32).toInt = -128 by decide]; omega
  have h2 : nI x ≤ 127 := by
    rw [Int32.le_iff_toInt_le, nI_toInt (by omega), show (127 : Int32).toInt = 127 by decide]; omega
  rw [decide_eq_true h1, decide_eq_true h2]; rfl
theorem nar_d : ∀ n, n < 128 → vp_nar .byte (nI n) = nI n := by decide +kernel
def Asc (s : List Nat) : Prop := ∀ x ∈ s, 1 ≤ x ∧ x ≤ 127
theorem Asc.app {s t : List Nat} (h1 : Asc s) (h2 : Asc t) : Asc (s ++ t) := fun x hx => (List.mem_append.mp hx).elim (h1 x) (h2 x)
theorem Asc.at {s : List Nat} (h : Asc s) (i : Nat) : s.getD i 0 ≤ 127 := by
  by_cases e : i < s.length
  · exact (h _ (getD_mem e)).2
  · rw [getD_ge (by omega)]; exact Nat.zero_le _
/-- a builder's array, its number, what it holds -/
def SbOk (c : Nat) (f : Nat → Int32) (k : Int32) (t : List Nat) : Prop := k = nI t.length ∧ t.length ≤ c ∧ c ≤ 17 + 2 * t.length ∧ (∀ i, i < t.length → f i = nI (t.getD i 0)) ∧ Asc t ∧ ∀ i, fits .byte (.int (f i)) = true
def StrOk (n : Nat) (f : Nat → Int32) (s : List Nat) : Prop := n = s.length ∧ (∀ i, i < s.length → f i = nI (s.getD i 0)) ∧ Asc s
theorem wd_asc : ∀ k, k < 61 → Asc (wd k) := by
  have h : ∀ k, k < 61 → ∀ x ∈ wd k, 1 ≤ x ∧ x ≤ 127 := by decide +kernel
  exact h
theorem str_wd {k : Nat} (hk : k < 61) : StrOk (tn k) (tb k) (wd k) := ⟨rfl, fun _ _ => rfl, wd_asc k hk⟩
theorem length_s {n : Nat} {Q : Int32 → Prop} (h : Q (nI n)) : wp_J0_length_8abf5 n Q :=
  ⟨rfl, nm_r (e' := nI n) (sr0 _) h⟩
theorem ensure_s {c m : Nat} {f : Nat → Int32} {k : Int32} {Q : Nat → (Nat → Int32) → Int32 → Prop} (hc : c ≤ 2000) (hm : 2 * m ≤ 2000) (hf : ∀ i, fits .byte (.int (f i)) = true) (h : ∀ c' f', m ≤ c' → c' ≤ max c (2 * m) → (∀ i, i < c → f' i = f i) → (∀ i, fits .byte (.int (f' i)) = true) → Q c' f' k) : wp_J5_ensureCapacityInternal_d00df c f k (nI m) Q := by
  unfold wp_J5_ensureCapacityInternal_d00df
  refine nm_r (e' := nI c) (sr0 _) ?_
  refine nm_r (e' := zI ((m : Int) - c)) (sub_lit m c) ?_
  refine zk_le ((m : Int) - c) 0 (fun e => h c f (by omega) (by omega) (fun _ _ => rfl) hf) (fun e => ?_) rfl rfl
  obtain ⟨N, hN⟩ : ∃ N, N = c + max (m - c) (c + 2) := ⟨_, rfl⟩
  unfold wp_J5_newCapacity_0f7a4
  refine nm_r (e' := nI m) (sl0 _) ?_
  refine nm_r (e' := nI (m - c)) (pk_sub (by omega)) ?_
  refine nm_r (e' := nI 2) (sl0 _) ?_
  refine nm_r (e' := nI (c + 2)) (nI_add _ _) ?_
  unfold wp_J8_newLength_cabcc
  refine nm_r (e' := nI (max (m - c) (c + 2))) (pk_mx (m - c) (c + 2) rfl rfl) ?_
  refine nm_r (e' := nI N) (by rw [nI_add, hN]) ?_
  refine pk_le N 0 (fun q => absurd q (by omega)) (fun _ => ?_)
  refine pk_lt 2147483639 N (fun q => absurd q (by omega)) (fun _ => ?_)
  refine pk_eq N 2147483647 (fun q => absurd q (by omega)) (fun _ => ?_)
  refine nm_r (e' := nI N) (sr0 _) ?_
  refine nm_r (e' := nI N) (sl0 _) ?_
  unfold wp_J7_copyOf_9075b
  refine pk_eq N c (fun q => absurd q (by omega)) (fun _ => ⟨N, rfl, by omega, ?_⟩)
  refine nm_r (e' := nI c) (by rw [pk_mn c N rfl rfl, Nat.min_eq_left (by omega)]) ?_
  have hcl : (nI c).toNatClampNeg = c := cl_n (by omega)
  have h00 : (0 : Int32).toNatClampNeg = 0 := rfl
  have hn0 : ¬ (nI c) < 0 := by
    intro q
    have := Int32.lt_iff_toInt_lt.mp q
    rw [nI_toInt (by omega), show (0 : Int32).toInt = 0 by decide] at this
    omega
  refine ⟨by decide, by decide, hn0, by rw [hcl, h00]; omega, by rw [hcl, h00]; omega, fun i _ => hf _, ?_⟩
  rw [hcl, h00]
  refine h N _ (by omega) (by omega) (fun i hi => ?_) (fun i => ?_)
  · unfold va_cpy
    rw [if_pos ⟨Nat.zero_le _, by omega⟩]
    congr 1; omega
  · unfold va_cpy
    split
    · exact hf _
    · exact fitsN (x := 0) (by omega)
theorem append_s {c sn : Nat} {f sf : Nat → Int32} {k : Int32} {t s : List Nat} {Q : Nat → (Nat → Int32) → Int32 → Prop} (hS : SbOk c f k t) (hs : StrOk sn sf s) (hl : t.length + s.length ≤ 900) (h : ∀ c' f', SbOk c' f' (nI (t ++ s).length) (t ++ s) → Q c' f' (nI (t ++ s).length)) : wp_J4_append_15ec4 c f k sn sf Q := by
  obtain ⟨rfl, h2, h3, h4, h5, h6⟩ := hS
  obtain ⟨rfl, s2, s3⟩ := hs
  have hal : (t ++ s).length = t.length + s.length := List.length_append
  unfold wp_J4_append_15ec4 wp_J5_append_cf1ce
  refine length_s ?_
  refine nm_r (e' := nI (t.length + s.length)) (nI_add _ _) ?_
  refine ensure_s (by omega) (by omega) h6 (fun c' f' e1 e2 e3 e4 => ?_)
  unfold wp_J5_putStringAt_47b60
  refine ⟨rfl, rfl, ⟨fun _ => ?_, fun q => absurd rfl q⟩⟩
  refine nm_r (e' := nI t.length) (sl0 _) ?_
  have hcs : (nI s.length).toNatClampNeg = s.length := cl_n (by omega)
  have hct : (nI t.length).toNatClampNeg = t.length := cl_n (by omega)
  have h00 : (0 : Int32).toNatClampNeg = 0 := rfl
  have hneg : ∀ z, z < 2 ^ 31 → ¬ (nI z) < 0 := fun z hz q => by
    have := Int32.lt_iff_toInt_lt.mp q
    rw [nI_toInt hz, show (0 : Int32).toInt = 0 by decide] at this
    omega
  refine ⟨by decide, hneg _ (by omega), hneg _ (by omega), by rw [hcs, h00]; omega, by rw [hcs, hct]; omega, fun i hi => ?_, ?_⟩
  · rw [hcs] at hi
    rw [h00, Nat.zero_add, s2 i hi]
    exact fitsN (s3.at i)
  rw [hcs, hct, h00]
  refine nm_r (e' := nI (t ++ s).length) (by rw [nI_add, hal]) ?_
  refine h c' _ ⟨rfl, by omega, by omega, fun i hi => ?_, h5.app s3, fun i => ?_⟩
  · unfold va_cpy
    by_cases e : i < t.length
    · rw [if_neg (by omega), getD_app_l e, e3 i (by omega)]; exact h4 i e
    · rw [if_pos (by omega), getD_app_r (by omega), Nat.zero_add]; exact s2 _ (by omega)
  · unfold va_cpy
    split
    · rename_i hc
      rw [Nat.zero_add, s2 _ (by omega)]
      exact fitsN (s3.at _)
    · exact e4 i
/-! numbers appended -/
def dgs (v : Nat) : List Nat := if v < 10 then [48 + v] else [48 + v / 10, 48 + v % 10]
theorem dgs_ok : ∀ v, v < 100 → (dgs v ≠ [] ∧ (∀ x ∈ dgs v, kd x = 2) ∧ numG (dgs v) = v) ∧ (∀ x ∈ dgs v, 1 ≤ x ∧ x ≤ 127) ∧ (dgs v).length ≤ 2 ∧ numG (48 :: dgs v) = v := by decide +kernel
theorem dg_v {v : Nat} (h : v < 100) : Dg (dgs v) v := (dgs_ok v h).1
theorem dgs_asc {v : Nat} (h : v < 100) : Asc (dgs v) := (dgs_ok v h).2.1
theorem neg_n (v : Nat) : - nI v = zI (-(v : Int)) := by rw [zI_n]; exact Int32.neg_ofInt
theorem neg_z (v : Nat) : - zI (-(v : Int)) = nI v := by
  rw [zI_n]
  show - Int32.ofInt _ = Int32.ofInt _
  rw [Int32.neg_ofInt, Int.neg_neg]
theorem stringSize_s {v : Nat} {Q : Int32 → Prop} (hv : v < 100) (h : Q (nI (dgs v).length)) : wp_J6_stringSize_0f7a4 (nI v) Q := by
  unfold wp_J6_stringSize_0f7a4
  refine pk_lt v 0 (fun q => absurd q (by omega)) (fun _ => ?_)
  refine nm_r (e' := zI (-(v : Int))) (neg_n v) ⟨2, ?_⟩
  rw [wl_J6_stringSize_0f7a4_16_s]
  refine pk_le 10 1 (fun q => absurd q (by omega)) (fun _ => ?_)
  refine zk_le (-(v : Int)) (-10) (fun e => ?_) (fun e => ?_) rfl rfl
  · intro x10 e10
    intro x11 e11
    rw [wl_J6_stringSize_0f7a4_16_s, e11]
    refine pk_le 10 2 (fun q => absurd q (by omega)) (fun _ => ?_)
    refine zk_le (-(v : Int)) (-100) (fun e => absurd e (by omega)) (fun _ => ?_) rfl (by rw [e10]; decide)
    unfold wx_J6_stringSize_0f7a4_16_27
    refine nm_r (e' := nI (dgs v).length) ?_ h
    unfold dgs
    rw [if_neg (by omega)]
    show (1 : Int32) + 1 + 0 = nI 2
    decide
  · unfold wx_J6_stringSize_0f7a4_16_27
    refine nm_r (e' := nI (dgs v).length) ?_ h
    unfold dgs
    rw [if_pos (by omega)]
    show (1 : Int32) + 0 = nI 1
    decide
theorem getChars_s {v N c : Nat} {f : Nat → Int32} {Q : Int32 → (Nat → Int32) → Prop} (hv : v < 100) (hN : (dgs v).length ≤ N) (hNc : N ≤ c) (hc : c < 2 ^ 20) (h : ∀ r f', (∀ i, i < N - (dgs v).length → f' i = f i) → (∀ i, i < (dgs v).length → f' (N - (dgs v).length + i) = nI ((dgs v).getD i 0)) → (∀ i, f' i = f i ∨ ∃ x, x ≤ 127 ∧ f' i = nI x) → Q r f') : wp_J6_getChars_ba4f3 (nI v) (nI N) c f Q := by
  unfold wp_J6_getChars_ba4f3
  refine pk_le 0 v (fun _ => ?_) (fun q => absurd q (by omega))
  unfold wj_J6_getChars_ba4f3_12
  refine ⟨fun _ => ?_, fun q => by cases q⟩
  refine nm_r (e' := zI (-(v : Int))) (neg_n v) ⟨1, ?_⟩
  rw [wl_J6_getChars_ba4f3_22_s]
  refine zk_lt (-100) (-(v : Int)) (fun _ => ?_) (fun e => absurd e (by omega)) rfl rfl
  unfold wx_J6_getChars_ba4f3_22_72
  have hl1 : 1 ≤ (dgs v).length := List.length_pos_iff.mpr (dg_v hv).1
  have hp : nI N + (-1) = nI (N - 1) := by
    have := ng_1 (N - 1)
    rw [Nat.sub_add_cancel (by omega)] at this
    exact this
  refine nm_r (e' := nI (N - 1)) hp ?_
  refine nm_r (e' := nI v) (neg_z v) ?_
  refine ⟨pk_in v 100 (by omega), ?_⟩
  refine nm_r (e' := nI (48 + v % 10)) (by rw [cl_n (by omega)]; rfl) ?_
  refine ⟨pk_in (N - 1) c (by omega), ?_⟩
  rw [nar_d _ (by omega), cl_n (show N - 1 < 2 ^ 31 by omega)]
  refine zk_le (-9) (-(v : Int)) (fun e => ?_) (fun e => ?_) rfl rfl
  · refine ⟨fun _ => ?_, fun q => by cases q⟩
    have hd : dgs v = [48 + v] := by unfold dgs; rw [if_pos (by omega)]
    rw [hd] at h hN
    refine h _ _ (fun i hi => ?_) (fun i hi => ?_) (fun i => ?_)
    · rw [up_n _ (by simp at hi; omega)]
    · have : i = 0 := by simp at hi; omega
      subst this
      show upd f (N - 1) _ (N - 1 + 0) = nI (48 + v)
      rw [Nat.add_zero, up_s, Nat.mod_eq_of_lt (by omega)]
    · by_cases e2 : i = N - 1
      · subst e2; rw [up_s]; exact Or.inr ⟨_, by omega, rfl⟩
      · rw [up_n _ e2]; exact Or.inl rfl
  · have hd : dgs v = [48 + v / 10, 48 + v % 10] := by unfold dgs; rw [if_neg (by omega)]
    rw [hd] at h hN
    have hN2 : 2 ≤ N := by simpa using hN
    refine nm_r (e' := nI (N - 2)) (by
      have := ng_1 (N - 2)
      rw [show N - 2 + 1 = N - 1 by omega] at this
      exact this) ?_
    refine nm_r (e' := nI v) (neg_z v) ?_
    refine ⟨pk_in v 100 (by omega), ?_⟩
    refine nm_r (e' := nI (48 + v / 10)) (by rw [cl_n (by omega)]; rfl) ?_
    refine ⟨pk_in (N - 2) c (by omega), ?_⟩
    rw [nar_d _ (by omega), cl_n (show N - 2 < 2 ^ 31 by omega)]
    refine ⟨fun _ => ?_, fun q => by cases q⟩
    refine h _ _ (fun i hi => ?_) (fun i hi => ?_) (fun i => ?_)
    · have hi2 : i < N - 2 := by simpa using hi
      rw [up_n _ (by omega), up_n _ (by omega)]
    · have hi2 : i < 2 := by simpa using hi
      rcases (show i = 0 ∨ i = 1 by omega) with rfl | rfl
      · show upd _ (N - 2) _ (N - 2 + 0) = nI (48 + v / 10)
        rw [Nat.add_zero, up_s]
      · show upd _ (N - 2) _ (N - 2 + 1) = nI (48 + v % 10)
        rw [show N - 2 + 1 = N - 1 by omega, up_n _ (by omega), up_s]
    · by_cases e2 : i = N - 2
      · subst e2; rw [up_s]; exact Or.inr ⟨_, by omega, rfl⟩
      · rw [up_n _ e2]
        by_cases e3 : i = N - 1
        · subst e3; rw [up_s]; exact Or.inr ⟨_, by omega, rfl⟩
        · rw [up_n _ e3]; exact Or.inl rfl
theorem appendN_s {c v : Nat} {f : Nat → Int32} {k : Int32} {t : List Nat} {Q : Nat → (Nat → Int32) → Int32 → Prop} (hS : SbOk c f k t) (hv : v < 100) (hl : t.length ≤ 800) (h : ∀ c' f', SbOk c' f' (nI (t ++ dgs v).length) (t ++ dgs v) → Q c' f' (nI (t ++ dgs v).length)) : wp_J4_append_bf812 c f k (nI v) Q := by
  obtain ⟨rfl, h2, h3, h4, h5, h6⟩ := hS
  have hal : (t ++ dgs v).length = t.length + (dgs v).length := List.length_append
  have hdl := (dgs_ok v hv).2.2.1
  unfold wp_J4_append_bf812 wp_J5_append_c97b9
  refine stringSize_s hv ?_
  refine nm_r (e' := nI (t.length + (dgs v).length)) (nI_add _ _) ?_
  refine ensure_s (by omega) (by omega) h6 (fun c' f' e1 e2 e3 e4 => ⟨rfl, ?_⟩)
  refine getChars_s hv (by omega) e1 (by omega) (fun r f'' g1 g2 g3 => ?_)
  rw [Nat.add_sub_cancel] at g1 g2
  unfold wj_J5_append_c97b9_48
  rw [← hal]
  refine h c' f'' ⟨rfl, by omega, by omega, fun i hi => ?_, h5.app (dgs_asc hv), fun i => ?_⟩
  · by_cases e : i < t.length
    · rw [getD_app_l e, g1 i e, e3 i (by omega)]; exact h4 i e
    · obtain ⟨z, rfl⟩ : ∃ z, i = t.length + z := ⟨i - t.length, by omega⟩
      rw [g2 z (by omega), getD_app_r (by omega), Nat.add_sub_cancel_left]
  · rcases g3 i with q | ⟨x, hx, q⟩
    · rw [q]; exact e4 i
    · rw [q]; exact fitsN hx
theorem sb_new {Q : Nat → (Nat → Int32) → Int32 → Prop} (h : ∀ c f, SbOk c f 0 [] → Q c f 0) : wp_J4_init_da8c8 Q :=
  ⟨16, rfl, by decide, h 16 _ ⟨rfl, Nat.zero_le _, by decide, fun i hi => absurd hi (Nat.not_lt_zero _), fun x hx => absurd hx List.not_mem_nil, fun _ => fitsN (x := 0) (by omega)⟩⟩
theorem toString_s {c : Nat} {f : Nat → Int32} {k : Int32} {t : List Nat} {Q : Nat → (Nat → Int32) → Prop} (hS : SbOk c f k t) (hl : t.length ≤ 900) (h : ∀ f', StrOk t.length f' t → Q t.length f') : wp_J4_toString_0e30d c f k Q := by
  obtain ⟨rfl, h2, h3, h4, h5, h6⟩ := hS
  unfold wp_J4_toString_0e30d wp_J0_init_81219 wp_J0_init_db425
  refine ⟨rfl, ?_⟩
  have hcl : (nI t.length).toNatClampNeg = t.length := cl_n (by omega)
  have h00 : (0 : Int32).toNatClampNeg = 0 := rfl
  have hneg : ∀ z, z < 2 ^ 31 → ¬ (nI z) < 0 := fun z hz q => by
    have := Int32.lt_iff_toInt_lt.mp q
    rw [nI_toInt hz, show (0 : Int32).toInt = 0 by decide] at this
    omega
  unfold wp_J7_copyOfRange_39247
  refine ⟨fun _ => ?_, fun q => absurd rfl q⟩
  refine pk_eq t.length c (fun e => ⟨by omega, fun i _ => h6 i, ?_⟩) (fun e => ?_)
  · rw [← e]; exact h f ⟨rfl, h4, h5⟩
  · unfold wj_J7_copyOfRange_39247_10 wp_J7_copyOfRangeByte_39247 wp_J7_checkLength_df160
    refine pk_le 0 t.length (fun _ => ?_) (fun q => absurd q (by omega))
    refine nm_r (e' := nI t.length) (pk_sub (b := 0) (by omega)) ⟨t.length, rfl, by omega, ?_⟩
    refine nm_r (e' := nI c) (pk_sub (b := 0) (by omega)) ?_
    refine nm_r (e' := nI t.length) (by rw [pk_mn c t.length rfl rfl, Nat.min_eq_right h2]) ?_
    refine ⟨by decide, by decide, hneg _ (by omega), by rw [hcl, h00]; omega, by rw [hcl, h00]; omega, fun i _ => h6 _, ?_⟩
    rw [hcl, h00]
    refine h _ ⟨rfl, fun i hi => ?_, h5⟩
    unfold va_cpy
    rw [if_pos ⟨Nat.zero_le _, by omega⟩, Nat.zero_add, Nat.sub_zero]
    exact h4 i hi
theorem length_b {k : Int32} {Q : Int32 → Prop} (h : Q k) : wp_J4_length_8abf5 k Q := h
/-! reading a character -/
theorem an255 (x : Int32) : ((x &&& 255).toUInt32 % 65536).toInt32 = x &&& 255 := by
  have h1 : (x &&& 255).toUInt32 = x.toUInt32 &&& 255 := rfl
  have h2 : (x.toUInt32 &&& 255).toNat < 65536 := by
    rw [UInt32.toNat_and]
    exact Nat.lt_of_le_of_lt Nat.and_le_right (by decide)
  have h3 : (x.toUInt32 &&& 255) % 65536 = x.toUInt32 &&& 255 := by
    apply UInt32.toNat_inj.mp
    rw [UInt32.toNat_mod]
    exact Nat.mod_eq_of_lt h2
  rw [h1, h3]
  rfl
theorem an_lo : ∀ x, x < 128 → nI x &&& 255 = nI x := by decide +kernel
theorem checkIndex_s {i n : Nat} {Q : Prop} (hi : i < n) (hn : n < 2 ^ 31) (h : Q) : wp_J0_checkIndex_df160 (nI i) (nI n) Q := by
  have hh : ((nI i < 0 → False) ∧ (¬ nI i < 0 → ((nI i < nI n → Q) ∧ (¬ nI i < nI n → False)))) := by
    refine pk_lt i 0 (fun q => absurd q (by omega)) (fun _ => ?_)
    exact pk_lt i n (fun _ => h) (fun q => absurd q (by omega))
  exact ⟨hh, hh⟩
theorem char_core {i n x : Nat} {f : Nat → Int32} {Q : Int32 → Prop} (hi : i < n) (hn : n < 2 ^ 31) (hf : f i = nI x) (hx : x < 128) (h : Q (nI x)) : vp_in (nI i) n ∧ ∀ x_4 : Int32, x_4 = f (nI i).toNatClampNeg → (∀ x_5 : Int32, x_5 = x_4 &&& 255 → (∀ x_6 : Int32, x_6 = (x_5.toUInt32 % 65536).toInt32 → Q x_6)) := by
  refine ⟨pk_in i n (by omega), ?_⟩
  refine nm_r (e' := nI x) (by rw [cl_n (by omega)]; exact hf) ?_
  intro x5 e5 x6 e6
  rw [e6, e5, an255, an_lo x hx]; exact h
theorem charAt_t {i n : Nat} {f : Nat → Int32} {s : List Nat} {Q : Int32 → Prop} (hs : StrOk n f s) (hn : n < 2 ^ 20) (hi : i < n) (h : Q (nI (s.getD i 0))) : wp_J0_charAt_5068e n f (nI i) Q := by
  obtain ⟨rfl, s2, s3⟩ := hs
  have := s3.at i
  exact ⟨rfl, checkIndex_s hi (by omega) (char_core hi (by omega) (s2 i hi) (by omega) h)⟩
theorem charAt_b {i c : Nat} {f : Nat → Int32} {k : Int32} {t : List Nat} {Q : Int32 → Prop} (hS : SbOk c f k t) (hl : t.length < 2 ^ 20) (hi : i < t.length) (h : Q (nI (t.getD i 0))) : wp_J4_charAt_5068e c f k (nI i) Q := by
  obtain ⟨rfl, h2, h3, h4, h5, h6⟩ := hS
  have := h5.at i
  unfold wp_J4_charAt_5068e wp_J5_charAt_5068e
  refine nm_r (e' := nI c) (sr0 _) ?_
  refine nm_r (e' := nI t.length) (by rw [pk_mn t.length c rfl rfl, Nat.min_eq_left h2]) ?_
  exact checkIndex_s hi (by omega) (char_core (by omega) (by omega) (h4 i hi) (by omega) h)
