/-! the office's small calls: what each demands -/
theorem tapeOf_s {j : Nat} {Q : Nat → Prop} {X : String → Prop} (hj : j < 8) (h : Q j) : wp_X11_tapeOf (nI j) Q X := by
  unfold wp_X11_tapeOf
  refine pk_lt j 0 (fun q => absurd q (by omega)) (fun _ => ?_)
  refine pk_lt j 8 (fun _ => ?_) (fun q => absurd q (by omega))
  refine ⟨pk_in j 8 (by omega), ?_⟩
  rw [cl_n (by omega)]
  exact h
theorem tapeOf_x {z : Int} {Q : Nat → Prop} {X : String → Prop} (h1 : -2147483648 ≤ z) (h2 : z < 2147483648) (hz : z < 0 ∨ 8 ≤ z) (h : X eIO) : wp_X11_tapeOf (zI z) Q X := by
  unfold wp_X11_tapeOf
  refine zk_lt z 0 (fun _ => h) (fun c => ?_) rfl rfl
  refine zk_lt z 8 (fun q => absurd q (by omega)) (fun _ => h) rfl rfl
theorem range_s {v lo hi : Int} {V L H : Int32} {Q : Prop} {X : String → Prop} (hV : V = zI v) (hL : L = zI lo) (hH : H = zI hi) (h1 : -2147483648 ≤ v) (h2 : v < 2147483648) (h3 : -2147483648 ≤ lo) (h4 : hi < 2147483648) (hlh : lo ≤ hi) (hv : lo ≤ v ∧ v ≤ hi) (h : Q) : wp_X11_demandRange V L H Q X := by
  unfold wp_X11_demandRange
  refine zk_lt v lo (fun q => absurd q (by omega)) (fun _ => ?_) hV hL
  refine zk_le v hi (fun _ => h) (fun q => absurd q (by omega)) hV hH
theorem range_x {v lo hi : Int} {V L H : Int32} {Q : Prop} {X : String → Prop} (hV : V = zI v) (hL : L = zI lo) (hH : H = zI hi) (h1 : -2147483648 ≤ v) (h2 : v < 2147483648) (h3 : -2147483648 ≤ lo) (h4 : hi < 2147483648) (hlh : lo ≤ hi) (hv : v < lo ∨ hi < v) (h : X eIA) : wp_X11_demandRange V L H Q X := by
  unfold wp_X11_demandRange
  refine zk_lt v lo (fun _ => h) (fun c => ?_) hV hL
  refine zk_le v hi (fun q => absurd q (by omega)) (fun _ => h) hV hH
theorem rangeN_s {v lo hi : Nat} {Q : Prop} {X : String → Prop} (hv : lo ≤ v ∧ v ≤ hi) (hh : hi < 2 ^ 31) (h : Q) : wp_X11_demandRange (nI v) (nI lo) (nI hi) Q X := by
  unfold wp_X11_demandRange
  refine pk_lt v lo (fun q => absurd q (by omega)) (fun _ => ?_)
  refine pk_le v hi (fun _ => ?_) (fun q => absurd q (by omega))
  exact h
theorem rangeN_x {v lo hi : Nat} {Q : Prop} {X : String → Prop} (hv : v < lo ∨ hi < v) (hvv : v < 2 ^ 31) (hl : lo < 2 ^ 31) (hh : hi < 2 ^ 31) (h : X eIA) : wp_X11_demandRange (nI v) (nI lo) (nI hi) Q X := by
  unfold wp_X11_demandRange
  refine pk_lt v lo (fun _ => h) (fun c => ?_)
  refine pk_le v hi (fun q => absurd q (by omega)) (fun _ => ?_)
  exact h
theorem room_s {F : Nat → Nat → Int32} {n : Nat → Int32} {T : Nat → List Nat} {c j m : Nat} {Q : Prop} {X : String → Prop} (hP : POk F n T) (hj : j < 18) (hc : c + m ≤ 200) (hl : (T j).length + m ≤ 100) (h : Q) : wp_X11_demandRoom (nI c) j (nI m) n Q X := by
  unfold wp_X11_demandRoom
  refine nm_r (nI_add _ _) ?_
  refine pk_lt 200 (c + m) (fun q => absurd q (by omega)) (fun _ => ?_)
  refine nm_r (e' := nI ((T j).length + m)) (by rw [(hP j hj).1]; exact nI_add _ _) ?_
  refine pk_le ((T j).length + m) 100 (fun _ => ?_) (fun q => absurd q (by omega))
  exact h
theorem room_x {F : Nat → Nat → Int32} {n : Nat → Int32} {T : Nat → List Nat} {c j m : Nat} {Q : Prop} {X : String → Prop} (hP : POk F n T) (hj : j < 18) (hc2 : c ≤ 200) (hm : m ≤ 200) (hc : 200 < c + m ∨ 100 < (T j).length + m) (h : X eIS) : wp_X11_demandRoom (nI c) j (nI m) n Q X := by
  have hl := (hP j hj).2.1
  unfold wp_X11_demandRoom
  refine nm_r (nI_add _ _) ?_
  refine pk_lt 200 (c + m) (fun _ => h) (fun q => ?_)
  refine nm_r (e' := nI ((T j).length + m)) (by rw [(hP j hj).1]; exact nI_add _ _) ?_
  refine pk_le ((T j).length + m) 100 (fun q => absurd q (by omega)) (fun _ => ?_)
  exact h
theorem sortedTapeOf_s {K : Nat → Int32} {ks : Nat → Int} {F : Nat → Nat → Int32} {n : Nat → Int32} {T : Nat → List Nat} {j : Nat} {Q : Nat → Prop} {X : String → Prop} (hK : KOk K ks) (hP : POk F n T) (hj : j < 8) (h1 : ordB ks 0 (T j) = true → Q j) (h2 : ordB ks 0 (T j) = false → X eIS) : wp_X11_sortedTapeOf K (nI j) F n Q X := by
  unfold wp_X11_sortedTapeOf
  refine tapeOf_s hj ?_
  refine isInOrder_s (o := 0) hK hP (by omega) (by omega) ?_
  cases e : ordB ks 0 (T j) with
  | true => exact ⟨fun q => (by cases q), fun _ => h1 e⟩
  | false => exact ⟨fun _ => h2 e, fun q => by cases q⟩
theorem bookAdd_s {K M : Nat → Int32} {ks : Nat → Int} {c : Nat} {key mark : Int32} {k : Int} {Q : Int32 → Int32 → (Nat → Int32) → (Nat → Int32) → Prop} (hK : KOk K ks) (hc : c < 200) (hk : key = zI k) (hk1 : -999 ≤ k) (hk2 : k ≤ 999) (h : ∀ K' M', KOk K' (va_up ks c k) → Q (nI c) (nI (c + 1)) K' M') : wp_X0_add (nI c) K M key mark Q := by
  unfold wp_X0_add
  refine pk_lt c 0 (fun q => absurd q (by omega)) (fun _ => ?_)
  refine pk_lt c 200 (fun _ => ?_) (fun q => absurd q (by omega))
  refine ⟨pk_in c 200 (by omega), ?_⟩
  refine ⟨pk_in c 200 (by omega), ?_⟩
  refine nm_r (e' := nI (c + 1)) (nI_1 _) ?_
  rw [cl_n (by omega)]
  refine h _ _ (fun i hi => ?_)
  by_cases e : i = c
  · subst e
    rw [up_s, va_up_self]
    exact ⟨hk, hk1, hk2⟩
  · rw [up_n _ e, va_up_ne _ _ e]
    exact hK i hi
/-! records made -/
/-- the records that a filling makes -/
def newR (c m : Nat) : List Nat := (List.range m).map (fun i => c + i)
def ksF (ks : Nat → Int) (c m : Nat) (f : Nat → Int) (r : Nat) : Int := if c ≤ r ∧ r < c + m then f (r - c) else ks r
theorem ksF_0 (ks : Nat → Int) (c : Nat) (f : Nat → Int) : ksF ks c 0 f = ks := by
  funext r
  unfold ksF
  rw [if_neg (by omega)]
theorem ksF_s (ks : Nat → Int) (c m : Nat) (f : Nat → Int) : va_up (ksF ks c m f) (c + m) (f m) = ksF ks c (m + 1) f := by
  funext r
  unfold ksF
  by_cases e : r = c + m
  · subst e
    rw [va_up_self, if_pos (by omega), Nat.add_sub_cancel_left]
  · rw [va_up_ne _ _ e]
    by_cases e2 : c ≤ r ∧ r < c + m
    · rw [if_pos e2, if_pos (by omega)]
    · rw [if_neg e2, if_neg (by omega)]
theorem newR_s (c m : Nat) : newR c (m + 1) = newR c m ++ [c + m] := by
  unfold newR
  rw [List.range_succ, List.map_append]; rfl
theorem newR_len (c m : Nat) : (newR c m).length = m := by unfold newR; rw [List.length_map, List.length_range]
theorem newR_lt {c m : Nat} : ∀ r ∈ newR c m, c ≤ r ∧ r < c + m := by
  intro r hr
  obtain ⟨i, hi, rfl⟩ := List.mem_map.mp hr
  have := List.mem_range.mp hi
  omega
theorem fill_w {K M : Nat → Int32} {ks : Nat → Int} {F : Nat → Nat → Int32} {n : Nat → Int32} {T : Nat → List Nat} {c j m : Nat} {f0 sp : Int} {Q : Int32 → Int32 → (Nat → Int32) → (Nat → Int32) → (Nat → Nat → Int32) → (Nat → Int32) → Prop} {X : String → Int32 → (Nat → Int32) → (Nat → Int32) → (Nat → Nat → Int32) → (Nat → Int32) → Prop} (hK : KOk K ks) (hP : POk F n T) (hj : j < 8) (hf1 : -999 ≤ f0) (hf2 : f0 ≤ 999) (hs1 : -50 ≤ sp) (hs2 : sp ≤ 50) (hm1 : m ≤ 50) (hl1 : ∀ i : Nat, i < m → -999 ≤ f0 + sp * i ∧ f0 + sp * i ≤ 999) (hc : c + m ≤ 200) (hl : (T j).length + m ≤ 100) (h : ∀ K' M' F' n', KOk K' (ksF ks c m (fun i => f0 + sp * i)) → POk F' n' (va_up T j (T j ++ newR c m)) → Q (nI ((T j).length + m)) (nI (c + m)) K' M' F' n') : wp_X11_fill (nI c) K M (nI j) (zI f0) (zI sp) (nI m) F n Q X := by
  have fin : wj_X11_fill_59 (nI c) K M (zI f0) (zI sp) (nI m) F n Q X j := by
    unfold wj_X11_fill_59
    refine room_s hP (by omega) hc hl ⟨m + 1, ?_⟩
    have key : ∀ (d i : Nat) (K' M' : Nat → Int32) (F' : Nat → Nat → Int32) (n' : Nat → Int32), i + d = m → KOk K' (ksF ks c i (fun i => f0 + sp * i)) → POk F' n' (va_up T j (T j ++ newR c i)) → wl_X11_fill_70 (zI f0) (zI sp) (nI m) j (wx_X11_fill_70_102 Q j) (d + 1) (nI i) (nI (c + i)) K' M' F' n' := by
      intro d
      induction d with
      | zero =>
        intro i K' M' F' n' hi hK' hP'
        rw [wl_X11_fill_70_s]
        refine pk_le m i (fun _ => ?_) (fun q => absurd q (by omega))
        unfold wx_X11_fill_70_102
        obtain rfl : i = m := by omega
        have e := (hP' j (by omega)).1
        rw [va_up_self, List.length_append, newR_len] at e
        rw [e]
        exact h _ _ _ _ hK' hP'
      | succ d ih =>
        intro i K' M' F' n' hi hK' hP'
        rw [wl_X11_fill_70_s]
        refine pk_le m i (fun q => absurd q (by omega)) (fun _ => ?_)
        refine nm_r (e' := zI (sp * i)) (by rw [zI_n, zI_m]) ?_
        refine nm_r (zI_a _ _) ?_
        obtain ⟨q1, q2⟩ := hl1 i (by omega)
        refine bookAdd_s hK' (by omega) rfl q1 q2 (fun K2 M2 hK2 => ?_)
        refine add_s hP' (by omega) (by rw [va_up_self, List.length_append, newR_len]; omega) (by omega) (fun F2 n2 hP2 => ?_)
        refine nm_r (e' := nI (i + 1)) (nI_1 _) ?_
        rw [va_up_self, va_up_up, List.append_assoc, ← newR_s] at hP2
        rw [ksF_s] at hK2
        exact ih (i + 1) K2 M2 F2 n2 (by omega) hK2 hP2
    refine key m 0 K M F n (by omega) (by rw [ksF_0]; exact hK) ?_
    have e : va_up T j (T j ++ newR c 0) = T := by
      show va_up T j (T j ++ []) = T
      rw [List.append_nil, va_up_same]
    rw [e]; exact hP
  unfold wp_X11_fill
  refine tapeOf_s hj ?_
  refine range_s (v := f0) (lo := -999) (hi := 999) rfl (by decide) (by decide) (by omega) (by omega) (by omega) (by omega) (by omega) ⟨hf1, hf2⟩ ?_
  refine range_s (v := sp) (lo := -50) (hi := 50) rfl (by decide) (by decide) (by omega) (by omega) (by omega) (by omega) (by omega) ⟨hs1, hs2⟩ ?_
  refine rangeN_s (lo := 0) (hi := 50) ⟨Nat.zero_le _, hm1⟩ (by omega) ?_
  refine pk_le m 0 (fun _ => fin) (fun c1 => ?_)
  refine nm_r (e' := nI (m - 1)) (pk_sub (b := 1) (by omega)) ?_
  refine nm_r (e' := zI (sp * (m - 1 : Nat))) (by rw [zI_n, zI_m]) ?_
  refine nm_r (zI_a _ _) ?_
  obtain ⟨q1, q2⟩ := hl1 (m - 1) (by omega)
  refine range_s (v := f0 + sp * (m - 1 : Nat)) (lo := -999) (hi := 999) rfl (by decide) (by decide) (by omega) (by omega) (by omega) (by omega) (by omega) ⟨q1, q2⟩ fin
theorem lnI64 (x : Int64) : x &&& 2147483647 = lN (x.toBitVec.toNat % 2 ^ 31) := by
  apply Int64.toBitVec_inj.mp
  apply BitVec.eq_of_toNat_eq
  have hm : (2147483647 : Int64).toBitVec.toNat = 2 ^ 31 - 1 := by decide
  rw [Int64.toBitVec_and, BitVec.toNat_and, hm, Nat.and_two_pow_sub_one_eq_mod]
  show _ = (BitVec.ofNat 64 _).toNat
  rw [BitVec.toNat_ofNat]
  exact (Nat.mod_eq_of_lt (Nat.lt_of_le_of_lt (Nat.mod_le _ _) x.toBitVec.isLt)).symm
theorem lshr64 {n : Nat} (h : n < 2 ^ 31) : lN n >>> ((16 : Int32).toInt64 &&& 63) = lN (n / 2 ^ 16) := by
  apply Int64.toInt_inj.mp
  have h2 : n / 2 ^ 16 ≤ n := Nat.div_le_self _ _
  have e : ((16 : Int32).toInt64 &&& 63) = 16 := by decide
  rw [e]
  have e2 : (lN n >>> (16 : Int64)).toInt = (lN n).toInt >>> 16 := by
    show ((lN n).toBitVec.sshiftRight ((16 : Int64).toBitVec.smod 64).toNat).toInt = _
    have e3 : ((16 : Int64).toBitVec.smod 64).toNat = 16 := by decide
    rw [e3, BitVec.toInt_sshiftRight]; rfl
  rw [e2, pk_lT (by omega), pk_lT (by omega), Int.shiftRight_eq_div_pow]; rfl
/-- the drawn number behind so many -/
def scX (seed : Int32) : Nat → Int64
  | 0 => seed.toInt64
  | i + 1 => (scX seed i * 1103515245 + 12345) &&& 2147483647
def scK (seed : Int32) (rg i : Nat) : Int := (((scX seed (i + 1)).toBitVec.toNat / 2 ^ 16 % rg : Nat) : Int)
theorem lN_nat {k : Nat} (h : k < 2 ^ 31) : (lN k).toBitVec.toNat = k := by
  show (BitVec.ofNat 64 k).toNat = k
  rw [BitVec.toNat_ofNat]
  exact Nat.mod_eq_of_lt (by omega)
theorem scX_nat (seed : Int32) (i : Nat) : ∃ m, m < 2 ^ 31 ∧ scX seed (i + 1) = lN m ∧ (scX seed (i + 1)).toBitVec.toNat = m := by
  have h := lnI64 (scX seed i * 1103515245 + 12345)
  refine ⟨_, Nat.mod_lt _ (Nat.two_pow_pos 31), h, ?_⟩
  show ((scX seed i * 1103515245 + 12345) &&& 2147483647).toBitVec.toNat = _
  rw [h]
  exact lN_nat (Nat.mod_lt _ (Nat.two_pow_pos 31))
theorem scatter_w {K M : Nat → Int32} {ks : Nat → Int} {F : Nat → Nat → Int32} {n : Nat → Int32} {T : Nat → List Nat} {c j m rg : Nat} {seed : Int32} {Q : Int32 → Int32 → (Nat → Int32) → (Nat → Int32) → (Nat → Nat → Int32) → (Nat → Int32) → Prop} {X : String → Int32 → (Nat → Int32) → (Nat → Int32) → (Nat → Nat → Int32) → (Nat → Int32) → Prop} (hK : KOk K ks) (hP : POk F n T) (hj : j < 8) (hm1 : m ≤ 50) (hr1 : 1 ≤ rg) (hr2 : rg ≤ 999) (hsd : 0 ≤ seed.toInt) (hc : c + m ≤ 200) (hl : (T j).length + m ≤ 100) (h : ∀ K' M' F' n', KOk K' (ksF ks c m (scK seed rg)) → POk F' n' (va_up T j (T j ++ newR c m)) → Q (nI ((T j).length + m)) (nI (c + m)) K' M' F' n') : wp_X11_scatter (nI c) K M (nI j) (nI m) (nI rg) seed F n Q X := by
  unfold wp_X11_scatter
  refine tapeOf_s hj ?_
  refine rangeN_s (lo := 0) (hi := 50) ⟨Nat.zero_le _, hm1⟩ (by omega) ?_
  refine pk_lt rg 1 (fun q => absurd q (by omega)) (fun _ => ?_)
  refine pk_le rg 999 (fun _ => ?_) (fun q => absurd q (by omega))
  have hs2 := Int32.toInt_lt seed
  refine range_s (v := seed.toInt) (lo := 0) (hi := 2147483647) (Int32.ofInt_toInt seed).symm (by decide) (by decide) (by omega) (by omega) (by omega) (by omega) (by omega) ⟨hsd, by omega⟩ ?_
  refine room_s hP (by omega) hc hl ⟨m + 1, ?_⟩
  have key : ∀ (d i : Nat) (K' M' : Nat → Int32) (F' : Nat → Nat → Int32) (n' : Nat → Int32), i + d = m → KOk K' (ksF ks c i (scK seed rg)) → POk F' n' (va_up T j (T j ++ newR c i)) → wl_X11_scatter_61 (nI m) (nI rg) j (wx_X11_scatter_61_111 Q j) (d + 1) (nI i) (scX seed i) (nI (c + i)) K' M' F' n' := by
    intro d
    induction d with
    | zero =>
      intro i K' M' F' n' hi hK' hP'
      rw [wl_X11_scatter_61_s]
      refine pk_le m i (fun _ => ?_) (fun q => absurd q (by omega))
      unfold wx_X11_scatter_61_111
      obtain rfl : i = m := by omega
      have e := (hP' j (by omega)).1
      rw [va_up_self, List.length_append, newR_len] at e
      rw [e]
      exact h _ _ _ _ hK' hP'
    | succ d ih =>
      intro i K' M' F' n' hi hK' hP'
      rw [wl_X11_scatter_61_s]
      refine pk_le m i (fun q => absurd q (by omega)) (fun _ => ?_)
      obtain ⟨z, hz, e1, e2⟩ := scX_nat seed i
      have hd2 : z / 2 ^ 16 ≤ z := Nat.div_le_self _ _
      refine nm_r rfl (nm_r rfl ?_)
      refine nm_r (e' := scX seed (i + 1)) rfl ?_
      refine nm_r (e' := lN (z / 2 ^ 16)) (by rw [e1]; exact lshr64 hz) ?_
      have hrl : (nI rg).toInt64 = lN rg := nI_l (by omega)
      rw [hrl]
      have h0 : ¬ lN rg = 0 := by
        intro q
        have := (pk_lEQ (a := rg) (b := 0) (by omega) (by omega)).mp q
        omega
      refine ⟨h0, ?_⟩
      refine nm_r (e' := lN (z / 2 ^ 16 % rg)) (pk_lRem (by omega) (by omega) (by omega)) ?_
      refine nm_r (e' := nI (z / 2 ^ 16 % rg)) (lN_i _) ?_
      have hmod : z / 2 ^ 16 % rg < rg := Nat.mod_lt _ (by omega)
      have hsk : scK seed rg i = ((z / 2 ^ 16 % rg : Nat) : Int) := by unfold scK; rw [e2]
      refine bookAdd_s (k := scK seed rg i) hK' (by omega) (by rw [hsk, zI_n]) (by rw [hsk]; omega) (by rw [hsk]; omega) (fun K2 M2 hK2 => ?_)
      refine add_s hP' (by omega) (by rw [va_up_self, List.length_append, newR_len]; omega) (by omega) (fun F2 n2 hP2 => ?_)
      refine nm_r (e' := nI (i + 1)) (nI_1 _) ?_
      rw [va_up_self, va_up_up, List.append_assoc, ← newR_s] at hP2
      rw [ksF_s] at hK2
      exact ih (i + 1) K2 M2 F2 n2 (by omega) hK2 hP2
  refine key m 0 K M F n (by omega) (by rw [ksF_0]; exact hK) ?_
  have e : va_up T j (T j ++ newR c 0) = T := by
    show va_up T j (T j ++ []) = T
    rw [List.append_nil, va_up_same]
  rw [e]; exact hP
def dgF (L : List Nat) : Int32 := L.foldl (fun d r => d * 31 + nI r) 7
theorem digest_w {F : Nat → Nat → Int32} {n : Nat → Int32} {T : Nat → List Nat} {j : Nat} {Q : Int32 → Prop} {X : String → Prop} (hP : POk F n T) (hj : j < 8) (h : Q (dgF (T j))) : wp_X11_digest (nI j) F n Q X := by
  obtain ⟨h1, h2, h3, h4⟩ := hP j (by omega)
  unfold wp_X11_digest
  refine tapeOf_s hj ⟨(T j).length + 1, ?_⟩
  have key : ∀ (d i : Nat), i + d = (T j).length → wl_X11_digest_12 F n j (wx_X11_digest_12_39 Q) (d + 1) (nI i) (dgF ((T j).take i)) := by
    intro d
    induction d with
    | zero =>
      intro i hi
      rw [wl_X11_digest_12_s]
      refine pk_le ((T j).length) i (fun _ => ?_) (fun q => absurd q (by omega)) h1
      unfold wx_X11_digest_12_39
      rwa [List.take_of_length_le (by omega)]
    | succ d ih =>
      intro i hi
      rw [wl_X11_digest_12_s]
      refine pk_le ((T j).length) i (fun q => absurd q (by omega)) (fun _ => ?_) h1
      refine nm_r rfl ?_
      refine recordAt_s hP (by omega) (by omega) ?_
      refine nm_r rfl ?_
      refine nm_r (e' := nI (i + 1)) (nI_1 _) ?_
      have it := ih (i + 1) (by omega)
      rw [take_snoc (by omega)] at it
      unfold dgF at it
      rw [List.foldl_append] at it
      exact it
  exact key (T j).length 0 (by omega)
/-- how many different keys a row in order has -/
def nKeys (ks : Nat → Int) (L : List Nat) : Nat := (List.range L.length).countP (fun i => i == 0 || !(ks (L.getD i 0) == ks (L.getD (i - 1) 0)))
theorem keys_w {K : Nat → Int32} {ks : Nat → Int} {F : Nat → Nat → Int32} {n : Nat → Int32} {T : Nat → List Nat} {j : Nat} {Q : Int32 → Prop} {X : String → Prop} (hK : KOk K ks) (hP : POk F n T) (hj : j < 8) (h1 : ordB ks 0 (T j) = true → Q (nI (nKeys ks (T j)))) (h2 : ordB ks 0 (T j) = false → X eIS) : wp_X11_keys K (nI j) F n Q X := by
  obtain ⟨t1, t2, t3, t4⟩ := hP j (by omega)
  unfold wp_X11_keys
  refine sortedTapeOf_s hK hP hj (fun ho => ⟨(T j).length + 1, ?_⟩) h2
  have key : ∀ (d i : Nat), i + d = (T j).length → wl_X11_keys_11 K F n j (wx_X11_keys_11_59 Q) (d + 1) (nI i) (nI ((List.range i).countP (fun i => i == 0 || !(ks ((T j).getD i 0) == ks ((T j).getD (i - 1) 0))))) := by
    intro d
    induction d with
    | zero =>
      intro i hi
      rw [wl_X11_keys_11_s]
      refine pk_le ((T j).length) i (fun _ => ?_) (fun q => absurd q (by omega)) t1
      unfold wx_X11_keys_11_59
      obtain rfl : i = (T j).length := by omega
      exact h1 ho
    | succ d ih =>
      intro i hi
      rw [wl_X11_keys_11_s]
      refine pk_le ((T j).length) i (fun q => absurd q (by omega)) (fun _ => ?_) t1
      have it := ih (i + 1) (by omega)
      rw [List.range_succ, List.countP_append, List.countP_cons, List.countP_nil, Nat.zero_add] at it
      refine pk_eq i 0 (fun c => ?_) (fun c => ?_)
      · subst c
        refine nm_r (e' := nI (0 + 1)) (nI_1 0) ?_
        refine nm_r (e' := nI (0 + 1)) (nI_1 _) ?_
        exact it
      · have hi2 : i < (T j).length := by omega
        obtain ⟨-, k1, k2⟩ := hK _ (t4 _ (getD_mem (L := T j) hi2))
        obtain ⟨-, k3, k4⟩ := hK _ (t4 _ (getD_mem (L := T j) (i := i - 1) (by omega)))
        refine keyAt_s hK hP (by omega) hi2 ?_
        refine nm_r (e' := nI (i - 1)) (pk_sub (b := 1) (by omega)) ?_
        refine keyAt_s hK hP (by omega) (by omega) ?_
        refine zk_eq (ks ((T j).getD i 0)) (ks ((T j).getD (i - 1) 0)) (fun c2 => ?_) (fun c2 => ?_) rfl rfl
        · refine nm_r (e' := nI (i + 1)) (nI_1 _) ?_
          have hb : (i == 0 || !(ks ((T j).getD i 0) == ks ((T j).getD (i - 1) 0))) = false := by simpa [c] using c2
          rw [hb] at it
          exact it
        · refine nm_r (nI_1 _) ?_
          refine nm_r (e' := nI (i + 1)) (nI_1 _) ?_
          have hb : (i == 0 || !(ks ((T j).getD i 0) == ks ((T j).getD (i - 1) 0))) = true := by rw [Bool.or_eq_true, Bool.not_eq_true', beq_eq_false_iff_ne]; exact Or.inr c2
          rw [hb] at it
          exact it
  exact key (T j).length 0 (by omega)
/-- joining two tapes: what the third one holds -/
def joinL (ks : Nat → Int) (A B : List Nat) (how : Nat) : List Nat := if how = 0 then srt ks 0 (A ++ B) else pickL ks A B (how == 1)
def joinB (ks : Nat → Int) (A B : List Nat) (how : Nat) : Bool := ordB ks 0 A && ordB ks 0 B && (!(how == 0) || decide (A.length + B.length ≤ 100))
theorem join_w {K : Nat → Int32} {ks : Nat → Int} {F : Nat → Nat → Int32} {n : Nat → Int32} {T : Nat → List Nat} {a b i how : Nat} {Q : Bool → (Nat → Nat → Int32) → (Nat → Int32) → Prop} (hK : KOk K ks) (hP : POk F n T) (ha : a < 16) (hb : b < 16) (hi : i < 16) (hh : how < 3) (h1 : joinB ks (T a) (T b) how = false → Q false F n) (h2 : joinB ks (T a) (T b) how = true → ∀ F' n', POk F' n' (va_up (va_up T 16 (joinL ks (T a) (T b) how)) i (joinL ks (T a) (T b) how)) → Q true F' n') : wp_X11_join 16 K a b i (nI how) F n Q := by
  have ta := hP a (by omega)
  have tb' := hP b (by omega)
  unfold wp_X11_join
  refine isInOrder_s (o := 0) hK hP (by omega) (by omega) ?_
  cases e1 : ordB ks 0 (T a) with
  | false =>
    refine ⟨fun _ => h1 ?_, fun q => by cases q⟩
    unfold joinB; rw [e1]; rfl
  | true =>
    refine ⟨fun q => (by cases q), fun _ => ?_⟩
    refine isInOrder_s (o := 0) hK hP (by omega) (by omega) ?_
    cases e2 : ordB ks 0 (T b) with
    | false =>
      refine ⟨fun _ => h1 ?_, fun q => by cases q⟩
      unfold joinB; rw [e1, e2]; rfl
    | true =>
      refine ⟨fun q => (by cases q), fun _ => ?_⟩
      have go : (how = 0 → (T a).length + (T b).length ≤ 100) → wj_X11_join_47 16 K a b i (nI how) F n Q := by
        intro hl
        have hjb : joinB ks (T a) (T b) how = true := by
          unfold joinB
          rw [e1, e2]
          by_cases c : how = 0
          · simp [c, hl c]
          · simp [c]
        have fin : ∀ (F1 : Nat → Nat → Int32) (n1 : Nat → Int32), POk F1 n1 (va_up (va_up T 16 []) 16 (joinL ks (T a) (T b) how)) → wj_X11_join_99 16 i Q F1 n1 := by
          intro F1 n1 hP1
          rw [va_up_up] at hP1
          unfold wj_X11_join_99
          refine takeOver_s hP1 (by omega) (by omega) (fun F2 n2 hP2 => ?_)
          rw [va_up_self] at hP2
          exact h2 hjb F2 n2 hP2
        unfold wj_X11_join_47
        refine empty_s hP (fun n1 hP1 => ?_)
        have fa : va_up T 16 [] a = T a := va_up_ne _ _ (by omega)
        have fb : va_up T 16 [] b = T b := va_up_ne _ _ (by omega)
        have pk : ∀ cc : Bool, how ≠ 0 → cc = (how == 1) → wj_X11_join_96 16 K a b i F Q n1 cc := by
          intro cc h0 hcc
          unfold wj_X11_join_96
          refine pickT_s hK hP1 (by omega) (by omega) (by omega) (by omega) (by omega) (va_up_self _ _ _) (fun F2 n2 hP2 => ?_)
          rw [fa, fb] at hP2
          refine fin F2 n2 ?_
          unfold joinL
          rw [if_neg h0, ← hcc]
          exact hP2
        refine pk_eq how 0 (fun c => ?_) (fun c => ?_)
        · refine unite_s hK hP1 (by omega) (by omega) (by omega) (by omega) (by omega) (va_up_self _ _ _) (by rw [fa]; exact ordB_pw.mp e1) (by rw [fb]; exact ordB_pw.mp e2) (by rw [fa, fb]; exact hl c) (fun F2 n2 hP2 => ?_)
          rw [fa, fb] at hP2
          refine fin F2 n2 ?_
          unfold joinL
          rw [if_pos c]
          exact hP2
        · refine pk_eq how 1 (fun c1 => pk true c (by simp [c1])) (fun c1 => pk false c (by simp [c1]))
      refine pk_eq how 0 (fun c => ?_) (fun c => ?_)
      · refine nm_r (e' := nI ((T a).length + (T b).length)) (by rw [ta.1, tb'.1]; exact nI_add _ _) ?_
        have la := ta.2.1
        have lb := tb'.2.1
        refine pk_le ((T a).length + (T b).length) 100 (fun c2 => go (fun _ => c2)) (fun c2 => h1 ?_)
        unfold joinB
        rw [e1, e2]
        simp [c]; omega
      · exact go (fun q => absurd q c)
/-! typing a byte -/
def byO (a : Nat) (s : Int32) : Int32 := (((lN a).toUInt64 >>> (s.toInt64.toUInt64 &&& Int64.toUInt64 63)).toInt64 &&& 255).toInt32
theorem byO_ok : ∀ a, a < 256 → byO a 56 = 0 ∧ byO a 48 = 0 ∧ byO a 40 = 0 ∧ byO a 32 = 0 ∧ byO a 24 = 0 ∧ byO a 16 = 0 ∧ byO a 8 = 0 ∧ byO a 0 = nI a := by decide +kernel
theorem byteOf_s {a : Nat} {s : Int32} {Q : Int32 → Prop} (h : Q (byO a s)) : wp_X11_byteOf (lN a) s Q := by
  unfold wp_X11_byteOf
  exact nm_r rfl (nm_r rfl (nm_r rfl h))
theorem type_w {sz : Int32} {by' : Nat → Int32} {t : List Nat} {a : Nat} {Q : Int32 → Int32 → (Nat → Int32) → Prop} {X : String → Int32 → (Nat → Int32) → Prop} (hT : TxOk sz by' t) (ha : 1 ≤ a) (ha2 : a ≤ 255) (h1 : t.length < 160 → ∀ s b, TxOk s b (t ++ [a]) → Q (nI (t.length + 1)) s b) (h2 : ¬ t.length < 160 → X eIS sz by') : wp_X11_type sz by' (lN a) Q X := by
  obtain ⟨b1, b2, b3, b4, b5, b6, b7, b8⟩ := byO_ok a (by omega)
  have hl := hT.2.1
  have ha0 : ¬ nI a = 0 := nI_ne0 (by omega) (by omega)
  unfold wp_X11_type
  refine ⟨9, ?_⟩
  have step : ∀ (E : Int32 → Prop) (k : Nat) (s s2 : Int32), byO a s = 0 → ¬ s < 0 → s + (-8) = s2 → wl_X11_type_6 (lN a) E k s2 0 → wl_X11_type_6 (lN a) E (k + 1) s 0 := by
    intro E k s s2 e1 e2 e3 h
    rw [wl_X11_type_6_s]
    refine ⟨fun q => absurd q e2, fun _ => ?_⟩
    refine byteOf_s ?_
    refine ⟨fun _ => ?_, fun q => absurd e1 q⟩
    exact nm_r (Int32.add_zero _) (nm_r e3 h)
  refine step _ 8 56 48 b1 (by decide) (by decide) (step _ 7 48 40 b2 (by decide) (by decide) (step _ 6 40 32 b3 (by decide) (by decide) (step _ 5 32 24 b4 (by decide) (by decide) (step _ 4 24 16 b5 (by decide) (by decide) (step _ 3 16 8 b6 (by decide) (by decide) (step _ 2 8 0 b7 (by decide) (by decide) ?_))))))
  show wl_X11_type_6 (lN a) _ (1 + 1) 0 0
  rw [wl_X11_type_6_s]
  refine ⟨fun q => absurd q (by decide), fun _ => ?_⟩
  refine byteOf_s ?_
  refine ⟨fun q => absurd (b8.symm.trans q) ha0, fun _ => ?_⟩
  refine nm_r (e' := 1) (by decide) (nm_r (e' := -8) (by decide) ?_)
  show wl_X11_type_6 (lN a) _ (0 + 1) (-8) 1
  rw [wl_X11_type_6_s]
  refine ⟨fun _ => ?_, fun q => absurd (by decide) q⟩
  unfold wx_X11_type_6_34
  refine nm_r (e' := nI (t.length + 1)) (by rw [hT.1]; exact nI_1 _) ?_
  refine pk_le (t.length + 1) 160 (fun c => ?_) (fun c => h2 (by omega))
  refine ⟨9, ?_⟩
  have step2 : ∀ (E : Int32 → (Nat → Int32) → Prop) (k : Nat) (s s2 : Int32), byO a s = 0 → ¬ s < 0 → s + (-8) = s2 → wl_X11_type_67 (lN a) E k s2 sz by' → wl_X11_type_67 (lN a) E (k + 1) s sz by' := by
    intro E k s s2 e1 e2 e3 h
    rw [wl_X11_type_67_s]
    refine ⟨fun q => absurd q e2, fun _ => ?_⟩
    refine byteOf_s ?_
    refine ⟨fun _ => ?_, fun q => absurd e1 q⟩
    exact nm_r e3 h
  refine step2 _ 8 56 48 b1 (by decide) (by decide) (step2 _ 7 48 40 b2 (by decide) (by decide) (step2 _ 6 40 32 b3 (by decide) (by decide) (step2 _ 5 32 24 b4 (by decide) (by decide) (step2 _ 4 24 16 b5 (by decide) (by decide) (step2 _ 3 16 8 b6 (by decide) (by decide) (step2 _ 2 8 0 b7 (by decide) (by decide) ?_))))))
  show wl_X11_type_67 (lN a) _ (1 + 1) 0 sz by'
  rw [wl_X11_type_67_s]
  refine ⟨fun q => absurd q (by decide), fun _ => ?_⟩
  refine byteOf_s ?_
  refine ⟨fun q => absurd (b8.symm.trans q) ha0, fun _ => ?_⟩
  rw [b8]
  refine txAdd_s hT (by omega) ha ha2 (fun s b hT2 => ?_)
  refine nm_r (e' := -8) (by decide) ?_
  show wl_X11_type_67 (lN a) _ (0 + 1) (-8) s b
  rw [wl_X11_type_67_s]
  refine ⟨fun _ => ?_, fun q => absurd (by decide) q⟩
  unfold wx_X11_type_67_103
  have e := hT2.1
  rw [List.length_append] at e
  have := h1 (by omega) s b hT2
  rw [e] at this ⊢
  exact this
