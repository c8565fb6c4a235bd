/-! the office as a whole: an abstract state -/
/-- a job: to, way, ways, the rows' numbers, runs, merges done of the pass, passes, merges, moves, moves of the pass, lost ones, tears -/
abbrev JS : Type := Nat × Nat × Nat × List Nat × List (List Nat) × Nat × Nat × Nat × Nat × Nat × Nat × Nat
def JobOk (o : OS) : JS → Prop := fun ⟨to, w, k, rw', now, dn, p, m, v, mop, lost, torn⟩ =>
  JInv w k rw' now dn (o.1 47) (o.1 49) (o.1 50) (o.1 51) (o.1 52) (o.2.2.1 19) (o.2.2.1 20) (o.2.2.1 21) (o.2.2.1 22) (o.2.2.1 23) (o.2.2.1 24) (o.2.2.1 25) (o.2.2.1 26) ∧
  ((o.1 15) = nI to ∧ to < 8) ∧ ((o.1 45) = nI w ∧ w < 3) ∧ ((o.1 46) = nI k ∧ 2 ≤ k ∧ k ≤ 6) ∧ ((o.1 16) = nI p ∧ p < 2 ^ 20) ∧ ((o.1 17) = nI m ∧ m < 2 ^ 20) ∧ ((o.1 18) = nI v ∧ v < 2 ^ 20) ∧ ((o.1 19) = nI mop ∧ mop < 2 ^ 20) ∧ ((o.1 20) = nI lost ∧ lost < 2 ^ 20) ∧ ((o.1 21) = nI torn ∧ torn < 2 ^ 20) ∧ mop = ((grS (chM w k rw' (lens now)) (chA w k rw' (lens now)) (lens now)).take dn).sum ∧ ∀ r ∈ now, ∀ x ∈ r, x % 256 < 200
def JobO (o : OS) : Option JS → Prop
  | none => (o.2.1 0) = false
  | some J => (o.2.1 0) = true ∧ JobOk o J
/-- settings: order, way of runs, memory, way to merge, ways -/
abbrev SS : Type := Nat × Nat × Nat × Nat × Nat
def SetO (o : OS) : SS → Prop := fun ⟨a, b, c, d, e⟩ => ((o.1 1) = nI a ∧ a < 2) ∧ ((o.1 2) = nI b ∧ b < 3) ∧ ((o.1 3) = nI c ∧ 1 ≤ c ∧ c ≤ 50) ∧ ((o.1 4) = nI d ∧ d < 3) ∧ ((o.1 5) = nI e ∧ 2 ≤ e ∧ e ≤ 6)
def OprO (o : OS) : Prop := ∀ i, i < 3 → ∃ v, v < 8 ∧ (o.2.2.1 13) i = nI v
/-- records: their keys, how many; the tapes -/
def BookO (o : OS) (ks : Nat → Int) (c : Nat) (T : Nat → List Nat) : Prop := KOk (o.2.2.1 0) ks ∧ ((o.1 0) = nI c ∧ c ≤ 200) ∧ POk o.2.2.2.1 o.2.2.2.2 T ∧ ∀ j, j < 17 → ∀ r ∈ T j, r < c
def Off (o : OS) (ks : Nat → Int) (c : Nat) (T : Nat → List Nat) (s : SS) (tx : List Nat) (J : Option JS) : Prop :=
  BookO o ks c T ∧ SetO o s ∧ TxOk (o.1 66) (o.2.2.1 43) tx ∧ OprO o ∧ JobO o J
theorem va_up_ne' {α : Type} {f : Nat → α} {j k : Nat} {v : α} (h : k ≠ j) : va_up f j v k = f k := va_up_ne _ _ h
theorem tapes_put {T : Nat → List Nat} {c c2 j : Nat} {L : List Nat} (h : ∀ j, j < 17 → ∀ r ∈ T j, r < c) (hc : c ≤ c2) (hL : ∀ r ∈ L, r < c2) : ∀ i, i < 17 → ∀ r ∈ va_up T j L i, r < c2 := by
  intro i hi r hr
  by_cases e : i = j
  · subst e; rw [va_up_self] at hr; exact hL r hr
  · rw [va_up_ne _ _ e] at hr
    exact Nat.lt_of_lt_of_le (h i hi r hr) hc
theorem put_o {o : OS} {ks : Nat → Int} {c : Nat} {T : Nat → List Nat} {s : SS} {tx : List Nat} {J : Option JS} {Q : Int32 → OS → Prop} {X : String → OS → Prop} {j : Nat} {key mark : Int32} {k : Int} {mk : Nat} (h : Off o ks c T s tx J) (hj : j < 8) (hk : key = zI k) (hk1 : -999 ≤ k) (hk2 : k ≤ 999) (hm : mark = nI mk) (hmk : mk ≤ 9999) (hc : c < 200) (hl : (T j).length < 100) (hQ : ∀ o', Off o' (va_up ks c k) (c + 1) (va_up T j (T j ++ [c])) s tx J → Q (nI c) o') : ow_put o (nI j) key mark Q X := by
  obtain ⟨⟨b1, ⟨b2, b3⟩, b4, b5⟩, h2, h3, h4, h5⟩ := h
  unfold ow_put wp_X11_put
  rw [b2]
  refine tapeOf_s hj ?_
  refine range_s (v := k) (lo := -999) (hi := 999) hk (by decide) (by decide) (by omega) (by omega) (by omega) (by omega) (by omega) ⟨hk1, hk2⟩ ?_
  rw [hm]
  refine rangeN_s (lo := 0) (hi := 9999) ⟨Nat.zero_le _, hmk⟩ (by omega) ?_
  refine room_s (m := 1) b4 (by omega) (by omega) (by omega) ?_
  refine bookAdd_s b1 hc hk hk1 hk2 (fun K' M' hK' => ?_)
  refine add_s b4 (by omega) hl hc (fun F' n' hP' => ?_)
  exact hQ _ ⟨⟨hK', ⟨rfl, by omega⟩, hP', tapes_put b5 (by omega) (fun r hr => by
    rcases List.mem_append.mp hr with q | q
    · exact Nat.lt_succ_of_lt (b5 j (by omega) r q)
    · simp at q; omega)⟩, h2, h3, h4, h5⟩
theorem fill_o {o : OS} {ks : Nat → Int} {c : Nat} {T : Nat → List Nat} {s : SS} {tx : List Nat} {J : Option JS} {Q : Int32 → OS → Prop} {X : String → OS → Prop} {j m : Nat} {f0 sp : Int} (h : Off o ks c T s tx J) (hj : j < 8) (hf1 : -999 ≤ f0) (hf2 : f0 ≤ 999) (hs1 : -50 ≤ sp) (hs2 : sp ≤ 50) (hm1 : m ≤ 50) (hl1 : ∀ i : Nat, i < m → -999 ≤ f0 + sp * i ∧ f0 + sp * i ≤ 999) (hc : c + m ≤ 200) (hl : (T j).length + m ≤ 100) (hQ : ∀ o', Off o' (ksF ks c m (fun i => f0 + sp * i)) (c + m) (va_up T j (T j ++ newR c m)) s tx J → Q (nI ((T j).length + m)) o') : ow_fill o (nI j) (zI f0) (zI sp) (nI m) Q X := by
  obtain ⟨⟨b1, ⟨b2, b3⟩, b4, b5⟩, h2, h3, h4, h5⟩ := h
  unfold ow_fill
  rw [b2]
  refine fill_w b1 b4 hj hf1 hf2 hs1 hs2 hm1 hl1 hc hl (fun K' M' F' n' hK' hP' => ?_)
  exact hQ _ ⟨⟨hK', ⟨rfl, hc⟩, hP', tapes_put b5 (by omega) (fun r hr => by
    rcases List.mem_append.mp hr with q | q
    · exact Nat.lt_of_lt_of_le (b5 j (by omega) r q) (by omega)
    · exact (newR_lt r q).2)⟩, h2, h3, h4, h5⟩
theorem scatter_o {o : OS} {ks : Nat → Int} {c : Nat} {T : Nat → List Nat} {s : SS} {tx : List Nat} {J : Option JS} {Q : Int32 → OS → Prop} {X : String → OS → Prop} {j m rg : Nat} {seed : Int32} (h : Off o ks c T s tx J) (hj : j < 8) (hm1 : m ≤ 50) (hr1 : 1 ≤ rg) (hr2 : rg ≤ 999) (hsd : 0 ≤ seed.toInt) (hc : c + m ≤ 200) (hl : (T j).length + m ≤ 100) (hQ : ∀ o', Off o' (ksF ks c m (scK seed rg)) (c + m) (va_up T j (T j ++ newR c m)) s tx J → Q (nI ((T j).length + m)) o') : ow_scatter o (nI j) (nI m) (nI rg) seed Q X := by
  obtain ⟨⟨b1, ⟨b2, b3⟩, b4, b5⟩, h2, h3, h4, h5⟩ := h
  unfold ow_scatter
  rw [b2]
  refine scatter_w b1 b4 hj hm1 hr1 hr2 hsd hc hl (fun K' M' F' n' hK' hP' => ?_)
  exact hQ _ ⟨⟨hK', ⟨rfl, hc⟩, hP', tapes_put b5 (by omega) (fun r hr => by
    rcases List.mem_append.mp hr with q | q
    · exact Nat.lt_of_lt_of_le (b5 j (by omega) r q) (by omega)
    · exact (newR_lt r q).2)⟩, h2, h3, h4, h5⟩
theorem records_o {o : OS} {ks : Nat → Int} {c : Nat} {T : Nat → List Nat} {s : SS} {tx : List Nat} {J : Option JS} {Q : Int32 → OS → Prop} {X : String → OS → Prop}  (h : Off o ks c T s tx J) (hQ : Q (nI c) o) : ow_records o Q X := by
  obtain ⟨⟨b1, ⟨b2, b3⟩, b4, b5⟩, h2, h3, h4, h5⟩ := h
  unfold ow_records wp_X11_records
  rw [b2]; exact hQ
theorem key_o {o : OS} {ks : Nat → Int} {c : Nat} {T : Nat → List Nat} {s : SS} {tx : List Nat} {J : Option JS} {Q : Int32 → OS → Prop} {X : String → OS → Prop} {r : Nat} (h : Off o ks c T s tx J) (hr : r < c) (hQ : Q (zI (ks r)) o) : ow_key o (nI r) Q X := by
  obtain ⟨⟨b1, ⟨b2, b3⟩, b4, b5⟩, h2, h3, h4, h5⟩ := h
  unfold ow_key wp_X11_key wp_X11_demandRecord wp_X0_has
  rw [b2]
  refine pk_lt r 0 (fun q => absurd q (by omega)) (fun _ => ?_)
  refine pk_le c r (fun q => absurd q (by omega)) (fun _ => ?_)
  refine ⟨fun q => (by cases q), fun _ => ?_⟩
  exact keyOf_s b1 (by omega) hQ
theorem length_o {o : OS} {ks : Nat → Int} {c : Nat} {T : Nat → List Nat} {s : SS} {tx : List Nat} {J : Option JS} {Q : Int32 → OS → Prop} {X : String → OS → Prop} {j : Nat} (h : Off o ks c T s tx J) (hj : j < 8) (hQ : Q (nI (T j).length) o) : ow_length o (nI j) Q X := by
  obtain ⟨⟨b1, ⟨b2, b3⟩, b4, b5⟩, h2, h3, h4, h5⟩ := h
  unfold ow_length wp_X11_length
  refine tapeOf_s hj ?_
  rw [(b4 j (by omega)).1]; exact hQ
theorem at_o {o : OS} {ks : Nat → Int} {c : Nat} {T : Nat → List Nat} {s : SS} {tx : List Nat} {J : Option JS} {Q : Int32 → OS → Prop} {X : String → OS → Prop} {j i : Nat} (h : Off o ks c T s tx J) (hj : j < 8) (hi : i < (T j).length) (hQ : Q (nI ((T j).getD i 0)) o) : ow_at o (nI j) (nI i) Q X := by
  obtain ⟨⟨b1, ⟨b2, b3⟩, b4, b5⟩, h2, h3, h4, h5⟩ := h
  have hl := (b4 j (by omega)).2.1
  unfold ow_at wp_X11_at
  refine tapeOf_s hj ?_
  refine pk_lt i 0 (fun q => absurd q (by omega)) (fun _ => ?_)
  refine pk_lt i ((T j).length) (fun _ => ?_) (fun q => absurd q (by omega)) rfl ((b4 j (by omega)).1)
  exact recordAt_s b4 (by omega) hi hQ
theorem at_x {o : OS} {ks : Nat → Int} {c : Nat} {T : Nat → List Nat} {s : SS} {tx : List Nat} {J : Option JS} {Q : Int32 → OS → Prop} {X : String → OS → Prop} {j : Nat} {z : Int} (h : Off o ks c T s tx J) (hj : j < 8) (hz : z = -1 ∨ z = (T j).length) (hX : X eIO o) : ow_at o (nI j) (zI z) Q X := by
  obtain ⟨⟨b1, ⟨b2, b3⟩, b4, b5⟩, h2, h3, h4, h5⟩ := h
  have hl := (b4 j (by omega)).2.1
  unfold ow_at wp_X11_at
  refine tapeOf_s hj ?_
  refine zk_lt z 0 (fun _ => hX) (fun q => ?_) rfl rfl
  refine zk_lt z (T j).length (fun q => absurd q (by omega)) (fun _ => hX) rfl (by rw [(b4 j (by omega)).1, zI_n])
theorem digest_o {o : OS} {ks : Nat → Int} {c : Nat} {T : Nat → List Nat} {s : SS} {tx : List Nat} {J : Option JS} {Q : Int32 → OS → Prop} {X : String → OS → Prop} {j : Nat} (h : Off o ks c T s tx J) (hj : j < 8) (hQ : Q (dgF (T j)) o) : ow_digest o (nI j) Q X := by
  obtain ⟨⟨b1, ⟨b2, b3⟩, b4, b5⟩, h2, h3, h4, h5⟩ := h
  unfold ow_digest
  exact digest_w b4 hj hQ
theorem isSorted_o {o : OS} {ks : Nat → Int} {c : Nat} {T : Nat → List Nat} {s : SS} {tx : List Nat} {J : Option JS} {Q : Bool → OS → Prop} {X : String → OS → Prop} {j od : Nat} (h : Off o ks c T s tx J) (hj : j < 8) (ho : od < 2) (hQ : Q (ordB ks od (T j)) o) : ow_isSorted o (nI j) (nI od) Q X := by
  obtain ⟨⟨b1, ⟨b2, b3⟩, b4, b5⟩, h2, h3, h4, h5⟩ := h
  unfold ow_isSorted wp_X11_isSorted
  refine tapeOf_s hj ?_
  refine rangeN_s (lo := 0) (hi := 1) ⟨Nat.zero_le _, by omega⟩ (by omega) ?_
  exact isInOrder_s b1 b4 (by omega) ho hQ
theorem clear_o {o : OS} {ks : Nat → Int} {c : Nat} {T : Nat → List Nat} {s : SS} {tx : List Nat} {J : Option JS} {Q : Int32 → OS → Prop} {X : String → OS → Prop} {j : Nat} (h : Off o ks c T s tx J) (hj : j < 8) (hQ : ∀ o', Off o' ks c (va_up T j []) s tx J → Q (nI (T j).length) o') : ow_clear o (nI j) Q X := by
  obtain ⟨⟨b1, ⟨b2, b3⟩, b4, b5⟩, h2, h3, h4, h5⟩ := h
  unfold ow_clear wp_X11_clear
  refine tapeOf_s hj ?_
  refine empty_s b4 (fun n' hP' => ?_)
  rw [(b4 j (by omega)).1]
  exact hQ _ ⟨⟨b1, ⟨b2, b3⟩, hP', tapes_put b5 (Nat.le_refl _) (fun r hr => absurd hr (by simp))⟩, h2, h3, h4, h5⟩
theorem copy_o {o : OS} {ks : Nat → Int} {c : Nat} {T : Nat → List Nat} {s : SS} {tx : List Nat} {J : Option JS} {Q : Int32 → OS → Prop} {X : String → OS → Prop} {i j : Nat} (h : Off o ks c T s tx J) (hi : i < 8) (hj : j < 8) (hQ : ∀ o', Off o' ks c (va_up T j (T i)) s tx J → Q (nI (T i).length) o') : ow_copy o (nI i) (nI j) Q X := by
  obtain ⟨⟨b1, ⟨b2, b3⟩, b4, b5⟩, h2, h3, h4, h5⟩ := h
  unfold ow_copy wp_X11_copy
  refine tapeOf_s hi ?_
  refine tapeOf_s hj ?_
  refine takeOver_s b4 (by omega) (by omega) (fun F' n' hP' => ?_)
  have e := (hP' j (by omega)).1
  rw [va_up_self] at e
  rw [e]
  exact hQ _ ⟨⟨b1, ⟨b2, b3⟩, hP', tapes_put b5 (Nat.le_refl _) (fun r hr => b5 i (by omega) r hr)⟩, h2, h3, h4, h5⟩
theorem turn_o {o : OS} {ks : Nat → Int} {c : Nat} {T : Nat → List Nat} {s : SS} {tx : List Nat} {J : Option JS} {Q : Int32 → OS → Prop} {X : String → OS → Prop} {j : Nat} (h : Off o ks c T s tx J) (hj : j < 8) (hQ : ∀ o', Off o' ks c (va_up T j (T j).reverse) s tx J → Q (nI (T j).length) o') : ow_turn o (nI j) Q X := by
  obtain ⟨⟨b1, ⟨b2, b3⟩, b4, b5⟩, h2, h3, h4, h5⟩ := h
  unfold ow_turn wp_X11_turn
  refine tapeOf_s hj ?_
  refine reverse_s b4 (by omega) (fun F' hP' => ?_)
  rw [(b4 j (by omega)).1]
  exact hQ _ ⟨⟨b1, ⟨b2, b3⟩, hP', tapes_put b5 (Nat.le_refl _) (fun r hr => b5 j (by omega) r (List.mem_reverse.mp hr))⟩, h2, h3, h4, h5⟩
theorem setRuns_o {o : OS} {ks : Nat → Int} {c : Nat} {T : Nat → List Nat} {s : SS} {tx : List Nat} {J : Option JS} {Q : Int32 → OS → Prop} {X : String → OS → Prop} {a b d : Nat} (h : Off o ks c T s tx J) (ha : a < 2) (hb : b < 3) (hd1 : 1 ≤ d) (hd2 : d ≤ 50) (hQ : ∀ o', Off o' ks c T (a, b, d, s.2.2.2) tx J → Q (nI s.2.2.1) o') : ow_setRuns o (nI a) (nI b) (nI d) Q X := by
  obtain ⟨sa, sb, sc, sd, se⟩ := s
  obtain ⟨⟨b1, ⟨b2, b3⟩, b4, b5⟩, ⟨s1, s2, s3, s4, s5⟩, h3, h4, h5⟩ := h
  unfold ow_setRuns wp_X11_setRuns
  refine rangeN_s (lo := 0) (hi := 1) ⟨Nat.zero_le _, by omega⟩ (by omega) ?_
  refine rangeN_s (lo := 0) (hi := 2) ⟨Nat.zero_le _, by omega⟩ (by omega) ?_
  refine rangeN_s (lo := 1) (hi := 50) ⟨hd1, hd2⟩ (by omega) ?_
  rw [s3.1]
  exact hQ _ ⟨⟨b1, ⟨b2, b3⟩, b4, b5⟩, ⟨⟨rfl, ha⟩, ⟨rfl, hb⟩, ⟨rfl, hd1, hd2⟩, s4, s5⟩, h3, h4, h5⟩
theorem setMerge_o {o : OS} {ks : Nat → Int} {c : Nat} {T : Nat → List Nat} {s : SS} {tx : List Nat} {J : Option JS} {Q : Int32 → OS → Prop} {X : String → OS → Prop} {a b : Nat} (h : Off o ks c T s tx J) (ha : a < 3) (hb1 : 2 ≤ b) (hb2 : b ≤ 6) (hQ : ∀ o', Off o' ks c T (s.1, s.2.1, s.2.2.1, a, b) tx J → Q (nI s.2.2.2.2) o') : ow_setMerge o (nI a) (nI b) Q X := by
  obtain ⟨sa, sb, sc, sd, se⟩ := s
  obtain ⟨⟨b1, ⟨b2, b3⟩, b4, b5⟩, ⟨s1, s2, s3, s4, s5⟩, h3, h4, h5⟩ := h
  unfold ow_setMerge wp_X11_setMerge
  refine rangeN_s (lo := 0) (hi := 2) ⟨Nat.zero_le _, by omega⟩ (by omega) ?_
  refine rangeN_s (lo := 2) (hi := 6) ⟨hb1, hb2⟩ (by omega) ?_
  rw [s5.1]
  exact hQ _ ⟨⟨b1, ⟨b2, b3⟩, b4, b5⟩, ⟨s1, s2, s3, ⟨rfl, ha⟩, ⟨rfl, hb1, hb2⟩⟩, h3, h4, h5⟩
/-- a setting by its number -/
def setA (s : SS) (k : Nat) : Nat := if k = 0 then s.1 else if k = 1 then s.2.1 else if k = 2 then s.2.2.1 else if k = 3 then s.2.2.2.1 else s.2.2.2.2
theorem setting_o {o : OS} {ks : Nat → Int} {c : Nat} {T : Nat → List Nat} {s : SS} {tx : List Nat} {J : Option JS} {Q : Int32 → OS → Prop} {X : String → OS → Prop} {k : Nat} (h : Off o ks c T s tx J) (hk : k < 5) (hQ : Q (nI (setA s k)) o) : ow_setting o (nI k) Q X := by
  obtain ⟨sa, sb, sc, sd, se⟩ := s
  obtain ⟨-, ⟨s1, s2, s3, s4, s5⟩, -⟩ := h
  unfold ow_setting wp_X11_setting
  rw [s1.1, s2.1, s3.1, s4.1, s5.1]
  match k, hk with
  | 0, _ => exact ⟨fun _ => hQ, fun q => absurd q (by decide), fun q => absurd q (by decide), fun q => absurd q (by decide), fun q => absurd q (by decide), fun q => absurd q (by decide)⟩
  | 1, _ => exact ⟨fun q => absurd q (by decide), fun _ => hQ, fun q => absurd q (by decide), fun q => absurd q (by decide), fun q => absurd q (by decide), fun q => absurd q (by decide)⟩
  | 2, _ => exact ⟨fun q => absurd q (by decide), fun q => absurd q (by decide), fun _ => hQ, fun q => absurd q (by decide), fun q => absurd q (by decide), fun q => absurd q (by decide)⟩
  | 3, _ => exact ⟨fun q => absurd q (by decide), fun q => absurd q (by decide), fun q => absurd q (by decide), fun _ => hQ, fun q => absurd q (by decide), fun q => absurd q (by decide)⟩
  | 4, _ => exact ⟨fun q => absurd q (by decide), fun q => absurd q (by decide), fun q => absurd q (by decide), fun q => absurd q (by decide), fun _ => hQ, fun q => absurd q (by decide)⟩
/-- the runs that would be made of a tape -/
def rnO (ks : Nat → Int) (s : SS) (L : List Nat) : List (List Nat) := runsOf ks s.1 s.2.1 s.2.2.1 L
theorem runs_o {o : OS} {ks : Nat → Int} {c : Nat} {T : Nat → List Nat} {s : SS} {tx : List Nat} {J : Option JS} {Q : Int32 → OS → Prop} {X : String → OS → Prop} {j : Nat}  (h : Off o ks c T s tx J) (hj : j < 8) (hQ : ∀ o', Off o' ks c T s tx J → Q (nI (rnO ks s (T j)).length) o') : ow_runs o (nI j) Q X := by
  obtain ⟨sa, sb, sc, sd, se⟩ := s
  obtain ⟨⟨b1, ⟨b2, b3⟩, b4, b5⟩, ⟨s1, s2, s3, s4, s5⟩, h3, h4, h5⟩ := h
  have hh2 : SetO o (sa, sb, sc, sd, se) := ⟨s1, s2, s3, s4, s5⟩
  obtain ⟨u1, u2⟩ := runs_len (ks := ks) (o := sa) (w := sb) (m := sc) (L := T j) s2.2 s3.2.1
  have ul := (b4 j (by omega)).2.1
  unfold ow_runs wp_X11_runs
  refine tapeOf_s hj ?_
  rw [s1.1, s2.1, s3.1]
  refine makeRuns_s b1 b4 (by omega) s1.2 s2.2 s3.2.1 s3.2.2 (fun hd ro mm cn f st l r hR => ?_)
  have hc := hR.1
  subst hc
  exact hQ _ ⟨⟨b1, ⟨b2, b3⟩, b4, b5⟩, hh2, h3, h4, h5⟩
theorem runLength_o {o : OS} {ks : Nat → Int} {c : Nat} {T : Nat → List Nat} {s : SS} {tx : List Nat} {J : Option JS} {Q : Int32 → OS → Prop} {X : String → OS → Prop} {j : Nat} {k : Nat} (h : Off o ks c T s tx J) (hj : j < 8) (hk : k < (rnO ks s (T j)).length) (hQ : ∀ o', Off o' ks c T s tx J → Q (nI ((rnO ks s (T j)).getD k []).length) o') : ow_runLength o (nI j) (nI k) Q X := by
  obtain ⟨sa, sb, sc, sd, se⟩ := s
  obtain ⟨⟨b1, ⟨b2, b3⟩, b4, b5⟩, ⟨s1, s2, s3, s4, s5⟩, h3, h4, h5⟩ := h
  have hh2 : SetO o (sa, sb, sc, sd, se) := ⟨s1, s2, s3, s4, s5⟩
  obtain ⟨u1, u2⟩ := runs_len (ks := ks) (o := sa) (w := sb) (m := sc) (L := T j) s2.2 s3.2.1
  have ul := (b4 j (by omega)).2.1
  have hk : k < (runsOf ks sa sb sc (T j)).length := hk
  unfold ow_runLength wp_X11_runLength wp_X11_askForRun
  refine tapeOf_s hj ?_
  rw [s1.1, s2.1, s3.1]
  refine makeRuns_s b1 b4 (by omega) s1.2 s2.2 s3.2.1 s3.2.2 (fun hd ro mm cn f st l r hR => ?_)
  refine pk_lt k 0 (fun q => absurd q (by omega)) (fun _ => ?_)
  refine pk_lt k ((runsOf ks sa sb sc (T j)).length) (fun _ => ?_) (fun q => absurd q (by omega)) rfl hR.1
  refine lengthOf_s hR (by omega) ?_
  exact hQ _ ⟨⟨b1, ⟨b2, b3⟩, b4, b5⟩, hh2, h3, h4, h5⟩
theorem runAt_o {o : OS} {ks : Nat → Int} {c : Nat} {T : Nat → List Nat} {s : SS} {tx : List Nat} {J : Option JS} {Q : Int32 → OS → Prop} {X : String → OS → Prop} {j : Nat} {k i : Nat} (h : Off o ks c T s tx J) (hj : j < 8) (hk : k < (rnO ks s (T j)).length) (hi : i < ((rnO ks s (T j)).getD k []).length) (hQ : ∀ o', Off o' ks c T s tx J → Q (nI (((rnO ks s (T j)).getD k []).getD i 0 % 256)) o') : ow_runAt o (nI j) (nI k) (nI i) Q X := by
  obtain ⟨sa, sb, sc, sd, se⟩ := s
  obtain ⟨⟨b1, ⟨b2, b3⟩, b4, b5⟩, ⟨s1, s2, s3, s4, s5⟩, h3, h4, h5⟩ := h
  have hh2 : SetO o (sa, sb, sc, sd, se) := ⟨s1, s2, s3, s4, s5⟩
  obtain ⟨u1, u2⟩ := runs_len (ks := ks) (o := sa) (w := sb) (m := sc) (L := T j) s2.2 s3.2.1
  have ul := (b4 j (by omega)).2.1
  have hk : k < (runsOf ks sa sb sc (T j)).length := hk
  have hi : i < ((runsOf ks sa sb sc (T j)).getD k []).length := hi
  unfold ow_runAt wp_X11_runAt wp_X11_askForRun
  refine tapeOf_s hj ?_
  rw [s1.1, s2.1, s3.1]
  refine makeRuns_s b1 b4 (by omega) s1.2 s2.2 s3.2.1 s3.2.2 (fun hd ro mm cn f st l r hR => ?_)
  have hrl := hR.runlen k
  have hlt := hR.lt hk hi
  refine pk_lt k 0 (fun q => absurd q (by omega)) (fun _ => ?_)
  refine pk_lt k ((runsOf ks sa sb sc (T j)).length) (fun _ => ?_) (fun q => absurd q (by omega)) rfl hR.1
  refine pk_lt i 0 (fun q => absurd q (by omega)) (fun _ => ?_)
  refine lengthOf_s hR (by omega) ?_
  refine pk_lt i (((runsOf ks sa sb sc (T j)).getD k []).length) (fun _ => ?_) (fun q => absurd q (by omega))
  refine rankAt_s hR hk hi ?_
  unfold wp_X0_recordOf
  refine nm_r (pk_andN (by omega) 8 (by decide)) ?_
  exact hQ _ ⟨⟨b1, ⟨b2, b3⟩, b4, b5⟩, hh2, h3, h4, h5⟩
theorem runAt_x1 {o : OS} {ks : Nat → Int} {c : Nat} {T : Nat → List Nat} {s : SS} {tx : List Nat} {J : Option JS} {Q : Int32 → OS → Prop} {X : String → OS → Prop} {j : Nat} {i : Nat} (h : Off o ks c T s tx J) (hj : j < 8) (hX : ∀ o', Off o' ks c T s tx J → X eIO o') : ow_runAt o (nI j) (nI (rnO ks s (T j)).length) (nI i) Q X := by
  obtain ⟨sa, sb, sc, sd, se⟩ := s
  obtain ⟨⟨b1, ⟨b2, b3⟩, b4, b5⟩, ⟨s1, s2, s3, s4, s5⟩, h3, h4, h5⟩ := h
  have hh2 : SetO o (sa, sb, sc, sd, se) := ⟨s1, s2, s3, s4, s5⟩
  obtain ⟨u1, u2⟩ := runs_len (ks := ks) (o := sa) (w := sb) (m := sc) (L := T j) s2.2 s3.2.1
  have ul := (b4 j (by omega)).2.1
  show ow_runAt o (nI j) (nI (runsOf ks sa sb sc (T j)).length) (nI i) Q X
  unfold ow_runAt wp_X11_runAt wp_X11_askForRun
  refine tapeOf_s hj ?_
  rw [s1.1, s2.1, s3.1]
  refine makeRuns_s b1 b4 (by omega) s1.2 s2.2 s3.2.1 s3.2.2 (fun hd ro mm cn f st l r hR => ?_)
  refine pk_lt ((runsOf ks sa sb sc (T j)).length) 0 (fun q => absurd q (by omega)) (fun _ => ?_)
  refine pk_lt ((runsOf ks sa sb sc (T j)).length) ((runsOf ks sa sb sc (T j)).length) (fun q => absurd q (by omega)) (fun _ => ?_) rfl hR.1
  exact hX _ ⟨⟨b1, ⟨b2, b3⟩, b4, b5⟩, hh2, h3, h4, h5⟩
theorem runAt_x2 {o : OS} {ks : Nat → Int} {c : Nat} {T : Nat → List Nat} {s : SS} {tx : List Nat} {J : Option JS} {Q : Int32 → OS → Prop} {X : String → OS → Prop} {j : Nat} {k : Nat} (h : Off o ks c T s tx J) (hj : j < 8) (hk : k < (rnO ks s (T j)).length) (hX : ∀ o', Off o' ks c T s tx J → X eIO o') : ow_runAt o (nI j) (nI k) (nI ((rnO ks s (T j)).getD k []).length) Q X := by
  obtain ⟨sa, sb, sc, sd, se⟩ := s
  obtain ⟨⟨b1, ⟨b2, b3⟩, b4, b5⟩, ⟨s1, s2, s3, s4, s5⟩, h3, h4, h5⟩ := h
  have hh2 : SetO o (sa, sb, sc, sd, se) := ⟨s1, s2, s3, s4, s5⟩
  obtain ⟨u1, u2⟩ := runs_len (ks := ks) (o := sa) (w := sb) (m := sc) (L := T j) s2.2 s3.2.1
  have ul := (b4 j (by omega)).2.1
  have hk : k < (runsOf ks sa sb sc (T j)).length := hk
  show ow_runAt o (nI j) (nI k) (nI ((runsOf ks sa sb sc (T j)).getD k []).length) Q X
  unfold ow_runAt wp_X11_runAt wp_X11_askForRun
  refine tapeOf_s hj ?_
  rw [s1.1, s2.1, s3.1]
  refine makeRuns_s b1 b4 (by omega) s1.2 s2.2 s3.2.1 s3.2.2 (fun hd ro mm cn f st l r hR => ?_)
  have hrl := hR.runlen k
  refine pk_lt k 0 (fun q => absurd q (by omega)) (fun _ => ?_)
  refine pk_lt k ((runsOf ks sa sb sc (T j)).length) (fun _ => ?_) (fun q => absurd q (by omega)) rfl hR.1
  refine pk_lt (((runsOf ks sa sb sc (T j)).getD k []).length) 0 (fun q => absurd q (by omega)) (fun _ => ?_)
  refine lengthOf_s hR (by omega) ?_
  refine pk_lt (((runsOf ks sa sb sc (T j)).getD k []).length) (((runsOf ks sa sb sc (T j)).getD k []).length) (fun q => absurd q (by omega)) (fun _ => ?_)
  exact hX _ ⟨⟨b1, ⟨b2, b3⟩, b4, b5⟩, hh2, h3, h4, h5⟩
/-- what a plan tells, by its number -/
def plA (ks : Nat → Int) (s : SS) (L : List Nat) (k : Nat) : Nat :=
  let p := planOf s.2.2.2.1 s.2.2.2.2 (lens (rnO ks s L))
  if k = 0 then p.1 else if k = 1 then p.2.1 else if k = 2 then p.2.2 else arL s.2.2.2.1 s.2.2.2.2 (rnO ks s L).length
theorem plan_o {o : OS} {ks : Nat → Int} {c : Nat} {T : Nat → List Nat} {s : SS} {tx : List Nat} {J : Option JS} {Q : Int32 → OS → Prop} {X : String → OS → Prop} {j : Nat} {k : Nat} (h : Off o ks c T s tx J) (hj : j < 8) (hk : k < 4) (hQ : ∀ o', Off o' ks c T s tx J → Q (nI (plA ks s (T j) k)) o') : ow_plan o (nI j) (nI k) Q X := by
  obtain ⟨sa, sb, sc, sd, se⟩ := s
  obtain ⟨⟨b1, ⟨b2, b3⟩, b4, b5⟩, ⟨s1, s2, s3, s4, s5⟩, h3, h4, h5⟩ := h
  have hh2 : SetO o (sa, sb, sc, sd, se) := ⟨s1, s2, s3, s4, s5⟩
  obtain ⟨u1, u2⟩ := runs_len (ks := ks) (o := sa) (w := sb) (m := sc) (L := T j) s2.2 s3.2.1
  have ul := (b4 j (by omega)).2.1
  unfold ow_plan wp_X11_plan
  refine tapeOf_s hj ?_
  refine rangeN_s (lo := 0) (hi := 3) ⟨Nat.zero_le _, by omega⟩ (by omega) ?_
  rw [s1.1, s2.1, s3.1, s4.1, s5.1]
  refine makeRuns_s b1 b4 (by omega) s1.2 s2.2 s3.2.1 s3.2.2 (fun hd ro mm cn f st l r hR => ?_)
  refine tell_s s4.2 s5.2.1 s5.2.2 hR (by omega) (fun t1 t2 t3 t4 t5 t6 t7 => ?_)
  have fin : ∀ o', Off o' ks c T (sa, sb, sc, sd, se) tx J → Q (nI (plA ks (sa, sb, sc, sd, se) (T j) k)) o' := hQ
  match k, hk with
  | 0, _ => exact ⟨fun _ => fin _ ⟨⟨b1, ⟨b2, b3⟩, b4, b5⟩, hh2, h3, h4, h5⟩, fun q => absurd q (by decide), fun q => absurd q (by decide), fun q => absurd q (by decide)⟩
  | 1, _ => exact ⟨fun q => absurd q (by decide), fun _ => fin _ ⟨⟨b1, ⟨b2, b3⟩, b4, b5⟩, hh2, h3, h4, h5⟩, fun q => absurd q (by decide), fun q => absurd q (by decide)⟩
  | 2, _ => exact ⟨fun q => absurd q (by decide), fun q => absurd q (by decide), fun _ => fin _ ⟨⟨b1, ⟨b2, b3⟩, b4, b5⟩, hh2, h3, h4, h5⟩, fun q => absurd q (by decide)⟩
  | 3, _ => exact ⟨fun q => absurd q (by decide), fun q => absurd q (by decide), fun q => absurd q (by decide), fun _ => fin _ ⟨⟨b1, ⟨b2, b3⟩, b4, b5⟩, hh2, h3, h4, h5⟩⟩
theorem leastMoves_o {o : OS} {ks : Nat → Int} {c : Nat} {T : Nat → List Nat} {s : SS} {tx : List Nat} {J : Option JS} {Q : Int32 → OS → Prop} {X : String → OS → Prop} {j : Nat}  (h : Off o ks c T s tx J) (hj : j < 8) (hQ : ∀ o', Off o' ks c T s tx J → Q (nI (hf ((rnO ks s (T j)).length - 1) (lens (rnO ks s (T j))))) o') : ow_leastMoves o (nI j) Q X := by
  obtain ⟨sa, sb, sc, sd, se⟩ := s
  obtain ⟨⟨b1, ⟨b2, b3⟩, b4, b5⟩, ⟨s1, s2, s3, s4, s5⟩, h3, h4, h5⟩ := h
  have hh2 : SetO o (sa, sb, sc, sd, se) := ⟨s1, s2, s3, s4, s5⟩
  obtain ⟨u1, u2⟩ := runs_len (ks := ks) (o := sa) (w := sb) (m := sc) (L := T j) s2.2 s3.2.1
  have ul := (b4 j (by omega)).2.1
  unfold ow_leastMoves wp_X11_leastMoves
  refine tapeOf_s hj ?_
  rw [s1.1, s2.1, s3.1]
  refine makeRuns_s b1 b4 (by omega) s1.2 s2.2 s3.2.1 s3.2.2 (fun hd ro mm cn f st l r hR => ?_)
  refine fewestMoves_s hR (fun f1 f2 => ?_)
  exact hQ _ ⟨⟨b1, ⟨b2, b3⟩, b4, b5⟩, hh2, h3, h4, h5⟩
theorem sort_o {o : OS} {ks : Nat → Int} {c : Nat} {T : Nat → List Nat} {s : SS} {tx : List Nat} {J : Option JS} {Q : Int32 → OS → Prop} {X : String → OS → Prop} {j : Nat} {i : Nat} (h : Off o ks c T s tx J) (hj : j < 8) (hi : i < 8) (hQ : ∀ o', Off o' ks c (va_up T i (srt ks s.1 (T j))) s tx J → Q (nI ((T j).length + plA ks s (T j) 1)) o') : ow_sort o (nI j) (nI i) Q X := by
  obtain ⟨sa, sb, sc, sd, se⟩ := s
  obtain ⟨⟨b1, ⟨b2, b3⟩, b4, b5⟩, ⟨s1, s2, s3, s4, s5⟩, h3, h4, h5⟩ := h
  have hh2 : SetO o (sa, sb, sc, sd, se) := ⟨s1, s2, s3, s4, s5⟩
  obtain ⟨u1, u2⟩ := runs_len (ks := ks) (o := sa) (w := sb) (m := sc) (L := T j) s2.2 s3.2.1
  have ul := (b4 j (by omega)).2.1
  unfold ow_sort wp_X11_sort
  refine tapeOf_s hj ?_
  refine tapeOf_s hi ?_
  rw [s1.1, s2.1, s3.1, s4.1, s5.1]
  refine doWhole_s b1 b4 (by omega) (by omega) s1.2 s2.2 s3.2.1 s3.2.2 s4.2 s5.2.1 s5.2.2 (fun z0 z1 z2 z3 z4 z5 z6 z7 z8 z9 z10 z11 z12 z13 z14 z15 z16 z17 z18 z19 z20 z21 z22 z23 z24 z25 z26 z27 z28 z29 z30 F' n' hP' => ?_)
  exact hQ _ ⟨⟨b1, ⟨b2, b3⟩, hP', tapes_put b5 (Nat.le_refl _) (fun r hr => b5 j (by omega) r ((srt_perm (b4 j (by omega)).2.2.2).mem_iff.mp hr))⟩, hh2, h3, h4, h5⟩
theorem errors_o {o : OS} {ks : Nat → Int} {c : Nat} {T : Nat → List Nat} {s : SS} {tx : List Nat} {J : Option JS} {Q : Int32 → OS → Prop} {X : String → OS → Prop} {j : Nat}  (h : Off o ks c T s tx J) (hj : j < 8) (hQ : ∀ o' T', Off o' ks c T' s tx J → (∀ i, i ≠ 17 → T' i = T i) → Q 0 o') : ow_errors o (nI j) Q X := by
  obtain ⟨sa, sb, sc, sd, se⟩ := s
  obtain ⟨⟨b1, ⟨b2, b3⟩, b4, b5⟩, ⟨s1, s2, s3, s4, s5⟩, h3, h4, h5⟩ := h
  have hh2 : SetO o (sa, sb, sc, sd, se) := ⟨s1, s2, s3, s4, s5⟩
  obtain ⟨u1, u2⟩ := runs_len (ks := ks) (o := sa) (w := sb) (m := sc) (L := T j) s2.2 s3.2.1
  have ul := (b4 j (by omega)).2.1
  unfold ow_errors wp_X11_errors
  refine tapeOf_s hj ?_
  rw [s1.1, s3.1, s5.1]
  refine countFailures_s b1 b4 (by omega) s1.2 s3.2.1 s3.2.2 s5.2.1 s5.2.2 ?_
  intros
  rename_i hP' hT'
  refine hQ _ _ ⟨⟨b1, ⟨b2, b3⟩, hP', fun i hi r hr => ?_⟩, hh2, h3, h4, h5⟩ hT'
  rw [hT' i (by omega)] at hr
  exact b5 i hi r hr
theorem thin_o {o : OS} {ks : Nat → Int} {c : Nat} {T : Nat → List Nat} {s : SS} {tx : List Nat} {J : Option JS} {Q : Int32 → OS → Prop} {X : String → OS → Prop} {j : Nat} {b : Bool} (h : Off o ks c T s tx J) (hj : j < 8) (hQ : ∀ o', Off o' ks c (va_up T j (thinL ks b (T j))) s tx J → Q (nI ((T j).length - (thinL ks b (T j)).length)) o') : ow_thin o (nI j) b Q X := by
  obtain ⟨⟨b1, ⟨b2, b3⟩, b4, b5⟩, h2, h3, h4, h5⟩ := h
  unfold ow_thin wp_X11_thin
  refine tapeOf_s hj ?_
  refine thin_s b1 b4 (by omega) (fun F' n' hP' => ?_)
  exact hQ _ ⟨⟨b1, ⟨b2, b3⟩, hP', tapes_put b5 (Nat.le_refl _) (fun r hr => b5 j (by omega) r ((pick_sub (T j) _).subset hr))⟩, h2, h3, h4, h5⟩
theorem combine_o {o : OS} {ks : Nat → Int} {c : Nat} {T : Nat → List Nat} {s : SS} {tx : List Nat} {J : Option JS} {Q : Int32 → OS → Prop} {X : String → OS → Prop} {a b i hw : Nat} (h : Off o ks c T s tx J) (ha : a < 8) (hb : b < 8) (hi : i < 8) (hh : hw < 3) (hQ : joinB ks (T a) (T b) hw = true → ∀ o', Off o' ks c (va_up (va_up T 16 (joinL ks (T a) (T b) hw)) i (joinL ks (T a) (T b) hw)) s tx J → Q (nI (joinL ks (T a) (T b) hw).length) o') (hX : joinB ks (T a) (T b) hw = false → X eIS o) : ow_combine o (nI a) (nI b) (nI i) (nI hw) Q X := by
  obtain ⟨⟨b1, ⟨b2, b3⟩, b4, b5⟩, h2, h3, h4, h5⟩ := h
  unfold ow_combine wp_X11_combine
  refine tapeOf_s ha ?_
  refine tapeOf_s hb ?_
  refine tapeOf_s hi ?_
  refine rangeN_s (lo := 0) (hi := 2) ⟨Nat.zero_le _, by omega⟩ (by omega) ?_
  have hmem : ∀ r ∈ joinL ks (T a) (T b) hw, r < c := by
    intro r hr
    unfold joinL at hr
    by_cases c0 : hw = 0
    · rw [if_pos c0] at hr
      have hm : ∀ r ∈ T a ++ T b, r < 200 := fun r hr => by
        rcases List.mem_append.mp hr with q | q
        · exact (b4 a (by omega)).2.2.2 r q
        · exact (b4 b (by omega)).2.2.2 r q
      rcases List.mem_append.mp ((srt_perm hm).mem_iff.mp hr) with q | q
      · exact b5 a (by omega) r q
      · exact b5 b (by omega) r q
    · rw [if_neg c0] at hr
      exact b5 a (by omega) r ((List.mem_filter.mp hr).1)
  refine join_w b1 b4 (by omega) (by omega) (by omega) hh (fun e => ?_) (fun e F' n' hP' => ?_)
  · exact ⟨fun _ => hX e, fun q => by cases q⟩
  · refine ⟨fun q => (by cases q), fun _ => ?_⟩
    have e2 := (hP' i (by omega)).1
    rw [va_up_self] at e2
    rw [e2]
    exact hQ e _ ⟨⟨b1, ⟨b2, b3⟩, hP', tapes_put (tapes_put b5 (Nat.le_refl _) hmem) (Nat.le_refl _) hmem⟩, h2, h3, h4, h5⟩
/-- the place of the first record with a key; -1 where there is none -/
def fndA (ks : Nat → Int) (L : List Nat) (key : Int) : Int :=
  let q := L.countP (fun r => decide (ks r < key))
  if q < L.length ∧ ks (L.getD q 0) = key then (q : Int) else -1
theorem find_o {o : OS} {ks : Nat → Int} {c : Nat} {T : Nat → List Nat} {s : SS} {tx : List Nat} {J : Option JS} {Q : Int32 → OS → Prop} {X : String → OS → Prop} {j : Nat} {key : Int32} (h : Off o ks c T s tx J) (hj : j < 8) (hQ : ordB ks 0 (T j) = true → Q (zI (fndA ks (T j) key.toInt)) o) (hX : ordB ks 0 (T j) = false → X eIS o) : ow_find o (nI j) key Q X := by
  obtain ⟨⟨b1, ⟨b2, b3⟩, b4, b5⟩, h2, h3, h4, h5⟩ := h
  have ul := (b4 j (by omega)).2.1
  have hk1 := Int32.le_toInt key
  have hk2 := Int32.toInt_lt key
  have hz : key = zI key.toInt := (Int32.ofInt_toInt key).symm
  unfold ow_find wp_X11_find
  refine sortedTapeOf_s b1 b4 hj (fun ho => ?_) hX
  refine countBelow_s b1 b4 (by omega) ?_
  have hle : (T j).countP (fun r => decide (ks r < key.toInt)) ≤ (T j).length := List.countP_le_length
  have hQ := hQ ho
  unfold fndA at hQ
  generalize (T j).countP (fun r => decide (ks r < key.toInt)) = q at *
  refine pk_le (T j).length q (fun c1 => ?_) (fun c1 => ?_) (b4 j (by omega)).1
  · rw [if_neg (fun z => absurd z.1 (by omega))] at hQ
    exact hQ
  · refine keyAt_s b1 b4 (by omega) c1 ?_
    obtain ⟨-, k1, k2⟩ := b1 _ ((b4 j (by omega)).2.2.2 _ (getD_mem (L := T j) c1))
    refine zk_eq (ks ((T j).getD q 0)) key.toInt (fun c2 => ?_) (fun c2 => ?_) rfl hz
    · rw [if_pos ⟨c1, c2⟩, ← zI_n] at hQ
      exact hQ
    · rw [if_neg (fun z => c2 z.2)] at hQ
      exact hQ
theorem floor_o {o : OS} {ks : Nat → Int} {c : Nat} {T : Nat → List Nat} {s : SS} {tx : List Nat} {J : Option JS} {Q : Int32 → OS → Prop} {X : String → OS → Prop} {j : Nat} {key : Int32} (h : Off o ks c T s tx J) (hj : j < 8) (hQ : ordB ks 0 (T j) = true → 0 < (T j).countP (fun r => decide (ks r ≤ key.toInt)) → Q (zI (ks ((T j).getD ((T j).countP (fun r => decide (ks r ≤ key.toInt)) - 1) 0))) o) (hN : ordB ks 0 (T j) = true → (T j).countP (fun r => decide (ks r ≤ key.toInt)) = 0 → X eNS o) (hX : ordB ks 0 (T j) = false → X eIS o) : ow_floor o (nI j) key Q X := by
  obtain ⟨⟨b1, ⟨b2, b3⟩, b4, b5⟩, h2, h3, h4, h5⟩ := h
  have ul := (b4 j (by omega)).2.1
  unfold ow_floor wp_X11_floor
  refine sortedTapeOf_s b1 b4 hj (fun ho => ?_) hX
  refine countUpTo_s b1 b4 (by omega) ?_
  have hle : (T j).countP (fun r => decide (ks r ≤ key.toInt)) ≤ (T j).length := List.countP_le_length
  have hQ := hQ ho
  have hN := hN ho
  generalize (T j).countP (fun r => decide (ks r ≤ key.toInt)) = q at *
  refine nm_r (e' := zI ((q : Int) - 1)) (by rw [lit_z 1, zI_n, zI_s]; rfl) ?_
  refine zk_le 0 ((q : Int) - 1) (fun c1 => ?_) (fun c1 => hN (by omega)) rfl rfl
  have e : zI ((q : Int) - 1) = nI (q - 1) := by rw [zI_n]; congr 1; omega
  rw [e]
  exact keyAt_s b1 b4 (by omega) (by omega) (hQ (by omega))
theorem ceiling_o {o : OS} {ks : Nat → Int} {c : Nat} {T : Nat → List Nat} {s : SS} {tx : List Nat} {J : Option JS} {Q : Int32 → OS → Prop} {X : String → OS → Prop} {j : Nat} {key : Int32} (h : Off o ks c T s tx J) (hj : j < 8) (hQ : ordB ks 0 (T j) = true → (T j).countP (fun r => decide (ks r < key.toInt)) < (T j).length → Q (zI (ks ((T j).getD ((T j).countP (fun r => decide (ks r < key.toInt))) 0))) o) (hN : ordB ks 0 (T j) = true → (T j).countP (fun r => decide (ks r < key.toInt)) = (T j).length → X eNS o) (hX : ordB ks 0 (T j) = false → X eIS o) : ow_ceiling o (nI j) key Q X := by
  obtain ⟨⟨b1, ⟨b2, b3⟩, b4, b5⟩, h2, h3, h4, h5⟩ := h
  have ul := (b4 j (by omega)).2.1
  unfold ow_ceiling wp_X11_ceiling
  refine sortedTapeOf_s b1 b4 hj (fun ho => ?_) hX
  refine countBelow_s b1 b4 (by omega) ?_
  have hle : (T j).countP (fun r => decide (ks r < key.toInt)) ≤ (T j).length := List.countP_le_length
  have hQ := hQ ho
  have hN := hN ho
  generalize (T j).countP (fun r => decide (ks r < key.toInt)) = q at *
  refine pk_lt q (T j).length (fun c1 => ?_) (fun c1 => hN (by omega)) rfl (b4 j (by omega)).1
  exact keyAt_s b1 b4 (by omega) c1 (hQ c1)
theorem between_o {o : OS} {ks : Nat → Int} {c : Nat} {T : Nat → List Nat} {s : SS} {tx : List Nat} {J : Option JS} {Q : Int32 → OS → Prop} {X : String → OS → Prop} {j : Nat} {a b : Int32} (h : Off o ks c T s tx J) (hj : j < 8) (hQ : ordB ks 0 (T j) = true → Q (nI ((T j).countP (fun r => decide (ks r ≤ b.toInt)) - (T j).countP (fun r => decide (ks r < a.toInt)))) o) (hX : ordB ks 0 (T j) = false → X eIS o) : ow_between o (nI j) a b Q X := by
  obtain ⟨⟨b1, ⟨b2, b3⟩, b4, b5⟩, h2, h3, h4, h5⟩ := h
  have ul := (b4 j (by omega)).2.1
  unfold ow_between wp_X11_between
  refine sortedTapeOf_s b1 b4 hj (fun ho => ?_) hX
  refine countUpTo_s b1 b4 (by omega) ?_
  refine countBelow_s b1 b4 (by omega) ?_
  have hle : (T j).countP (fun r => decide (ks r < a.toInt)) ≤ (T j).length := List.countP_le_length
  have hle2 : (T j).countP (fun r => decide (ks r ≤ b.toInt)) ≤ (T j).length := List.countP_le_length
  have hQ := hQ ho
  generalize (T j).countP (fun r => decide (ks r < a.toInt)) = q at *
  generalize (T j).countP (fun r => decide (ks r ≤ b.toInt)) = p at *
  refine nm_r (e' := zI ((p : Int) - q)) (by rw [zI_n, zI_n, zI_s]) ?_
  have hmx : (if (0 : Int32) < zI ((p : Int) - q) then zI ((p : Int) - q) else 0) = nI (p - q) := by
    have e0 : (0 : Int32) = zI 0 := rfl
    have e1 : zI 0 < zI ((p : Int) - q) ↔ (0 : Int) < (p : Int) - q := zI_lt (by omega) (by omega) (by omega) (by omega)
    rw [e0, zI_n]
    by_cases c1 : (0 : Int) < (p : Int) - q
    · rw [if_pos (e1.mpr c1)]; congr 1; omega
    · rw [if_neg (fun z => c1 (e1.mp z))]; congr 1; omega
  exact nm_r hmx hQ
theorem keys_o {o : OS} {ks : Nat → Int} {c : Nat} {T : Nat → List Nat} {s : SS} {tx : List Nat} {J : Option JS} {Q : Int32 → OS → Prop} {X : String → OS → Prop} {j : Nat} (h : Off o ks c T s tx J) (hj : j < 8) (hQ : ordB ks 0 (T j) = true → Q (nI (nKeys ks (T j))) o) (hX : ordB ks 0 (T j) = false → X eIS o) : ow_keys o (nI j) Q X := by
  obtain ⟨⟨b1, ⟨b2, b3⟩, b4, b5⟩, h2, h3, h4, h5⟩ := h
  unfold ow_keys
  exact keys_w b1 b4 hj hQ hX
theorem clearText_o {o : OS} {ks : Nat → Int} {c : Nat} {T : Nat → List Nat} {s : SS} {tx : List Nat} {J : Option JS} {Q : Int32 → OS → Prop} {X : String → OS → Prop}  (h : Off o ks c T s tx J) (hQ : ∀ o', Off o' ks c T s [] J → Q (nI tx.length) o') : ow_clearText o Q X := by
  obtain ⟨⟨b1, ⟨b2, b3⟩, b4, b5⟩, h2, h3, h4, h5⟩ := h
  unfold ow_clearText wp_X11_clearText wp_X10_empty
  rw [h3.1]
  exact hQ _ ⟨⟨b1, ⟨b2, b3⟩, b4, b5⟩, h2, ⟨rfl, by simp, fun i hi => absurd hi (by simp), fun x hx => absurd hx (by simp)⟩, h4, h5⟩
theorem type_o {o : OS} {ks : Nat → Int} {c : Nat} {T : Nat → List Nat} {s : SS} {tx : List Nat} {J : Option JS} {Q : Int32 → OS → Prop} {X : String → OS → Prop} {a : Nat} (h : Off o ks c T s tx J) (ha : 1 ≤ a) (ha2 : a ≤ 255) (hQ : tx.length < 160 → ∀ o', Off o' ks c T s (tx ++ [a]) J → Q (nI (tx.length + 1)) o') (hX : ¬ tx.length < 160 → ∀ o', Off o' ks c T s tx J → X eIS o') : ow_type o (lN a) Q X := by
  obtain ⟨⟨b1, ⟨b2, b3⟩, b4, b5⟩, h2, h3, h4, h5⟩ := h
  unfold ow_type
  refine type_w h3 ha ha2 (fun hl s' b' hT' => ?_) (fun hl => ?_)
  · exact hQ hl _ ⟨⟨b1, ⟨b2, b3⟩, b4, b5⟩, h2, hT', h4, h5⟩
  · exact hX hl _ ⟨⟨b1, ⟨b2, b3⟩, b4, b5⟩, h2, h3, h4, h5⟩
