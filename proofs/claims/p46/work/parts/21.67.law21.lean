/-! programs do what the calls do -/
theorem sb_of {w : Nat} {Q : Nat → (Nat → Int32) → Int32 → Prop} (hw : w < 61) (hl : (wd w).length ≤ 1) (h : ∀ c f, SbOk c f (nI (wd w).length) (wd w) → Q c f (nI (wd w).length)) : wp_J4_init_a7421 (tn w) (tb w) Q := by
  unfold wp_J4_init_a7421 wp_J5_init_a7421
  refine length_s ?_
  have htn : tn w = (wd w).length := rfl
  refine pk_le 2147483631 (tn w) (fun q => absurd q (by omega)) (fun _ => ?_)
  refine nm_r (e' := nI (tn w + 16)) (nI_add _ _) ?_
  refine ⟨rfl, tn w + 16, rfl, by omega, ?_⟩
  unfold wp_J4_append_cf1ce
  refine append_s (t := []) ⟨rfl, Nat.zero_le _, by show tn w + 16 ≤ 17 + 0; omega, fun i hi => absurd hi (Nat.not_lt_zero _), fun x hx => absurd hx List.not_mem_nil, fun _ => fitsN (x := 0) (by omega)⟩ (str_wd hw) (by show 0 + _ ≤ 900; omega) (fun c f hS => ?_)
  exact h c f hS
abbrev DX : Type := DS × List Nat
def dP : DX := ((0, 0, 0, 0, 0, 0, 0, 0, 0), [])
def fltX (P : List DX) : List Nat := (P.map Prod.snd).flatten
theorem fltX_cons (p : DX) (P : List DX) : fltX (p :: P) = p.2 ++ fltX P := rfl
theorem fltX_app (P P' : List DX) : fltX (P ++ P') = fltX P ++ fltX P' := by
  unfold fltX; rw [List.map_append, List.flatten_append]
def SIs (len : Nat) (s : SS) : List DX → List SI
  | [] => []
  | (D, x) :: P => (kD D, D.2.1, v2D D, v3D D, oD D s, len - (x ++ fltX P).length) :: SIs len s P
theorem SIs_len (len : Nat) (s : SS) : ∀ P, (SIs len s P).length = P.length
  | [] => rfl
  | (D, x) :: P => by
    show (SIs len s P).length + 1 = P.length + 1
    rw [SIs_len len s P]
def DXok (p : DX) : Prop := StTx p.1 p.2 ∧ ∃ q, DOk q p.1
theorem prg_of {s : SS} (hs : s.1 < 2) {len : Nat} : ∀ (P : List DX) (n : Nat), (∀ p ∈ P, DXok p) → n + (fltX P).length ≤ len → Prg len (tlS s) (List.replicate n 32 ++ fltX P) (SIs len s P)
  | [], n, _, _ => by
    show Prg len (tlS s) (List.replicate n 32 ++ []) []
    rw [List.append_nil]; exact Prg.nil _ _ _
  | (D, x) :: P, n, h, hl => by
    obtain ⟨⟨-, -, -, h4⟩, q, hq⟩ := h (D, x) List.mem_cons_self
    have h4 := h4 n (fltX P) (tlS s)
    rw [fltX_cons] at hl ⊢
    have hl2 : n + (x ++ fltX P).length ≤ len := hl
    have hr := prg_of hs (len := len) P 0 (fun p hp => h p (List.mem_cons_of_mem _ hp)) (by rw [List.length_append] at hl2; omega)
    rw [List.replicate_zero, List.nil_append] at hr
    have := Prg.cons len (tlS s) _ (fltX P) (tlD D (tlS s)) (kD D) D.2.1 (v2D D) (v3D D) n (oD D s) (SIs len s P) h4 (oD_tl D s) (oD_lt hq hs) hr
    have e : len - (List.replicate n 32 ++ (x ++ fltX P)).length + n = len - (x ++ fltX P).length := by
      rw [List.length_append, List.length_replicate]; omega
    rw [e] at this
    exact this
/-! what is not read of the tapes does not matter -/
def Ag (T T' : Nat → List Nat) : Prop := ∀ j, 8 ≤ j → j < 16 → T j = T' j
theorem Ag.up {A B : Nat → List Nat} {v : Nat} {X X' : List Nat} (h : Ag A B) (e : X = X') : Ag (va_up A v X) (va_up B v X') := by
  intro j h1 h2
  rw [va_up_at, va_up_at, e, h j h1 h2]
theorem Ag.up16 {A B : Nat → List Nat} {X X' : List Nat} (h : Ag A B) : Ag (va_up A 16 X) (va_up B 16 X') := by
  intro j h1 h2
  rw [va_up_ne _ _ (by omega), va_up_ne _ _ (by omega)]; exact h j h1 h2
theorem stB_ag {ks : Nat → Int} {T T' : Nat → List Nat} {k v1 v2 : Nat} (h : Ag T T') (h1 : v1 < 8) (h2 : v2 < 8) : stB ks T 8 k v1 v2 = stB ks T' 8 k v1 v2 := by
  unfold stB
  rw [h (8 + v1) (by omega) (by omega), h (8 + v2) (by omega) (by omega)]
theorem stT_ag {ks : Nat → Int} {T T' : Nat → List Nat} {k v1 v2 v3 od : Nat} (h : Ag T T') (h1 : v1 < 8) (h2 : v2 < 8) : Ag (stT ks T 8 k v1 v2 v3 od) (stT ks T' 8 k v1 v2 v3 od) := by
  have e1 := h (8 + v1) (by omega) (by omega)
  have e2 := h (8 + v2) (by omega) (by omega)
  unfold stT
  rw [e1, e2]
  by_cases c0 : k = 0
  · rw [if_pos c0, if_pos c0]; exact h.up rfl
  · rw [if_neg c0, if_neg c0]
    by_cases c1 : k = 1
    · rw [if_pos c1, if_pos c1]; exact h.up rfl
    · rw [if_neg c1, if_neg c1]
      by_cases c2 : k < 5
      · rw [if_pos c2, if_pos c2]; exact h.up16.up rfl
      · rw [if_neg c2, if_neg c2]
        by_cases c3 : k < 7
        · rw [if_pos c3, if_pos c3]; exact h.up rfl
        · rw [if_neg c3, if_neg c3]
          by_cases c4 : k = 7
          · rw [if_pos c4, if_pos c4]; exact h.up rfl
          · rw [if_neg c4, if_neg c4]; exact h.up rfl
theorem exP_ag {ks : Nat → Int} : ∀ (L : List SI) (T T' : Nat → List Nat), (∀ x ∈ L, SIok x) → Ag T T' → (exP ks T L).1 = (exP ks T' L).1 ∧ Ag (exP ks T L).2 (exP ks T' L).2
  | [], T, T', _, h => ⟨rfl, h⟩
  | (k, v1, v2, v3, od, pl) :: L, T, T', hok, h => by
    obtain ⟨b1, b2, b3, b4, b5⟩ := hok (k, v1, v2, v3, od, pl) List.mem_cons_self
    have hb := stB_ag (ks := ks) (k := k) h b2 b3
    unfold exP
    rw [hb]
    by_cases c : stB ks T' 8 k v1 v2 = true
    · rw [if_pos c, if_pos c]
      exact exP_ag L _ _ (fun x hx => hok x (List.mem_cons_of_mem _ hx)) (stT_ag h b2 b3)
    · rw [if_neg c, if_neg c]
      exact ⟨rfl, h⟩
theorem cpT_ag {T T' : Nat → List Nat} (h : ∀ j, j < 8 → T j = T' j) : Ag (cpT T 8) (cpT T' 8) := by
  intro j h1 h2
  unfold cpT
  rw [if_pos ⟨h1, by omega⟩, if_pos ⟨h1, by omega⟩]
  exact h _ (by omega)
theorem cpT_lo {T : Nat → List Nat} {j : Nat} (h : j < 8) : cpT T 8 j = T j := by
  unfold cpT
  rw [if_neg (by omega)]
theorem drop_cons_getDx {α : Type} {l : List α} {i : Nat} {d : α} (h : i < l.length) : l.drop i = l.getD i d :: l.drop (i + 1) := by
  rw [List.drop_eq_getElem_cons h, List.getD_eq_getElem?_getD, List.getElem?_eq_getElem h]; rfl
theorem isProgram_w {r : Nat → Int32} {Q : Bool → (Nat → Int32) → Prop} (hQ : ∀ r', Q true r') : wp_L_isProgram 2 r Q := by
  unfold wp_L_isProgram
  show wp_L_copies of_0 of_0 2 r _
  refine copies_w off_0 off_0 (fun _ _ => rfl) (fun r1 o1 o2 ks c T h1 h2 => ?_)
  refine draw_w (m := 2) (by decide) (by decide) (fun za r2 hza => ?_)
  refine draw_w (m := 3) (by decide) (by decide) (fun zb r3 hzb => ?_)
  refine draw_w (m := 6) (by decide) (by decide) (fun zc r4 hzc => ?_)
  refine nm_r (e' := nI (1 + zc)) (nI_add 1 zc) ?_
  refine setRuns_o h1 hza hzb (by omega) (by omega) (fun o3 h3 => ?_)
  refine draw_w (m := 3) (by decide) (by decide) (fun zd r5 hzd => ?_)
  refine draw_w (m := 5) (by decide) (by decide) (fun ze r6 hze => ?_)
  refine nm_r (e' := nI (2 + ze)) (nI_add 2 ze) ?_
  refine setMerge_o h3 hzd (by omega) (by omega) (fun o4 h4 => ?_)
  intro x35 e35
  refine setting_o (k := 0) h4 (by decide) ?_
  refine setting_o (k := 1) h4 (by decide) ?_
  refine setting_o (k := 2) h4 (by decide) ?_
  refine setRuns_o (a := za) (b := zb) (d := 1 + zc) h2 hza hzb (by omega) (by omega) (fun o5 h5 => ?_)
  refine setting_o (k := 3) h4 (by decide) ?_
  refine setting_o (k := 4) h4 (by decide) ?_
  refine setMerge_o (a := zd) (b := 2 + ze) h5 hzd (by omega) (by omega) (fun o6 h6 => ?_)
  intro x57 e57
  obtain ⟨s, hs⟩ : ∃ s : SS, s = (za, zb, 1 + zc, zd, 2 + ze) := ⟨_, rfl⟩
  have hs1 : s.1 < 2 := by rw [hs]; exact hza
  have gp : Off o4 ks c T s [] none := by rw [hs]; exact h4
  have gq : Off o6 ks c T s [] none := by rw [hs]; exact h6
  refine draw_w (m := 6) (by decide) (by decide) (fun many r7 hmany => ?_)
  refine draw_w (m := 3) (by decide) (by decide) (fun zf r8 hzf => ?_)
  clear h1 h2 h3 h4 h5 h6
  have v20 : ∀ L : List Nat, (∀ r ∈ L, r < c) → ∀ r ∈ L, r < 2 ^ 20 := fun L hL r hr => by have := hL r hr; have := gp.c2; omega
  have start : ∀ (w n0 : Nat), w < 61 → (wd w).length ≤ 1 → wd w = List.replicate n0 32 → n0 ≤ 1 → wj_L_isProgram_124 2 Q o4 o6 (nI many) r8 (tn w) (tb w) := by
    intro w n0 hw hwl hwn hn0
    unfold wj_L_isProgram_124
    refine sb_of hw hwl (fun cc f hS => ?_)
    refine ⟨many, rfl, by omega, many, rfl, by omega, many + 1, by omega, ?_⟩
    -- the program stands; the text is typed, the calls are done
    have e188 : ∀ (P : List DX) (r' : Nat → Int32) (cc : Nat) (f : Nat → Int32) (k : Int32) (pl : Nat → Int32) (ln : Nat → Nat) (rc : Nat → Nat → Int32), P.length = many → SbOk cc f k (List.replicate n0 32 ++ fltX P) → (∀ p ∈ P, DXok p) → (∀ z, z < many → pl z = nI (n0 + (fltX (P.take z)).length)) → (∀ z, z < many → ln z = 9 ∧ DOk (rc z) (P.getD z dP).1) → wx_L_isProgram_145_188 Q o4 o6 (nI many) many many r' cc f k pl many ln rc := by
      intro P r' cc f k pl ln rc hP hS hok hpl hrow
      obtain ⟨t, ht⟩ : ∃ t, t = List.replicate n0 32 ++ fltX P := ⟨_, rfl⟩
      have htl : t.length = n0 + (fltX P).length := by rw [ht, List.length_append, List.length_replicate]
      rw [← ht] at hS
      unfold wx_L_isProgram_145_188
      refine length_b ?_
      rw [hS.1]
      have hS' := hS
      rw [hS.1] at hS'
      have htb : t.length ≤ 900 := by
        have h1 : ∀ (P : List DX), (∀ p ∈ P, DXok p) → (fltX P).length ≤ 80 * P.length := by
          intro P
          induction P with
          | nil => intro _; exact Nat.le_refl _
          | cons p P ih =>
            intro h
            have h1 := (h p List.mem_cons_self).1.2.2.1
            have h2 := ih (fun x hx => h x (List.mem_cons_of_mem _ hx))
            rw [fltX_cons, List.length_append, List.length_cons, Nat.mul_add]
            omega
        have := h1 P hok
        rw [hP] at this
        omega
      refine pk_le t.length 160 (fun hle => ?_) (fun _ => hQ _)
      refine says_b_w gp hS' hle (fun o7 g7 => ⟨9, by decide, ?_⟩)
      obtain ⟨L, hL⟩ : ∃ L, L = SIs t.length s P := ⟨_, rfl⟩
      have hprg : Prg t.length (tlS s) t L := by
        have := prg_of hs1 (len := t.length) P n0 hok (by omega)
        rw [hL, ← ht] at *; exact this
      have hLl : L.length = many := by rw [hL, SIs_len, hP]
      have hLok := prg_ok hprg
      -- both tapes' rows are compared
      have e403 : ∀ (us : Bool) (wr : Int32) (m2 : Nat) (ln2 : Nat → Nat) (rc2 : Nat → Nat → Int32) (op oq : OS) (T1 T2 : Nat → List Nat) (s2 : SS) (tx2 : List Nat) (J2 : Option JS), Off op ks c T1 s t none → m2 = 8 → (wr = -1 → Off oq ks c T2 s2 tx2 J2 ∧ ∀ j, j < 8 → (j < 7 ∨ us = false) → T1 j = T2 j) → (¬ wr = -1 → ∀ j, j < 8 → IsA (ln2 j) (rc2 j) (T1 j)) → ∃ n403 : Nat, n403 ≤ 9 ∧ wl_L_isProgram_403 m2 ln2 rc2 us wr (wx_L_isProgram_403_454 Q r') (wx_L_isProgram_403_462 Q r') n403 0 op oq := by
        intro us wr m2 ln2 rc2 op oq T1 T2 s2 tx2 J2 gg hm2 hN hY
        subst hm2
        refine ⟨9, by decide, ?_⟩
        have key : ∀ (d j : Nat), j + d = 8 → wl_L_isProgram_403 8 ln2 rc2 us wr (wx_L_isProgram_403_454 Q r') (wx_L_isProgram_403_462 Q r') (d + 1) (nI j) op oq := by
          intro d
          induction d with
          | zero =>
            intro j hj
            rw [wl_L_isProgram_403_s]
            refine pk_le 8 j (fun _ => ?_) (fun q => absurd q (by omega))
            unfold wx_L_isProgram_403_462 wp_L_asks_11
            exact job_x (i := 0) gg (by decide) (Or.inr (Or.inr (Or.inr ⟨rfl, fun _ => hQ _, fun z => absurd rfl z⟩)))
          | succ d ih =>
            intro j hj
            have hj8 : j < 8 := by omega
            have lj := gg.len (j := j) (by omega)
            have rj := gg.rec (j := j) (by omega)
            have e422 : (j < 7 ∨ us = false) → wj_L_isProgram_422 8 ln2 rc2 wr (nI j) op oq (wl_L_isProgram_403 8 ln2 rc2 us wr (wx_L_isProgram_403_454 Q r') (wx_L_isProgram_403_462 Q r') (d + 1)) (wx_L_isProgram_403_454 Q r') := by
              intro hc
              unfold wj_L_isProgram_422
              refine tape_w gg hj8 (fun q1 a1 => ⟨fun e => ?_, fun e => ?_⟩)
              · obtain ⟨g2, hag⟩ := hN e
                refine tape_w g2 hj8 (fun q2 a2 => ?_)
                refine same_t a1 a2 (hag j hj8 hc) (by omega) (v20 _ rj) ⟨fun z => (by cases z), fun _ => ?_⟩
                refine nm_r (e' := nI (j + 1)) (nI_1 _) ?_
                exact ih (j + 1) (by omega)
              · refine ⟨pk_in j 8 (by omega), ?_⟩
                refine ⟨pk_in j 8 (by omega), ?_⟩
                rw [cl_n (show j < 2 ^ 31 by omega)]
                refine same_t a1 (hY e j hj8) rfl (by omega) (v20 _ rj) ⟨fun z => (by cases z), fun _ => ?_⟩
                refine nm_r (e' := nI (j + 1)) (nI_1 _) ?_
                exact ih (j + 1) (by omega)
            rw [wl_L_isProgram_403_s]
            refine pk_le 8 j (fun q => absurd q (by omega)) (fun _ => ?_)
            refine pk_lt j 7 (fun h7 => e422 (Or.inl h7)) (fun h7 => ⟨fun e => e422 (Or.inr e), fun _ => ?_⟩)
            refine nm_r (e' := nI (j + 1)) (nI_1 _) ?_
            exact ih (j + 1) (by omega)
        exact key 8 0 rfl
      -- what was found by the calls, and what the text tells
      have e328 : ∀ (us : Bool) (oq : OS) (wr : Int32) (m2 : Nat) (ln2 : Nat → Nat) (rc2 : Nat → Nat → Int32), m2 = 8 → (∀ j, j < 8 → IsA (ln2 j) (rc2 j) (T j)) → ((wr = -1 ∧ ∃ T2 Tp, exP ks (cpT T 8) L = (none, Tp) ∧ Rl us Tp T2 ∧ Off oq ks c T2 s [] none) ∨ (∃ z x, z < many ∧ wr = nI z ∧ pl z = nI x ∧ (exP ks (cpT T 8) L).1 = some x)) → wx_L_isProgram_250_328 Q (nI many) many r' pl o7 m2 ln2 rc2 us oq wr := by
        intro us oq wr m2 ln2 rc2 hm2 hrows hcase
        unfold wx_L_isProgram_250_328
        refine errorKind_o g7 hprg (by omega) (fun o8 rk8 g8 hk8 => ?_)
        obtain ⟨T1, hT1⟩ : ∃ T1, T1 = (exP ks (cpT T 8) L).2 := ⟨_, rfl⟩
        rw [← hT1] at g8
        have lo1 : ∀ j, j < 8 → T1 j = T j := fun j hj => by rw [hT1, exP_lo hj, cpT_lo hj]
        have ag1 := exP_ag (ks := ks) L (cpT T1 8) (cpT T 8) hLok (cpT_ag lo1)
        rcases hcase with ⟨hw, T2, Tp, hex, hrl, g2⟩ | ⟨z, x, hz, hw, hpx, hex⟩
        · subst hw
          rw [hex] at hk8 ag1
          have hk8' : rk8 = 0 := hk8
          refine ⟨fun _ => ?_, fun z => absurd rfl z⟩
          unfold wj_L_isProgram_343
          refine ⟨fun _ => ?_, fun z => absurd hk8' z⟩
          refine errorPlace_o g8 hprg (by omega) (fun o9 rp9 g9 hp9 => ?_)
          rw [ag1.1] at hp9
          have hp9' : rp9 = -1 := hp9
          obtain ⟨T3, hT3⟩ : ∃ T3, T3 = (exP ks (cpT T1 8) L).2 := ⟨_, rfl⟩
          rw [← hT3] at g9
          have lo3 : ∀ j, j < 8 → T3 j = T j := fun j hj => by rw [hT3, exP_lo hj, cpT_lo hj, lo1 j hj]
          have ag3 := exP_ag (ks := ks) L (cpT T3 8) (cpT T 8) hLok (cpT_ag lo3)
          rw [hex] at ag3
          refine ⟨fun _ => ?_, fun z => absurd rfl z⟩
          unfold wj_L_isProgram_365
          refine ⟨fun _ => ?_, fun z => absurd hp9' z⟩
          unfold wp_L_asks_16
          refine run_o g9 hprg (by omega) (fun _ o10 g10 => ?_) (fun z => absurd ag3.1 z)
          rw [hLl]
          refine ⟨fun _ => ?_, fun z => absurd rfl z⟩
          unfold wj_L_isProgram_395
          refine ⟨fun _ => ?_, fun z => absurd rfl z⟩
          refine e403 us (-1) m2 ln2 rc2 o10 oq _ T2 s [] none g10 hm2 (fun _ => ⟨g2, fun j hj hc => ?_⟩) (fun z => absurd rfl z)
          unfold bkT
          rw [if_pos hj, ag3.2 (8 + j) (by omega) (by omega)]
          exact (hrl j hj hc).symm
        · subst hw
          have hzm : ¬ nI z = -1 := nI_m1 (by omega)
          rw [hex] at hk8 ag1
          have hk8' : rk8 = 3 := hk8
          refine ⟨fun q => absurd q hzm, fun _ => ?_⟩
          unfold wj_L_isProgram_343
          refine ⟨fun _ => ?_, fun q => absurd hk8' q⟩
          refine errorPlace_o g8 hprg (by omega) (fun o9 rp9 g9 hp9 => ?_)
          rw [ag1.1] at hp9
          have hp9' : rp9 = nI x := hp9
          obtain ⟨T3, hT3⟩ : ∃ T3, T3 = (exP ks (cpT T1 8) L).2 := ⟨_, rfl⟩
          rw [← hT3] at g9
          have lo3 : ∀ j, j < 8 → T3 j = T j := fun j hj => by rw [hT3, exP_lo hj, cpT_lo hj, lo1 j hj]
          have ag3 := exP_ag (ks := ks) L (cpT T3 8) (cpT T 8) hLok (cpT_ag lo3)
          rw [hex] at ag3
          refine ⟨fun q => absurd q hzm, fun _ => ?_⟩
          refine ⟨pk_in z many (by omega), ?_⟩
          refine nm_r (e' := nI x) (by rw [cl_n (by omega)]; exact hpx) ?_
          unfold wj_L_isProgram_365
          refine ⟨fun _ => ?_, fun q => absurd hp9' q⟩
          unfold wp_L_asks_16
          refine run_o g9 hprg (by omega) (fun q => by rw [ag3.1] at q; cases q) (fun _ o10 g10 => Or.inr (Or.inr (Or.inr ⟨rfl, ?_⟩)))
          refine ⟨fun q => absurd q hzm, fun _ => ?_⟩
          unfold wj_L_isProgram_395
          refine ⟨fun _ => ?_, fun q => absurd rfl q⟩
          refine e403 us (nI z) m2 ln2 rc2 o10 oq _ T s [] none g10 hm2 (fun q => absurd q hzm) (fun _ j hj => ?_)
          rw [exP_lo hj, cpT_lo hj, lo3 j hj]
          exact hrows j hj
      -- the calls, statement by statement
      have e250 : ∀ (m2 : Nat) (ln2 : Nat → Nat) (rc2 : Nat → Nat → Int32), m2 = 8 → (∀ j, j < 8 → IsA (ln2 j) (rc2 j) (T j)) → ∀ (Ls : List DX) (i : Nat) (us : Bool) (oq : OS) (Tp Tq : Nat → List Nat), P.drop i = Ls → i + Ls.length = many → Off oq ks c Tq s [] none → Rl us Tp Tq → exP ks (cpT T 8) L = exP ks Tp (SIs t.length s Ls) → wl_L_isProgram_250 (nI many) many many ln rc (wx_L_isProgram_250_328 Q (nI many) many r' pl o7 m2 ln2 rc2) (Ls.length + 1) (nI i) us oq (-1) := by
        intro m2 ln2 rc2 hm2 hrows Ls
        induction Ls with
        | nil =>
          intro i us oq Tp Tq hd hi g hrl hex
          have hi' : i = many := by simpa using hi
          rw [wl_L_isProgram_250_s]
          refine pk_le many i (fun _ => ?_) (fun q => absurd q (by omega))
          exact e328 us oq (-1) m2 ln2 rc2 hm2 hrows (Or.inl ⟨rfl, Tq, Tp, hex, hrl, g⟩)
        | cons p Ls ih =>
          intro i us oq Tp Tq hd hi g hrl hex
          obtain ⟨D, x⟩ := p
          rw [List.length_cons] at hi
          have him : i < many := by omega
          have hPi : P.getD i dP = (D, x) := by
            have := drop_cons_getDx (l := P) (i := i) (d := dP) (by omega)
            rw [hd] at this
            exact (List.cons.inj this).1.symm
          have hd2 : P.drop (i + 1) = Ls := by
            have := drop_cons_getDx (l := P) (i := i) (d := dP) (by omega)
            rw [hd] at this
            exact (List.cons.inj this).2.symm
          obtain ⟨hln, hDO⟩ := hrow i him
          rw [hPi] at hDO
          have hDO2 : DOk (rc i) D := hDO
          have hex2 : exP ks (cpT T 8) L = if stB ks Tp 8 (kD D) D.2.1 (v2D D) = true then exP ks (stT ks Tp 8 (kD D) D.2.1 (v2D D) (v3D D) (oD D s)) (SIs t.length s Ls) else (some (t.length - (x ++ fltX Ls).length), Tp) := hex
          have e303 : wj_L_isProgram_303 many many ln rc (nI i) us oq (-1) (wl_L_isProgram_250 (nI many) many many ln rc (wx_L_isProgram_250_328 Q (nI many) many r' pl o7 m2 ln2 rc2) (Ls.length + 1)) (uD D) := by
            unfold wj_L_isProgram_303
            refine ⟨pk_in i many (by omega), ?_⟩
            refine ⟨pk_in i many (by omega), ?_⟩
            rw [cl_n (show i < 2 ^ 31 by omega), hln]
            refine does_w g hDO2 hrl (fun hb oq' Tq' g' hrl' => ⟨fun q => (by cases q), fun _ => ?_⟩) (fun hb => ⟨fun _ => ?_, fun q => (by cases q)⟩)
            · refine nm_r (e' := nI (i + 1)) (nI_1 _) ?_
              rw [if_pos hb] at hex2
              exact ih (i + 1) _ oq' _ Tq' hd2 (by omega) g' hrl' hex2
            · refine nm_r (e' := nI (i + 1)) (nI_1 _) ?_
              rw [if_neg (by rw [hb]; simp)] at hex2
              have hpli : pl i = nI (t.length - (x ++ fltX Ls).length) := by
                rw [hpl i him]
                congr 1
                have h1 : fltX P = fltX (P.take i) ++ (x ++ fltX Ls) := by
                  rw [← fltX_cons (D, x) Ls, ← hd, ← fltX_app, List.take_append_drop]
                rw [htl, h1, List.length_append]
                omega
              have fin := e328 (us || uD D) oq (nI i) m2 ln2 rc2 hm2 hrows (Or.inr ⟨i, _, him, rfl, hpli, by rw [hex2]⟩)
              rw [wl_L_isProgram_250_s]
              refine pk_le many (i + 1) (fun _ => fin) (fun _ => ⟨fun q => absurd q (nI_m1 (by omega)), fun _ => fin⟩)
          obtain ⟨d0, d1, d2, d3, a, b, m, e, y⟩ := D
          obtain ⟨⟨q0, q1, q2, q3⟩, ⟨b0, b1, b2, b3⟩, -⟩ := hDO2
          have e302 : uD (d0, d1, d2, d3, a, b, m, e, y) = false → wj_L_isProgram_302 many many ln rc (nI i) us oq (-1) (wl_L_isProgram_250 (nI many) many many ln rc (wx_L_isProgram_250_328 Q (nI many) many r' pl o7 m2 ln2 rc2) (Ls.length + 1)) := by
            intro hu
            rw [hu] at e303
            exact e303
          rw [wl_L_isProgram_250_s]
          refine pk_le many i (fun q => absurd q (by omega)) (fun _ => ?_)
          refine ⟨fun _ => ?_, fun q => absurd rfl q⟩
          have hn9 : ln (nI i).toNatClampNeg = 9 := by rw [cl_n (by omega)]; exact hln
          refine ⟨pk_in i many (by omega), ?_⟩
          refine ⟨pk_in i many (by omega), ?_⟩
          rw [hn9]
          refine ⟨pk_in 0 9 (by omega), nm_r (e' := nI d0) (by rw [cl_n (by omega)]; exact q0) ?_⟩
          refine pk_le d0 0 (fun e1 => e302 (decide_eq_false (fun z => by have : 1 ≤ d0 := z.1; omega))) (fun e1 => ?_)
          refine ⟨pk_in i many (by omega), ?_⟩
          refine ⟨pk_in i many (by omega), ?_⟩
          refine ⟨pk_in 0 9 (by omega), nm_r (e' := nI d0) (by rw [cl_n (by omega)]; exact q0) ?_⟩
          refine pk_le 4 d0 (fun e2 => e302 (decide_eq_false (fun z => by have : d0 < 4 := z.2.1; omega))) (fun e2 => ?_)
          refine ⟨pk_in i many (by omega), ?_⟩
          refine ⟨pk_in i many (by omega), ?_⟩
          refine ⟨pk_in 3 9 (by omega), nm_r (e' := nI d3) (by rw [cl_n (by omega)]; exact q3) ?_⟩
          refine pk_eq d3 7 (fun e3 => e302 (decide_eq_false (fun z => z.2.2 e3))) (fun e3 => ?_)
          have hu : uD (d0, d1, d2, d3, a, b, m, e, y) = true := decide_eq_true ⟨by show 1 ≤ d0; omega, by show d0 < 4; omega, e3⟩
          rw [hu] at e303
          exact e303
      -- the tapes ahead of it
      have e217 : ∀ (d j m2 : Nat) (ln2 : Nat → Nat) (rc2 : Nat → Nat → Int32), j + d = 8 → m2 = j → (∀ z, z < j → IsA (ln2 z) (rc2 z) (T z)) → wl_L_isProgram_217 (wx_L_isProgram_217_241 Q o6 (nI many) many many r' pl many ln rc) (d + 1) (nI j) o7 m2 ln2 rc2 := by
        intro d
        induction d with
        | zero =>
          intro j m2 ln2 rc2 hj hm2 hr
          rw [wl_L_isProgram_217_s]
          refine pk_le 8 j (fun _ => ?_) (fun q => absurd q (by omega))
          unfold wx_L_isProgram_217_241
          refine ⟨P.length + 1, by omega, ?_⟩
          exact e250 m2 ln2 rc2 (by omega) (fun z hz => hr z (by omega)) P 0 false o6 (cpT T 8) T rfl (by omega) gq (fun z hz _ => by unfold cpT; rw [if_pos (by omega), Nat.add_sub_cancel_left]) (by rw [hL])
        | succ d ih =>
          intro j m2 ln2 rc2 hj hm2 hr
          subst hm2
          rw [wl_L_isProgram_217_s]
          refine pk_le 8 m2 (fun q => absurd q (by omega)) (fun _ => ?_)
          refine tape_w g7 (by omega) (fun q1 a1 => ?_)
          refine ⟨pk_in m2 8 (by omega), ?_⟩
          refine ⟨cl_n (by omega), ?_⟩
          refine nm_r (e' := nI (m2 + 1)) (nI_1 _) ?_
          refine ih (m2 + 1) (m2 + 1) _ _ (by omega) rfl (fun z hz => ?_)
          rw [va_up_at, va_up_at]
          by_cases e : z = m2
          · subst e; rw [if_pos rfl, if_pos rfl]; exact a1
          · rw [if_neg e, if_neg e]; exact hr z (by omega)
      exact e217 8 0 0 _ _ rfl rfl (fun z hz => absurd hz (Nat.not_lt_zero _))
    -- the statements are drawn
    have key : ∀ (d i : Nat) (P : List DX) (r' : Nat → Int32) (cc : Nat) (f : Nat → Int32) (k : Int32) (pl : Nat → Int32) (mm : Nat) (ln : Nat → Nat) (rc : Nat → Nat → Int32), i + d = many → P.length = i → mm = i → SbOk cc f k (List.replicate n0 32 ++ fltX P) → (∀ p ∈ P, DXok p) → (∀ z, z < i → pl z = nI (n0 + (fltX (P.take z)).length)) → (∀ z, z < i → ln z = 9 ∧ DOk (rc z) (P.getD z dP).1) → (fltX P).length ≤ 80 * i → wl_L_isProgram_145 2 (nI many) many many (wx_L_isProgram_145_188 Q o4 o6 (nI many) many many) (d + 1) (nI i) r' cc f k pl mm ln rc := by
      intro d
      induction d with
      | zero =>
        intro i P r' cc f k pl mm ln rc hi hP hmm hS hok hpl hrow hb
        rw [wl_L_isProgram_145_s]
        refine pk_le many i (fun _ => ?_) (fun q => absurd q (by omega))
        obtain rfl : i = many := by omega
        rw [hmm]
        exact e188 P r' cc f k pl ln rc hP hS hok hpl hrow
      | succ d ih =>
        intro i P r' cc f k pl mm ln rc hi hP hmm hS hok hpl hrow hb
        subst hmm
        have him : mm < many := by omega
        have htl : (List.replicate n0 32 ++ fltX P).length = n0 + (fltX P).length := by rw [List.length_append, List.length_replicate]
        rw [wl_L_isProgram_145_s]
        refine pk_le many mm (fun q => absurd q (by omega)) (fun _ => ?_)
        refine statement_w (fun q1 r1 D hD => ?_)
        refine ⟨pk_in mm many (by omega), ?_⟩
        refine ⟨cl_n (by omega), ?_⟩
        refine length_b ?_
        refine ⟨pk_in mm many (by omega), ?_⟩
        refine ⟨pk_in mm many (by omega), ?_⟩
        refine ⟨pk_in mm (mm + 1) (by omega), ?_⟩
        rw [cl_n (show mm < 2 ^ 31 by omega), va_up_self, va_up_self]
        refine tells_w hS hD (by omega) (fun r2 c2 f2 x hx s2 => ?_)
        refine nm_r (e' := nI (mm + 1)) (nI_1 _) ?_
        have hfl : fltX (P ++ [(D, x)]) = fltX P ++ x := by
          rw [fltX_app]
          show fltX P ++ (x ++ []) = _
          rw [List.append_nil]
        have hPl : (P ++ [(D, x)]).length = mm + 1 := by rw [List.length_append, List.length_singleton, hP]
        have hxl := hx.2.2.1
        rw [List.append_assoc, ← hfl] at s2
        rw [List.append_assoc, ← hfl]
        refine ih (mm + 1) (P ++ [(D, x)]) r2 c2 f2 _ _ (mm + 1) _ _ (by omega) hPl rfl s2 (fun p hp => ?_) (fun z hz => ?_) (fun z hz => ?_) (by rw [hfl, List.length_append]; omega)
        · rcases List.mem_append.mp hp with hp | hp
          · exact hok p hp
          · rw [List.mem_singleton.mp hp]; exact ⟨hx, q1, hD⟩
        · by_cases e : z = mm
          · subst e
            rw [up_s, List.take_left' hP, ← htl]
            exact hS.1
          · rw [up_n _ e, List.take_append_of_le_length (by omega)]; exact hpl z (by omega)
        · rw [va_up_at, va_up_at]
          by_cases e : z = mm
          · subst e
            rw [if_pos rfl, if_pos rfl, getD_app_r (by omega), hP, Nat.sub_self]
            exact ⟨rfl, hD⟩
          · rw [if_neg e, if_neg e, getD_app_l (by omega)]; exact hrow z (by omega)
    have hS0 : SbOk cc f (nI (wd w).length) (List.replicate n0 32 ++ fltX []) := by
      show SbOk cc f (nI (wd w).length) (List.replicate n0 32 ++ [])
      rw [List.append_nil, ← hwn]; exact hS
    exact key many 0 [] r8 cc f _ _ 0 _ _ (by omega) rfl rfl hS0 (fun p hp => absurd hp List.not_mem_nil) (fun z hz => absurd hz (Nat.not_lt_zero _)) (fun z hz => absurd hz (Nat.not_lt_zero _)) (Nat.le_refl _)
  exact pk_eq zf 0 (fun _ => start 18 1 (by decide) (by decide) rfl (by decide)) (fun _ => start 19 0 (by decide) (by decide) rfl (by decide))
