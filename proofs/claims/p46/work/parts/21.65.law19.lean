/-! drawn statements, and their texts -/
abbrev DS : Type := Nat × Nat × Nat × Nat × Nat × Nat × Nat × Nat × Nat
/-- what a statement's row holds -/
def DOk (q : Nat → Int32) : DS → Prop := fun ⟨d0, d1, d2, d3, a, b, m, e, y⟩ =>
  (q 0 = nI d0 ∧ q 1 = nI d1 ∧ q 2 = nI d2 ∧ q 3 = nI d3) ∧ (d0 < 9 ∧ d1 < 5 ∧ d2 < 5 ∧ d3 < 8) ∧ (d0 = 0 → q 4 = zI ((a : Int) - 1) ∧ q 5 = zI ((b : Int) - 1) ∧ q 6 = nI m ∧ q 7 = zI ((e : Int) - 1) ∧ q 8 = nI y) ∧ a < 3 ∧ b < 4 ∧ 1 ≤ m ∧ m ≤ 50 ∧ e < 4 ∧ 2 ≤ y ∧ y ≤ 6
theorem statement_w {r : Nat → Int32} {Q : Nat → (Nat → Int32) → (Nat → Int32) → Prop} (hQ : ∀ q r' D, DOk q D → Q 9 q r') : wp_L_statement 2 r Q := by
  unfold wp_L_statement
  refine draw_w (m := 9) (by decide) (by decide) (fun d0 r1 h0 => ?_)
  refine draw_w (m := 5) (by decide) (by decide) (fun d1 r2 h1 => ?_)
  refine draw_w (m := 5) (by decide) (by decide) (fun d2 r3 h2 => ?_)
  refine draw_w (m := 8) (by decide) (by decide) (fun d3 r4 h3 => ?_)
  refine draw_w (m := 2) (by decide) (by decide) (fun z r5 hz => ?_)
  have body : ∀ (q : Nat → Int32) (d0 : Nat), d0 < 9 → q 0 = nI d0 → q 1 = nI d1 → q 2 = nI d2 → q 3 = nI d3 → wj_L_statement_74 2 Q r5 q := by
    intro q d0 h0 g0 g1 g2 g3
    unfold wj_L_statement_74
    refine nm_r (e' := nI d0) g0 ?_
    refine pk_eq d0 0 (fun e => ?_) (fun e => ?_)
    · refine draw_w (m := 3) (by decide) (by decide) (fun a r6 ha => ?_)
      refine nm_r (e' := zI ((a : Int) - 1)) (sub_lit a 1) ?_
      refine draw_w (m := 4) (by decide) (by decide) (fun b r7 hb => ?_)
      refine nm_r (e' := zI ((b : Int) - 1)) (sub_lit b 1) ?_
      refine draw_w (m := 50) (by decide) (by decide) (fun m r8 hm => ?_)
      refine nm_r (e' := nI (1 + m)) (nI_add 1 m) ?_
      refine draw_w (m := 4) (by decide) (by decide) (fun e2 r9 he => ?_)
      refine nm_r (e' := zI ((e2 : Int) - 1)) (sub_lit e2 1) ?_
      refine draw_w (m := 5) (by decide) (by decide) (fun y r10 hy => ?_)
      refine nm_r (e' := nI (2 + y)) (nI_add 2 y) ?_
      refine hQ _ _ (d0, d1, d2, d3, a, b, 1 + m, e2, 2 + y) ⟨⟨?_, ?_, ?_, ?_⟩, ⟨h0, h1, h2, h3⟩, fun _ => ⟨?_, ?_, ?_, ?_, ?_⟩, ha, hb, by omega, by omega, he, by omega, by omega⟩
      · show upd (upd (upd (upd (upd q 4 _) 5 _) 6 _) 7 _) 8 _ 0 = _
        rw [up_n _ (by omega), up_n _ (by omega), up_n _ (by omega), up_n _ (by omega), up_n _ (by omega)]; exact g0
      · show upd (upd (upd (upd (upd q 4 _) 5 _) 6 _) 7 _) 8 _ 1 = _
        rw [up_n _ (by omega), up_n _ (by omega), up_n _ (by omega), up_n _ (by omega), up_n _ (by omega)]; exact g1
      · show upd (upd (upd (upd (upd q 4 _) 5 _) 6 _) 7 _) 8 _ 2 = _
        rw [up_n _ (by omega), up_n _ (by omega), up_n _ (by omega), up_n _ (by omega), up_n _ (by omega)]; exact g2
      · show upd (upd (upd (upd (upd q 4 _) 5 _) 6 _) 7 _) 8 _ 3 = _
        rw [up_n _ (by omega), up_n _ (by omega), up_n _ (by omega), up_n _ (by omega), up_n _ (by omega)]; exact g3
      · show upd (upd (upd (upd (upd q 4 _) 5 _) 6 _) 7 _) 8 _ 4 = _
        rw [up_n _ (by omega), up_n _ (by omega), up_n _ (by omega), up_n _ (by omega), up_s]
      · show upd (upd (upd (upd (upd q 4 _) 5 _) 6 _) 7 _) 8 _ 5 = _
        rw [up_n _ (by omega), up_n _ (by omega), up_n _ (by omega), up_s]
      · show upd (upd (upd (upd (upd q 4 _) 5 _) 6 _) 7 _) 8 _ 6 = _
        rw [up_n _ (by omega), up_n _ (by omega), up_s]
      · show upd (upd (upd (upd (upd q 4 _) 5 _) 6 _) 7 _) 8 _ 7 = _
        rw [up_n _ (by omega), up_s]
      · show upd (upd (upd (upd (upd q 4 _) 5 _) 6 _) 7 _) 8 _ 8 = _
        rw [up_s]
    · exact hQ _ _ (d0, d1, d2, d3, 0, 0, 1, 0, 2) ⟨⟨g0, g1, g2, g3⟩, ⟨h0, h1, h2, h3⟩, fun z => absurd z e, by decide, by decide, by decide, by decide, by decide, by decide, by decide⟩
  exact pk_eq z 0 (fun _ => body _ 0 (by decide) rfl rfl rfl rfl) (fun _ => body _ d0 h0 rfl rfl rfl rfl)
/-! options, as they stand one behind another -/
def Hd (s : List Nat) : Prop := kd (s.headD 0) ≠ 1 ∧ kd (s.headD 0) ≠ 2
def Op (x : List Nat) (F : Tl → Tl) : Prop := (∀ s, Hd s → Hd (x ++ s)) ∧ ∀ (s r : List Nat) (T T2 : Tl) (c : Nat), Hd s → Opts c s (F T) r T2 → ∃ c', c' ≤ c + 3 ∧ Opts c' (x ++ s) T r T2
def EndOf (e : List Nat) : Prop := ∃ n, n ≤ 1 ∧ e = List.replicate n 32 ++ [59]
theorem end40 : EndOf (wd 40) := ⟨1, by decide, rfl⟩
theorem end41 : EndOf (wd 41) := ⟨0, by decide, rfl⟩
theorem EndOf.hd {e : List Nat} (h : EndOf e) (r : List Nat) : Hd (e ++ r) := by
  obtain ⟨n, hn, rfl⟩ := h
  rcases (show n = 0 ∨ n = 1 by omega) with rfl | rfl
  · exact ⟨by show kd 59 ≠ 1; decide, by show kd 59 ≠ 2; decide⟩
  · exact ⟨by show kd 32 ≠ 1; decide, by show kd 32 ≠ 2; decide⟩
theorem EndOf.asc {e : List Nat} (h : EndOf e) : Asc e ∧ e.length ≤ 2 := by
  obtain ⟨n, hn, rfl⟩ := h
  rcases (show n = 0 ∨ n = 1 by omega) with rfl | rfl
  · exact ⟨by intro x hx; simp at hx; omega, by decide⟩
  · exact ⟨by intro x hx; simp at hx; omega, by decide⟩
theorem EndOf.opts {e : List Nat} (h : EndOf e) (r : List Nat) (T : Tl) : Opts 0 (e ++ r) T r T := by
  obtain ⟨n, hn, rfl⟩ := h
  have := Opts.fin n r T
  rw [List.append_assoc]; exact this
theorem op_nil : Op [] (fun T => T) := ⟨fun s h => h, fun s r T T2 c _ h => ⟨c, by omega, h⟩⟩
theorem Op.comp {x y : List Nat} {F G : Tl → Tl} {s r : List Nat} {T T2 : Tl} {c : Nat} (hx : Op x F) (hy : Op y G) (hs : Hd s) (h : Opts c s (G (F T)) r T2) : ∃ c', c' ≤ c + 6 ∧ Opts c' (x ++ (y ++ s)) T r T2 := by
  obtain ⟨c1, h1, o1⟩ := hy.2 s r (F T) T2 c hs h
  obtain ⟨c2, h2, o2⟩ := hx.2 (y ++ s) r T T2 c1 (hy.1 s hs) o1
  exact ⟨c2, by omega, o2⟩
theorem hd32 (x s : List Nat) : Hd (32 :: x ++ s) := ⟨by show kd 32 ≠ 1; decide, by show kd 32 ≠ 2; decide⟩
theorem op_up : Op (wd 23) (fun T => (0, T.r, T.m, T.w, T.y)) := ⟨fun s _ => hd32 (wd 10) s, fun s r T T2 c hs h => ⟨c + 1, by omega, Opts.up 1 c s r T T2 (Or.inr hs.1) h⟩⟩
theorem op_down : Op (wd 24) (fun T => (1, T.r, T.m, T.w, T.y)) := ⟨fun s _ => hd32 (wd 11) s, fun s r T T2 c hs h => ⟨c + 1, by omega, Opts.down 1 c s r T T2 (Or.inr hs.1) h⟩⟩
theorem w22 : wd 22 = wd 23 ++ wd 24 := rfl
theorem op_ud {x : List Nat} {o : Int32} (h : Op x (fun T => (o, T.r, T.m, T.w, T.y))) (h1 : ∀ (s r : List Nat) (T T2 : Tl) (c : Nat), Hd s → Opts c s (o, T.r, T.m, T.w, T.y) r T2 → Opts (c + 1) (x ++ s) T r T2) : Op (wd 22 ++ x) (fun T => (o, T.r, T.m, T.w, T.y)) := by
  refine ⟨fun s _ => hd32 (wd 10 ++ wd 24 ++ x) s, fun s r T T2 c hs hh => ⟨c + 3, by omega, ?_⟩⟩
  have o1 := h1 s r (1, T.r, T.m, T.w, T.y) T2 c hs hh
  have hxs := h.1 s hs
  have o2 := Opts.down 1 (c + 1) (x ++ s) r (0, T.r, T.m, T.w, T.y) T2 (Or.inr hxs.1) o1
  have o3 := Opts.up 1 (c + 2) (wd 24 ++ (x ++ s)) r T T2 (Or.inr (hd32 (wd 11) (x ++ s)).1) o2
  have e : wd 22 ++ x ++ s = List.replicate 1 32 ++ (wd 10 ++ (wd 24 ++ (x ++ s))) := by
    rw [w22]; simp only [List.append_assoc]; rfl
  rw [e]; exact o3
theorem op_udu : Op (wd 22 ++ wd 23) (fun T => (0, T.r, T.m, T.w, T.y)) := op_ud op_up (fun s r T T2 c hs h => Opts.up 1 c s r T T2 (Or.inr hs.1) h)
theorem op_udd : Op (wd 22 ++ wd 24) (fun T => (1, T.r, T.m, T.w, T.y)) := op_ud op_down (fun s r T T2 c hs h => Opts.down 1 c s r T T2 (Or.inr hs.1) h)
theorem op_full {m : Nat} (h1 : 1 ≤ m) (h2 : m ≤ 50) : Op (wd 25 ++ dgs m) (fun T => (T.o, 0, nI m, T.w, T.y)) := by
  refine ⟨fun s _ => hd32 (wd 13 ++ [32] ++ dgs m) s, fun s r T T2 c hs hh => ⟨c + 1, by omega, ?_⟩⟩
  have o := Opts.full 1 1 m c (dgs m) s r T T2 (dg_v (by omega)) ⟨h1, h2⟩ (Or.inr hs.2) hh
  have e : wd 25 ++ dgs m ++ s = List.replicate 1 32 ++ (wd 13 ++ (List.replicate 1 32 ++ (dgs m ++ s))) := by
    rw [show wd 25 = List.replicate 1 32 ++ (wd 13 ++ List.replicate 1 32) from rfl]; simp only [List.append_assoc]
  rw [e]; exact o
theorem op_repl {m : Nat} (h1 : 1 ≤ m) (h2 : m ≤ 50) : Op (wd 26 ++ dgs m) (fun T => (T.o, 1, nI m, T.w, T.y)) := by
  refine ⟨fun s _ => hd32 (wd 14 ++ [32] ++ dgs m) s, fun s r T T2 c hs hh => ⟨c + 1, by omega, ?_⟩⟩
  have o := Opts.repl 1 1 m c (dgs m) s r T T2 (dg_v (by omega)) ⟨h1, h2⟩ (Or.inr hs.2) hh
  have e : wd 26 ++ dgs m ++ s = List.replicate 1 32 ++ (wd 14 ++ (List.replicate 1 32 ++ (dgs m ++ s))) := by
    rw [show wd 26 = List.replicate 1 32 ++ (wd 14 ++ List.replicate 1 32) from rfl]; simp only [List.append_assoc]
  rw [e]; exact o
theorem op_nat : Op (wd 27 ++ wd 19) (fun T => (T.o, 2, T.m, T.w, T.y)) := ⟨fun s _ => hd32 (wd 12) s, fun s r T T2 c hs h => ⟨c + 1, by omega, Opts.nat 1 c s r T T2 (Or.inr hs.1) h⟩⟩
theorem op_bal {y : Nat} (h1 : 2 ≤ y) (h2 : y ≤ 6) : Op (wd 28 ++ dgs y) (fun T => (T.o, T.r, T.m, 0, nI y)) := by
  refine ⟨fun s _ => hd32 (wd 16 ++ [32] ++ dgs y) s, fun s r T T2 c hs hh => ⟨c + 1, by omega, ?_⟩⟩
  have o := Opts.bal 1 1 y c (dgs y) s r T T2 (dg_v (by omega)) ⟨h1, h2⟩ (Or.inr hs.2) hh
  have e : wd 28 ++ dgs y ++ s = List.replicate 1 32 ++ (wd 16 ++ (List.replicate 1 32 ++ (dgs y ++ s))) := by
    rw [show wd 28 = List.replicate 1 32 ++ (wd 16 ++ List.replicate 1 32) from rfl]; simp only [List.append_assoc]
  rw [e]; exact o
theorem op_sho : Op (wd 29 ++ wd 19) (fun T => (T.o, T.r, T.m, 1, T.y)) := ⟨fun s _ => hd32 (wd 15) s, fun s r T T2 c hs h => ⟨c + 1, by omega, Opts.sho 1 c s r T T2 (Or.inr hs.1) h⟩⟩
theorem dg0 {y : Nat} (h : y < 100) : Dg (48 :: dgs y) y := ⟨by simp, fun x hx => by
  rcases List.mem_cons.mp hx with rfl | hx
  · decide
  · exact (dg_v h).2.1 x hx, (dgs_ok y h).2.2.2⟩
theorem op_poly {y : Nat} (h1 : 2 ≤ y) (h2 : y ≤ 6) : Op (wd 30 ++ dgs y) (fun T => (T.o, T.r, T.m, 2, nI y)) := by
  refine ⟨fun s _ => hd32 (wd 17 ++ [32, 48] ++ dgs y) s, fun s r T T2 c hs hh => ⟨c + 1, by omega, ?_⟩⟩
  have o := Opts.poly 1 1 y c (48 :: dgs y) s r T T2 (dg0 (by omega)) ⟨h1, h2⟩ (Or.inr hs.2) hh
  have e : wd 30 ++ dgs y ++ s = List.replicate 1 32 ++ (wd 17 ++ (List.replicate 1 32 ++ (48 :: dgs y ++ s))) := by
    rw [show wd 30 = List.replicate 1 32 ++ (wd 17 ++ (List.replicate 1 32 ++ [48])) from rfl]; simp only [List.append_assoc]; rfl
  rw [e]; exact o
/-! a statement's number, tapes, settings -/
def kD (D : DS) : Nat := if D.1 = 0 then 0 else if D.1 < 4 then D.1 + 1 else if D.1 = 4 then 1 else if D.1 = 5 then 6 else if D.1 = 6 then 5 else D.1
def v2D (D : DS) : Nat := if 1 ≤ D.1 ∧ D.1 < 4 then D.2.2.1 else 0
def v3D (D : DS) : Nat := if D.1 = 0 then D.2.2.1 else if D.1 < 5 then D.2.2.2.1 else 0
def fO (a : Nat) (T : Tl) : Tl := if a = 0 then T else (nI (a - 1), T.r, T.m, T.w, T.y)
def fR (b m : Nat) (T : Tl) : Tl := if b = 0 then T else if b = 1 then (T.o, 0, nI m, T.w, T.y) else if b = 2 then (T.o, 1, nI m, T.w, T.y) else (T.o, 2, T.m, T.w, T.y)
def fM (e y : Nat) (T : Tl) : Tl := if e = 0 then T else if e = 1 then (T.o, T.r, T.m, 0, nI y) else if e = 2 then (T.o, T.r, T.m, 1, T.y) else (T.o, T.r, T.m, 2, nI y)
def tlD (D : DS) (T : Tl) : Tl := if D.1 = 0 then fM D.2.2.2.2.2.2.2.1 D.2.2.2.2.2.2.2.2 (fR D.2.2.2.2.2.1 D.2.2.2.2.2.2.1 (fO D.2.2.2.2.1 T)) else T
def StTx (D : DS) (x : List Nat) : Prop := Asc x ∧ 1 ≤ x.length ∧ x.length ≤ 80 ∧ ∀ (n : Nat) (r : List Nat) (T : Tl), Stm (List.replicate n 32 ++ (x ++ r)) T r (tlD D T) (kD D) D.2.1 (v2D D) (v3D D) n
def OpP (x : List Nat) (F : Tl → Tl) : Prop := Op x F ∧ Asc x ∧ x.length ≤ 18
theorem tells_w {c : Nat} {f : Nat → Int32} {k : Int32} {t : List Nat} {q : Nat → Int32} {D : DS} {r : Nat → Int32} {Q : (Nat → Int32) → Nat → (Nat → Int32) → Int32 → Prop} (hS : SbOk c f k t) (hD : DOk q D) (hl : t.length ≤ 500) (hQ : ∀ r' c' f' x, StTx D x → SbOk c' f' (nI (t ++ x).length) (t ++ x) → Q r' c' f' (nI (t ++ x).length)) : wp_L_tells 2 r c f k 9 q Q := by
  obtain ⟨d0, d1, d2, d3, a, b, m, e, y⟩ := D
  obtain ⟨⟨g0, g1, g2, g3⟩, ⟨b0, b1, b2, b3⟩, gs, ba, bb, bm1, bm2, be, by1, by2⟩ := hD
  have dl : ∀ v, v < 100 → (dgs v).length ≤ 2 := fun v hv => (dgs_ok v hv).2.2.1
  have wl : ∀ z, z < 42 → (wd z).length ≤ 10 := by decide +kernel
  -- the sign
  have e401 : ∀ (X : List Nat) (c' : Nat) (f' : Nat → Int32) (k' : Int32) (r' : Nat → Int32), SbOk c' f' k' (t ++ X) → X.length ≤ 90 → (∀ z, EndOf z → StTx (d0, d1, d2, d3, a, b, m, e, y) (X ++ z)) → wj_L_tells_401 2 Q c' f' k' r' := by
    intro X c' f' k' r' s' hX hst
    have hal : (t ++ X).length = t.length + X.length := List.length_append
    unfold wj_L_tells_401
    refine draw_w (m := 3) (by decide) (by decide) (fun z r2 hz => ?_)
    refine pk_eq z 0 (fun _ => ?_) (fun _ => ?_)
    · unfold wj_L_tells_419
      refine append_s s' (str_wd (k := 40) (by decide)) (by have := wl 40 (by decide); omega) (fun c2 f2 s2 => ?_)
      rw [List.append_assoc] at s2 ⊢
      exact hQ _ _ _ _ (hst _ end40) s2
    · unfold wj_L_tells_419
      refine append_s s' (str_wd (k := 41) (by decide)) (by have := wl 41 (by decide); omega) (fun c2 f2 s2 => ?_)
      rw [List.append_assoc] at s2 ⊢
      exact hQ _ _ _ _ (hst _ end41) s2
  unfold wp_L_tells
  refine ⟨pk_in 0 9 (by omega), nm_r (e' := nI d0) g0 ?_⟩
  refine pk_eq d0 0 (fun e0 => ?_) (fun e0 => ?_)
  · -- sort
    subst e0
    obtain ⟨g4, g5, g6, g7, g8⟩ := gs rfl
    have e160 : ∀ (X : List Nat) (c' : Nat) (f' : Nat → Int32) (k' : Int32) (r' : Nat → Int32), SbOk c' f' k' (t ++ X) → X.length ≤ 60 → (∀ g z, OpP g (fM e y) → EndOf z → StTx (0, d1, d2, d3, a, b, m, e, y) (X ++ (g ++ z))) → wj_L_tells_160 2 9 q Q r' c' f' k' := by
      intro X c' f' k' r' s' hX hst
      have hal : (t ++ X).length = t.length + X.length := List.length_append
      unfold wj_L_tells_160
      refine ⟨pk_in 7 9 (by omega), nm_r (e' := zI ((e : Int) - 1)) g7 ?_⟩
      refine zk_eq ((e : Int) - 1) (-1) (fun e1 => ?_) (fun e1 => ?_) rfl rfl
      · have ee : e = 0 := by omega
        refine e401 X c' f' k' r' s' (by omega) (fun z hz => ?_)
        have := hst [] z ⟨by rw [ee]; exact op_nil, fun x hx => absurd hx List.not_mem_nil, by decide⟩ hz
        rw [List.nil_append] at this; exact this
      · have ee : 1 ≤ e := by omega
        refine ⟨pk_in 7 9 (by omega), nm_r (e' := zI ((e : Int) - 1)) g7 ?_⟩
        have num : ∀ w, w < 42 → e ≠ 2 → OpP (wd w ++ dgs y) (fM e y) → wj_L_tells_196 2 9 q Q r' c' f' k' (tn w) (tb w) := by
          intro w hw hne hop
          have hwl := wl w hw
          have hdl := dl y (by omega)
          have hal2 : (t ++ X ++ wd w).length = t.length + X.length + (wd w).length := by rw [List.length_append, hal]
          unfold wj_L_tells_196
          refine append_s s' (str_wd (k := w) (by omega)) (by omega) (fun c2 f2 s2 => ?_)
          refine ⟨pk_in 7 9 (by omega), nm_r (e' := zI ((e : Int) - 1)) g7 ?_⟩
          refine zk_eq ((e : Int) - 1) 1 (fun q => absurd q (by omega)) (fun _ => ?_) rfl rfl
          refine sb_new (fun c3 f3 s3 => ?_)
          refine append_s s3 (str_wd (k := 19) (by decide)) (by decide) (fun c4 f4 s4 => ?_)
          refine ⟨pk_in 8 9 (by omega), nm_r (e' := nI y) g8 ?_⟩
          refine appendN_s s4 (by omega) (by decide) (fun c5 f5 s5 => ?_)
          refine toString_s s5 (by show (dgs y).length ≤ 900; omega) (fun f6 s6 => ?_)
          refine append_s s2 s6 (by show _ + (dgs y).length ≤ 900; omega) (fun c7 f7 s7 => ?_)
          have ea : t ++ X ++ wd w ++ ([] ++ wd 19 ++ dgs y) = t ++ (X ++ (wd w ++ dgs y)) := by
            rw [show [] ++ wd 19 ++ dgs y = dgs y from rfl]; simp only [List.append_assoc]
          rw [ea] at s7 ⊢
          refine e401 _ c7 f7 _ r' s7 (by rw [List.length_append, List.length_append]; omega) (fun z hz => ?_)
          rw [List.append_assoc]
          exact hst _ z hop hz
        refine zk_eq ((e : Int) - 1) 0 (fun e2 => ?_) (fun e2 => ?_) rfl rfl
        · have e3 : e = 1 := by omega
          refine num 28 (by decide) (by omega) ⟨by rw [e3]; exact op_bal by1 by2, (wd_asc 28 (by decide)).app (dgs_asc (by omega)), by have := wl 28 (by decide); have := dl y (by omega); rw [List.length_append]; omega⟩
        · refine ⟨pk_in 7 9 (by omega), nm_r (e' := zI ((e : Int) - 1)) g7 ?_⟩
          refine zk_eq ((e : Int) - 1) 1 (fun e4 => ?_) (fun e4 => ?_) rfl rfl
          · have e3 : e = 2 := by omega
            have hwl := wl 29 (by decide)
            have hal2 : (t ++ X ++ wd 29).length = t.length + X.length + (wd 29).length := by rw [List.length_append, hal]
            unfold wj_L_tells_196
            refine append_s s' (str_wd (k := 29) (by decide)) (by omega) (fun c2 f2 s2 => ?_)
            refine ⟨pk_in 7 9 (by omega), nm_r (e' := zI ((e : Int) - 1)) g7 ?_⟩
            refine zk_eq ((e : Int) - 1) 1 (fun _ => ?_) (fun q => absurd e4 q) rfl rfl
            refine append_s s2 (str_wd (k := 19) (by decide)) (by have := wl 19 (by decide); omega) (fun c3 f3 s3 => ?_)
            have ea : t ++ X ++ wd 29 ++ wd 19 = t ++ (X ++ (wd 29 ++ wd 19)) := by simp only [List.append_assoc]
            rw [ea] at s3 ⊢
            refine e401 _ c3 f3 _ r' s3 (by rw [List.length_append, List.length_append]; have := wl 19 (by decide); omega) (fun z hz => ?_)
            rw [List.append_assoc]
            exact hst _ z ⟨by rw [e3]; exact op_sho, (wd_asc 29 (by decide)).app (wd_asc 19 (by decide)), by decide⟩ hz
          · have e3 : e = 3 := by omega
            exact num 30 (by decide) (by omega) ⟨by rw [e3]; exact op_poly by1 by2, (wd_asc 30 (by decide)).app (dgs_asc (by omega)), by have := wl 30 (by decide); have := dl y (by omega); rw [List.length_append]; omega⟩
    have e86 : ∀ (X : List Nat) (c' : Nat) (f' : Nat → Int32) (k' : Int32) (r' : Nat → Int32), SbOk c' f' k' (t ++ X) → X.length ≤ 40 → (∀ u g z, OpP u (fR b m) → OpP g (fM e y) → EndOf z → StTx (0, d1, d2, d3, a, b, m, e, y) (X ++ (u ++ (g ++ z)))) → wj_L_tells_86 2 9 q Q r' c' f' k' := by
      intro X c' f' k' r' s' hX hst
      have hal : (t ++ X).length = t.length + X.length := List.length_append
      unfold wj_L_tells_86
      refine ⟨pk_in 5 9 (by omega), nm_r (e' := zI ((b : Int) - 1)) g5 ?_⟩
      refine zk_eq ((b : Int) - 1) (-1) (fun e1 => ?_) (fun e1 => ?_) rfl rfl
      · have ee : b = 0 := by omega
        refine e160 X c' f' k' r' s' (by omega) (fun g z hg hz => ?_)
        have := hst [] g z ⟨by rw [ee]; exact op_nil, fun x hx => absurd hx List.not_mem_nil, by decide⟩ hg hz
        rw [List.nil_append] at this; exact this
      · have ee : 1 ≤ b := by omega
        refine ⟨pk_in 5 9 (by omega), nm_r (e' := zI ((b : Int) - 1)) g5 ?_⟩
        have num : ∀ w, w < 42 → b ≠ 3 → OpP (wd w ++ dgs m) (fR b m) → wj_L_tells_119 2 9 q Q r' c' f' k' (tn w) (tb w) := by
          intro w hw hne hop
          have hwl := wl w hw
          have hdl := dl m (by omega)
          have hal2 : (t ++ X ++ wd w).length = t.length + X.length + (wd w).length := by rw [List.length_append, hal]
          unfold wj_L_tells_119
          refine append_s s' (str_wd (k := w) (by omega)) (by omega) (fun c2 f2 s2 => ?_)
          refine ⟨pk_in 5 9 (by omega), nm_r (e' := zI ((b : Int) - 1)) g5 ?_⟩
          refine zk_eq ((b : Int) - 1) 2 (fun q => absurd q (by omega)) (fun _ => ?_) rfl rfl
          refine sb_new (fun c3 f3 s3 => ?_)
          refine append_s s3 (str_wd (k := 19) (by decide)) (by decide) (fun c4 f4 s4 => ?_)
          refine ⟨pk_in 6 9 (by omega), nm_r (e' := nI m) g6 ?_⟩
          refine appendN_s s4 (by omega) (by decide) (fun c5 f5 s5 => ?_)
          refine toString_s s5 (by show (dgs m).length ≤ 900; omega) (fun f6 s6 => ?_)
          refine append_s s2 s6 (by show _ + (dgs m).length ≤ 900; omega) (fun c7 f7 s7 => ?_)
          have ea : t ++ X ++ wd w ++ ([] ++ wd 19 ++ dgs m) = t ++ (X ++ (wd w ++ dgs m)) := by
            rw [show [] ++ wd 19 ++ dgs m = dgs m from rfl]; simp only [List.append_assoc]
          rw [ea] at s7 ⊢
          refine e160 _ c7 f7 _ r' s7 (by rw [List.length_append, List.length_append]; omega) (fun g z hg hz => ?_)
          rw [List.append_assoc]
          exact hst _ g z hop hg hz
        refine zk_eq ((b : Int) - 1) 0 (fun e2 => ?_) (fun e2 => ?_) rfl rfl
        · have e3 : b = 1 := by omega
          refine num 25 (by decide) (by omega) ⟨by rw [e3]; exact op_full bm1 bm2, (wd_asc 25 (by decide)).app (dgs_asc (by omega)), by have := wl 25 (by decide); have := dl m (by omega); rw [List.length_append]; omega⟩
        · refine ⟨pk_in 5 9 (by omega), nm_r (e' := zI ((b : Int) - 1)) g5 ?_⟩
          refine zk_eq ((b : Int) - 1) 1 (fun e4 => ?_) (fun e4 => ?_) rfl rfl
          · have e3 : b = 2 := by omega
            exact num 26 (by decide) (by omega) ⟨by rw [e3]; exact op_repl bm1 bm2, (wd_asc 26 (by decide)).app (dgs_asc (by omega)), by have := wl 26 (by decide); have := dl m (by omega); rw [List.length_append]; omega⟩
          · have e3 : b = 3 := by omega
            have hwl := wl 27 (by decide)
            have hal2 : (t ++ X ++ wd 27).length = t.length + X.length + (wd 27).length := by rw [List.length_append, hal]
            unfold wj_L_tells_119
            refine append_s s' (str_wd (k := 27) (by decide)) (by omega) (fun c2 f2 s2 => ?_)
            refine ⟨pk_in 5 9 (by omega), nm_r (e' := zI ((b : Int) - 1)) g5 ?_⟩
            refine zk_eq ((b : Int) - 1) 2 (fun _ => ?_) (fun q => absurd (by omega) q) rfl rfl
            refine append_s s2 (str_wd (k := 19) (by decide)) (by have := wl 19 (by decide); omega) (fun c3 f3 s3 => ?_)
            have ea : t ++ X ++ wd 27 ++ wd 19 = t ++ (X ++ (wd 27 ++ wd 19)) := by simp only [List.append_assoc]
            rw [ea] at s3 ⊢
            refine e160 _ c3 f3 _ r' s3 (by rw [List.length_append, List.length_append]; have := wl 19 (by decide); omega) (fun g z hg hz => ?_)
            rw [List.append_assoc]
            exact hst _ g z ⟨by rw [e3]; exact op_nat, (wd_asc 27 (by decide)).app (wd_asc 19 (by decide)), by decide⟩ hg hz
    -- the word, the tapes
    have hd1 := dl d1 (by omega)
    have hd2 := dl d2 (by omega)
    have w20 := wl 20 (by decide)
    refine append_s hS (str_wd (k := 20) (by decide)) (by omega) (fun c2 f2 s2 => ?_)
    refine ⟨pk_in 1 9 (by omega), nm_r (e' := nI d1) g1 ?_⟩
    refine appendN_s s2 (by omega) (by rw [List.length_append]; omega) (fun c3 f3 s3 => ?_)
    refine draw_w (m := 3) (by decide) (by decide) (fun z r2 hz => ?_)
    have e33 : ∀ (w j : Nat), w < 42 → wd w = List.replicate j 32 ++ (wd 9 ++ List.replicate j 32) → wj_L_tells_33 2 9 q Q c3 f3 (nI (t ++ wd 20 ++ dgs d1).length) r2 (tn w) (tb w) := by
      intro w j hw hwj
      have hwl := wl w hw
      unfold wj_L_tells_33
      refine append_s s3 (str_wd (k := w) (by omega)) (by rw [List.length_append, List.length_append]; omega) (fun c4 f4 s4 => ?_)
      refine ⟨pk_in 2 9 (by omega), nm_r (e' := nI d2) g2 ?_⟩
      refine appendN_s s4 (by omega) (by rw [List.length_append, List.length_append, List.length_append]; omega) (fun c5 f5 s5 => ?_)
      have ea : t ++ wd 20 ++ dgs d1 ++ wd w ++ dgs d2 = t ++ (wd 20 ++ (dgs d1 ++ (wd w ++ dgs d2))) := by simp only [List.append_assoc]
      rw [ea] at s5 ⊢
      obtain ⟨Y, hY⟩ : ∃ Y, Y = wd 20 ++ (dgs d1 ++ (wd w ++ dgs d2)) := ⟨_, rfl⟩
      have hYl : Y.length ≤ 24 := by
        rw [hY, List.length_append, List.length_append, List.length_append]; omega
      have hYa : Asc Y := by
        rw [hY]; exact (wd_asc 20 (by decide)).app ((dgs_asc (by omega)).app ((wd_asc w (by omega)).app (dgs_asc (by omega))))
      rw [← hY] at s5 ⊢
      -- any options behind the tapes make a statement
      have fin : ∀ o u g z, OpP o (fO a) → OpP u (fR b m) → OpP g (fM e y) → EndOf z → StTx (0, d1, d2, d3, a, b, m, e, y) (Y ++ (o ++ (u ++ (g ++ z)))) := by
        intro o u g z ⟨o1, o2, o3⟩ ⟨u1, u2, u3⟩ ⟨m1, m2, m3⟩ hz
        have hza := hz.asc
        refine ⟨hYa.app (o2.app (u2.app (m2.app hza.1))), ?_, ?_, fun n r T => ?_⟩
        · rw [hY, List.length_append, List.length_append]
          have : 1 ≤ (wd 20).length := by decide
          omega
        · rw [List.length_append, List.length_append, List.length_append, List.length_append]; omega
        · have h0 := hz.opts r (fM e y (fR b m (fO a T)))
          have hh := hz.hd r
          obtain ⟨c1, x1, x2⟩ := m1.2 (z ++ r) r _ _ 0 hh h0
          obtain ⟨c2, x3, x4⟩ := u1.2 (g ++ (z ++ r)) r _ _ c1 (m1.1 _ hh) x2
          obtain ⟨c3, x5, x6⟩ := o1.2 (u ++ (g ++ (z ++ r))) r _ _ c2 (u1.1 _ (m1.1 _ hh)) x4
          have st := Stm.sort n 1 j j d1 d2 c3 (dgs d1) (dgs d2) (o ++ (u ++ (g ++ (z ++ r)))) r T _ (dg_v (by omega)) (dg_v (by omega)) (by omega) (by omega) (Or.inr (o1.1 _ (u1.1 _ (m1.1 _ hh))).2) (by omega) x6
          have el : Y ++ (o ++ (u ++ (g ++ z))) ++ r = wd 0 ++ (List.replicate 1 32 ++ (dgs d1 ++ (List.replicate j 32 ++ (wd 9 ++ (List.replicate j 32 ++ (dgs d2 ++ (o ++ (u ++ (g ++ (z ++ r)))))))))) := by
            rw [hY, hwj, show wd 20 = wd 0 ++ List.replicate 1 32 from rfl]
            simp only [List.append_assoc]
          rw [el]
          exact st
      refine ⟨pk_in 4 9 (by omega), nm_r (e' := zI ((a : Int) - 1)) g4 ?_⟩
      refine zk_eq ((a : Int) - 1) (-1) (fun e1 => ?_) (fun e1 => ?_) rfl rfl
      · have ee : a = 0 := by omega
        refine e86 Y c5 f5 _ r2 s5 (by omega) (fun u g z hu hg hz => ?_)
        have := fin [] u g z ⟨by rw [ee]; exact op_nil, fun x hx => absurd hx List.not_mem_nil, by decide⟩ hu hg hz
        rw [List.nil_append] at this; exact this
      · refine draw_w (m := 3) (by decide) (by decide) (fun z2 r3 hz2 => ?_)
        have hal : (t ++ Y).length = t.length + Y.length := List.length_append
        have e66 : ∀ p, p < 42 → (∀ w2 F, (w2 = 23 ∧ F = (fun T : Tl => ((0 : Int32), T.r, T.m, T.w, T.y)) ∨ w2 = 24 ∧ F = (fun T : Tl => ((1 : Int32), T.r, T.m, T.w, T.y))) → Op (wd p ++ wd w2) F) → (wd p).length ≤ 8 → wj_L_tells_66 2 9 q Q c5 f5 (nI (t ++ Y).length) r3 (tn p) (tb p) := by
          intro p hp hop hpl
          unfold wj_L_tells_66
          refine append_s s5 (str_wd (k := p) (by omega)) (by omega) (fun c6 f6 s6 => ?_)
          refine ⟨pk_in 4 9 (by omega), nm_r (e' := zI ((a : Int) - 1)) g4 ?_⟩
          have e82 : ∀ w2, w2 < 42 → (wd w2).length ≤ 5 → Op (wd p ++ wd w2) (fO a) → wj_L_tells_82 2 9 q Q r3 c6 f6 (nI (t ++ Y ++ wd p).length) (tn w2) (tb w2) := by
            intro w2 hw2 hl2 hop2
            unfold wj_L_tells_82
            refine append_s s6 (str_wd (k := w2) (by omega)) (by rw [List.length_append]; omega) (fun c7 f7 s7 => ?_)
            have ea : t ++ Y ++ wd p ++ wd w2 = t ++ (Y ++ (wd p ++ wd w2)) := by simp only [List.append_assoc]
            rw [ea] at s7 ⊢
            refine e86 _ c7 f7 _ r3 s7 (by rw [List.length_append, List.length_append]; omega) (fun u g z hu hg hz => ?_)
            rw [List.append_assoc]
            exact fin _ u g z ⟨hop2, (wd_asc p (by omega)).app (wd_asc w2 (by omega)), by rw [List.length_append]; omega⟩ hu hg hz
          refine zk_eq ((a : Int) - 1) 0 (fun e2 => ?_) (fun e2 => ?_) rfl rfl
          · have e3 : a = 1 := by omega
            exact e82 23 (by decide) (by decide) (by rw [e3]; exact hop 23 _ (Or.inl ⟨rfl, rfl⟩))
          · have e3 : a = 2 := by omega
            exact e82 24 (by decide) (by decide) (by rw [e3]; exact hop 24 _ (Or.inr ⟨rfl, rfl⟩))
        refine pk_eq z2 0 (fun _ => ?_) (fun _ => ?_)
        · refine e66 22 (by decide) (fun w2 F hF => ?_) (by decide)
          rcases hF with ⟨rfl, rfl⟩ | ⟨rfl, rfl⟩
          · exact op_udu
          · exact op_udd
        · refine e66 19 (by decide) (fun w2 F hF => ?_) (by decide)
          rcases hF with ⟨rfl, rfl⟩ | ⟨rfl, rfl⟩
          · exact op_up
          · exact op_down
    exact pk_eq z 0 (fun _ => e33 9 0 (by decide) rfl) (fun _ => e33 21 1 (by decide) rfl)
  · have hd1 := dl d1 (by omega)
    have hd2 := dl d2 (by omega)
    have hd3 := dl d3 (by omega)
    refine ⟨pk_in 0 9 (by omega), nm_r (e' := nI d0) g0 ?_⟩
    have tl : ∀ T : Tl, tlD (d0, d1, d2, d3, a, b, m, e, y) T = T := fun T => by
      unfold tlD; rw [if_neg e0]
    refine pk_le 4 d0 (fun e4 => ?_) (fun e4 => ?_)
    · refine ⟨pk_in 0 9 (by omega), nm_r (e' := nI d0) g0 ?_⟩
      refine pk_eq d0 4 (fun e5 => ?_) (fun e5 => ?_)
      · -- copy
        subst e5
        have w34 := wl 34 (by decide)
        have w35 := wl 35 (by decide)
        refine append_s hS (str_wd (k := 34) (by decide)) (by omega) (fun c2 f2 s2 => ?_)
        refine ⟨pk_in 1 9 (by omega), nm_r (e' := nI d1) g1 ?_⟩
        refine appendN_s s2 (by omega) (by rw [List.length_append]; omega) (fun c3 f3 s3 => ?_)
        refine append_s s3 (str_wd (k := 35) (by decide)) (by rw [List.length_append, List.length_append]; omega) (fun c4 f4 s4 => ?_)
        refine ⟨pk_in 3 9 (by omega), nm_r (e' := nI d3) g3 ?_⟩
        refine appendN_s s4 (by omega) (by rw [List.length_append, List.length_append, List.length_append]; omega) (fun c5 f5 s5 => ?_)
        have ea : t ++ wd 34 ++ dgs d1 ++ wd 35 ++ dgs d3 = t ++ (wd 34 ++ (dgs d1 ++ (wd 35 ++ dgs d3))) := by simp only [List.append_assoc]
        rw [ea] at s5 ⊢
        refine e401 _ c5 f5 _ r s5 (by rw [List.length_append, List.length_append, List.length_append]; omega) (fun z hz => ?_)
        have hza := hz.asc
        refine ⟨((wd_asc 34 (by decide)).app ((dgs_asc (by omega)).app ((wd_asc 35 (by decide)).app (dgs_asc (by omega))))).app hza.1, ?_, ?_, fun n r' T => ?_⟩
        · rw [List.length_append, List.length_append]
          have : 1 ≤ (wd 34).length := by decide
          omega
        · rw [List.length_append, List.length_append, List.length_append, List.length_append]; omega
        · obtain ⟨n4, hn4, rfl⟩ := hz
          rw [tl]
          have st := Stm.copy n 1 1 0 n4 d1 d3 (dgs d1) (dgs d3) r' T (dg_v (by omega)) (dg_v (by omega)) (by omega) (by omega)
          have el : wd 34 ++ (dgs d1 ++ (wd 35 ++ dgs d3)) ++ (List.replicate n4 32 ++ [59]) ++ r' = wd 1 ++ (List.replicate 1 32 ++ (dgs d1 ++ (List.replicate 1 32 ++ (wd 9 ++ (List.replicate 0 32 ++ (dgs d3 ++ (List.replicate n4 32 ++ ([59] ++ r')))))))) := by
            rw [show wd 34 = wd 1 ++ List.replicate 1 32 from rfl, show wd 35 = List.replicate 1 32 ++ wd 9 from rfl]
            simp only [List.append_assoc, List.replicate_zero, List.nil_append]
          rw [el]
          exact st
      · have one : ∀ (w kk : Nat), w < 42 → wd w = wd kk ++ List.replicate 1 32 → (kk = 5 ∨ kk = 6 ∨ kk = 7 ∨ kk = 8) → kD (d0, d1, d2, d3, a, b, m, e, y) = kk → wj_L_tells_391 2 r c f k 9 q Q (tn w) (tb w) := by
          intro w kk hw hwk hkk hkD
          have hwl := wl w hw
          have hw1 : 1 ≤ (wd w).length := by rw [hwk, List.length_append, List.length_replicate]; omega
          unfold wj_L_tells_391
          refine append_s hS (str_wd (k := w) (by omega)) (by omega) (fun c2 f2 s2 => ?_)
          refine ⟨pk_in 1 9 (by omega), nm_r (e' := nI d1) g1 ?_⟩
          refine appendN_s s2 (by omega) (by rw [List.length_append]; omega) (fun c3 f3 s3 => ?_)
          rw [List.append_assoc] at s3 ⊢
          refine e401 _ c3 f3 _ r s3 (by rw [List.length_append]; omega) (fun z hz => ?_)
          have hza := hz.asc
          refine ⟨((wd_asc w (by omega)).app (dgs_asc (by omega))).app hza.1, by rw [List.length_append, List.length_append]; omega, by rw [List.length_append, List.length_append]; omega, fun n r' T => ?_⟩
          obtain ⟨n4, hn4, rfl⟩ := hz
          rw [tl, hkD]
          have st := Stm.one kk n 1 n4 d1 (dgs d1) r' T hkk (dg_v (by omega)) (by omega)
          have el : wd w ++ dgs d1 ++ (List.replicate n4 32 ++ [59]) ++ r' = wd kk ++ (List.replicate 1 32 ++ (dgs d1 ++ (List.replicate n4 32 ++ ([59] ++ r')))) := by
            rw [hwk]; simp only [List.append_assoc]
          rw [el]
          have z2 : v2D (d0, d1, d2, d3, a, b, m, e, y) = 0 := by unfold v2D; rw [if_neg (by show ¬ (1 ≤ d0 ∧ d0 < 4); omega)]
          have z3 : v3D (d0, d1, d2, d3, a, b, m, e, y) = 0 := by unfold v3D; rw [if_neg e0, if_neg (by show ¬ d0 < 5; omega)]
          rw [z2, z3]
          exact st
        refine ⟨pk_in 0 9 (by omega), nm_r (e' := nI d0) g0 ?_⟩
        refine pk_eq d0 5 (fun e6 => ?_) (fun e6 => ?_)
        · exact one 36 6 (by decide) rfl (by omega) (by subst e6; rfl)
        · refine ⟨pk_in 0 9 (by omega), nm_r (e' := nI d0) g0 ?_⟩
          refine pk_eq d0 6 (fun e7 => ?_) (fun e7 => ?_)
          · exact one 37 5 (by decide) rfl (by omega) (by subst e7; rfl)
          · refine ⟨pk_in 0 9 (by omega), nm_r (e' := nI d0) g0 ?_⟩
            refine pk_eq d0 7 (fun e8 => ?_) (fun e8 => ?_)
            · exact one 38 7 (by decide) rfl (by omega) (by subst e8; rfl)
            · have e9 : d0 = 8 := by omega
              exact one 39 8 (by decide) rfl (by omega) (by subst e9; rfl)
    · -- two tapes
      have two : ∀ w kk, w < 42 → wd w = wd kk ++ List.replicate 1 32 → kk = d0 + 1 → wj_L_tells_275 2 r c f k 9 q Q (tn w) (tb w) := by
        intro w kk hw hwk hkk
        have hwl := wl w hw
        have hw1 : 1 ≤ (wd w).length := by rw [hwk, List.length_append, List.length_replicate]; omega
        have w18 := wl 18 (by decide)
        have w21 := wl 21 (by decide)
        unfold wj_L_tells_275
        refine append_s hS (str_wd (k := w) (by omega)) (by omega) (fun c2 f2 s2 => ?_)
        refine ⟨pk_in 1 9 (by omega), nm_r (e' := nI d1) g1 ?_⟩
        refine appendN_s s2 (by omega) (by rw [List.length_append]; omega) (fun c3 f3 s3 => ?_)
        refine append_s s3 (str_wd (k := 18) (by decide)) (by rw [List.length_append, List.length_append]; omega) (fun c4 f4 s4 => ?_)
        refine ⟨pk_in 2 9 (by omega), nm_r (e' := nI d2) g2 ?_⟩
        refine appendN_s s4 (by omega) (by rw [List.length_append, List.length_append, List.length_append]; omega) (fun c5 f5 s5 => ?_)
        refine append_s s5 (str_wd (k := 21) (by decide)) (by rw [List.length_append, List.length_append, List.length_append, List.length_append]; omega) (fun c6 f6 s6 => ?_)
        refine ⟨pk_in 3 9 (by omega), nm_r (e' := nI d3) g3 ?_⟩
        refine appendN_s s6 (by omega) (by rw [List.length_append, List.length_append, List.length_append, List.length_append, List.length_append]; omega) (fun c7 f7 s7 => ?_)
        have ea : t ++ wd w ++ dgs d1 ++ wd 18 ++ dgs d2 ++ wd 21 ++ dgs d3 = t ++ (wd w ++ (dgs d1 ++ (wd 18 ++ (dgs d2 ++ (wd 21 ++ dgs d3))))) := by simp only [List.append_assoc]
        rw [ea] at s7 ⊢
        refine e401 _ c7 f7 _ r s7 (by rw [List.length_append, List.length_append, List.length_append, List.length_append, List.length_append]; omega) (fun z hz => ?_)
        have hza := hz.asc
        refine ⟨((wd_asc w (by omega)).app ((dgs_asc (by omega)).app ((wd_asc 18 (by decide)).app ((dgs_asc (by omega)).app ((wd_asc 21 (by decide)).app (dgs_asc (by omega))))))).app hza.1, by rw [List.length_append, List.length_append]; omega, by rw [List.length_append, List.length_append, List.length_append, List.length_append, List.length_append, List.length_append]; omega, fun n r' T => ?_⟩
        obtain ⟨n4, hn4, rfl⟩ := hz
        have hkD : kD (d0, d1, d2, d3, a, b, m, e, y) = kk := by
          unfold kD; rw [if_neg e0, if_pos (by show d0 < 4; omega), hkk]
        have z2 : v2D (d0, d1, d2, d3, a, b, m, e, y) = d2 := by unfold v2D; rw [if_pos (by show 1 ≤ d0 ∧ d0 < 4; omega)]
        have z3 : v3D (d0, d1, d2, d3, a, b, m, e, y) = d3 := by unfold v3D; rw [if_neg e0, if_pos (by show d0 < 5; omega)]
        rw [tl, hkD, z2, z3]
        have st := Stm.comb kk n 1 0 1 1 n4 d1 d2 d3 (dgs d1) (dgs d2) (dgs d3) r' T (by omega) (dg_v (by omega)) (dg_v (by omega)) (dg_v (by omega)) (by omega) (by omega) (by omega)
        have el : wd w ++ (dgs d1 ++ (wd 18 ++ (dgs d2 ++ (wd 21 ++ dgs d3)))) ++ (List.replicate n4 32 ++ [59]) ++ r' = wd kk ++ (List.replicate 1 32 ++ (dgs d1 ++ (List.replicate (0 + 1) 32 ++ (dgs d2 ++ (List.replicate 1 32 ++ (wd 9 ++ (List.replicate 1 32 ++ (dgs d3 ++ (List.replicate n4 32 ++ ([59] ++ r')))))))))) := by
          rw [hwk, show wd 18 = List.replicate (0 + 1) 32 from rfl, show wd 21 = List.replicate 1 32 ++ (wd 9 ++ List.replicate 1 32) from rfl]
          simp only [List.append_assoc]
        rw [el]
        exact st
      refine ⟨pk_in 0 9 (by omega), nm_r (e' := nI d0) g0 ?_⟩
      refine pk_eq d0 1 (fun e6 => two 31 2 (by decide) rfl (by omega)) (fun e6 => ?_)
      refine ⟨pk_in 0 9 (by omega), nm_r (e' := nI d0) g0 ?_⟩
      refine pk_eq d0 2 (fun e7 => two 32 3 (by decide) rfl (by omega)) (fun e7 => two 33 4 (by decide) rfl (by omega))
