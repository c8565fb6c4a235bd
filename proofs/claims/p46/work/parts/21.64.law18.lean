/-! typing a text -/
theorem nI_neg {z : Nat} (hz : z < 2 ^ 31) : ¬ (nI z) < 0 := fun q => by
  have := Int32.lt_iff_toInt_lt.mp q
  rw [nI_toInt hz, show (0 : Int32).toInt = 0 by decide] at this
  omega
theorem nI_n4 {i : Nat} (hi : i < 2 ^ 20) : ¬ nI (i + 1) = -20004 := fun q => by
  have := congrArg Int32.toInt q
  rw [nI_toInt (by omega), show (-20004 : Int32).toInt = -20004 by decide] at this
  omega
theorem says_t_w {o : OS} {ks : Nat → Int} {c : Nat} {T : Nat → List Nat} {s : SS} {tx : List Nat} {J : Option JS} {n : Nat} {f : Nat → Int32} {w : List Nat} {Q : OS → Prop} (h : Off o ks c T s tx J) (hw : StrOk n f w) (hl : w.length ≤ 160) (hQ : ∀ o', Off o' ks c T s w J → Q o') : wp_L_says_t o n f Q := by
  have htl : tx.length ≤ 160 := h.2.2.1.2.1
  have hn := hw.1
  unfold wp_L_says_t
  refine clearText_o h (fun o1 h1 => ⟨w.length + 1, by omega, ?_⟩)
  have key : ∀ (d i : Nat) (o' : OS), i + d = w.length → Off o' ks c T s (w.take i) J → wl_L_says_t_7 n f (wx_L_says_t_7_54 Q) (d + 1) (nI i) o' (nI tx.length) := by
    intro d
    induction d with
    | zero =>
      intro i o' hi h'
      rw [wl_L_says_t_7_s]
      refine length_s ?_
      refine pk_le n i (fun _ => ?_) (fun q => absurd q (by omega))
      rw [List.take_of_length_le (by omega)] at h'
      exact hQ o' h'
    | succ d ih =>
      intro i o' hi h'
      have hiw : i < w.length := by omega
      have hx := hw.2.2 _ (getD_mem hiw)
      have hti : (w.take i).length = i := by rw [List.length_take]; omega
      rw [wl_L_says_t_7_s]
      refine length_s ?_
      refine pk_le n i (fun q => absurd q (by omega)) (fun _ => ?_)
      refine ⟨fun q => absurd q (nI_neg (by omega)), fun _ => ?_⟩
      refine charAt_t hw (by omega) (by omega) ?_
      unfold wp_L_asks_17
      rw [nI_l (by omega)]
      refine type_o h' (by omega) (by omega) (fun _ o2 h2 => ?_) (fun q => absurd (by omega) q)
      refine ⟨fun q => absurd q (by rw [hti]; exact nI_n4 (by omega)), fun _ => ?_⟩
      refine nm_r (e' := nI (i + 1)) (nI_1 _) ?_
      rw [← take_snoc hiw] at h2
      exact ih (i + 1) o2 (by omega) h2
  exact key _ 0 o1 (by omega) h1
theorem says_b_w {o : OS} {ks : Nat → Int} {c : Nat} {T : Nat → List Nat} {s : SS} {tx : List Nat} {J : Option JS} {cc : Nat} {f : Nat → Int32} {k : Int32} {w : List Nat} {Q : OS → Prop} (h : Off o ks c T s tx J) (hw : SbOk cc f k w) (hl : w.length ≤ 160) (hQ : ∀ o', Off o' ks c T s w J → Q o') : wp_L_says_b o cc f k Q := by
  have htl : tx.length ≤ 160 := h.2.2.1.2.1
  unfold wp_L_says_b
  refine clearText_o h (fun o1 h1 => ⟨w.length + 1, by omega, ?_⟩)
  have key : ∀ (d i : Nat) (o' : OS), i + d = w.length → Off o' ks c T s (w.take i) J → wl_L_says_b_7 cc f k (wx_L_says_b_7_54 Q) (d + 1) (nI i) o' (nI tx.length) := by
    intro d
    induction d with
    | zero =>
      intro i o' hi h'
      rw [wl_L_says_b_7_s]
      refine length_b ?_
      rw [hw.1]
      refine pk_le w.length i (fun _ => ?_) (fun q => absurd q (by omega))
      rw [List.take_of_length_le (by omega)] at h'
      exact hQ o' h'
    | succ d ih =>
      intro i o' hi h'
      have hiw : i < w.length := by omega
      have hx := hw.2.2.2.2.1 _ (getD_mem hiw)
      have hti : (w.take i).length = i := by rw [List.length_take]; omega
      rw [wl_L_says_b_7_s]
      refine length_b ?_
      have hk := hw.1
      rw [hk]
      refine pk_le w.length i (fun q => absurd q (by omega)) (fun _ => ?_)
      refine ⟨fun q => absurd q (nI_neg (by omega)), fun _ => ?_⟩
      rw [← hk]
      refine charAt_b hw (by omega) hiw ?_
      unfold wp_L_asks_17
      rw [nI_l (by omega)]
      refine type_o h' (by omega) (by omega) (fun _ o2 h2 => ?_) (fun q => absurd (by omega) q)
      refine ⟨fun q => absurd q (by rw [hti]; exact nI_n4 (by omega)), fun _ => ?_⟩
      refine nm_r (e' := nI (i + 1)) (nI_1 _) ?_
      rw [← take_snoc hiw] at h2
      exact ih (i + 1) o2 (by omega) h2
  exact key _ 0 o1 (by omega) h1
/-! wrong texts told -/
theorem wrongK {o : OS} {ks : Nat → Int} {c : Nat} {T : Nat → List Nat} {s : SS} {tx : List Nat} {J : Option JS} {A B kind pl m : Nat} {xt : List Nat} {kf pf : Int32} {r' : Nat → Int32} {Q : Bool → (Nat → Int32) → OS → Prop} (h : Off o ks c T s tx J) (hA : A < 61) (hB : B < 61) (hx : wd A ++ wd B = xt) (hP : ∀ T : Tl, PrgB xt T kind pl xt m) (hm : m ≤ 100) (hl : xt.length ≤ 100) (hk : nI kind ≠ 0) (e1 : kf = nI kind) (e2 : pf = nI pl) (hQ : ∀ o', Off o' ks c T s xt J → Q true r' o') :
    wp_J4_init_da8c8 (fun c_1 f_1 k_1 => wp_J4_append_15ec4 c_1 f_1 k_1 (tn A) (tb A) (fun c_2 f_2 k_2 => wp_J4_append_15ec4 c_2 f_2 k_2 (tn B) (tb B) (fun c_3 f_3 k_3 => wp_J4_toString_0e30d c_3 f_3 k_3 (fun n_4 f_4 => wp_L_says_t o n_4 f_4 (fun o_1 => ow_errorKind o_1 (fun r_1 o_2 => (∀ x_1 : Int32, x_1 = kf → ((r_1 = x_1 → ow_errorPlace o_2 (fun r_2 o_3 => (∀ x_2 : Int32, x_2 = pf → ((r_2 = x_2 → wp_L_asks_16 o_3 (fun r_3 o_4 => ((r_3 = (-20004) → Q true r' o_4) ∧ (¬ r_3 = (-20004) → Q false r' o_4)))) ∧ (¬ r_2 = x_2 → Q false r' o_3)))) (fun _ _ => False)) ∧ (¬ r_1 = x_1 → Q false r' o_2)))) (fun _ _ => False)))))) := by
  have hab : (wd A ++ wd B).length = (wd A).length + (wd B).length := List.length_append
  rw [hx] at hab
  refine sb_new (fun c1 f1 s1 => ?_)
  refine append_s s1 (str_wd hA) (by simp; omega) (fun c2 f2 s2 => ?_)
  rw [List.nil_append] at s2 ⊢
  refine append_s s2 (str_wd hB) (by omega) (fun c3 f3 s3 => ?_)
  rw [hx] at s3 ⊢
  refine toString_s s3 (by omega) (fun f4 s4 => ?_)
  refine says_t_w h s4 (by omega) (fun o1 h1 => ?_)
  refine errorKind_x h1 (hP _) hm hk (fun o2 h2 => ?_)
  refine nm_r (e' := nI kind) e1 ⟨fun _ => ?_, fun z => absurd rfl z⟩
  refine errorPlace_x h2 (hP _) hm hk (fun o3 h3 => ?_)
  refine nm_r (e' := nI pl) e2 ⟨fun _ => ?_, fun z => absurd rfl z⟩
  unfold wp_L_asks_16
  exact run_x h3 (hP _) hm hk (fun o4 h4 => Or.inr (Or.inr (Or.inr ⟨rfl, fun _ => hQ o4 h4, fun z => absurd rfl z⟩)))
theorem isWrong_w {o : OS} {ks : Nat → Int} {c : Nat} {T : Nat → List Nat} {s : SS} {tx : List Nat} {J : Option JS} {r : Nat → Int32} {Q : Bool → (Nat → Int32) → OS → Prop} (h : Off o ks c T s tx J) (hQ : ∀ r' o' tx', Off o' ks c T s tx' J → Q true r' o') : wp_L_isWrong o 2 r Q := by
  unfold wp_L_isWrong
  intro f103 e103 f104 e104
  refine draw_w (m := 11) (by decide) (by decide) (fun a r2 ha => ?_)
  refine ⟨fun _ => wrongK (A := 42) (B := 52) (kind := 2) (pl := 12) (m := 0) (xt := xt0) h (by decide) (by decide) rfl prgB0 (by decide) (by decide) (by decide) (by rw [e103]; rfl) (by rw [e104]; rfl) (fun o' h' => hQ r2 o' _ h'), fun _ => wrongK (A := 43) (B := 53) (kind := 1) (pl := 8) (m := 1) (xt := xt1) h (by decide) (by decide) rfl prgB1 (by decide) (by decide) (by decide) (by rw [e103]; rfl) (by rw [e104]; rfl) (fun o' h' => hQ r2 o' _ h'), fun _ => wrongK (A := 44) (B := 54) (kind := 2) (pl := 19) (m := 0) (xt := xt2) h (by decide) (by decide) rfl prgB2 (by decide) (by decide) (by decide) (by rw [e103]; rfl) (by rw [e104]; rfl) (fun o' h' => hQ r2 o' _ h'), fun _ => wrongK (A := 45) (B := 55) (kind := 2) (pl := 19) (m := 0) (xt := xt3) h (by decide) (by decide) rfl prgB3 (by decide) (by decide) (by decide) (by rw [e103]; rfl) (by rw [e104]; rfl) (fun o' h' => hQ r2 o' _ h'), fun _ => wrongK (A := 46) (B := 56) (kind := 1) (pl := 7) (m := 0) (xt := xt4) h (by decide) (by decide) rfl prgB4 (by decide) (by decide) (by decide) (by rw [e103]; rfl) (by rw [e104]; rfl) (fun o' h' => hQ r2 o' _ h'), fun _ => wrongK (A := 36) (B := 19) (kind := 1) (pl := 6) (m := 0) (xt := xt5) h (by decide) (by decide) rfl prgB5 (by decide) (by decide) (by decide) (by rw [e103]; rfl) (by rw [e104]; rfl) (fun o' h' => hQ r2 o' _ h'), fun _ => wrongK (A := 47) (B := 57) (kind := 1) (pl := 8) (m := 0) (xt := xt6) h (by decide) (by decide) rfl prgB6 (by decide) (by decide) (by decide) (by rw [e103]; rfl) (by rw [e104]; rfl) (fun o' h' => hQ r2 o' _ h'), fun _ => wrongK (A := 48) (B := 58) (kind := 1) (pl := 17) (m := 0) (xt := xt7) h (by decide) (by decide) rfl prgB7 (by decide) (by decide) (by decide) (by rw [e103]; rfl) (by rw [e104]; rfl) (fun o' h' => hQ r2 o' _ h'), fun _ => wrongK (A := 49) (B := 59) (kind := 1) (pl := 17) (m := 0) (xt := xt8) h (by decide) (by decide) rfl prgB8 (by decide) (by decide) (by decide) (by rw [e103]; rfl) (by rw [e104]; rfl) (fun o' h' => hQ r2 o' _ h'), fun _ => wrongK (A := 50) (B := 60) (kind := 1) (pl := 7) (m := 1) (xt := xt9) h (by decide) (by decide) rfl prgB9 (by decide) (by decide) (by decide) (by rw [e103]; rfl) (by rw [e104]; rfl) (fun o' h' => hQ r2 o' _ h'), fun _ => wrongK (A := 51) (B := 41) (kind := 1) (pl := 14) (m := 0) (xt := xt10) h (by decide) (by decide) rfl prgB10 (by decide) (by decide) (by decide) (by rw [e103]; rfl) (by rw [e104]; rfl) (fun o' h' => hQ r2 o' _ h'), fun q => ?_⟩
  rw [nI_toInt (by omega)] at q
  omega
