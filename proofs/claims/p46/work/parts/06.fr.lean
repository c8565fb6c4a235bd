theorem A_part {X cx pl : va_W} {sz : Nat} (isC : List Nat) (hC : isC.map (fun i => X[i]?) = cx.map some) : ∀ q, va_A (cx ++ pl) sz q → va_A (X ++ pl) sz q := by
  rintro q (⟨k, e, h⟩ | h)
  · exact Or.inl ⟨_, e, va_part isC hC k _ h⟩
  · exact Or.inr h
theorem A_partQ {X cx pl : va_W} {sz : Nat} (isC : List Nat) (hC : isC.map (fun i => X[i]?) = cx.map some) : ∀ q, va_A cx sz q → va_A (X ++ pl) sz q := by
  rintro q (⟨k, e, h⟩ | h)
  · obtain ⟨i, h1, h2⟩ := va_in_of isC hC h
    exact Or.inl ⟨i, e, by rw [List.getElem?_append_left (List.getElem?_eq_some_iff.mp h2).1]; exact h2⟩
  · exact Or.inr h
theorem D_pre {A : Nat → Prop} {w1 w2 : va_W} (h : va_D A (w1 ++ w2)) : va_D A w1 := by
  have e : ∀ (k : Nat) (q : Nat × va_E), w1[k]? = some q → (w1 ++ w2)[k]? = some q := fun k q hk => by rw [List.getElem?_append_left (List.getElem?_eq_some_iff.mp hk).1]; exact hk
  exact ⟨fun i j p q hi hj => h.1 i j p q (e i p hi) (e j q hj), fun k q hk => h.2 k q (e k q hk)⟩
theorem P_pre {D : va_G} {cl : List vw_C} {w1 w2 : va_W} {H : Heap} (h : va_P D cl (w1 ++ w2) H) : va_P D cl w1 H := fun k q hk => h k q (by rw [List.getElem?_append_left (List.getElem?_eq_some_iff.mp hk).1]; exact hk)
theorem PG_part {D : va_G} {g : Nat → ClassId} {X cx pl : va_W} {sz : Nat} {U : State} (isC : List Nat) (hC : isC.map (fun i => X[i]?) = cx.map some) (hn : va_nd isC = true) (h : PG D g (X ++ pl) sz U) : PG D g (cx ++ pl) sz U :=
  ⟨h.1, h.2.1.part isC hC, h.2.2.1, h.2.2.2.1.part isC hn hC, h.2.2.2.2.go (State.WarmedH.refl U) rfl va_S.rf (A_part isC hC)⟩
theorem PG_partQ {D : va_G} {g : Nat → ClassId} {X cx pl : va_W} {sz : Nat} {U : State} (isC : List Nat) (hC : isC.map (fun i => X[i]?) = cx.map some) (hn : va_nd isC = true) (h : PG D g (X ++ pl) sz U) : PG D g cx sz U :=
  ⟨h.1, P_pre (h.2.1.part isC hC), h.2.2.1, D_pre (h.2.2.2.1.part isC hn hC), h.2.2.2.2.go (State.WarmedH.refl U) rfl va_S.rf (A_partQ isC hC)⟩
theorem fr_iP {l : Launch} {y : MethodName} {ws : List Cond} {rm : Room} {av : List Value} {D : va_G} {g : Nat → ClassId} {mc ms sz : Nat} {S S' : Type} {post : Int32 → S → Prop} {post' : Int32 → S' → Prop} {XE : String → S → Prop} {XE' : String → S' → Prop} {X cx wr pl : va_W} {rx : S → va_W} {pl1 : S → va_W} {fx pl2 : S' → va_W} (φ : S → S') (isC isR isF : List Nat) (hC : isC.map (fun i => X[i]?) = cx.map some) (hR : isR.map (fun i => X[i]?) = wr.map some) (hnC : va_nd isC = true) (hnR : va_nd isR = true) (hnF : va_nd isF = true) (hdis : ∀ i ∈ isR, i ∉ isC)
    (hfin : ∀ u, isF.map (fun i => (wr ++ rx u)[i]?) = (fx (φ u)).map some) (hpl : ∀ u, pl1 u = pl2 (φ u)) (hpost : ∀ r u, post r u → post' r (φ u)) (hxx : ∀ E u, XE E u → XE' E (φ u)) (hM : vx_Met l y ws rm (va_Pc av (PG D g (cx ++ pl) sz)) (va_Qi post (fun u t9 => va_P D vwCl (rx u ++ pl1 u) t9.heap ∧ va_D (va_A (cx ++ pl) sz) (rx u ++ pl1 u)) (va_A (cx ++ pl) sz)) (vx_X (fun _ : S => True) (fun E u t9 => XE E u ∧ (va_P D vwCl (rx u ++ pl1 u) t9.heap ∧ va_D (va_A (cx ++ pl) sz) (rx u ++ pl1 u))) (va_A (cx ++ pl) sz)) mc ms (va_A (cx ++ pl) sz)) : vx_Met l y ws rm (va_Pc av (PG D g (X ++ pl) sz)) (va_Qi post' (fun u t9 => va_P D vwCl (fx u ++ pl2 u) t9.heap ∧ va_D (va_A (X ++ pl) sz) (fx u ++ pl2 u)) (va_A (X ++ pl) sz)) (vx_X (fun _ : S' => True) (fun E u t9 => XE' E u ∧ (va_P D vwCl (fx u ++ pl2 u) t9.heap ∧ va_D (va_A (X ++ pl) sz) (fx u ++ pl2 u))) (va_A (X ++ pl) sz)) mc ms (va_A (X ++ pl) sz) := by
  refine MetFree.mono hM (fun a st h => ⟨h.1, PG_part isC hC hnC h.2⟩) (fun _ _ _ _ _ h => h) ?_
  rintro a st o t ⟨-, hPG⟩ h
  have hsz := hPG.1
  have fin : ∀ (u : S) (t : State), va_F (va_A (cx ++ pl) sz) st t → (va_P D vwCl (rx u ++ pl1 u) t.heap ∧ va_D (va_A (cx ++ pl) sz) (rx u ++ pl1 u)) → (va_P D vwCl (fx (φ u) ++ pl2 (φ u)) t.heap ∧ va_D (va_A (X ++ pl) sz) (fx (φ u) ++ pl2 (φ u))) := by
    intro u t hF0 hb
    have hP := hPG.2.1
    have hD : va_D (va_A (X ++ pl) sz) (X ++ pl) := hPG.2.2.2.1.self
    have hk : ∀ q : Nat, q < st.heap.size → ¬ va_A (cx ++ pl) st.heap.size q → t.heap[q]? = st.heap[q]? := fun q h1 h2 => hF0.2 q h1 (by rw [← hsz]; exact h2)
    have hF : ∀ q, va_A (cx ++ pl) st.heap.size q → (va_A (X ++ pl) sz) q := fun q h => by rw [hsz] at h; exact A_part isC hC q h
    rw [← hsz] at hb
    obtain ⟨j1, j2⟩ := va_joinP hP hD isC isR hC hR hnR hdis hk hF hb.1 hb.2
    rw [hpl u] at j1 j2
    exact ⟨j1.part isF (hfin u), j2.part isF hnF (hfin u)⟩
  rcases h with ⟨⟨⟨r, u, ho, hp, hb⟩, hF0⟩, L, hL, hl⟩ | ⟨q, ho, E, ce, L, ⟨u, hpx, ⟨hxe, hb⟩, hF0⟩, h1, h2, h3, h4, h5, h6⟩
  · exact Or.inl ⟨⟨⟨r, φ u, ho, hpost r u hp, fin u t hF0 hb⟩, hF0.1, fun q h1 h2 => hF0.2 q h1 (fun z => h2 (A_part isC hC q z))⟩, L, hL, fun q hq => A_part isC hC _ (hl q hq)⟩
  · exact Or.inr ⟨q, ho, E, ce, L, ⟨φ u, trivial, ⟨hxx E u hxe, fin u t hF0 hb⟩, hF0.1, fun q h1 h2 => hF0.2 q h1 (fun z => h2 (A_part isC hC q z))⟩, h1, h2, h3, h4, h5, fun z hz => A_part isC hC _ (h6 z hz)⟩
theorem fr_iQ {l : Launch} {y : MethodName} {ws : List Cond} {rm : Room} {av : List Value} {D : va_G} {g : Nat → ClassId} {mc ms sz : Nat} {S S' : Type} {post : Int32 → S → Prop} {post' : Int32 → S' → Prop} {XE : String → S → Prop} {XE' : String → S' → Prop} {X cx wr pl : va_W} {rx : S → va_W} {fx pl2 : S' → va_W} (φ : S → S') (isC isR isF : List Nat) (hC : isC.map (fun i => X[i]?) = cx.map some) (hR : isR.map (fun i => X[i]?) = wr.map some) (hnC : va_nd isC = true) (hnR : va_nd isR = true) (hnF : va_nd isF = true) (hdis : ∀ i ∈ isR, i ∉ isC)
    (hfin : ∀ u, isF.map (fun i => (wr ++ rx u)[i]?) = (fx (φ u)).map some) (hpl : ∀ u, pl = pl2 (φ u)) (hpost : ∀ r u, post r u → post' r (φ u)) (hxx : ∀ E u, XE E u → XE' E (φ u)) (hM : vx_Met l y ws rm (va_Pc av (PG D g cx sz)) (va_Qi post (fun u t9 => va_P D vwCl (rx u) t9.heap ∧ va_D (va_A cx sz) (rx u)) (va_A cx sz)) (vx_X (fun _ : S => True) (fun E u t9 => XE E u ∧ (va_P D vwCl (rx u) t9.heap ∧ va_D (va_A cx sz) (rx u))) (va_A cx sz)) mc ms (va_A cx sz)) : vx_Met l y ws rm (va_Pc av (PG D g (X ++ pl) sz)) (va_Qi post' (fun u t9 => va_P D vwCl (fx u ++ pl2 u) t9.heap ∧ va_D (va_A (X ++ pl) sz) (fx u ++ pl2 u)) (va_A (X ++ pl) sz)) (vx_X (fun _ : S' => True) (fun E u t9 => XE' E u ∧ (va_P D vwCl (fx u ++ pl2 u) t9.heap ∧ va_D (va_A (X ++ pl) sz) (fx u ++ pl2 u))) (va_A (X ++ pl) sz)) mc ms (va_A (X ++ pl) sz) := by
  refine MetFree.mono hM (fun a st h => ⟨h.1, PG_partQ isC hC hnC h.2⟩) (fun _ _ _ _ _ h => h) ?_
  rintro a st o t ⟨-, hPG⟩ h
  have hsz := hPG.1
  have fin : ∀ (u : S) (t : State), va_F (va_A cx sz) st t → (va_P D vwCl (rx u) t.heap ∧ va_D (va_A cx sz) (rx u)) → (va_P D vwCl (fx (φ u) ++ pl2 (φ u)) t.heap ∧ va_D (va_A (X ++ pl) sz) (fx (φ u) ++ pl2 (φ u))) := by
    intro u t hF0 hb
    have hP := hPG.2.1
    have hD : va_D (va_A (X ++ pl) sz) (X ++ pl) := hPG.2.2.2.1.self
    have hk : ∀ q : Nat, q < st.heap.size → ¬ va_A cx st.heap.size q → t.heap[q]? = st.heap[q]? := fun q h1 h2 => hF0.2 q h1 (by rw [← hsz]; exact h2)
    have hF : ∀ q, va_A cx st.heap.size q → (va_A (X ++ pl) sz) q := fun q h => by rw [hsz] at h; exact A_partQ isC hC q h
    rw [← hsz] at hb
    obtain ⟨j1, j2⟩ := va_joinQ hP hD isC isR hC hR hnR hdis hk hF hb.1 hb.2
    have j3 := j1.part isF (hfin u)
    have j4 := j2.part isF hnF (hfin u)
    exact ⟨by rw [← hpl u]; exact j3, by rw [← hpl u]; exact j4⟩
  rcases h with ⟨⟨⟨r, u, ho, hp, hb⟩, hF0⟩, L, hL, hl⟩ | ⟨q, ho, E, ce, L, ⟨u, hpx, ⟨hxe, hb⟩, hF0⟩, h1, h2, h3, h4, h5, h6⟩
  · exact Or.inl ⟨⟨⟨r, φ u, ho, hpost r u hp, fin u t hF0 hb⟩, hF0.1, fun q h1 h2 => hF0.2 q h1 (fun z => h2 (A_partQ isC hC q z))⟩, L, hL, fun q hq => A_partQ isC hC _ (hl q hq)⟩
  · exact Or.inr ⟨q, ho, E, ce, L, ⟨φ u, trivial, ⟨hxx E u hxe, fin u t hF0 hb⟩, hF0.1, fun q h1 h2 => hF0.2 q h1 (fun z => h2 (A_partQ isC hC q z))⟩, h1, h2, h3, h4, h5, fun z hz => A_partQ isC hC _ (h6 z hz)⟩
theorem fr_iC {l : Launch} {y : MethodName} {ws : List Cond} {rm : Room} {av : List Value} {D : va_G} {g : Nat → ClassId} {mc ms sz : Nat} {S S' : Type} {post : Int32 → S → Prop} {post' : Int32 → S' → Prop} {XE : String → S → Prop} {XE' : String → S' → Prop} {W : va_W} {fx : S' → va_W} (φ : S → S') (hfin : ∀ u, fx (φ u) = W) (hpost : ∀ r u, post r u → post' r (φ u)) (hxx : ∀ E u, XE E u → XE' E (φ u)) (hM : vx_Met l y ws rm (va_Pc av (PG D g W sz)) (va_Qi post (fun _ t9 => va_P D vwCl W t9.heap) (va_A W sz)) (vx_X (fun _ : S => True) (fun E u t9 => XE E u ∧ (va_P D vwCl W t9.heap)) (va_A W sz)) mc ms (va_A W sz)) : vx_Met l y ws rm (va_Pc av (PG D g W sz)) (va_Qi post' (fun u t9 => va_P D vwCl (fx u) t9.heap ∧ va_D (va_A W sz) (fx u)) (va_A W sz)) (vx_X (fun _ : S' => True) (fun E u t9 => XE' E u ∧ (va_P D vwCl (fx u) t9.heap ∧ va_D (va_A W sz) (fx u))) (va_A W sz)) mc ms (va_A W sz) := by
  refine MetFree.mono hM (fun a st h => h) (fun _ _ _ _ _ h => h) ?_
  rintro a st o t ⟨-, hPG⟩ h
  have hD : va_D (va_A W sz) W := hPG.2.2.2.1.self
  rcases h with ⟨⟨⟨r, u, ho, hp, hb⟩, hF0⟩, L, hL, hl⟩ | ⟨q, ho, E, ce, L, ⟨u, hpx, ⟨hxe, hb⟩, hF0⟩, h1, h2, h3, h4, h5, h6⟩
  · exact Or.inl ⟨⟨⟨r, φ u, ho, hpost r u hp, by show va_P D vwCl (fx (φ u)) t.heap ∧ va_D (va_A W sz) (fx (φ u)); rw [hfin]; exact ⟨hb, hD⟩⟩, hF0⟩, L, hL, hl⟩
  · exact Or.inr ⟨q, ho, E, ce, L, ⟨φ u, trivial, ⟨hxx E u hxe, by rw [hfin]; exact ⟨hb, hD⟩⟩, hF0⟩, h1, h2, h3, h4, h5, h6⟩
theorem fr_vP {l : Launch} {y : MethodName} {ws : List Cond} {rm : Room} {av : List Value} {D : va_G} {g : Nat → ClassId} {mc ms sz : Nat} {S S' : Type} {post : S → Prop} {post' : S' → Prop} {XE : String → S → Prop} {XE' : String → S' → Prop} {X cx wr pl : va_W} {rx : S → va_W} {pl1 : S → va_W} {fx pl2 : S' → va_W} (φ : S → S') (isC isR isF : List Nat) (hC : isC.map (fun i => X[i]?) = cx.map some) (hR : isR.map (fun i => X[i]?) = wr.map some) (hnC : va_nd isC = true) (hnR : va_nd isR = true) (hnF : va_nd isF = true) (hdis : ∀ i ∈ isR, i ∉ isC)
    (hfin : ∀ u, isF.map (fun i => (wr ++ rx u)[i]?) = (fx (φ u)).map some) (hpl : ∀ u, pl1 u = pl2 (φ u)) (hpost : ∀ u, post u → post' (φ u)) (hxx : ∀ E u, XE E u → XE' E (φ u)) (hM : vx_Met l y ws rm (va_Pc av (PG D g (cx ++ pl) sz)) (va_Qv post (fun u t9 => va_P D vwCl (rx u ++ pl1 u) t9.heap ∧ va_D (va_A (cx ++ pl) sz) (rx u ++ pl1 u)) (va_A (cx ++ pl) sz)) (vx_X (fun _ : S => True) (fun E u t9 => XE E u ∧ (va_P D vwCl (rx u ++ pl1 u) t9.heap ∧ va_D (va_A (cx ++ pl) sz) (rx u ++ pl1 u))) (va_A (cx ++ pl) sz)) mc ms (va_A (cx ++ pl) sz)) : vx_Met l y ws rm (va_Pc av (PG D g (X ++ pl) sz)) (va_Qv post' (fun u t9 => va_P D vwCl (fx u ++ pl2 u) t9.heap ∧ va_D (va_A (X ++ pl) sz) (fx u ++ pl2 u)) (va_A (X ++ pl) sz)) (vx_X (fun _ : S' => True) (fun E u t9 => XE' E u ∧ (va_P D vwCl (fx u ++ pl2 u) t9.heap ∧ va_D (va_A (X ++ pl) sz) (fx u ++ pl2 u))) (va_A (X ++ pl) sz)) mc ms (va_A (X ++ pl) sz) := by
  refine MetFree.mono hM (fun a st h => ⟨h.1, PG_part isC hC hnC h.2⟩) (fun _ _ _ _ _ h => h) ?_
  rintro a st o t ⟨-, hPG⟩ h
  have hsz := hPG.1
  have fin : ∀ (u : S) (t : State), va_F (va_A (cx ++ pl) sz) st t → (va_P D vwCl (rx u ++ pl1 u) t.heap ∧ va_D (va_A (cx ++ pl) sz) (rx u ++ pl1 u)) → (va_P D vwCl (fx (φ u) ++ pl2 (φ u)) t.heap ∧ va_D (va_A (X ++ pl) sz) (fx (φ u) ++ pl2 (φ u))) := by
    intro u t hF0 hb
    have hP := hPG.2.1
    have hD : va_D (va_A (X ++ pl) sz) (X ++ pl) := hPG.2.2.2.1.self
    have hk : ∀ q : Nat, q < st.heap.size → ¬ va_A (cx ++ pl) st.heap.size q → t.heap[q]? = st.heap[q]? := fun q h1 h2 => hF0.2 q h1 (by rw [← hsz]; exact h2)
    have hF : ∀ q, va_A (cx ++ pl) st.heap.size q → (va_A (X ++ pl) sz) q := fun q h => by rw [hsz] at h; exact A_part isC hC q h
    rw [← hsz] at hb
    obtain ⟨j1, j2⟩ := va_joinP hP hD isC isR hC hR hnR hdis hk hF hb.1 hb.2
    rw [hpl u] at j1 j2
    exact ⟨j1.part isF (hfin u), j2.part isF hnF (hfin u)⟩
  rcases h with ⟨⟨⟨u, ho, hp, hb⟩, hF0⟩, L, hL, hl⟩ | ⟨q, ho, E, ce, L, ⟨u, hpx, ⟨hxe, hb⟩, hF0⟩, h1, h2, h3, h4, h5, h6⟩
  · exact Or.inl ⟨⟨⟨φ u, ho, hpost u hp, fin u t hF0 hb⟩, hF0.1, fun q h1 h2 => hF0.2 q h1 (fun z => h2 (A_part isC hC q z))⟩, L, hL, fun q hq => A_part isC hC _ (hl q hq)⟩
  · exact Or.inr ⟨q, ho, E, ce, L, ⟨φ u, trivial, ⟨hxx E u hxe, fin u t hF0 hb⟩, hF0.1, fun q h1 h2 => hF0.2 q h1 (fun z => h2 (A_part isC hC q z))⟩, h1, h2, h3, h4, h5, fun z hz => A_part isC hC _ (h6 z hz)⟩
theorem fr_vQ {l : Launch} {y : MethodName} {ws : List Cond} {rm : Room} {av : List Value} {D : va_G} {g : Nat → ClassId} {mc ms sz : Nat} {S S' : Type} {post : S → Prop} {post' : S' → Prop} {XE : String → S → Prop} {XE' : String → S' → Prop} {X cx wr pl : va_W} {rx : S → va_W} {fx pl2 : S' → va_W} (φ : S → S') (isC isR isF : List Nat) (hC : isC.map (fun i => X[i]?) = cx.map some) (hR : isR.map (fun i => X[i]?) = wr.map some) (hnC : va_nd isC = true) (hnR : va_nd isR = true) (hnF : va_nd isF = true) (hdis : ∀ i ∈ isR, i ∉ isC)
    (hfin : ∀ u, isF.map (fun i => (wr ++ rx u)[i]?) = (fx (φ u)).map some) (hpl : ∀ u, pl = pl2 (φ u)) (hpost : ∀ u, post u → post' (φ u)) (hxx : ∀ E u, XE E u → XE' E (φ u)) (hM : vx_Met l y ws rm (va_Pc av (PG D g cx sz)) (va_Qv post (fun u t9 => va_P D vwCl (rx u) t9.heap ∧ va_D (va_A cx sz) (rx u)) (va_A cx sz)) (vx_X (fun _ : S => True) (fun E u t9 => XE E u ∧ (va_P D vwCl (rx u) t9.heap ∧ va_D (va_A cx sz) (rx u))) (va_A cx sz)) mc ms (va_A cx sz)) : vx_Met l y ws rm (va_Pc av (PG D g (X ++ pl) sz)) (va_Qv post' (fun u t9 => va_P D vwCl (fx u ++ pl2 u) t9.heap ∧ va_D (va_A (X ++ pl) sz) (fx u ++ pl2 u)) (va_A (X ++ pl) sz)) (vx_X (fun _ : S' => True) (fun E u t9 => XE' E u ∧ (va_P D vwCl (fx u ++ pl2 u) t9.heap ∧ va_D (va_A (X ++ pl) sz) (fx u ++ pl2 u))) (va_A (X ++ pl) sz)) mc ms (va_A (X ++ pl) sz) := by
  refine MetFree.mono hM (fun a st h => ⟨h.1, PG_partQ isC hC hnC h.2⟩) (fun _ _ _ _ _ h => h) ?_
  rintro a st o t ⟨-, hPG⟩ h
  have hsz := hPG.1
  have fin : ∀ (u : S) (t : State), va_F (va_A cx sz) st t → (va_P D vwCl (rx u) t.heap ∧ va_D (va_A cx sz) (rx u)) → (va_P D vwCl (fx (φ u) ++ pl2 (φ u)) t.heap ∧ va_D (va_A (X ++ pl) sz) (fx (φ u) ++ pl2 (φ u))) := by
    intro u t hF0 hb
    have hP := hPG.2.1
    have hD : va_D (va_A (X ++ pl) sz) (X ++ pl) := hPG.2.2.2.1.self
    have hk : ∀ q : Nat, q < st.heap.size → ¬ va_A cx st.heap.size q → t.heap[q]? = st.heap[q]? := fun q h1 h2 => hF0.2 q h1 (by rw [← hsz]; exact h2)
    have hF : ∀ q, va_A cx st.heap.size q → (va_A (X ++ pl) sz) q := fun q h => by rw [hsz] at h; exact A_partQ isC hC q h
    rw [← hsz] at hb
    obtain ⟨j1, j2⟩ := va_joinQ hP hD isC isR hC hR hnR hdis hk hF hb.1 hb.2
    have j3 := j1.part isF (hfin u)
    have j4 := j2.part isF hnF (hfin u)
    exact ⟨by rw [← hpl u]; exact j3, by rw [← hpl u]; exact j4⟩
  rcases h with ⟨⟨⟨u, ho, hp, hb⟩, hF0⟩, L, hL, hl⟩ | ⟨q, ho, E, ce, L, ⟨u, hpx, ⟨hxe, hb⟩, hF0⟩, h1, h2, h3, h4, h5, h6⟩
  · exact Or.inl ⟨⟨⟨φ u, ho, hpost u hp, fin u t hF0 hb⟩, hF0.1, fun q h1 h2 => hF0.2 q h1 (fun z => h2 (A_partQ isC hC q z))⟩, L, hL, fun q hq => A_partQ isC hC _ (hl q hq)⟩
  · exact Or.inr ⟨q, ho, E, ce, L, ⟨φ u, trivial, ⟨hxx E u hxe, fin u t hF0 hb⟩, hF0.1, fun q h1 h2 => hF0.2 q h1 (fun z => h2 (A_partQ isC hC q z))⟩, h1, h2, h3, h4, h5, fun z hz => A_partQ isC hC _ (h6 z hz)⟩
theorem fr_vC {l : Launch} {y : MethodName} {ws : List Cond} {rm : Room} {av : List Value} {D : va_G} {g : Nat → ClassId} {mc ms sz : Nat} {S S' : Type} {post : S → Prop} {post' : S' → Prop} {XE : String → S → Prop} {XE' : String → S' → Prop} {W : va_W} {fx : S' → va_W} (φ : S → S') (hfin : ∀ u, fx (φ u) = W) (hpost : ∀ u, post u → post' (φ u)) (hxx : ∀ E u, XE E u → XE' E (φ u)) (hM : vx_Met l y ws rm (va_Pc av (PG D g W sz)) (va_Qv post (fun _ t9 => va_P D vwCl W t9.heap) (va_A W sz)) (vx_X (fun _ : S => True) (fun E u t9 => XE E u ∧ (va_P D vwCl W t9.heap)) (va_A W sz)) mc ms (va_A W sz)) : vx_Met l y ws rm (va_Pc av (PG D g W sz)) (va_Qv post' (fun u t9 => va_P D vwCl (fx u) t9.heap ∧ va_D (va_A W sz) (fx u)) (va_A W sz)) (vx_X (fun _ : S' => True) (fun E u t9 => XE' E u ∧ (va_P D vwCl (fx u) t9.heap ∧ va_D (va_A W sz) (fx u))) (va_A W sz)) mc ms (va_A W sz) := by
  refine MetFree.mono hM (fun a st h => h) (fun _ _ _ _ _ h => h) ?_
  rintro a st o t ⟨-, hPG⟩ h
  have hD : va_D (va_A W sz) W := hPG.2.2.2.1.self
  rcases h with ⟨⟨⟨u, ho, hp, hb⟩, hF0⟩, L, hL, hl⟩ | ⟨q, ho, E, ce, L, ⟨u, hpx, ⟨hxe, hb⟩, hF0⟩, h1, h2, h3, h4, h5, h6⟩
  · exact Or.inl ⟨⟨⟨φ u, ho, hpost u hp, by show va_P D vwCl (fx (φ u)) t.heap ∧ va_D (va_A W sz) (fx (φ u)); rw [hfin]; exact ⟨hb, hD⟩⟩, hF0⟩, L, hL, hl⟩
  · exact Or.inr ⟨q, ho, E, ce, L, ⟨φ u, trivial, ⟨hxx E u hxe, by rw [hfin]; exact ⟨hb, hD⟩⟩, hF0⟩, h1, h2, h3, h4, h5, h6⟩
theorem vx_of {l : Launch} {y : MethodName} {ws : List Cond} {rm : Room} {Pc : Array Value → State → Prop} {Qc : Array Value → State → Outcome → State → Prop} {XC : String → State → State → Prop} {mc ms : Nat} {free : Addr → Prop} (h : Met l y ws rm Pc Qc mc ms free) : vx_Met l y ws rm Pc Qc XC mc ms free :=
  MetFree.mono h (fun _ _ h => h) (fun _ _ _ _ _ h => h) (fun _ _ _ _ _ h => Or.inl h)
