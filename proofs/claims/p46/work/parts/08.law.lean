theorem P_l {D : va_G} {cl : List vw_C} {W1 W2 : va_W} {H : Heap} (h : va_P D cl (W1 ++ W2) H) : va_P D cl W1 H := fun k q hk => h k q (by rw [List.getElem?_append_left (List.getElem?_eq_some_iff.mp hk).1]; exact hk)
theorem app_r {W1 W2 : va_W} {k : Nat} {q : Nat × va_E} (hk : W2[k]? = some q) : (W1 ++ W2)[W1.length + k]? = some q := by
  rw [List.getElem?_append_right (Nat.le_add_right _ _), Nat.add_sub_cancel_left]; exact hk
theorem P_r {D : va_G} {cl : List vw_C} {W1 W2 : va_W} {H : Heap} (h : va_P D cl (W1 ++ W2) H) : va_P D cl W2 H := fun k q hk => h (W1.length + k) q (app_r hk)
theorem D_l {A : Nat → Prop} {W1 W2 : va_W} (h : va_D A (W1 ++ W2)) : va_D A W1 := by
  have e : ∀ (k : Nat) (q : Nat × va_E), W1[k]? = some q → (W1 ++ W2)[k]? = some q := fun k q hk => by rw [List.getElem?_append_left (List.getElem?_eq_some_iff.mp hk).1]; exact hk
  exact ⟨fun i j p q hi hj => h.1 i j p q (e i p hi) (e j q hj), fun k q hk => h.2 k q (e k q hk)⟩
theorem D_r {A : Nat → Prop} {W1 W2 : va_W} (h : va_D A (W1 ++ W2)) : va_D A W2 :=
  ⟨fun i j p q hi hj hpq => by
    have := h.1 (W1.length + i) (W1.length + j) p q (app_r hi) (app_r hj) hpq
    omega, fun k q hk => h.2 (W1.length + k) q (app_r hk)⟩
theorem rest_kept {D : va_G} {cl : List vw_C} {A : Nat → Prop} {W1 W2 : va_W} {H H1 : Heap} (hP : va_P D cl (W1 ++ W2) H) (hD : va_D A (W1 ++ W2)) (hk : ∀ q : Nat, q < H.size → ¬ va_A W1 H.size q → H1[q]? = H[q]?) : va_P D cl W2 H1 := by
  intro k q hq
  have h1 := hP (W1.length + k) q (app_r hq)
  refine h1.kept (hk q.1 h1.lt ?_)
  rintro (⟨j, e, hj⟩ | h)
  · have hlt := (List.getElem?_eq_some_iff.mp hj).1
    have := hD.1 (W1.length + k) j q (q.1, e) (app_r hq) (by rw [List.getElem?_append_left hlt]; exact hj) rfl
    omega
  · exact absurd h1.lt (by omega)
theorem D_ap {A : Nat → Prop} {W1 W2 : va_W} (h : va_D A (W1 ++ W2)) {i j : Nat} {p q : Nat × va_E} (h1 : W1[i]? = some p) (h2 : W2[j]? = some q) (e : p.1 = q.1) : False := by
  have hlt := (List.getElem?_eq_some_iff.mp h1).1
  have := h.1 i (W1.length + j) p q (by rw [List.getElem?_append_left hlt]; exact h1) (app_r h2) e
  omega
/-- a world beside the callee's: kept -/
theorem kept_by {D : va_G} {cl : List vw_C} {W1 W2 : va_W} {H H1 : Heap} (hP : va_P D cl W2 H) (hk : ∀ q : Nat, q < H.size → ¬ va_A W1 H.size q → H1[q]? = H[q]?) (hap : ∀ (j k : Nat) (p q : Nat × va_E), W1[j]? = some p → W2[k]? = some q → p.1 = q.1 → False) : va_P D cl W2 H1 := by
  intro k q hq
  have h1 := hP k q hq
  refine h1.kept (hk q.1 h1.lt ?_)
  rintro (⟨j, e, hj⟩ | h)
  · exact hap j k (q.1, e) q hj hq rfl
  · exact absurd h1.lt (by omega)
/-- a callee's world at the right end: what it leaves behind comes in its place -/
theorem join_r {D : va_G} {cl : List vw_C} {A : Nat → Prop} {X wc w1 : va_W} {H H1 : Heap} (hP : va_P D cl (X ++ wc) H) (hD : va_D A (X ++ wc)) (hk : ∀ q : Nat, q < H.size → ¬ va_A wc H.size q → H1[q]? = H[q]?) (hF : ∀ q, va_A wc H.size q → A q) (hP1 : va_P D cl w1 H1) (hD1 : va_D (va_A wc H.size) w1) : va_P D cl (X ++ w1) H1 ∧ va_D A (X ++ w1) := by
  refine ⟨va_P.app (kept_by (P_l hP) hk (fun j k p q hj hk e => D_ap hD hk hj e.symm)) hP1, va_D.app (D_l hD) (hD1.weaken (fun k q _ h => hF q.1 h)) (fun i j p q hi hj e => ?_)⟩
  have hlt := (P_l hP i p hi).lt
  rcases hD1.2 j q hj with ⟨n, e2, hn⟩ | h
  · exact D_ap hD hi hn e
  · omega

def wcat2 (x : va_W) : List va_W → va_W
  | [] => x
  | y :: r => x ++ wcat2 y r
/-- the pieces of a world one behind another -/
def wcat : List va_W → va_W
  | [] => []
  | x :: r => wcat2 x r
theorem wcat2_fl : ∀ (r : List va_W) (x : va_W), wcat2 x r = x ++ r.flatten
  | [], x => by simp [wcat2]
  | y :: r, x => by simp [wcat2, wcat2_fl r y]
theorem wcat_fl (l : List va_W) : wcat l = l.flatten := by
  cases l with
  | nil => rfl
  | cons x r => simp [wcat, wcat2_fl]
theorem P_perm {D : va_G} {cl : List vw_C} {a b : va_W} {H : Heap} (h : a.Perm b) (hP : va_P D cl a H) : va_P D cl b H := fun k q hk => by
  obtain ⟨i, hi⟩ := List.mem_iff_getElem?.mp (h.mem_iff.mpr (List.mem_of_getElem? hk))
  exact hP i q hi
theorem D_nd {A : Nat → Prop} {ws : va_W} (h : va_D A ws) : (ws.map Prod.fst).Nodup := by
  rw [List.Nodup, List.pairwise_iff_getElem]
  intro i j hi hj hij e
  rw [List.length_map] at hi hj
  rw [List.getElem_map, List.getElem_map] at e
  have := h.1 i j _ _ (List.getElem?_eq_getElem hi) (List.getElem?_eq_getElem hj) e
  omega
theorem D_of_nd {A : Nat → Prop} {ws : va_W} (hn : (ws.map Prod.fst).Nodup) (hA : ∀ q ∈ ws, A q.1) : va_D A ws := by
  refine ⟨fun i j p q hi hj e => ?_, fun k q hk => hA q (List.mem_of_getElem? hk)⟩
  have h1 : (ws.map Prod.fst)[i]? = (ws.map Prod.fst)[j]? := by rw [List.getElem?_map, List.getElem?_map, hi, hj]; simp [e]
  have hl : i < (ws.map Prod.fst).length := by rw [List.length_map]; exact (List.getElem?_eq_some_iff.mp hi).1
  exact (List.getElem?_inj hl hn).mp h1
theorem D_perm {A : Nat → Prop} {a b : va_W} (h : a.Perm b) (hD : va_D A a) : va_D A b :=
  D_of_nd ((h.map Prod.fst).nodup_iff.mp (D_nd hD)) (fun q hq => by
    obtain ⟨k, hk⟩ := List.mem_iff_getElem?.mp (h.mem_iff.mpr hq)
    exact hD.2 k q hk)
theorem fl_perm {a b : List va_W} (h : a.Perm b) : a.flatten.Perm b.flatten := by
  induction h with
  | nil => exact List.Perm.refl _
  | cons x _ ih => simp only [List.flatten_cons]; exact List.Perm.append_left x ih
  | swap x y l =>
    simp only [List.flatten_cons]
    rw [← List.append_assoc, ← List.append_assoc]
    exact List.Perm.append_right _ List.perm_append_comm
  | trans _ _ ih1 ih2 => exact ih1.trans ih2
theorem range_fm {α : Type} : ∀ (l : List α) (pre : List α), (List.range' pre.length l.length).filterMap (fun i => (pre ++ l)[i]?) = l
  | [], pre => by simp
  | x :: l, pre => by
    have h := range_fm l (pre ++ [x])
    rw [List.length_append, List.length_singleton, List.append_assoc] at h
    rw [List.length_cons, List.range'_succ, List.filterMap_cons]
    simp only [List.getElem?_append_right (Nat.le_refl _), Nat.sub_self, List.getElem?_cons_zero]
    exact congrArg (x :: ·) h
theorem fm_of {α : Type} {segs : List α} : ∀ {ps : List Nat} {cs : List α}, ps.map (fun i => segs[i]?) = cs.map some → ps.filterMap (fun i => segs[i]?) = cs
  | [], cs, h => by cases cs with
    | nil => rfl
    | cons c cs => simp at h
  | p :: ps, cs, h => by
    cases cs with
    | nil => simp at h
    | cons c cs =>
      simp only [List.map_cons, List.cons.injEq] at h
      rw [List.filterMap_cons, h.1, fm_of h.2]
/-- pieces by their places -/
theorem seg_perm {segs cs : List va_W} (n : Nat) (ps : List Nat) (hn : segs.length = n) (h : ps.map (fun i => segs[i]?) = cs.map some) (hp : ps.isPerm (List.range n) = true) : segs.Perm cs := by
  have h1 := (List.isPerm_iff.mp hp).filterMap (fun i => segs[i]?)
  rw [fm_of h] at h1
  have h2 := range_fm segs []
  simp only [List.length_nil, List.nil_append] at h2
  rw [hn, ← List.range_eq_range'] at h2
  rw [h2] at h1
  exact h1.symm
theorem list_perm {α : Type} {segs cs : List α} (n : Nat) (ps : List Nat) (hn : segs.length = n) (h : ps.map (fun i => segs[i]?) = cs.map some) (hp : ps.isPerm (List.range n) = true) : segs.Perm cs := by
  have h1 := (List.isPerm_iff.mp hp).filterMap (fun i => segs[i]?)
  rw [fm_of h] at h1
  have h2 := range_fm segs []
  simp only [List.length_nil, List.nil_append] at h2
  rw [hn, ← List.range_eq_range'] at h2
  rw [h2] at h1
  exact h1.symm
/-- the callee's pieces behind, the rest ahead -/
theorem seg_call {D : va_G} {cl : List vw_C} {A : Nat → Prop} {H : Heap} (segs rs cs : List va_W) (n : Nat) (ps : List Nat) (hn : segs.length = n) (h : ps.map (fun i => segs[i]?) = (rs ++ cs).map some) (hp : ps.isPerm (List.range n) = true) (hP : va_P D cl (wcat segs) H) (hD : va_D A (wcat segs)) : va_P D cl (wcat rs ++ wcat cs) H ∧ va_D A (wcat rs ++ wcat cs) := by
  have e : (wcat segs).Perm (wcat rs ++ wcat cs) := by
    rw [wcat_fl, wcat_fl, wcat_fl, ← List.flatten_append]
    exact fl_perm (seg_perm n ps hn h hp)
  exact ⟨P_perm e hP, D_perm e hD⟩
/-- pieces of two lists in an order of their own -/
theorem seg_join {D : va_G} {cl : List vw_C} {A : Nat → Prop} {H : Heap} (rs cs fs : List va_W) (n : Nat) (ps : List Nat) (hn : (rs ++ cs).length = n) (h : ps.map (fun i => (rs ++ cs)[i]?) = fs.map some) (hp : ps.isPerm (List.range n) = true) (hP : va_P D cl (wcat rs ++ wcat cs) H) (hD : va_D A (wcat rs ++ wcat cs)) : va_P D cl (wcat fs) H ∧ va_D A (wcat fs) := by
  have e : (wcat rs ++ wcat cs).Perm (wcat fs) := by
    rw [wcat_fl, wcat_fl, wcat_fl, ← List.flatten_append]
    exact fl_perm (seg_perm n ps hn h hp)
  exact ⟨P_perm e hP, D_perm e hD⟩
/-- some of the pieces -/
theorem seg_sub {D : va_G} {cl : List vw_C} {A : Nat → Prop} {H : Heap} (segs fs os : List va_W) (n : Nat) (ps : List Nat) (hn : segs.length = n) (h : ps.map (fun i => segs[i]?) = (fs ++ os).map some) (hp : ps.isPerm (List.range n) = true) (hP : va_P D cl (wcat segs) H) (hD : va_D A (wcat segs)) : va_P D cl (wcat fs) H ∧ va_D A (wcat fs) := by
  obtain ⟨h1, h2⟩ := seg_call segs fs os n ps hn h hp hP hD
  exact ⟨P_l h1, D_l h2⟩

theorem sw_0_3 (x : Int32) : x = 0 ∨ x = 1 ∨ x = 2 ∨ x = 3 ∨ (x.toInt < 0 ∨ 3 < x.toInt) := by
  rcases sw_in (x := x) (n := 3) (by decide) with ⟨j, hj, rfl⟩ | h
  · match j, hj with
    | 0, _ => exact Or.inl rfl
    | 1, _ => exact Or.inr (Or.inl rfl)
    | 2, _ => exact Or.inr (Or.inr (Or.inl rfl))
    | 3, _ => exact Or.inr (Or.inr (Or.inr (Or.inl rfl)))
  · exact Or.inr (Or.inr (Or.inr (Or.inr h)))
theorem off_recv {dC : Nat → ClassId} {dI : Nat → Nat → Nat} {g : Nat → ClassId} {s : State} {H : Heap} {a tp hd : Nat → Nat} {tf cf : Nat → Option Nat} {o : OS} {t : Nat} (h0 : a 0 = t) (hK : va_K (dC, dI) vwCl (tyL g) s) (hP : va_P (dC, dI) vwCl (offS a tp hd tf cf g o) H) : ∃ cell : Cell, H[t]? = some cell ∧ cell.vm.isStatics = false ∧ s.vm.findClass RX11 = some cell.cls := by
  subst h0
  exact va_recv hK hP (ci := 13) (q0 := 0) rfl rfl
theorem b2i_or (a b : Bool) : b2i a ||| b2i b = b2i (a || b) := by cases a <;> cases b <;> decide
theorem va_up_id {α : Type} (c : Nat → α) (j : Nat) : va_up c j (c j) = c := by
  funext k
  by_cases e : k = j
  · subst e; simp [va_up]
  · simp [va_up, e]
/-- the rows of an array of rows -/
def RWs (m : Nat) (r : Nat → Nat) (c0 : ClassId) (ln : Nat → Nat) (c : Nat → Nat → Int32) : va_W := (List.range m).map (fun j => (r j, .inl (c0, ln j, .inl (c j))))
def RWx (m j : Nat) (r : Nat → Nat) (c0 : ClassId) (ln : Nat → Nat) (c : Nat → Nat → Int32) : va_W := ((List.range m).erase j).map (fun j => (r j, .inl (c0, ln j, .inl (c j))))
def rowf (m : Nat) (r : Nat → Nat) : Nat → Option Nat := fun i => if i < m then some (r i) else none
theorem rowf_at {m j : Nat} {r : Nat → Nat} (h : j < m) : rowf m r j = some (r j) := if_pos h
theorem rowf_up {m j a : Nat} {r : Nat → Nat} (h : j < m) : va_up (rowf m r) j (some a) = rowf m (va_up r j a) := by
  funext i
  by_cases e : i = j
  · subst e; simp [va_up, rowf, h]
  · simp [va_up, rowf, e]
theorem rowf_app {m a : Nat} {r : Nat → Nat} : va_up (rowf m r) m (some a) = rowf (m + 1) (va_up r m a) := by
  funext i
  by_cases e : i = m
  · subst e; simp [va_up, rowf]
  · by_cases h : i < m
    · simp [va_up, rowf, e, h, Nat.lt_succ_of_lt h]
    · simp [va_up, rowf, e, h, show ¬ i < m + 1 by omega]
theorem RW_mem {m j : Nat} {r ln : Nat → Nat} {c0 : ClassId} {c : Nat → Nat → Int32} (h : j < m) : ((r j, .inl (c0, ln j, .inl (c j))) : Nat × va_E) ∈ RWs m r c0 ln c := List.mem_map.mpr ⟨j, List.mem_range.mpr h, rfl⟩
theorem RW_split {m j : Nat} {r ln : Nat → Nat} {c0 : ClassId} {c : Nat → Nat → Int32} (h : j < m) : (RWs m r c0 ln c).Perm (([(r j, .inl (c0, ln j, .inl (c j)))] : va_W) ++ RWx m j r c0 ln c) :=
  (List.perm_cons_erase (List.mem_range.mpr h)).map _
theorem RWx_up {m j a : Nat} {r ln : Nat → Nat} {c0 : ClassId} {c : Nat → Nat → Int32} {f : Nat → Int32} : RWx m j (va_up r j a) c0 ln (va_up c j f) = RWx m j r c0 ln c := by
  refine List.map_congr_left fun k hk => ?_
  have hne : k ≠ j := ((List.nodup_range (n := m)).mem_erase_iff.mp hk).1
  rw [va_up_ne _ _ hne, va_up_ne _ _ hne]
theorem RWx_upc {m j : Nat} {r ln : Nat → Nat} {c0 : ClassId} {c : Nat → Nat → Int32} {f : Nat → Int32} : RWx m j r c0 ln (va_up c j f) = RWx m j r c0 ln c := by
  refine List.map_congr_left fun k hk => ?_
  have hne : k ≠ j := ((List.nodup_range (n := m)).mem_erase_iff.mp hk).1
  rw [va_up_ne _ _ hne]
theorem RW_join {m j : Nat} {r ln : Nat → Nat} {c0 : ClassId} {c : Nat → Nat → Int32} {f : Nat → Int32} (h : j < m) : (([(r j, .inl (c0, ln j, .inl f))] : va_W) ++ RWx m j r c0 ln c).Perm (RWs m r c0 ln (va_up c j f)) := by
  have := (RW_split (r := r) (ln := ln) (c0 := c0) (c := va_up c j f) h).symm
  rw [RWx_upc, va_up_self] at this
  exact this
theorem RW_swap {m j a : Nat} {r ln : Nat → Nat} {c0 : ClassId} {c : Nat → Nat → Int32} {f : Nat → Int32} (h : j < m) : (([(a, .inl (c0, ln j, .inl f))] : va_W) ++ RWs m r c0 ln c).Perm (([(r j, .inl (c0, ln j, .inl (c j)))] : va_W) ++ RWs m (va_up r j a) c0 ln (va_up c j f)) := by
  have h1 := RW_split (r := r) (ln := ln) (c0 := c0) (c := c) h
  have h2 := (RW_split (r := va_up r j a) (ln := ln) (c0 := c0) (c := va_up c j f) h).symm
  rw [RWx_up, va_up_self, va_up_self] at h2
  refine (List.Perm.append_left _ h1).trans ((List.Perm.swap _ _ _).trans (List.Perm.cons _ ?_))
  exact h2
theorem RW_app {m a n : Nat} {r ln : Nat → Nat} {c0 : ClassId} {c : Nat → Nat → Int32} {f : Nat → Int32} : (([(a, .inl (c0, n, .inl f))] : va_W) ++ RWs m r c0 ln c).Perm (RWs (m + 1) (va_up r m a) c0 (va_up ln m n) (va_up c m f)) := by
  have e : RWs (m + 1) (va_up r m a) c0 (va_up ln m n) (va_up c m f) = RWs m r c0 ln c ++ [(a, .inl (c0, n, .inl f))] := by
    unfold RWs
    rw [List.range_succ, List.map_append]
    congr 1
    · refine List.map_congr_left fun k hk => ?_
      have hne : k ≠ m := Nat.ne_of_lt (List.mem_range.mp hk)
      rw [va_up_ne _ _ hne, va_up_ne _ _ hne, va_up_ne _ _ hne]
    · simp [va_up]
  rw [e]
  exact List.perm_append_comm
theorem mna_rw {N K : Nat} {r : Nat → Nat} {f : Nat → va_E} {c0 : ClassId} : va_pl ([] ++ (List.range N).map r) (vr_up f ((List.range N).map r) (.inl (c0, (K, .inl (fun _ => 0))))) = RWs N r c0 (fun _ => K) (fun _ _ => 0) := by
  unfold va_pl RWs
  rw [List.nil_append, List.map_map]
  refine List.map_congr_left fun k hk => ?_
  simp only [Function.comp]
  rw [vr_up_in (List.mem_map.mpr ⟨k, hk, rfl⟩)]
section NQA
variable {p : Program} {l : Launch} {e : Env} {R : Room} {s : State} {m : MethodId} {args : Array Value} {below : List Frame} {meth : Method} {c : Code} {H : Heap} {locs : List Loc} {cells slots : Nat} {Q : State → Prop} {cc : ByteArray} {pc : Nat} {ls : Array Slot} {rest : List Value} {D : va_G} {cl : List vw_C} {g : Nat → ClassId} {ws : va_W} {A : Nat → Prop} {H0 : Heap} {a : Nat}
/-- a new array of rows, none filled -/
theorem va_newqA (hexec : p.tables.exec = Jvm.exec) (hb : c.code = cc) {own : String} {index : Nat} (hown : s.vm.findClass own = some m.cls) (hclink : (Cond.classLink own index "[I").before args s = true) (hover : va_AOA .int s) (hK : va_K D cl (tyL g) s) (hP : va_P D cl ws H) (hD : va_D A ws) (hS : va_S A H0 H locs) (hA : ∀ q, H0.size ≤ q → A q)
    {n : Int32} {N' : Nat} (hn : ¬ n < 0) (hN : n.toNatClampNeg = N') (hbytes : N' * 4 ≤ 536870912) (hcells : cells + 1 ≤ R.cells) (hslots : slots + N' ≤ R.slots) (hdg : decode cc pc = .ok (.anewarray index, 3))
    (kk : ∀ (q : Nat) (H1 : Heap), va_P D cl (ws ++ [(q, .inl (g 3, N', .inr (.inr (.inr (.inr (rowf 0 (fun _ => 0)))))))]) H1 → va_D A (ws ++ [(q, .inl (g 3, N', .inr (.inr (.inr (.inr (rowf 0 (fun _ => 0)))))))]) → va_S A H0 H1 locs →
      W p l e R s m args below meth c H1 locs (cells + 1) (slots + N') Q (F0 m (pc + 3) ls (.ref q :: rest))) : W p l e R s m args below meth c H locs cells slots Q (F0 m pc ls (.int n :: rest)) := by
  subst hN
  have hov : (Cond.arrayOver (.array .int)).before args s = true := va_AOA.use hover
  refine W.anewA (t := .int) hexec hb hown (by rw [show (FieldType.array .int).toString = "[I" by decide +kernel]; exact hclink) hov rfl hdg rfl hn hbytes hcells hslots fun cA kA comp f1 f2 f3 f4 => ?_
  have e4 : s.vm.findClass "[[I" = some (g 3) := (hK.2 3 _ rfl).2
  rw [show ("[" ++ (FieldType.array .int).toString) = "[[I" by decide +kernel] at f1
  obtain rfl : g 3 = cA := Option.some.inj (e4.symm.trans f1)
  have e0 : rowf 0 (fun _ => 0) = fun _ => none := by funext i; simp [rowf]
  generalize hH1 : H.push ({ cls := g 3, slots := Array.replicate n.toNatClampNeg .null, vm := .none } : Cell) = H1
  have z1 : H1.size = H.size + 1 := by rw [← hH1, Array.size_push]
  have e1 : H1[H.size]? = some (arrV (g 3) n.toNatClampNeg (fun _ => .null)) := by rw [← hH1, Array.getElem?_push_size, ← arrV_new]
  have o1 : ∀ q : Nat, q < H.size → H1[q]? = H[q]? := fun q hq => by rw [← hH1, Array.getElem?_push, if_neg (Nat.ne_of_lt hq)]
  have hk : ∀ (k : Nat) (x : Nat × va_E), ws[k]? = some x → H1[x.1]? = H[x.1]? := fun k x hx => o1 x.1 ((hP k x hx).lt)
  rw [← e0.symm] at kk
  refine kk H.size H1 ((hP.kept hk).app (fun k x hx => ?_)) (hD.push hP rfl (hA _ hS.1)) ⟨Nat.le_trans hS.1 (by omega), fun x h1 h2 => (o1 x (Nat.lt_of_lt_of_le h1 hS.1)).trans (hS.2.1 x h1 h2), hS.2.2⟩
  have h0 : k < 1 := (List.getElem?_eq_some_iff.mp hx).1
  rw [show k = 0 by omega] at hx
  cases hx
  show H1[H.size]? = some (vp_cell _ _)
  rw [vp_cell_q, e1]
  rfl
end NQA

theorem mt_ofWH {l : Launch} {y : MethodName} {ws ws' : List Cond} {rm : Room} {Pc : Array Value → State → Prop} {Qc : Array Value → State → Outcome → State → Prop} {mc ms : Nat} {free : Addr → Prop} {cc : ByteArray} {maxL : Nat} {ret : Option FieldType} {hh : List (Nat × Nat × Nat × Nat)}
    (hy : plainName y.cls = true) (hw : ws = Cond.codeWith y cc maxL ret hh :: ws')
    (body : ∀ p e s m args below meth c s₁, BodyLoose p l y (headSpec ws rm) cc maxL ret e s m args below meth c s₁ → c.maxLocals = maxL → Pc args s →
      W p l e (headSpec ws rm).room s m args below meth c s.heap [] 0 0 (MQ below Qc args s mc ms free) (entryFrame m args maxL)) : Met l y ws rm Pc Qc mc ms free := by
  refine MetFree.of_bodyS (code := cc) (maxLocals := maxL) (ret := ret) hy ?_ ?_
  · intro args s m h hn
    obtain ⟨m9, meth, c, hn9, h1, h2, h3, h4, -, h5, h6, -⟩ := Cond.codeWith_spec (atoms_spec (ws := ws) h _ (by rw [hw]; exact List.mem_cons_self))
    cases hn.symm.trans hn9
    exact ⟨meth, c, h1, h2, h3, h4, h5, h6⟩
  · intro p e s m args below meth c s₁ B hml hP _
    have hh0 : s₁.heap = s.heap := by rw [B.state]; rfl
    obtain ⟨t, a1, o, b1, b2, b3⟩ := body p e s m args below meth c s₁ B hml hP s₁ hh0 (Stand.of_body B)
    exact ⟨t, o, a1, b1, b2, ⟨b3.1, b3.2⟩⟩
theorem byte_fit {n : Nat} {f : Nat → Int32} {c : ClassId} (h : ∀ i : Nat, i < n → fits .byte (.int (f i)) = true) : ∀ (i : Nat) (v : Value), (vp_cell c (n, .inl f)).slots[i]? = some v → fits .byte v = true := fun i v hv => va_fit (cA := c) (n := n) (F := fun j => .int (f j)) h i v hv
/-- a text that stands in the world's cells -/
theorem GSb_cells {dC : Nat → ClassId} {dI : Nat → Nat → Nat} {g : Nat → ClassId} {args : Array Value} {Ts : List Cond} {s : State} {A : Nat → Prop} {H : Heap} {W wc : va_W} (hts : ∀ w ∈ Ts, w.before args s = true) (hin : ∀ w ∈ u_ws RJ0 TJ0 4, w ∈ Ts) (hK : va_K (dC, dI) vwCl (tyL g) s) (hP : va_P (dC, dI) vwCl (W ++ wc) H) (hD : va_D A (W ++ wc)) {a v n : Nat} {f : Nat → Int32} {x y : Value} {k1 k2 ci : Nat} (hc : vwCl[ci]? = some (RJ0, TJ0, 4)) (h1 : W[k1]? = some (a, .inr (ci, [.ref v, .int 0, x, y]))) (h2 : W[k2]? = some (v, .inl (g 2, n, .inl f))) :
    ∀ U : State, U.heap = H → s.WarmedH U.vm → GSb n f a (va_A wc H.size) U := by
  intro U hU hW
  have l1 : k1 < W.length := (List.getElem?_eq_some_iff.mp h1).1
  have l2 : k2 < W.length := (List.getElem?_eq_some_iff.mp h2).1
  have g1 : (W ++ wc)[k1]? = some (a, .inr (ci, [.ref v, .int 0, x, y])) := by rw [List.getElem?_append_left l1]; exact h1
  have g2 : (W ++ wc)[k2]? = some (v, .inl (g 2, n, .inl f)) := by rw [List.getElem?_append_left l2]; exact h2
  have apart : ∀ (k q : Nat) (e : va_E), k < W.length → (W ++ wc)[k]? = some (q, e) → H.size > q → ¬ va_A wc H.size q := by
    intro k q e hk hq hl h
    rcases h with ⟨j, e', hj⟩ | h
    · have hj' : (W ++ wc)[W.length + j]? = some (q, e') := by rw [List.getElem?_append_right (by omega)]; simpa using hj
      have := hD.1 k (W.length + j) _ _ hq hj' rfl
      omega
    · omega
  obtain ⟨r, c1, cell, q1, q2, q3, q4⟩ := hP k1 _ g1
  obtain rfl : r = (RJ0, TJ0, 4) := Option.some.inj (c1.symm.trans hc)
  have p2 : H[v]? = some (arrV (g 2) n (fun j => .int (f j))) := hP k2 _ g2
  obtain ⟨hS0, hfc0, kC0, hkC0, -⟩ := hK.1 ci _ hc
  have n1 := apart k1 a _ l1 g1 (Array.getElem?_eq_some_iff.mp q1).1
  have n2 := apart k2 v _ l2 g2 (Array.getElem?_eq_some_iff.mp p2).1
  have fld : ∀ k : Nat, k < 4 → va_OF (TJ0 k).1 (TJ0 k).2.1 (TJ0 k).2.2.1 ([.ref v, .int 0, x, y].getD k .null) a (va_A wc H.size) s H := by
    intro k hk
    obtain ⟨cf0, kf0, fi0, f0, hi0, hsl0⟩ := hS0 k hk
    have hst := (u_facts hfc0 hkC0 (u_lays hts hin hk) hi0).1
    have e : cell.slots[f0.slot]? = some ([.ref v, .int 0, x, y].getD k .null) := by rw [hsl0, q4 k hk]; rfl
    exact ⟨cf0, kf0, fi0, f0, cell, hi0, hst, q1, (by rw [q3]; exact VmData.noConfusion), e, n1⟩
  refine ⟨v, ?_, ?_, ?_, ?_⟩
  · rw [hU]; exact va_O.moved hW.alike ⟨cell, q1, by rw [q3]; rfl, by rw [q2]; exact hfc0, n1⟩
  · rw [hU]; exact va_OF.moved hW.alike (fld 1 (by decide))
  · rw [hU]; exact va_OF.moved hW.alike (fld 0 (by decide))
  · rw [hU]
    refine va_T.moved hW.alike ⟨_, p2, (hK.2 2 _ rfl).1 n _, ?_, ?_, ?_, ?_, n2⟩
    · show VmData.none ≠ VmData.unknown
      exact VmData.noConfusion
    · exact Nat.le_of_eq (arrV_size _ _ _).symm
    · rw [arrV_size]
    · intro j hj
      show (Array.ofFn _)[j]? = _
      rw [Array.getElem?_ofFn, dif_pos hj]
theorem PXd_call {X : (Nat → Prop) → State → Prop} (hX : XGo X) {av : List Value} {D : va_G} {g : Nat → ClassId} {A : Nat → Prop} {wc : va_W} {s : State} {H : Heap} {locs : List Loc} (hK : va_K D vwCl (tyL g) s) (hG : GB g A s) (hS : va_S A s.heap H locs) (hP : va_P D vwCl wc H) (hD : va_D A wc) (hF : ∀ q, va_A wc H.size q → A q) (hT : ∀ U : State, U.heap = H → s.WarmedH U.vm → X (va_A wc H.size) U) :
    ∀ U : State, U.heap = H → s.WarmedH U.vm → va_Pc av (PX X D g wc H.size) av.toArray U := fun U hU hW => ⟨rfl, ⟨by rw [hU], by rw [hU]; exact hP, va_K.moved hW.alike hK, hD.weaken (fun _ _ _ _ => trivial), hG.go hW hU hS hF⟩, hT U hU hW⟩
section LDCW
variable {p : Program} {l : Launch} {e : Env} {R : Room} {s : State} {m : MethodId} {args : Array Value} {below : List Frame} {meth : Method} {c : Code} {H : Heap} {locs : List Loc} {cells slots : Nat} {Q : State → Prop} {cc : ByteArray} {pc : Nat} {ls : Array Slot} {rest : List Value}
theorem ldcStringW {T : State} (X : Stand p l e R s m args below meth c T locs cells slots) (hexec : p.tables.exec = Jvm.exec) {own text : String} {index : Nat} {a : Addr} (hown : s.vm.findClass own = some m.cls)
    (hconst : (Cond.stringRef own index text).before args s = true) (hev : (Term.string own index).eval args s none [] s = some (.ref a)) {g : JFrame} (hg : g.method = m) (hdg : decode c.code g.pc = .ok (.ldc_w index, 3)) :
    ∀ target, Steps p.tables e below (T.setTop { g with pc := g.pc + 3, stack := .ref a :: g.stack }) target → Steps p.tables e below (T.setTop g) target := by
  obtain ⟨k, cf, i, a', hk, hcf, hcp, -, hr, hev'⟩ := Cond.stringRef_spec hown hconst
  cases hev.symm.trans hev'
  obtain ⟨k', hk', he⟩ := X.warmed.alike.2.2 _ _ hk
  have hr' : k'.resolved[index]? = some (some (.string a)) := by
    rcases X.warmed.entry hk hk' index with h | ⟨h, -⟩
    · rw [h]; exact hr
    · rw [hr] at h; cases h
  intro target hrest
  subst hg
  jvm_step X.here [hexec, hdg, ldc_w.wp_string (e := e) (s := T) (f := g) X.here.top hk' (by rw [he]; exact hcf) hcp hr']
  exact hrest
theorem va_ldcSw (hexec : p.tables.exec = Jvm.exec) (hb : c.code = cc) {own tx : String} {index q : Nat} (hown : s.vm.findClass own = some m.cls) (hZ : vk_R own index tx q s) (hdg : decode cc pc = .ok (.ldc_w index, 3))
    (k : W p l e R s m args below meth c H locs cells slots Q (F0 m (pc + 3) ls (.ref q :: rest))) : W p l e R s m args below meth c H locs cells slots Q (F0 m pc ls rest) := by
  intro T hT X
  obtain ⟨t, a1, b1⟩ := k T hT X
  exact ⟨t, ldcStringW X hexec hown (text := tx) (a := q) hZ.1 hZ.2 (g := F0 m pc ls rest) rfl (by rw [hb]; exact hdg) t a1, b1⟩
end LDCW
/-- n ints f at v -/
def GIb (n : Nat) (f : Nat → Int32) (v : Nat) (A : Nat → Prop) (U : State) : Prop := va_T .int v n (fun j => .int (f j)) A U U.heap
theorem GIb_go (n : Nat) (f : Nat → Int32) (v : Nat) : XGo (GIb n f v) := by
  intro A B s U H locs h hW hU hS hAB
  unfold GIb at h ⊢
  rw [hU]; exact (va_T.moved hW.alike (h.kept hS.2.1)).narrow hAB
