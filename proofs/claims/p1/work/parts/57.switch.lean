theorem dL_law_2818 : decode cL_law 2818 = .ok (.iconst 1, 1) := by decide +kernel
theorem dL_law_2812 : decode cL_law 2812 = .ok (.iinc 5 5, 3) := by decide +kernel
theorem dL_law_2815 : decode cL_law 2815 = .ok (.goto (-2787), 3) := by decide +kernel
theorem dL_law_28 : decode cL_law 28 = .ok (.iload 5, 2) := by decide +kernel
theorem dL_law_30 : decode cL_law 30 = .ok (.aload_n 0, 1) := by decide +kernel
theorem dL_law_31 : decode cL_law 31 = .ok (.arraylength, 1) := by decide +kernel
theorem dL_law_32 : decode cL_law 32 = .ok (.iconst 5, 1) := by decide +kernel
theorem dL_law_33 : decode cL_law 33 = .ok (.isub, 1) := by decide +kernel
theorem dL_law_34 : decode cL_law 34 = .ok (.if_icmp .gt 2784, 3) := by decide +kernel
theorem dL_law_44 : decode cL_law 44 = .ok (.tableswitch 2768 0 42 #[188, 268, 360, 452, 465, 521, 577, 633, 701, 757, 832, 888, 956, 1012, 1092, 1160, 1216, 1272, 1340, 1420, 1488, 1544, 1612, 1668, 1712, 1768, 1836, 1928, 2012, 2080, 2148, 2216, 2296, 2352, 2440, 2453, 2466, 2522, 2535, 2548, 2592, 2648, 2725], 188) := by decide +kernel
set_option maxHeartbeats 4000000 in
set_option maxRecDepth 100000 in
theorem law_fin {l : Launch} {p : Program} {e : Env} {s : State} {m : MethodId} {below : List Frame} {meth : Method} {c : Code} {bs : Nat} {Q : State → Prop} {A : Nat → Prop} {H : Heap} {locs : List Loc} {k n : Nat} {ls : Array Slot} (hx : p.tables.exec = Jvm.exec) (hb : c.code = code) (hAn : ∀ q, A q → s.heap.size ≤ q) (hret : ∀ (H : Heap) (ls : Array Slot), W p l e room_1 s m #[Value.ref bs] below meth c H [] 600002 7302231 Q (F0 m 2819 ls [.int 1])) (hS : va_S A s.heap H locs) (hk : k ≤ 600002) (hn : n ≤ 7302231) : W p l e room_1 s m #[Value.ref bs] below meth c H locs k n Q (F0 m 2818 ls []) := by
  refine W.widen (k := 600002) (n := 7302231) hk hn ?_
  refine lv_iconst (v := 1) hx hb dL_law_2818 (by decide) ?_
  refine va_forget (fun q hq => hAn _ (hS.2.2 q hq)) ?_
  exact hret _ _
set_option maxHeartbeats 4000000 in
set_option maxRecDepth 100000 in
theorem law_next {l : Launch} {p : Program} {e : Env} {s : State} {m : MethodId} {below : List Frame} {meth : Method} {c : Code} {bs : Nat} {xs : Nat → Int32} {Q : State → Prop} {A : Nat → Prop} {H : Heap} {locs : List Loc} {ls : Array Slot} (hx : p.tables.exec = Jvm.exec) (hb : c.code = code) (hX : va_X bs 5 xs s s.heap) (hbl : bs < s.heap.size) (hbA : ¬ A bs) (hAn : ∀ q, A q → s.heap.size ≤ q) (hret : ∀ (H : Heap) (ls : Array Slot), W p l e room_1 s m #[Value.ref bs] below meth c H [] 600002 7302231 Q (F0 m 2819 ls [.int 1])) (hS : va_S A s.heap H locs) (hl : lv_has ls 10 [(5, .int 0), (0, .ref bs)]) : W p l e room_1 s m #[Value.ref bs] below meth c H locs 6000 90000 Q (F0 m 2812 ls []) := by
  refine lv_iinc (v := 5) (lv' := [(5, .int 5), (0, .ref bs)]) hx hb dL_law_2812 hl (k := 0) rfl (by decide) (by decide) rfl (fun ls hl => ?_)
  refine lv_goto (tgt := 28) hx hb dL_law_2815 (by decide) ?_
  refine lv_iload hx hb dL_law_28 (lv_at hl 0 rfl) ?_
  refine lv_aload_n hx hb dL_law_30 rfl (lv_at hl 1 rfl) ?_
  refine va_slen hx hb hX hbl hbA hS dL_law_31 ?_
  refine lv_iconst (v := 5) hx hb dL_law_32 (by decide) ?_
  refine lv_isub hx hb dL_law_33 ?_
  refine lv_icmp_gt (tgt := 2818) hx hb dL_law_34 (by decide) (fun _ => ?_) (fun c9 => absurd (by decide) c9)
  exact law_fin hx hb hAn hret hS (Nat.le_of_ble_eq_true rfl) (Nat.le_of_ble_eq_true rfl)
set_option maxHeartbeats 4000000 in
set_option maxRecDepth 100000 in
theorem law_switch {l : Launch} {p : Program} {e : Env} {s : State} {m : MethodId} {below : List Frame} {meth : Method} {c : Code} {bs : Nat} {xs : Nat → Int32} {Q : State → Prop} {A : Nat → Prop} {dC : Nat → ClassId} {dI : Nat → Nat → Nat} {g : Nat → ClassId} {a b r1 r2 : Nat → Nat} {ou od : Nat} {H : Heap} {locs : List Loc} {ls : Array Slot} (v : Int32) (C9 : LC l p s m c bs xs A dC dI g a b r1 r2 ou od) (hAn : ∀ q, A q → s.heap.size ≤ q) (hret : ∀ (H : Heap) (ls : Array Slot), W p l e room_1 s m #[Value.ref bs] below meth c H [] 600002 7302231 Q (F0 m 2819 ls [.int 1])) (hP : va_P (dC, dI) vwCl (lawL a g ou ++ lawR b r1 r2 g od) H) (hS : va_S A s.heap H locs) (hl : lv_has ls 10 [(5, .int 0), (0, .ref bs), (1, .ref (a 0)), (2, .ref (b 0)), (3, .ref ou), (4, .ref od)]) : W p l e room_1 s m #[Value.ref bs] below meth c H locs 2000 30000 Q (F0 m 44 ls [.int v]) := by
  have hend : ∀ (H : Heap) (locs : List Loc), va_S A s.heap H locs → ∀ (ls : Array Slot), lv_has ls 10 [(5, .int 0), (0, .ref bs)] → W p l e room_1 s m #[Value.ref bs] below meth c H locs 6000 90000 Q (F0 m 2812 ls []) := fun H locs hS ls hl => law_next C9.2.1 C9.2.2.1 C9.2.2.2.2.2.2.1 C9.2.2.2.2.2.2.2.1 C9.2.2.2.2.2.2.2.2.1 hAn hret hS hl
  rcases sw_in (x := v) (n := 42) (by decide) with ⟨j, hj, rfl⟩ | h
  · match j, hj with
    | 0, _ => exact lv_tableIn (tgt := 232) C9.2.1 C9.2.2.1 dL_law_44 (by decide) (by decide) rfl (by decide) (law_0 C9 hP hS hl hend)
    | 1, _ => exact lv_tableIn (tgt := 312) C9.2.1 C9.2.2.1 dL_law_44 (by decide) (by decide) rfl (by decide) (law_1 C9 hP hS hl hend)
    | 2, _ => exact lv_tableIn (tgt := 404) C9.2.1 C9.2.2.1 dL_law_44 (by decide) (by decide) rfl (by decide) (law_2 C9 hP hS hl hend)
    | 3, _ => exact lv_tableIn (tgt := 496) C9.2.1 C9.2.2.1 dL_law_44 (by decide) (by decide) rfl (by decide) (law_3 C9 hP hS hl hend)
    | 4, _ => exact lv_tableIn (tgt := 509) C9.2.1 C9.2.2.1 dL_law_44 (by decide) (by decide) rfl (by decide) (law_4 C9 hP hS hl hend)
    | 5, _ => exact lv_tableIn (tgt := 565) C9.2.1 C9.2.2.1 dL_law_44 (by decide) (by decide) rfl (by decide) (law_5 C9 hP hS hl hend)
    | 6, _ => exact lv_tableIn (tgt := 621) C9.2.1 C9.2.2.1 dL_law_44 (by decide) (by decide) rfl (by decide) (law_6 C9 hP hS hl hend)
    | 7, _ => exact lv_tableIn (tgt := 677) C9.2.1 C9.2.2.1 dL_law_44 (by decide) (by decide) rfl (by decide) (law_7 C9 hP hS hl hend)
    | 8, _ => exact lv_tableIn (tgt := 745) C9.2.1 C9.2.2.1 dL_law_44 (by decide) (by decide) rfl (by decide) (law_8 C9 hP hS hl hend)
    | 9, _ => exact lv_tableIn (tgt := 801) C9.2.1 C9.2.2.1 dL_law_44 (by decide) (by decide) rfl (by decide) (law_9 C9 hP hS hl hend)
    | 10, _ => exact lv_tableIn (tgt := 876) C9.2.1 C9.2.2.1 dL_law_44 (by decide) (by decide) rfl (by decide) (law_10 C9 hP hS hl hend)
    | 11, _ => exact lv_tableIn (tgt := 932) C9.2.1 C9.2.2.1 dL_law_44 (by decide) (by decide) rfl (by decide) (law_11 C9 hP hS hl hend)
    | 12, _ => exact lv_tableIn (tgt := 1000) C9.2.1 C9.2.2.1 dL_law_44 (by decide) (by decide) rfl (by decide) (law_12 C9 hP hS hl hend)
    | 13, _ => exact lv_tableIn (tgt := 1056) C9.2.1 C9.2.2.1 dL_law_44 (by decide) (by decide) rfl (by decide) (law_13 C9 hP hS hl hend)
    | 14, _ => exact lv_tableIn (tgt := 1136) C9.2.1 C9.2.2.1 dL_law_44 (by decide) (by decide) rfl (by decide) (law_14 C9 hP hS hl hend)
    | 15, _ => exact lv_tableIn (tgt := 1204) C9.2.1 C9.2.2.1 dL_law_44 (by decide) (by decide) rfl (by decide) (law_15 C9 hP hS hl hend)
    | 16, _ => exact lv_tableIn (tgt := 1260) C9.2.1 C9.2.2.1 dL_law_44 (by decide) (by decide) rfl (by decide) (law_16 C9 hP hS hl hend)
    | 17, _ => exact lv_tableIn (tgt := 1316) C9.2.1 C9.2.2.1 dL_law_44 (by decide) (by decide) rfl (by decide) (law_17 C9 hP hS hl hend)
    | 18, _ => exact lv_tableIn (tgt := 1384) C9.2.1 C9.2.2.1 dL_law_44 (by decide) (by decide) rfl (by decide) (law_18 C9 hP hS hl hend)
    | 19, _ => exact lv_tableIn (tgt := 1464) C9.2.1 C9.2.2.1 dL_law_44 (by decide) (by decide) rfl (by decide) (law_19 C9 hP hS hl hend)
    | 20, _ => exact lv_tableIn (tgt := 1532) C9.2.1 C9.2.2.1 dL_law_44 (by decide) (by decide) rfl (by decide) (law_20 C9 hP hS hl hend)
    | 21, _ => exact lv_tableIn (tgt := 1588) C9.2.1 C9.2.2.1 dL_law_44 (by decide) (by decide) rfl (by decide) (law_21 C9 hP hS hl hend)
    | 22, _ => exact lv_tableIn (tgt := 1656) C9.2.1 C9.2.2.1 dL_law_44 (by decide) (by decide) rfl (by decide) (law_22 C9 hP hS hl hend)
    | 23, _ => exact lv_tableIn (tgt := 1712) C9.2.1 C9.2.2.1 dL_law_44 (by decide) (by decide) rfl (by decide) (law_23 C9 hP hS hl hend)
    | 24, _ => exact lv_tableIn (tgt := 1756) C9.2.1 C9.2.2.1 dL_law_44 (by decide) (by decide) rfl (by decide) (law_24 C9 hP hS hl hend)
    | 25, _ => exact lv_tableIn (tgt := 1812) C9.2.1 C9.2.2.1 dL_law_44 (by decide) (by decide) rfl (by decide) (law_25 C9 hP hS hl hend)
    | 26, _ => exact lv_tableIn (tgt := 1880) C9.2.1 C9.2.2.1 dL_law_44 (by decide) (by decide) rfl (by decide) (law_26 C9 hP hS hl hend)
    | 27, _ => exact lv_tableIn (tgt := 1972) C9.2.1 C9.2.2.1 dL_law_44 (by decide) (by decide) rfl (by decide) (law_27 C9 hP hS hl hend)
    | 28, _ => exact lv_tableIn (tgt := 2056) C9.2.1 C9.2.2.1 dL_law_44 (by decide) (by decide) rfl (by decide) (law_28 C9 hP hS hl hend)
    | 29, _ => exact lv_tableIn (tgt := 2124) C9.2.1 C9.2.2.1 dL_law_44 (by decide) (by decide) rfl (by decide) (law_29 C9 hP hS hl hend)
    | 30, _ => exact lv_tableIn (tgt := 2192) C9.2.1 C9.2.2.1 dL_law_44 (by decide) (by decide) rfl (by decide) (law_30 C9 hP hS hl hend)
    | 31, _ => exact lv_tableIn (tgt := 2260) C9.2.1 C9.2.2.1 dL_law_44 (by decide) (by decide) rfl (by decide) (law_31 C9 hP hS hl hend)
    | 32, _ => exact lv_tableIn (tgt := 2340) C9.2.1 C9.2.2.1 dL_law_44 (by decide) (by decide) rfl (by decide) (law_32 C9 hP hS hl hend)
    | 33, _ => exact lv_tableIn (tgt := 2396) C9.2.1 C9.2.2.1 dL_law_44 (by decide) (by decide) rfl (by decide) (law_33 C9 hP hS hl hend)
    | 34, _ => exact lv_tableIn (tgt := 2484) C9.2.1 C9.2.2.1 dL_law_44 (by decide) (by decide) rfl (by decide) (law_34 C9 hP hS hl hend)
    | 35, _ => exact lv_tableIn (tgt := 2497) C9.2.1 C9.2.2.1 dL_law_44 (by decide) (by decide) rfl (by decide) (law_35 C9 hP hS hl hend)
    | 36, _ => exact lv_tableIn (tgt := 2510) C9.2.1 C9.2.2.1 dL_law_44 (by decide) (by decide) rfl (by decide) (law_36 C9 hP hS hl hend)
    | 37, _ => exact lv_tableIn (tgt := 2566) C9.2.1 C9.2.2.1 dL_law_44 (by decide) (by decide) rfl (by decide) (law_37 C9 hP hS hl hend)
    | 38, _ => exact lv_tableIn (tgt := 2579) C9.2.1 C9.2.2.1 dL_law_44 (by decide) (by decide) rfl (by decide) (law_38 C9 hP hS hl hend)
    | 39, _ => exact lv_tableIn (tgt := 2592) C9.2.1 C9.2.2.1 dL_law_44 (by decide) (by decide) rfl (by decide) (law_39 C9 hP hS hl hend)
    | 40, _ => exact lv_tableIn (tgt := 2636) C9.2.1 C9.2.2.1 dL_law_44 (by decide) (by decide) rfl (by decide) (law_40 C9 hP hS hl hend)
    | 41, _ => exact lv_tableIn (tgt := 2692) C9.2.1 C9.2.2.1 dL_law_44 (by decide) (by decide) rfl (by decide) (law_41 C9 hP hS hl hend)
    | 42, _ => exact lv_tableIn (tgt := 2769) C9.2.1 C9.2.2.1 dL_law_44 (by decide) (by decide) rfl (by decide) (law_42 C9 hP hS hl hend)
    | i + 43, h => exact absurd h (by omega)
  · refine lv_tableOut (tgt := 2812) C9.2.1 C9.2.2.1 dL_law_44 (by simpa using h) (by decide) ?_
    refine W.widen (k := 6000) (n := 90000) (Nat.le_of_ble_eq_true rfl) (Nat.le_of_ble_eq_true rfl) ?_
    exact hend _ _ hS _ (lv_sub hl [0, 1] rfl)
