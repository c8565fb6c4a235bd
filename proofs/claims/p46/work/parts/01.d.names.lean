def tbk : Nat → List Cond
  | 0 => k2_sels lw_privs
  | 1 => tables_1_1
  | 2 => tables_1_2
  | 3 => tables_1_3
  | 4 => tables_1_4
  | 5 => tables_1_5
  | 6 => tables_1_6
  | 7 => tables_1_7
  | 8 => tables_1_8
  | _ => sx6
theorem tbk_in : ∀ k, ∀ w ∈ tbk k, w ∈ lw_tbx
  | 0, _, h => List.mem_append_left _ (List.mem_append_left _ h)
  | 1, _, h => List.mem_append_left _ (List.mem_append_right _ (List.mem_append_left _ h))
  | 2, _, h => List.mem_append_left _ (List.mem_append_right _ (List.mem_append_right _ (List.mem_append_left _ h)))
  | 3, _, h => List.mem_append_left _ (List.mem_append_right _ (List.mem_append_right _ (List.mem_append_right _ (List.mem_append_left _ h))))
  | 4, _, h => List.mem_append_left _ (List.mem_append_right _ (List.mem_append_right _ (List.mem_append_right _ (List.mem_append_right _ (List.mem_append_left _ h)))))
  | 5, _, h => List.mem_append_left _ (List.mem_append_right _ (List.mem_append_right _ (List.mem_append_right _ (List.mem_append_right _ (List.mem_append_right _ (List.mem_append_left _ h))))))
  | 6, _, h => List.mem_append_left _ (List.mem_append_right _ (List.mem_append_right _ (List.mem_append_right _ (List.mem_append_right _ (List.mem_append_right _ (List.mem_append_right _ (List.mem_append_left _ h)))))))
  | 7, _, h => List.mem_append_left _ (List.mem_append_right _ (List.mem_append_right _ (List.mem_append_right _ (List.mem_append_right _ (List.mem_append_right _ (List.mem_append_right _ (List.mem_append_right _ (List.mem_append_left _ h))))))))
  | 8, _, h => List.mem_append_left _ (List.mem_append_right _ (List.mem_append_right _ (List.mem_append_right _ (List.mem_append_right _ (List.mem_append_right _ (List.mem_append_right _ (List.mem_append_right _ (List.mem_append_right _ (h)))))))))
  | _ + 9, _, h => List.mem_append_right _ h
theorem wsL_law_x0 : ∀ w ∈ (vx_atS RX11 142 "java/lang/IndexOutOfBoundsException" ["java/lang/RuntimeException", "java/lang/Exception"]).filter goodWord, w ∈ lw_tbx := by decide +kernel
theorem wsL_law_x1 : ∀ w ∈ (vx_atS RX11 113 "java/lang/IllegalArgumentException" ["java/lang/RuntimeException", "java/lang/Exception"]).filter goodWord, w ∈ lw_tbx := by decide +kernel
theorem wsL_law_x2 : ∀ w ∈ (vx_atS RX11 249 "java/lang/IllegalStateException" ["java/lang/RuntimeException", "java/lang/Exception"]).filter goodWord, w ∈ lw_tbx := by decide +kernel
theorem wsL_law_x3 : ∀ w ∈ (vn_atS RX11 293).filter goodWord, w ∈ lw_tbx := by decide +kernel
/-- all good words of the tables -/
noncomputable def AW : List Cond := lw_tbx.filter goodWord
theorem AW_tbx : ∀ w ∈ AW, w ∈ lw_tbx := fun w h => (List.mem_filter.mp h).1
theorem aw_good {w : Cond} (h : w ∈ AW) : (w.onTables && w.keeps) = true ∨ ∃ ty, w = .arrayClass ty := good_of_word (List.mem_filter.mp h).2
theorem aw_of {w : Cond} (k i : Nat) (h : (tbk k)[i]? = some w) (hg : goodWord w = true) : w ∈ AW := List.mem_filter.mpr ⟨tbk_in k w (List.mem_of_getElem? h), hg⟩
theorem aw_l {w c : Cond} (h : w ∈ AW) : w ∈ (c :: AW) := List.mem_cons_of_mem _ h
theorem gq0 {c c2 : Cond} (h : c2 ∈ AW) : GoodIn (c :: AW) (c2 :: AW) := fun w hw => by
  rcases List.mem_cons.mp hw with rfl | hw
  · exact ⟨aw_l h, aw_good h⟩
  · exact ⟨aw_l hw, aw_good hw⟩
theorem gqx {c c2 : Cond} {x : List Cond} (hx : ∀ w ∈ x, w ∈ AW) (h : c2 ∈ AW) : GoodIn (c :: AW) (x ++ (c2 :: AW)) := goodIn_app (fun w hw => ⟨aw_l (hx w hw), aw_good (hx w hw)⟩) (gq0 h)
theorem fa1 {a : Cond} (h : a ∈ AW) : ∀ w ∈ ([a] : List Cond), w ∈ AW := fun w hw => by rw [List.mem_singleton.mp hw]; exact h
theorem fa2 {a : Cond} {l : List Cond} (h : a ∈ AW) (hl : ∀ w ∈ l, w ∈ AW) : ∀ w ∈ a :: l, w ∈ AW := List.forall_mem_cons.mpr ⟨h, hl⟩
theorem gqV {own C : String} {idx : Nat} {y : MethodName} {c c2 : Cond} (h1 : Cond.methodLink own idx y ∈ AW) (h2 : Cond.instanceMethod y ∈ AW) (h3 : Cond.selects C y y ∈ AW) (h4 : Cond.initialized C ∈ AW) (h : c2 ∈ AW) : GoodIn (c :: AW) (wsV own idx C y (c2 :: AW)) := gqx (fa2 h1 (fa2 h2 (fa2 h3 (fa1 h4)))) h
theorem gqS {own : String} {idx : Nat} {y : MethodName} {c c2 : Cond} (h1 : Cond.methodLink own idx y ∈ AW) (h2 : Cond.static y ∈ AW) (h4 : Cond.initialized y.cls ∈ AW) (h : c2 ∈ AW) : GoodIn (c :: AW) (va_wsS own idx y (c2 :: AW)) := gqx (fa2 h1 (fa2 h2 (fa1 h4))) h
theorem gqSU {own : String} {idx : Nat} {y : MethodName} {c c2 : Cond} (h1 : Cond.methodLink own idx y ∈ AW) (h2 : Cond.sameMethod y.cls y.cls y.name y.desc ∈ AW) (h3 : Cond.superclass own y.cls ∈ AW) (h4 : Cond.instanceMethod y ∈ AW) (h5 : Cond.initialized y.cls ∈ AW) (h : c2 ∈ AW) : GoodIn (c :: AW) (va_wsSU own idx y (c2 :: AW)) := gqx (fa2 h1 (fa2 h2 (fa2 h3 (fa2 h4 (fa1 h5))))) h
theorem gqU {own C owner : String} {idx : Nat} {x y : MethodName} {c c2 : Cond} (h1 : Cond.methodLink own idx x ∈ AW) (h2 : Cond.sameMethod x.cls owner x.name x.desc ∈ AW) (h3 : Cond.selects C x y ∈ AW) (h4 : Cond.instanceMethod y ∈ AW) (h5 : Cond.initialized y.cls ∈ AW) (h : c2 ∈ AW) : GoodIn (c :: AW) (va_wsU own idx C owner x y (c2 :: AW)) := gqx (fa2 h1 (fa2 h2 (fa2 h3 (fa2 h4 (fa1 h5))))) h
theorem gqO {own C owner : String} {idx : Nat} {x y : MethodName} {c c2 : Cond} (h1 : Cond.methodLink own idx x ∈ AW) (h2 : Cond.sameMethod x.cls owner x.name x.desc ∈ AW) (h0 : Cond.instanceMethod ⟨owner, x.name, x.desc⟩ ∈ AW) (h3 : Cond.selects C x y ∈ AW) (h4 : Cond.instanceMethod y ∈ AW) (h5 : Cond.initialized y.cls ∈ AW) (h : c2 ∈ AW) : GoodIn (c :: AW) (va_wsO own idx C owner x y (c2 :: AW)) := gqx (fa2 h1 (fa2 h2 (fa2 h0 (fa2 h3 (fa2 h4 (fa1 h5)))))) h
theorem gqF {own C : String} {idx : Nat} {x y : MethodName} {c c2 : Cond} (h1 : Cond.methodLink own idx x ∈ AW) (h3 : Cond.selects C x y ∈ AW) (h4 : Cond.instanceMethod y ∈ AW) (h5 : Cond.initialized y.cls ∈ AW) (h : c2 ∈ AW) : GoodIn (c :: AW) (va_wsF own idx C x y (c2 :: AW)) := gqx (fa2 h1 (fa2 h3 (fa2 h4 (fa1 h5)))) h
theorem aw_F0 : ∀ w ∈ (vx_atS RX11 142 "java/lang/IndexOutOfBoundsException" ["java/lang/RuntimeException", "java/lang/Exception"]).filter goodWord, w ∈ AW := fun w h => List.mem_filter.mpr ⟨wsL_law_x0 w h, (List.mem_filter.mp h).2⟩
theorem aw_F1 : ∀ w ∈ (vx_atS RX11 113 "java/lang/IllegalArgumentException" ["java/lang/RuntimeException", "java/lang/Exception"]).filter goodWord, w ∈ AW := fun w h => List.mem_filter.mpr ⟨wsL_law_x1 w h, (List.mem_filter.mp h).2⟩
theorem aw_F2 : ∀ w ∈ (vx_atS RX11 249 "java/lang/IllegalStateException" ["java/lang/RuntimeException", "java/lang/Exception"]).filter goodWord, w ∈ AW := fun w h => List.mem_filter.mpr ⟨wsL_law_x2 w h, (List.mem_filter.mp h).2⟩
theorem aw_F3 : ∀ w ∈ (vn_atS RX11 293).filter goodWord, w ∈ AW := fun w h => List.mem_filter.mpr ⟨wsL_law_x3 w h, (List.mem_filter.mp h).2⟩
theorem inq_wsX00 : ∀ w ∈ wsX00, w ∈ lw_tbx := by decide +kernel
theorem gdq_wsX00 : ∀ w ∈ wsX00, goodWord w = true := by decide +kernel
theorem aw_wsX00 : ∀ w ∈ wsX00, w ∈ AW := fun w h => List.mem_filter.mpr ⟨inq_wsX00 w h, gdq_wsX00 w h⟩
theorem inq_wsX10 : ∀ w ∈ wsX10, w ∈ lw_tbx := by decide +kernel
theorem gdq_wsX10 : ∀ w ∈ wsX10, goodWord w = true := by decide +kernel
theorem aw_wsX10 : ∀ w ∈ wsX10, w ∈ AW := fun w h => List.mem_filter.mpr ⟨inq_wsX10 w h, gdq_wsX10 w h⟩
theorem inq_wsX20 : ∀ w ∈ wsX20, w ∈ lw_tbx := by decide +kernel
theorem gdq_wsX20 : ∀ w ∈ wsX20, goodWord w = true := by decide +kernel
theorem aw_wsX20 : ∀ w ∈ wsX20, w ∈ AW := fun w h => List.mem_filter.mpr ⟨inq_wsX20 w h, gdq_wsX20 w h⟩
theorem inq_wsX30 : ∀ w ∈ wsX30, w ∈ lw_tbx := by decide +kernel
theorem gdq_wsX30 : ∀ w ∈ wsX30, goodWord w = true := by decide +kernel
theorem aw_wsX30 : ∀ w ∈ wsX30, w ∈ AW := fun w h => List.mem_filter.mpr ⟨inq_wsX30 w h, gdq_wsX30 w h⟩
theorem inq_wsX40 : ∀ w ∈ wsX40, w ∈ lw_tbx := by decide +kernel
theorem gdq_wsX40 : ∀ w ∈ wsX40, goodWord w = true := by decide +kernel
theorem aw_wsX40 : ∀ w ∈ wsX40, w ∈ AW := fun w h => List.mem_filter.mpr ⟨inq_wsX40 w h, gdq_wsX40 w h⟩
theorem inq_wsX50 : ∀ w ∈ wsX50, w ∈ lw_tbx := by decide +kernel
theorem gdq_wsX50 : ∀ w ∈ wsX50, goodWord w = true := by decide +kernel
theorem aw_wsX50 : ∀ w ∈ wsX50, w ∈ AW := fun w h => List.mem_filter.mpr ⟨inq_wsX50 w h, gdq_wsX50 w h⟩
theorem inq_wsX60 : ∀ w ∈ wsX60, w ∈ lw_tbx := by decide +kernel
theorem gdq_wsX60 : ∀ w ∈ wsX60, goodWord w = true := by decide +kernel
theorem aw_wsX60 : ∀ w ∈ wsX60, w ∈ AW := fun w h => List.mem_filter.mpr ⟨inq_wsX60 w h, gdq_wsX60 w h⟩
theorem inq_wsX70 : ∀ w ∈ wsX70, w ∈ lw_tbx := by decide +kernel
theorem gdq_wsX70 : ∀ w ∈ wsX70, goodWord w = true := by decide +kernel
theorem aw_wsX70 : ∀ w ∈ wsX70, w ∈ AW := fun w h => List.mem_filter.mpr ⟨inq_wsX70 w h, gdq_wsX70 w h⟩
theorem inq_wsX80 : ∀ w ∈ wsX80, w ∈ lw_tbx := by decide +kernel
theorem gdq_wsX80 : ∀ w ∈ wsX80, goodWord w = true := by decide +kernel
theorem aw_wsX80 : ∀ w ∈ wsX80, w ∈ AW := fun w h => List.mem_filter.mpr ⟨inq_wsX80 w h, gdq_wsX80 w h⟩
theorem inq_wsX90 : ∀ w ∈ wsX90, w ∈ lw_tbx := by decide +kernel
theorem gdq_wsX90 : ∀ w ∈ wsX90, goodWord w = true := by decide +kernel
theorem aw_wsX90 : ∀ w ∈ wsX90, w ∈ AW := fun w h => List.mem_filter.mpr ⟨inq_wsX90 w h, gdq_wsX90 w h⟩
theorem inq_wsX100 : ∀ w ∈ wsX100, w ∈ lw_tbx := by decide +kernel
theorem gdq_wsX100 : ∀ w ∈ wsX100, goodWord w = true := by decide +kernel
theorem aw_wsX100 : ∀ w ∈ wsX100, w ∈ AW := fun w h => List.mem_filter.mpr ⟨inq_wsX100 w h, gdq_wsX100 w h⟩
theorem inq_wsX110 : ∀ w ∈ wsX110, w ∈ lw_tbx := by decide +kernel
theorem gdq_wsX110 : ∀ w ∈ wsX110, goodWord w = true := by decide +kernel
theorem aw_wsX110 : ∀ w ∈ wsX110, w ∈ AW := fun w h => List.mem_filter.mpr ⟨inq_wsX110 w h, gdq_wsX110 w h⟩
theorem inq_wsJ00 : ∀ w ∈ wsJ00, w ∈ lw_tbx := by decide +kernel
theorem gdq_wsJ00 : ∀ w ∈ wsJ00, goodWord w = true := by decide +kernel
theorem aw_wsJ00 : ∀ w ∈ wsJ00, w ∈ AW := fun w h => List.mem_filter.mpr ⟨inq_wsJ00 w h, gdq_wsJ00 w h⟩
theorem inq_wsJ40 : ∀ w ∈ wsJ40, w ∈ lw_tbx := by decide +kernel
theorem gdq_wsJ40 : ∀ w ∈ wsJ40, goodWord w = true := by decide +kernel
theorem aw_wsJ40 : ∀ w ∈ wsJ40, w ∈ AW := fun w h => List.mem_filter.mpr ⟨inq_wsJ40 w h, gdq_wsJ40 w h⟩
