/-! the law's own methods -/
theorem cdL_cell : yL_cell.cls ≠ "java/lang/invoke/MethodHandle" ∧ yL_cell.cls ≠ "java/lang/invoke/VarHandle" ∧ (parseMethodDescriptor yL_cell.desc).map (fun d => d.parameters.length) = some 2 := by decide +kernel
set_option maxRecDepth 20000 in
theorem lm_cell : Cond.methodLink RL 69 yL_cell ∈ lw_tbl := (List.mem_append_right _ (List.mem_of_getElem? (i := 536) (by decide +kernel)))
set_option maxRecDepth 20000 in
theorem ls_cell : Cond.static yL_cell ∈ lw_tbl := (List.mem_append_right _ (List.mem_of_getElem? (i := 537) (by decide +kernel)))
set_option maxRecDepth 20000 in
theorem lk_cell : Cond.code yL_cell cL_cell 2 (some .int) ∈ lw_tbl := (List.mem_append_right _ (List.mem_append_right _ (List.mem_append_right _ (List.mem_of_getElem? (l := tables_1_3) (i := 58) rfl))))
theorem gs_cell : goodWord (Cond.methodLink RL 69 yL_cell) = true ∧ goodWord (Cond.static yL_cell) = true ∧ goodWord (Cond.code yL_cell cL_cell 2 (some .int)) = true := ⟨by decide +kernel, by decide +kernel, by decide +kernel⟩
theorem cdL_acts : yL_acts.cls ≠ "java/lang/invoke/MethodHandle" ∧ yL_acts.cls ≠ "java/lang/invoke/VarHandle" ∧ (parseMethodDescriptor yL_acts.desc).map (fun d => d.parameters.length) = some 2 := by decide +kernel
set_option maxRecDepth 20000 in
theorem lm_acts : Cond.methodLink RL 79 yL_acts ∈ lw_tbl := (List.mem_append_right _ (List.mem_of_getElem? (i := 541) (by decide +kernel)))
set_option maxRecDepth 20000 in
theorem ls_acts : Cond.static yL_acts ∈ lw_tbl := (List.mem_append_right _ (List.mem_of_getElem? (i := 542) (by decide +kernel)))
set_option maxRecDepth 20000 in
theorem lk_acts : Cond.code yL_acts cL_acts 3 (some .int) ∈ lw_tbl := (List.mem_append_right _ (List.mem_append_right _ (List.mem_append_right _ (List.mem_of_getElem? (l := tables_1_3) (i := 63) rfl))))
theorem gs_acts : goodWord (Cond.methodLink RL 79 yL_acts) = true ∧ goodWord (Cond.static yL_acts) = true ∧ goodWord (Cond.code yL_acts cL_acts 3 (some .int)) = true := ⟨by decide +kernel, by decide +kernel, by decide +kernel⟩
theorem cdL_hangs : yL_hangs.cls ≠ "java/lang/invoke/MethodHandle" ∧ yL_hangs.cls ≠ "java/lang/invoke/VarHandle" ∧ (parseMethodDescriptor yL_hangs.desc).map (fun d => d.parameters.length) = some 1 := by decide +kernel
set_option maxRecDepth 20000 in
theorem lm_hangs : Cond.methodLink RL 83 yL_hangs ∈ lw_tbl := (List.mem_append_right _ (List.mem_of_getElem? (i := 544) (by decide +kernel)))
set_option maxRecDepth 20000 in
theorem ls_hangs : Cond.static yL_hangs ∈ lw_tbl := (List.mem_append_right _ (List.mem_of_getElem? (i := 545) (by decide +kernel)))
set_option maxRecDepth 20000 in
theorem lk_hangs : Cond.code yL_hangs cL_hangs 7 (some .boolean) ∈ lw_tbl := (List.mem_append_right _ (List.mem_append_right _ (List.mem_append_right _ (List.mem_of_getElem? (l := tables_1_3) (i := 66) rfl))))
theorem gs_hangs : goodWord (Cond.methodLink RL 83 yL_hangs) = true ∧ goodWord (Cond.static yL_hangs) = true ∧ goodWord (Cond.code yL_hangs cL_hangs 7 (some .boolean)) = true := ⟨by decide +kernel, by decide +kernel, by decide +kernel⟩
set_option maxRecDepth 20000 in
theorem li_RL : Cond.initialized RL ∈ lw_tbl := (List.mem_append_right _ (List.mem_of_getElem? (i := 0) (by decide +kernel)))
theorem gi_RL : goodWord (Cond.initialized RL) = true := by decide +kernel
set_option maxRecDepth 20000 in
theorem lc_7 : Cond.constant RL 7 41611 ∈ lw_tbl := (List.mem_append_right _ (List.mem_of_getElem? (i := 539) (by decide +kernel)))
theorem gc_7 : goodWord (Cond.constant RL 7 41611) = true := by decide +kernel
set_option maxRecDepth 20000 in
theorem lc_8 : Cond.constant RL 8 2147483647 ∈ lw_tbl := (List.mem_append_right _ (List.mem_of_getElem? (i := 540) (by decide +kernel)))
theorem gc_8 : goodWord (Cond.constant RL 8 2147483647) = true := by decide +kernel
theorem good_cons {big ws : List Cond} {w : Cond} (hm : w ∈ big) (hg : goodWord w = true) (h : GoodIn big ws) : GoodIn big (w :: ws) := fun x hx => by
  rcases List.mem_cons.mp hx with rfl | hx
  · exact ⟨hm, good_of_word hg⟩
  · exact h x hx
theorem good_nil {big : List Cond} : GoodIn big [] := fun x hx => absurd hx List.not_mem_nil
theorem gtCell : GoodIn lw_tbl (va_wsS RL 69 yL_cell wsL_cell) := good_cons lm_cell gs_cell.1 (good_cons ls_cell gs_cell.2.1 (good_cons li_RL gi_RL (good_cons lk_cell gs_cell.2.2 (good_cons lc_7 gc_7 (good_cons lc_8 gc_8 good_nil)))))
theorem gtActs : GoodIn lw_tbl (va_wsS RL 79 yL_acts wsL_acts) := good_cons lm_acts gs_acts.1 (good_cons ls_acts gs_acts.2.1 (good_cons li_RL gi_RL (good_cons lk_acts gs_acts.2.2 (goodB wsB_in))))
theorem gtHangs : GoodIn lw_tbl (va_wsS RL 83 yL_hangs wsL_hangs) := good_cons lm_hangs gs_hangs.1 (good_cons ls_hangs gs_hangs.2.1 (good_cons li_RL gi_RL (good_cons lk_hangs gs_hangs.2.2 (goodB wsB_in))))
