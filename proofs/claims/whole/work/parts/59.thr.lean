/-! the throws of the class -/
def fw_tq (ic k : Nat) : Bool := (fw_ta "DeltaViews" ic k).all (fun c => fw_keep c && c.onTables && lw_tbl.any (fun x => decide (x = c)))
theorem fw_tq_ok {ic k : Nat} (h : fw_tq ic k = true) : ∀ c ∈ fw_ta "DeltaViews" ic k, c ∈ fw_big ∧ c.onTables = true := by
  intro c hc
  have h1 := List.all_eq_true.mp h c hc
  rw [Bool.and_eq_true, Bool.and_eq_true] at h1
  obtain ⟨x, hx, he⟩ := List.any_eq_true.mp h1.2
  have he := of_decide_eq_true he
  subst he
  exact ⟨List.mem_filter.mpr ⟨hx, h1.1.1⟩, h1.1.2⟩
theorem tq_1 : fw_tq 36 1 = true := by decide +kernel
theorem tq_2 : fw_tq 47 2 = true := by decide +kernel
theorem tq_3 : fw_tq 56 3 = true := by decide +kernel
theorem tk_34 : fw_tk "DeltaViews" 32 34 36 1 "no such table" := ⟨fw_tq_ok tq_1, fw_mem 193 (by decide +kernel) rfl, fw_mem 194 (by decide +kernel) rfl, fw_mem 48 (by decide +kernel) rfl, List.mem_of_getElem? (i := 198) (by decide +kernel), rfl, by decide +kernel⟩
theorem tk_162 : fw_tk "DeltaViews" 32 162 36 1 "no such view" := ⟨fw_tq_ok tq_1, fw_mem 193 (by decide +kernel) rfl, fw_mem 194 (by decide +kernel) rfl, fw_mem 48 (by decide +kernel) rfl, List.mem_of_getElem? (i := 474) (by decide +kernel), rfl, by decide +kernel⟩
theorem tk_164 : fw_tk "DeltaViews" 32 164 36 1 "no such column" := ⟨fw_tq_ok tq_1, fw_mem 193 (by decide +kernel) rfl, fw_mem 194 (by decide +kernel) rfl, fw_mem 48 (by decide +kernel) rfl, List.mem_of_getElem? (i := 478) (by decide +kernel), rfl, by decide +kernel⟩
theorem tk_45 : fw_tk "DeltaViews" 43 45 47 2 "a number is too far from 0" := ⟨fw_tq_ok tq_2, fw_mem 265 (by decide +kernel) rfl, fw_mem 266 (by decide +kernel) rfl, fw_mem 49 (by decide +kernel) rfl, List.mem_of_getElem? (i := 237) (by decide +kernel), rfl, by decide +kernel⟩
theorem tk_84 : fw_tk "DeltaViews" 43 84 47 2 "no such test" := ⟨fw_tq_ok tq_2, fw_mem 265 (by decide +kernel) rfl, fw_mem 266 (by decide +kernel) rfl, fw_mem 49 (by decide +kernel) rfl, List.mem_of_getElem? (i := 479) (by decide +kernel), rfl, by decide +kernel⟩
theorem tk_95 : fw_tk "DeltaViews" 43 95 47 2 "no such width" := ⟨fw_tq_ok tq_2, fw_mem 265 (by decide +kernel) rfl, fw_mem 266 (by decide +kernel) rfl, fw_mem 49 (by decide +kernel) rfl, List.mem_of_getElem? (i := 515) (by decide +kernel), rfl, by decide +kernel⟩
theorem tk_115 : fw_tk "DeltaViews" 43 115 47 2 "too wide together" := ⟨fw_tq_ok tq_2, fw_mem 265 (by decide +kernel) rfl, fw_mem 266 (by decide +kernel) rfl, fw_mem 49 (by decide +kernel) rfl, List.mem_of_getElem? (i := 540) (by decide +kernel), rfl, by decide +kernel⟩
theorem tk_122 : fw_tk "DeltaViews" 43 122 47 2 "the widths differ" := ⟨fw_tq_ok tq_2, fw_mem 265 (by decide +kernel) rfl, fw_mem 266 (by decide +kernel) rfl, fw_mem 49 (by decide +kernel) rfl, List.mem_of_getElem? (i := 566) (by decide +kernel), rfl, by decide +kernel⟩
theorem tk_129 : fw_tk "DeltaViews" 43 129 47 2 "no such kind" := ⟨fw_tq_ok tq_2, fw_mem 265 (by decide +kernel) rfl, fw_mem 266 (by decide +kernel) rfl, fw_mem 49 (by decide +kernel) rfl, List.mem_of_getElem? (i := 587) (by decide +kernel), rfl, by decide +kernel⟩
theorem tk_54 : fw_tk "DeltaViews" 52 54 56 3 "the batch is full" := ⟨fw_tq_ok tq_3, fw_mem 285 (by decide +kernel) rfl, fw_mem 286 (by decide +kernel) rfl, fw_mem 50 (by decide +kernel) rfl, List.mem_of_getElem? (i := 257) (by decide +kernel), rfl, by decide +kernel⟩
theorem tk_68 : fw_tk "DeltaViews" 52 68 56 3 "a table or a view would not keep its limits" := ⟨fw_tq_ok tq_3, fw_mem 285 (by decide +kernel) rfl, fw_mem 286 (by decide +kernel) rfl, fw_mem 50 (by decide +kernel) rfl, List.mem_of_getElem? (i := 450) (by decide +kernel), rfl, by decide +kernel⟩
theorem tk_171 : fw_tk "DeltaViews" 52 171 56 3 "no room for another view" := ⟨fw_tq_ok tq_3, fw_mem 285 (by decide +kernel) rfl, fw_mem 286 (by decide +kernel) rfl, fw_mem 50 (by decide +kernel) rfl, List.mem_of_getElem? (i := 502) (by decide +kernel), rfl, by decide +kernel⟩
theorem tk_179 : fw_tk "DeltaViews" 52 179 56 3 "the view would have too many rows" := ⟨fw_tq_ok tq_3, fw_mem 285 (by decide +kernel) rfl, fw_mem 286 (by decide +kernel) rfl, fw_mem 50 (by decide +kernel) rfl, List.mem_of_getElem? (i := 507) (by decide +kernel), rfl, by decide +kernel⟩
theorem tk_139 : fw_tk "DeltaViews" 52 139 56 3 "only the tables are left" := ⟨fw_tq_ok tq_3, fw_mem 285 (by decide +kernel) rfl, fw_mem 286 (by decide +kernel) rfl, fw_mem 50 (by decide +kernel) rfl, List.mem_of_getElem? (i := 630) (by decide +kernel), rfl, by decide +kernel⟩
