set_option maxRecDepth 100000 in
theorem kC_isDone : Cond.code yL_isDone cL_isDone 12 (some .boolean) ∈ tables_1 := (List.mem_append_right _ (List.mem_append_right _ (List.mem_of_getElem? (i := 172) rfl)))
theorem kM_L_isDone : gwM yL_isDone cL_isDone 12 (some .boolean) 4 := ⟨(List.mem_append_right _ kC_isDone), (List.mem_of_getElem? (i := 48) (by decide +kernel)), ⟨by decide +kernel, by decide +kernel⟩, by decide +kernel⟩
