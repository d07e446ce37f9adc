/-! links that stand last in a table (tables.py dropped them; with it mended gen_links.py writes them into 15 and this part goes) -/
abbrev M_X10_most : Mt := (yX10_most, cX10_most, 2, (some .int))
theorem kk_X10_most : Cond.code M_X10_most.1 M_X10_most.2.1 M_X10_most.2.2.1 M_X10_most.2.2.2 ∈ lw_tbl := (List.mem_append_right _ (List.mem_of_getElem? (i := 719) (by decide +kernel)))
theorem ki_X10_most : Cond.instanceMethod M_X10_most.1 ∈ lw_tbl := (List.mem_append_right _ (List.mem_of_getElem? (i := 717) (by decide +kernel)))
theorem kl_X10_most : Cond.selects M_X10_most.1.cls M_X10_most.1 M_X10_most.1 ∈ lw_tbl := (List.mem_append_right _ (List.mem_of_getElem? (i := 718) (by decide +kernel)))
theorem kv_L_114 : CV "FurrowFieldLaw" 114 M_X10_most 10 1 := ⟨kk_X10_most, (List.mem_append_right _ (List.mem_of_getElem? (i := 716) (by decide +kernel))), ki_X10_most, kl_X10_most, kn_X10, ⟨_, rfl, rfl⟩, by decide +kernel, by decide +kernel, by decide +kernel, by decide +kernel, by decide⟩
theorem kv_L_47 : CV "FurrowFieldLaw" 47 M_X10_colour 10 2 := ⟨kk_X10_colour, (List.mem_append_right _ (List.mem_of_getElem? (i := 479) (by decide +kernel))), ki_X10_colour, kl_X10_colour, kn_X10, ⟨_, rfl, rfl⟩, by decide +kernel, by decide +kernel, by decide +kernel, by decide +kernel, by decide⟩
theorem kc_L_18 : Cond.constantLong "FurrowFieldLaw" 18 (4294967295 : Int64) ∈ lw_tbl := (List.mem_append_right _ (List.mem_of_getElem? (i := 1132) (by decide +kernel)))
