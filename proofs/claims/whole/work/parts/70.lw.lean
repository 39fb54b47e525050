theorem lk_13 : Cond.classLink RL 13 rE1 ∈ TT := List.mem_filter.mpr ⟨List.mem_append_right _ (List.mem_append_right _ (List.mem_of_getElem? (i := 227) (by decide +kernel))), by decide +kernel⟩
theorem lk_15 : Cond.classLink RL 15 rE2 ∈ TT := List.mem_filter.mpr ⟨List.mem_append_right _ (List.mem_append_right _ (List.mem_of_getElem? (i := 228) (by decide +kernel))), by decide +kernel⟩
theorem lk_17 : Cond.classLink RL 17 rE4 ∈ TT := List.mem_filter.mpr ⟨List.mem_append_right _ (List.mem_append_right _ (List.mem_of_getElem? (i := 229) (by decide +kernel))), by decide +kernel⟩
theorem lc_1 : Cond.castable rE1 rE1 ∈ TT := List.mem_filter.mpr ⟨List.mem_append_right _ (List.mem_append_right _ (List.mem_of_getElem? (i := 240) (by decide +kernel))), by decide +kernel⟩
theorem lc_2 : Cond.castable rE2 rE2 ∈ TT := List.mem_filter.mpr ⟨List.mem_append_right _ (List.mem_append_right _ (List.mem_of_getElem? (i := 308) (by decide +kernel))), by decide +kernel⟩
theorem lc_4 : Cond.castable rE4 rE4 ∈ TT := List.mem_filter.mpr ⟨List.mem_append_right _ (List.mem_append_right _ (List.mem_of_getElem? (i := 323) (by decide +kernel))), by decide +kernel⟩
theorem lk_30 : Cond.classLink RL 30 rE3 ∈ TT := List.mem_filter.mpr ⟨List.mem_append_right _ (List.mem_append_right _ (List.mem_of_getElem? (i := 357) (by decide +kernel))), by decide +kernel⟩
theorem lc_3 : Cond.castable rE3 rE3 ∈ TT := List.mem_filter.mpr ⟨List.mem_append_right _ (List.mem_append_right _ (List.mem_of_getElem? (i := 367) (by decide +kernel))), by decide +kernel⟩
theorem ln_12 : Cond.not (.castable rE1 rE2) ∈ TT := List.mem_filter.mpr ⟨List.mem_append_left _ (by decide +kernel), by decide +kernel⟩
theorem ln_13 : Cond.not (.castable rE1 rE3) ∈ TT := List.mem_filter.mpr ⟨List.mem_append_left _ (by decide +kernel), by decide +kernel⟩
theorem ln_14 : Cond.not (.castable rE1 rE4) ∈ TT := List.mem_filter.mpr ⟨List.mem_append_left _ (by decide +kernel), by decide +kernel⟩
theorem ln_21 : Cond.not (.castable rE2 rE1) ∈ TT := List.mem_filter.mpr ⟨List.mem_append_left _ (by decide +kernel), by decide +kernel⟩
theorem ln_23 : Cond.not (.castable rE2 rE3) ∈ TT := List.mem_filter.mpr ⟨List.mem_append_left _ (by decide +kernel), by decide +kernel⟩
theorem ln_24 : Cond.not (.castable rE2 rE4) ∈ TT := List.mem_filter.mpr ⟨List.mem_append_left _ (by decide +kernel), by decide +kernel⟩
theorem ln_31 : Cond.not (.castable rE3 rE1) ∈ TT := List.mem_filter.mpr ⟨List.mem_append_left _ (by decide +kernel), by decide +kernel⟩
theorem ln_32 : Cond.not (.castable rE3 rE2) ∈ TT := List.mem_filter.mpr ⟨List.mem_append_left _ (by decide +kernel), by decide +kernel⟩
theorem ln_34 : Cond.not (.castable rE3 rE4) ∈ TT := List.mem_filter.mpr ⟨List.mem_append_left _ (by decide +kernel), by decide +kernel⟩
theorem ln_41 : Cond.not (.castable rE4 rE1) ∈ TT := List.mem_filter.mpr ⟨List.mem_append_left _ (by decide +kernel), by decide +kernel⟩
theorem ln_42 : Cond.not (.castable rE4 rE2) ∈ TT := List.mem_filter.mpr ⟨List.mem_append_left _ (by decide +kernel), by decide +kernel⟩
theorem ln_43 : Cond.not (.castable rE4 rE3) ∈ TT := List.mem_filter.mpr ⟨List.mem_append_left _ (by decide +kernel), by decide +kernel⟩
