/-! the wrappers' words stand in the tables -/
theorem lin_bake : ∀ w ∈ wvL_bake, w ∈ lw_tbl := by decide +kernel
theorem lin_cake : ∀ w ∈ wvL_cake, w ∈ lw_tbl := by decide +kernel
theorem lin_keptFor : ∀ w ∈ wvL_keptFor, w ∈ lw_tbl := by decide +kernel
theorem lin_keptByAll : ∀ w ∈ wvL_keptByAll, w ∈ lw_tbl := by decide +kernel
