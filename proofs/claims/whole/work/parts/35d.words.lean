/-! the wrappers' words stand in the tables -/
theorem lin_setNeed : ∀ w ∈ wvL_setNeed, w ∈ lw_tbl := by decide +kernel
theorem lin_plan : ∀ w ∈ wvL_plan, w ∈ lw_tbl := by decide +kernel
theorem lin_keep : ∀ w ∈ wvL_keep, w ∈ lw_tbl := by decide +kernel
theorem lin_drop : ∀ w ∈ wvL_drop, w ∈ lw_tbl := by decide +kernel
