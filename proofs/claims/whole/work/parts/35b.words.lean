/-! the wrappers' words stand in the tables -/
theorem lin_count : ∀ w ∈ wvL_count, w ∈ lw_tbl := by decide +kernel
theorem lin_countByAll : ∀ w ∈ wvL_countByAll, w ∈ lw_tbl := by decide +kernel
theorem lin_claims : ∀ w ∈ wvL_claims, w ∈ lw_tbl := by decide +kernel
theorem lin_meet : ∀ w ∈ wvL_meet, w ∈ lw_tbl := by decide +kernel
