/-! the wrappers' words stand in the tables -/
theorem lin_put : ∀ w ∈ wvL_put, w ∈ lw_tbl := by decide +kernel
theorem lin_take : ∀ w ∈ wvL_take, w ∈ lw_tbl := by decide +kernel
theorem lin_where : ∀ w ∈ wvL_where, w ∈ lw_tbl := by decide +kernel
theorem lin_whereByAll : ∀ w ∈ wvL_whereByAll, w ∈ lw_tbl := by decide +kernel
