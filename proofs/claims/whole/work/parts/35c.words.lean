/-! the wrappers' words stand in the tables -/
theorem lin_known : ∀ w ∈ wvL_known, w ∈ lw_tbl := by decide +kernel
theorem lin_clock : ∀ w ∈ wvL_clock, w ∈ lw_tbl := by decide +kernel
theorem lin_guest : ∀ w ∈ wvL_guest, w ∈ lw_tbl := by decide +kernel
theorem lin_guests : ∀ w ∈ wvL_guests, w ∈ lw_tbl := by decide +kernel
