/-! the wrappers' words stand in the tables -/
theorem lin_lacks : ∀ w ∈ wvL_lacks, w ∈ lw_tbl := by decide +kernel
theorem lin_isUnfit : ∀ w ∈ wvL_isUnfit, w ∈ lw_tbl := by decide +kernel
theorem lin_isSpoilt : ∀ w ∈ wvL_isSpoilt, w ∈ lw_tbl := by decide +kernel
theorem lin_missing : ∀ w ∈ wvL_missing, w ∈ lw_tbl := by decide +kernel
