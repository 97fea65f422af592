theorem ct_26 : ∀ w ∈ wsL_law0_r27, w ∈ lw_tbl := by decide +kernel
theorem ct_27 : ∀ w ∈ wsL_law0_r28, w ∈ lw_tbl := by decide +kernel
theorem ct_28 : ∀ w ∈ wsL_law0_r29, w ∈ lw_tbl := by decide +kernel
theorem ct_29 : ∀ w ∈ wsL_law0_r30, w ∈ lw_tbl := by decide +kernel
theorem ct_30 : ∀ w ∈ wsL_law0_r31, w ∈ lw_tbl := by decide +kernel
theorem ct_31 : ∀ w ∈ wsL_law0_r32, w ∈ lw_tbl := by decide +kernel
