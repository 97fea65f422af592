theorem ct_18 : ∀ w ∈ wsL_law0_r19, w ∈ lw_tbl := by decide +kernel
theorem ct_19 : ∀ w ∈ wsL_law0_r20, w ∈ lw_tbl := by decide +kernel
theorem ct_20 : ∀ w ∈ wsL_law0_r21, w ∈ lw_tbl := by decide +kernel
theorem ct_21 : ∀ w ∈ wsL_law0_r22, w ∈ lw_tbl := by decide +kernel
theorem ct_22 : ∀ w ∈ wsL_law0_r23, w ∈ lw_tbl := by decide +kernel
theorem ct_23 : ∀ w ∈ wsL_law0_r24, w ∈ lw_tbl := by decide +kernel
theorem ct_24 : ∀ w ∈ wsL_law0_r25, w ∈ lw_tbl := by decide +kernel
theorem ct_25 : ∀ w ∈ wsL_law0_r26, w ∈ lw_tbl := by decide +kernel
