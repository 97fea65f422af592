theorem ct_36 : ∀ w ∈ wsX20, w ∈ lw_tbl := by decide +kernel
theorem ct_37 : ∀ w ∈ wsX30, w ∈ lw_tbl := by decide +kernel
theorem ct_38 : ∀ w ∈ wsX40, w ∈ lw_tbl := by decide +kernel
theorem ct_39 : ∀ w ∈ wsX50, w ∈ lw_tbl := by decide +kernel
theorem ct_40 : ∀ w ∈ wsX60, w ∈ lw_tbl := by decide +kernel
theorem ct_41 : ∀ w ∈ wsX80, w ∈ lw_tbl := by decide +kernel
theorem ct_42 : ∀ w ∈ wsX90, w ∈ lw_tbl := by decide +kernel
theorem ct_43 : ∀ w ∈ wsX100, w ∈ lw_tbl := by decide +kernel
theorem ct_44 : ∀ w ∈ wsJx4a65c0, w ∈ lw_tbl := by decide +kernel
theorem ct_45 : ∀ w ∈ ((vx_atS RX10 73 "java/lang/IllegalArgumentException" ["java/lang/RuntimeException", "java/lang/Exception"]).filter goodWord), w ∈ lw_tbl := by decide +kernel
theorem ct_46 : ∀ w ∈ ((vx_atS RX10 112 "java/lang/IllegalStateException" ["java/lang/RuntimeException", "java/lang/Exception"]).filter goodWord), w ∈ lw_tbl := by decide +kernel
theorem ct_47 : ∀ w ∈ ((vx_atS RX10 106 "java/lang/UnsupportedOperationException" ["java/lang/RuntimeException", "java/lang/Exception"]).filter goodWord), w ∈ lw_tbl := by decide +kernel
theorem ct_48 : ∀ w ∈ ((vx_atS RX10 243 "java/lang/IndexOutOfBoundsException" ["java/lang/RuntimeException", "java/lang/Exception"]).filter goodWord), w ∈ lw_tbl := by decide +kernel
theorem ct_49 : ∀ w ∈ ((vx_atS RX10 272 "java/lang/ArithmeticException" ["java/lang/RuntimeException", "java/lang/Exception"]).filter goodWord), w ∈ lw_tbl := by decide +kernel
theorem ct_50 : ∀ w ∈ ((nse_at.filter vx_no).filter goodWord), w ∈ lw_tbl := by decide +kernel
theorem ct_all : ∀ w ∈ WSL, w ∈ lw_tbl := by
  unfold WSL
  exact List.forall_mem_append.mpr ⟨ct_0, List.forall_mem_append.mpr ⟨ct_1, List.forall_mem_append.mpr ⟨ct_2, List.forall_mem_append.mpr ⟨ct_3, List.forall_mem_append.mpr ⟨ct_4, List.forall_mem_append.mpr ⟨ct_5, List.forall_mem_append.mpr ⟨ct_6, List.forall_mem_append.mpr ⟨ct_7, List.forall_mem_append.mpr ⟨ct_8, List.forall_mem_append.mpr ⟨ct_9, List.forall_mem_append.mpr ⟨ct_10, List.forall_mem_append.mpr ⟨ct_11, List.forall_mem_append.mpr ⟨ct_12, List.forall_mem_append.mpr ⟨ct_13, List.forall_mem_append.mpr ⟨ct_14, List.forall_mem_append.mpr ⟨ct_15, List.forall_mem_append.mpr ⟨ct_16, List.forall_mem_append.mpr ⟨ct_17, List.forall_mem_append.mpr ⟨ct_18, List.forall_mem_append.mpr ⟨ct_19, List.forall_mem_append.mpr ⟨ct_20, List.forall_mem_append.mpr ⟨ct_21, List.forall_mem_append.mpr ⟨ct_22, List.forall_mem_append.mpr ⟨ct_23, List.forall_mem_append.mpr ⟨ct_24, List.forall_mem_append.mpr ⟨ct_25, List.forall_mem_append.mpr ⟨ct_26, List.forall_mem_append.mpr ⟨ct_27, List.forall_mem_append.mpr ⟨ct_28, List.forall_mem_append.mpr ⟨ct_29, List.forall_mem_append.mpr ⟨ct_30, List.forall_mem_append.mpr ⟨ct_31, List.forall_mem_append.mpr ⟨ct_32, List.forall_mem_append.mpr ⟨ct_33, List.forall_mem_append.mpr ⟨ct_34, List.forall_mem_append.mpr ⟨ct_35, List.forall_mem_append.mpr ⟨ct_36, List.forall_mem_append.mpr ⟨ct_37, List.forall_mem_append.mpr ⟨ct_38, List.forall_mem_append.mpr ⟨ct_39, List.forall_mem_append.mpr ⟨ct_40, List.forall_mem_append.mpr ⟨ct_41, List.forall_mem_append.mpr ⟨ct_42, List.forall_mem_append.mpr ⟨ct_43, List.forall_mem_append.mpr ⟨ct_44, List.forall_mem_append.mpr ⟨ct_45, List.forall_mem_append.mpr ⟨ct_46, List.forall_mem_append.mpr ⟨ct_47, List.forall_mem_append.mpr ⟨ct_48, List.forall_mem_append.mpr ⟨ct_49, ct_50⟩⟩⟩⟩⟩⟩⟩⟩⟩⟩⟩⟩⟩⟩⟩⟩⟩⟩⟩⟩⟩⟩⟩⟩⟩⟩⟩⟩⟩⟩⟩⟩⟩⟩⟩⟩⟩⟩⟩⟩⟩⟩⟩⟩⟩⟩⟩⟩⟩⟩
