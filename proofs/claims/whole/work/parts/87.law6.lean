
theorem lkH_word : GoodIn WSL (va_wsS RL 134 yL_word ((Cond.codeWith yL_word cL_word 4 (some .int) [(0, 9, 12, 13), (0, 9, 15, 15)]) :: WSL)) := gd_app (List.forall_mem_cons.mpr ⟨wd_6_14, List.forall_mem_cons.mpr ⟨wd_6_15, List.forall_mem_cons.mpr ⟨wd_6_16, fun _ h => nomatch h⟩⟩⟩) (gdw wd_6_17)
theorem cwS_L_word : yL_word.cls ≠ "java/lang/invoke/MethodHandle" ∧ yL_word.cls ≠ "java/lang/invoke/VarHandle" ∧ (parseMethodDescriptor yL_word.desc).map (fun d => d.parameters.length) = some 3 := by decide +kernel
theorem lk_L_139 : GoodIn WSL (wsV RL 139 RX11 yX11_word (ws_ yX11_word cX11_word 2 (some .int))) := gd_app (List.forall_mem_cons.mpr ⟨wd_7_23, List.forall_mem_cons.mpr ⟨wd_8_0, List.forall_mem_cons.mpr ⟨wd_8_1, List.forall_mem_cons.mpr ⟨wd_1_5, fun _ h => nomatch h⟩⟩⟩⟩) (gd_ wd_8_2)
theorem cwV_X11_word : yX11_word.cls = RX11 ∧ yX11_word.cls ≠ "java/lang/invoke/MethodHandle" ∧ yX11_word.cls ≠ "java/lang/invoke/VarHandle" ∧ (parseMethodDescriptor yX11_word.desc).map (fun d => d.parameters.length) = some 1 := by decide +kernel
theorem lk_L_140 : GoodIn WSL (wsV RL 140 RX11 yX11_thrown (ws_ yX11_thrown cX11_thrown 1 (some .int))) := gd_app (List.forall_mem_cons.mpr ⟨wd_8_16, List.forall_mem_cons.mpr ⟨wd_8_17, List.forall_mem_cons.mpr ⟨wd_8_18, List.forall_mem_cons.mpr ⟨wd_1_5, fun _ h => nomatch h⟩⟩⟩⟩) (gd_ wd_8_19)
theorem cwV_X11_thrown : yX11_thrown.cls = RX11 ∧ yX11_thrown.cls ≠ "java/lang/invoke/MethodHandle" ∧ yX11_thrown.cls ≠ "java/lang/invoke/VarHandle" ∧ (parseMethodDescriptor yX11_thrown.desc).map (fun d => d.parameters.length) = some 0 := by decide +kernel
theorem lkH_number : GoodIn WSL (va_wsS RL 143 yL_number ((Cond.codeWith yL_number cL_number 4 (some .int) [(0, 9, 12, 13), (0, 9, 15, 15)]) :: WSL)) := gd_app (List.forall_mem_cons.mpr ⟨wd_8_20, List.forall_mem_cons.mpr ⟨wd_8_21, List.forall_mem_cons.mpr ⟨wd_6_16, fun _ h => nomatch h⟩⟩⟩) (gdw wd_8_22)
theorem cwS_L_number : yL_number.cls ≠ "java/lang/invoke/MethodHandle" ∧ yL_number.cls ≠ "java/lang/invoke/VarHandle" ∧ (parseMethodDescriptor yL_number.desc).map (fun d => d.parameters.length) = some 3 := by decide +kernel
theorem lk_L_145 : GoodIn WSL (wsV RL 145 RX11 yX11_number (ws_ yX11_number cX11_number 2 (some .int))) := gd_app (List.forall_mem_cons.mpr ⟨wd_9_3, List.forall_mem_cons.mpr ⟨wd_9_4, List.forall_mem_cons.mpr ⟨wd_9_5, List.forall_mem_cons.mpr ⟨wd_1_5, fun _ h => nomatch h⟩⟩⟩⟩) (gd_ wd_9_6)
theorem cwV_X11_number : yX11_number.cls = RX11 ∧ yX11_number.cls ≠ "java/lang/invoke/MethodHandle" ∧ yX11_number.cls ≠ "java/lang/invoke/VarHandle" ∧ (parseMethodDescriptor yX11_number.desc).map (fun d => d.parameters.length) = some 1 := by decide +kernel
theorem lkH_tag : GoodIn WSL (va_wsS RL 146 yL_tag ((Cond.codeWith yL_tag cL_tag 4 (some .int) [(0, 9, 12, 13), (0, 9, 15, 15)]) :: WSL)) := gd_app (List.forall_mem_cons.mpr ⟨wd_9_7, List.forall_mem_cons.mpr ⟨wd_9_8, List.forall_mem_cons.mpr ⟨wd_6_16, fun _ h => nomatch h⟩⟩⟩) (gdw wd_9_9)
theorem cwS_L_tag : yL_tag.cls ≠ "java/lang/invoke/MethodHandle" ∧ yL_tag.cls ≠ "java/lang/invoke/VarHandle" ∧ (parseMethodDescriptor yL_tag.desc).map (fun d => d.parameters.length) = some 3 := by decide +kernel
theorem lk_L_148 : GoodIn WSL (wsV RL 148 RX11 yX11_tag (ws_ yX11_tag cX11_tag 2 (some .int))) := gd_app (List.forall_mem_cons.mpr ⟨wd_9_14, List.forall_mem_cons.mpr ⟨wd_9_15, List.forall_mem_cons.mpr ⟨wd_9_16, List.forall_mem_cons.mpr ⟨wd_1_5, fun _ h => nomatch h⟩⟩⟩⟩) (gd_ wd_9_17)
theorem cwV_X11_tag : yX11_tag.cls = RX11 ∧ yX11_tag.cls ≠ "java/lang/invoke/MethodHandle" ∧ yX11_tag.cls ≠ "java/lang/invoke/VarHandle" ∧ (parseMethodDescriptor yX11_tag.desc).map (fun d => d.parameters.length) = some 1 := by decide +kernel
theorem lkH_mark : GoodIn WSL (va_wsS RL 149 yL_mark ((Cond.codeWith yL_mark cL_mark 4 (some .int) [(0, 9, 12, 13), (0, 9, 15, 15)]) :: WSL)) := gd_app (List.forall_mem_cons.mpr ⟨wd_9_18, List.forall_mem_cons.mpr ⟨wd_9_19, List.forall_mem_cons.mpr ⟨wd_6_16, fun _ h => nomatch h⟩⟩⟩) (gdw wd_9_20)
theorem cwS_L_mark : yL_mark.cls ≠ "java/lang/invoke/MethodHandle" ∧ yL_mark.cls ≠ "java/lang/invoke/VarHandle" ∧ (parseMethodDescriptor yL_mark.desc).map (fun d => d.parameters.length) = some 3 := by decide +kernel
theorem lk_L_152 : GoodIn WSL (wsV RL 152 RX11 yX11_mark (ws_ yX11_mark cX11_mark 2 (some .int))) := gd_app (List.forall_mem_cons.mpr ⟨wd_10_1, List.forall_mem_cons.mpr ⟨wd_10_2, List.forall_mem_cons.mpr ⟨wd_10_3, List.forall_mem_cons.mpr ⟨wd_1_5, fun _ h => nomatch h⟩⟩⟩⟩) (gd_ wd_10_4)
theorem cwV_X11_mark : yX11_mark.cls = RX11 ∧ yX11_mark.cls ≠ "java/lang/invoke/MethodHandle" ∧ yX11_mark.cls ≠ "java/lang/invoke/VarHandle" ∧ (parseMethodDescriptor yX11_mark.desc).map (fun d => d.parameters.length) = some 1 := by decide +kernel
theorem lkH_setWeights : GoodIn WSL (va_wsS RL 157 yL_setWeights ((Cond.codeWith yL_setWeights cL_setWeights 7 (some .int) [(0, 14, 17, 13)]) :: WSL)) := gd_app (List.forall_mem_cons.mpr ⟨wd_10_17, List.forall_mem_cons.mpr ⟨wd_10_18, List.forall_mem_cons.mpr ⟨wd_6_16, fun _ h => nomatch h⟩⟩⟩) (gdw wd_10_19)
theorem cwS_L_setWeights : yL_setWeights.cls ≠ "java/lang/invoke/MethodHandle" ∧ yL_setWeights.cls ≠ "java/lang/invoke/VarHandle" ∧ (parseMethodDescriptor yL_setWeights.desc).map (fun d => d.parameters.length) = some 6 := by decide +kernel
theorem lk_L_160 : GoodIn WSL (wsV RL 160 RX11 yX11_setWeights (ws_ yX11_setWeights cX11_setWeights 6 (some .int))) := gd_app (List.forall_mem_cons.mpr ⟨wd_11_11, List.forall_mem_cons.mpr ⟨wd_11_12, List.forall_mem_cons.mpr ⟨wd_11_13, List.forall_mem_cons.mpr ⟨wd_1_5, fun _ h => nomatch h⟩⟩⟩⟩) (gd_ wd_11_14)
theorem cwV_X11_setWeights : yX11_setWeights.cls = RX11 ∧ yX11_setWeights.cls ≠ "java/lang/invoke/MethodHandle" ∧ yX11_setWeights.cls ≠ "java/lang/invoke/VarHandle" ∧ (parseMethodDescriptor yX11_setWeights.desc).map (fun d => d.parameters.length) = some 4 := by decide +kernel
theorem lkH_addAbbreviation : GoodIn WSL (va_wsS RL 161 yL_addAbbreviation ((Cond.codeWith yL_addAbbreviation cL_addAbbreviation 4 (some .int) [(0, 16, 19, 13)]) :: WSL)) := gd_app (List.forall_mem_cons.mpr ⟨wd_11_15, List.forall_mem_cons.mpr ⟨wd_11_16, List.forall_mem_cons.mpr ⟨wd_6_16, fun _ h => nomatch h⟩⟩⟩) (gdw wd_11_17)
theorem cwS_L_addAbbreviation : yL_addAbbreviation.cls ≠ "java/lang/invoke/MethodHandle" ∧ yL_addAbbreviation.cls ≠ "java/lang/invoke/VarHandle" ∧ (parseMethodDescriptor yL_addAbbreviation.desc).map (fun d => d.parameters.length) = some 3 := by decide +kernel
theorem lk_L_163 : GoodIn WSL (wsV RL 163 RX11 yX11_addAbbreviation (ws_ yX11_addAbbreviation cX11_addAbbreviation 3 (some .boolean))) := gd_app (List.forall_mem_cons.mpr ⟨wd_11_22, List.forall_mem_cons.mpr ⟨wd_11_23, List.forall_mem_cons.mpr ⟨wd_12_0, List.forall_mem_cons.mpr ⟨wd_1_5, fun _ h => nomatch h⟩⟩⟩⟩) (gd_ wd_12_1)
theorem cwV_X11_addAbbreviation : yX11_addAbbreviation.cls = RX11 ∧ yX11_addAbbreviation.cls ≠ "java/lang/invoke/MethodHandle" ∧ yX11_addAbbreviation.cls ≠ "java/lang/invoke/VarHandle" ∧ (parseMethodDescriptor yX11_addAbbreviation.desc).map (fun d => d.parameters.length) = some 1 := by decide +kernel
theorem lkH_addTerm : GoodIn WSL (va_wsS RL 164 yL_addTerm ((Cond.codeWith yL_addTerm cL_addTerm 5 (some .int) [(0, 10, 13, 13), (0, 10, 17, 39), (0, 10, 21, 15)]) :: WSL)) := gd_app (List.forall_mem_cons.mpr ⟨wd_12_2, List.forall_mem_cons.mpr ⟨wd_12_3, List.forall_mem_cons.mpr ⟨wd_6_16, fun _ h => nomatch h⟩⟩⟩) (gdw wd_12_4)
theorem cwS_L_addTerm : yL_addTerm.cls ≠ "java/lang/invoke/MethodHandle" ∧ yL_addTerm.cls ≠ "java/lang/invoke/VarHandle" ∧ (parseMethodDescriptor yL_addTerm.desc).map (fun d => d.parameters.length) = some 4 := by decide +kernel
theorem lk_L_167 : GoodIn WSL (wsV RL 167 RX11 yX11_addTerm (ws_ yX11_addTerm cX11_addTerm 5 (some .int))) := gd_app (List.forall_mem_cons.mpr ⟨wd_13_0, List.forall_mem_cons.mpr ⟨wd_13_1, List.forall_mem_cons.mpr ⟨wd_13_2, List.forall_mem_cons.mpr ⟨wd_1_5, fun _ h => nomatch h⟩⟩⟩⟩) (gd_ wd_13_3)
theorem cwV_X11_addTerm : yX11_addTerm.cls = RX11 ∧ yX11_addTerm.cls ≠ "java/lang/invoke/MethodHandle" ∧ yX11_addTerm.cls ≠ "java/lang/invoke/VarHandle" ∧ (parseMethodDescriptor yX11_addTerm.desc).map (fun d => d.parameters.length) = some 2 := by decide +kernel
theorem lkH_takeSource : GoodIn WSL (va_wsS RL 168 yL_takeSource ((Cond.codeWith yL_takeSource cL_takeSource 3 (some .int) [(0, 8, 11, 15)]) :: WSL)) := gd_app (List.forall_mem_cons.mpr ⟨wd_13_5, List.forall_mem_cons.mpr ⟨wd_13_6, List.forall_mem_cons.mpr ⟨wd_6_16, fun _ h => nomatch h⟩⟩⟩) (gdw wd_13_7)
theorem cwS_L_takeSource : yL_takeSource.cls ≠ "java/lang/invoke/MethodHandle" ∧ yL_takeSource.cls ≠ "java/lang/invoke/VarHandle" ∧ (parseMethodDescriptor yL_takeSource.desc).map (fun d => d.parameters.length) = some 2 := by decide +kernel
theorem lk_L_171 : GoodIn WSL (wsV RL 171 RX11 yX11_takeSource (ws_ yX11_takeSource cX11_takeSource 2 (some .int))) := gd_app (List.forall_mem_cons.mpr ⟨wd_14_11, List.forall_mem_cons.mpr ⟨wd_14_12, List.forall_mem_cons.mpr ⟨wd_14_13, List.forall_mem_cons.mpr ⟨wd_1_5, fun _ h => nomatch h⟩⟩⟩⟩) (gd_ wd_14_14)
theorem cwV_X11_takeSource : yX11_takeSource.cls = RX11 ∧ yX11_takeSource.cls ≠ "java/lang/invoke/MethodHandle" ∧ yX11_takeSource.cls ≠ "java/lang/invoke/VarHandle" ∧ (parseMethodDescriptor yX11_takeSource.desc).map (fun d => d.parameters.length) = some 0 := by decide +kernel
theorem lkH_addUnit : GoodIn WSL (va_wsS RL 172 yL_addUnit ((Cond.codeWith yL_addUnit cL_addUnit 3 (some .int) [(0, 8, 11, 48), (0, 8, 14, 15)]) :: WSL)) := gd_app (List.forall_mem_cons.mpr ⟨wd_14_16, List.forall_mem_cons.mpr ⟨wd_14_17, List.forall_mem_cons.mpr ⟨wd_6_16, fun _ h => nomatch h⟩⟩⟩) (gdw wd_14_18)
theorem cwS_L_addUnit : yL_addUnit.cls ≠ "java/lang/invoke/MethodHandle" ∧ yL_addUnit.cls ≠ "java/lang/invoke/VarHandle" ∧ (parseMethodDescriptor yL_addUnit.desc).map (fun d => d.parameters.length) = some 2 := by decide +kernel
theorem lk_L_174 : GoodIn WSL (wsV RL 174 RX11 yX11_addUnit (ws_ yX11_addUnit cX11_addUnit 2 (some .int))) := gd_app (List.forall_mem_cons.mpr ⟨wd_18_12, List.forall_mem_cons.mpr ⟨wd_18_13, List.forall_mem_cons.mpr ⟨wd_18_14, List.forall_mem_cons.mpr ⟨wd_1_5, fun _ h => nomatch h⟩⟩⟩⟩) (gd_ wd_18_15)
theorem cwV_X11_addUnit : yX11_addUnit.cls = RX11 ∧ yX11_addUnit.cls ≠ "java/lang/invoke/MethodHandle" ∧ yX11_addUnit.cls ≠ "java/lang/invoke/VarHandle" ∧ (parseMethodDescriptor yX11_addUnit.desc).map (fun d => d.parameters.length) = some 0 := by decide +kernel
theorem lkH_correct : GoodIn WSL (va_wsS RL 175 yL_correct ((Cond.codeWith yL_correct cL_correct 4 (some .int) [(0, 9, 12, 48), (0, 9, 15, 39), (0, 9, 18, 15)]) :: WSL)) := gd_app (List.forall_mem_cons.mpr ⟨wd_18_21, List.forall_mem_cons.mpr ⟨wd_18_22, List.forall_mem_cons.mpr ⟨wd_6_16, fun _ h => nomatch h⟩⟩⟩) (gdw wd_18_23)
theorem cwS_L_correct : yL_correct.cls ≠ "java/lang/invoke/MethodHandle" ∧ yL_correct.cls ≠ "java/lang/invoke/VarHandle" ∧ (parseMethodDescriptor yL_correct.desc).map (fun d => d.parameters.length) = some 3 := by decide +kernel
theorem lk_L_177 : GoodIn WSL (wsV RL 177 RX11 yX11_correct (ws_ yX11_correct cX11_correct 3 (some .int))) := gd_app (List.forall_mem_cons.mpr ⟨wd_20_11, List.forall_mem_cons.mpr ⟨wd_20_12, List.forall_mem_cons.mpr ⟨wd_20_13, List.forall_mem_cons.mpr ⟨wd_1_5, fun _ h => nomatch h⟩⟩⟩⟩) (gd_ wd_20_14)
theorem cwV_X11_correct : yX11_correct.cls = RX11 ∧ yX11_correct.cls ≠ "java/lang/invoke/MethodHandle" ∧ yX11_correct.cls ≠ "java/lang/invoke/VarHandle" ∧ (parseMethodDescriptor yX11_correct.desc).map (fun d => d.parameters.length) = some 1 := by decide +kernel
theorem lkH_withdraw : GoodIn WSL (va_wsS RL 178 yL_withdraw ((Cond.codeWith yL_withdraw cL_withdraw 4 (some .int) [(0, 9, 12, 48), (0, 9, 15, 39)]) :: WSL)) := gd_app (List.forall_mem_cons.mpr ⟨wd_20_19, List.forall_mem_cons.mpr ⟨wd_20_20, List.forall_mem_cons.mpr ⟨wd_6_16, fun _ h => nomatch h⟩⟩⟩) (gdw wd_20_21)
theorem cwS_L_withdraw : yL_withdraw.cls ≠ "java/lang/invoke/MethodHandle" ∧ yL_withdraw.cls ≠ "java/lang/invoke/VarHandle" ∧ (parseMethodDescriptor yL_withdraw.desc).map (fun d => d.parameters.length) = some 3 := by decide +kernel
theorem lk_L_180 : GoodIn WSL (wsV RL 180 RX11 yX11_withdraw (ws_ yX11_withdraw cX11_withdraw 4 (some .int))) := gd_app (List.forall_mem_cons.mpr ⟨wd_21_7, List.forall_mem_cons.mpr ⟨wd_21_8, List.forall_mem_cons.mpr ⟨wd_21_9, List.forall_mem_cons.mpr ⟨wd_1_5, fun _ h => nomatch h⟩⟩⟩⟩) (gd_ wd_21_10)
theorem cwV_X11_withdraw : yX11_withdraw.cls = RX11 ∧ yX11_withdraw.cls ≠ "java/lang/invoke/MethodHandle" ∧ yX11_withdraw.cls ≠ "java/lang/invoke/VarHandle" ∧ (parseMethodDescriptor yX11_withdraw.desc).map (fun d => d.parameters.length) = some 1 := by decide +kernel
theorem lkH_isLive : GoodIn WSL (va_wsS RL 185 yL_isLive ((Cond.codeWith yL_isLive cL_isLive 4 (some .int) [(0, 16, 19, 48)]) :: WSL)) := gd_app (List.forall_mem_cons.mpr ⟨wd_21_19, List.forall_mem_cons.mpr ⟨wd_21_20, List.forall_mem_cons.mpr ⟨wd_6_16, fun _ h => nomatch h⟩⟩⟩) (gdw wd_21_21)
theorem cwS_L_isLive : yL_isLive.cls ≠ "java/lang/invoke/MethodHandle" ∧ yL_isLive.cls ≠ "java/lang/invoke/VarHandle" ∧ (parseMethodDescriptor yL_isLive.desc).map (fun d => d.parameters.length) = some 3 := by decide +kernel
theorem lk_L_187 : GoodIn WSL (wsV RL 187 RX11 yX11_isLive (ws_ yX11_isLive cX11_isLive 2 (some .boolean))) := gd_app (List.forall_mem_cons.mpr ⟨wd_22_2, List.forall_mem_cons.mpr ⟨wd_22_3, List.forall_mem_cons.mpr ⟨wd_22_4, List.forall_mem_cons.mpr ⟨wd_1_5, fun _ h => nomatch h⟩⟩⟩⟩) (gd_ wd_22_5)
theorem cwV_X11_isLive : yX11_isLive.cls = RX11 ∧ yX11_isLive.cls ≠ "java/lang/invoke/MethodHandle" ∧ yX11_isLive.cls ≠ "java/lang/invoke/VarHandle" ∧ (parseMethodDescriptor yX11_isLive.desc).map (fun d => d.parameters.length) = some 1 := by decide +kernel
theorem lkH_cost : GoodIn WSL (va_wsS RL 188 yL_cost ((Cond.codeWith yL_cost cL_cost 4 (some .int) [(0, 9, 12, 48), (0, 9, 15, 15)]) :: WSL)) := gd_app (List.forall_mem_cons.mpr ⟨wd_22_6, List.forall_mem_cons.mpr ⟨wd_22_7, List.forall_mem_cons.mpr ⟨wd_6_16, fun _ h => nomatch h⟩⟩⟩) (gdw wd_22_8)
theorem cwS_L_cost : yL_cost.cls ≠ "java/lang/invoke/MethodHandle" ∧ yL_cost.cls ≠ "java/lang/invoke/VarHandle" ∧ (parseMethodDescriptor yL_cost.desc).map (fun d => d.parameters.length) = some 3 := by decide +kernel
theorem lk_L_190 : GoodIn WSL (wsV RL 190 RX11 yX11_cost (ws_ yX11_cost cX11_cost 2 (some .int))) := gd_app (List.forall_mem_cons.mpr ⟨wd_23_17, List.forall_mem_cons.mpr ⟨wd_23_18, List.forall_mem_cons.mpr ⟨wd_23_19, List.forall_mem_cons.mpr ⟨wd_1_5, fun _ h => nomatch h⟩⟩⟩⟩) (gd_ wd_23_20)
theorem lkH_costFromEnds : GoodIn WSL (va_wsS RL 191 yL_costFromEnds ((Cond.codeWith yL_costFromEnds cL_costFromEnds 4 (some .int) [(0, 9, 12, 48), (0, 9, 15, 15)]) :: WSL)) := gd_app (List.forall_mem_cons.mpr ⟨wd_24_22, List.forall_mem_cons.mpr ⟨wd_24_23, List.forall_mem_cons.mpr ⟨wd_6_16, fun _ h => nomatch h⟩⟩⟩) (gdw wd_25_0)
theorem cwS_L_costFromEnds : yL_costFromEnds.cls ≠ "java/lang/invoke/MethodHandle" ∧ yL_costFromEnds.cls ≠ "java/lang/invoke/VarHandle" ∧ (parseMethodDescriptor yL_costFromEnds.desc).map (fun d => d.parameters.length) = some 3 := by decide +kernel
theorem lk_L_193 : GoodIn WSL (wsV RL 193 RX11 yX11_costFromEnds (ws_ yX11_costFromEnds cX11_costFromEnds 2 (some .int))) := gd_app (List.forall_mem_cons.mpr ⟨wd_25_9, List.forall_mem_cons.mpr ⟨wd_25_10, List.forall_mem_cons.mpr ⟨wd_25_11, List.forall_mem_cons.mpr ⟨wd_1_5, fun _ h => nomatch h⟩⟩⟩⟩) (gd_ wd_25_12)
theorem cwV_X11_costFromEnds : yX11_costFromEnds.cls = RX11 ∧ yX11_costFromEnds.cls ≠ "java/lang/invoke/MethodHandle" ∧ yX11_costFromEnds.cls ≠ "java/lang/invoke/VarHandle" ∧ (parseMethodDescriptor yX11_costFromEnds.desc).map (fun d => d.parameters.length) = some 1 := by decide +kernel
theorem lkH_likeness : GoodIn WSL (va_wsS RL 194 yL_likeness ((Cond.codeWith yL_likeness cL_likeness 4 (some .int) [(0, 9, 12, 48), (0, 9, 15, 15)]) :: WSL)) := gd_app (List.forall_mem_cons.mpr ⟨wd_25_14, List.forall_mem_cons.mpr ⟨wd_25_15, List.forall_mem_cons.mpr ⟨wd_6_16, fun _ h => nomatch h⟩⟩⟩) (gdw wd_25_16)
theorem cwS_L_likeness : yL_likeness.cls ≠ "java/lang/invoke/MethodHandle" ∧ yL_likeness.cls ≠ "java/lang/invoke/VarHandle" ∧ (parseMethodDescriptor yL_likeness.desc).map (fun d => d.parameters.length) = some 3 := by decide +kernel
theorem lk_L_196 : GoodIn WSL (wsV RL 196 RX11 yX11_likeness (ws_ yX11_likeness cX11_likeness 2 (some .int))) := gd_app (List.forall_mem_cons.mpr ⟨wd_26_13, List.forall_mem_cons.mpr ⟨wd_26_14, List.forall_mem_cons.mpr ⟨wd_26_15, List.forall_mem_cons.mpr ⟨wd_1_5, fun _ h => nomatch h⟩⟩⟩⟩) (gd_ wd_26_16)
theorem cwV_X11_likeness : yX11_likeness.cls = RX11 ∧ yX11_likeness.cls ≠ "java/lang/invoke/MethodHandle" ∧ yX11_likeness.cls ≠ "java/lang/invoke/VarHandle" ∧ (parseMethodDescriptor yX11_likeness.desc).map (fun d => d.parameters.length) = some 1 := by decide +kernel
theorem lkH_missing : GoodIn WSL (va_wsS RL 197 yL_missing ((Cond.codeWith yL_missing cL_missing 4 (some .int) [(0, 9, 12, 48), (0, 9, 15, 15)]) :: WSL)) := gd_app (List.forall_mem_cons.mpr ⟨wd_26_21, List.forall_mem_cons.mpr ⟨wd_26_22, List.forall_mem_cons.mpr ⟨wd_6_16, fun _ h => nomatch h⟩⟩⟩) (gdw wd_26_23)
theorem cwS_L_missing : yL_missing.cls ≠ "java/lang/invoke/MethodHandle" ∧ yL_missing.cls ≠ "java/lang/invoke/VarHandle" ∧ (parseMethodDescriptor yL_missing.desc).map (fun d => d.parameters.length) = some 3 := by decide +kernel
theorem lk_L_199 : GoodIn WSL (wsV RL 199 RX11 yX11_missing (ws_ yX11_missing cX11_missing 2 (some .int))) := gd_app (List.forall_mem_cons.mpr ⟨wd_27_13, List.forall_mem_cons.mpr ⟨wd_27_14, List.forall_mem_cons.mpr ⟨wd_27_15, List.forall_mem_cons.mpr ⟨wd_1_5, fun _ h => nomatch h⟩⟩⟩⟩) (gd_ wd_27_16)
theorem cwV_X11_missing : yX11_missing.cls = RX11 ∧ yX11_missing.cls ≠ "java/lang/invoke/MethodHandle" ∧ yX11_missing.cls ≠ "java/lang/invoke/VarHandle" ∧ (parseMethodDescriptor yX11_missing.desc).map (fun d => d.parameters.length) = some 1 := by decide +kernel
theorem lkH_score : GoodIn WSL (va_wsS RL 200 yL_score ((Cond.codeWith yL_score cL_score 4 (some .int) [(0, 9, 12, 48), (0, 9, 15, 15)]) :: WSL)) := gd_app (List.forall_mem_cons.mpr ⟨wd_27_21, List.forall_mem_cons.mpr ⟨wd_27_22, List.forall_mem_cons.mpr ⟨wd_6_16, fun _ h => nomatch h⟩⟩⟩) (gdw wd_27_23)
theorem cwS_L_score : yL_score.cls ≠ "java/lang/invoke/MethodHandle" ∧ yL_score.cls ≠ "java/lang/invoke/VarHandle" ∧ (parseMethodDescriptor yL_score.desc).map (fun d => d.parameters.length) = some 3 := by decide +kernel
theorem lk_L_202 : GoodIn WSL (wsV RL 202 RX11 yX11_score (ws_ yX11_score cX11_score 2 (some .int))) := gd_app (List.forall_mem_cons.mpr ⟨wd_28_14, List.forall_mem_cons.mpr ⟨wd_28_15, List.forall_mem_cons.mpr ⟨wd_28_16, List.forall_mem_cons.mpr ⟨wd_1_5, fun _ h => nomatch h⟩⟩⟩⟩) (gd_ wd_28_17)
theorem cwV_X11_score : yX11_score.cls = RX11 ∧ yX11_score.cls ≠ "java/lang/invoke/MethodHandle" ∧ yX11_score.cls ≠ "java/lang/invoke/VarHandle" ∧ (parseMethodDescriptor yX11_score.desc).map (fun d => d.parameters.length) = some 1 := by decide +kernel
theorem lkH_sharedPairs : GoodIn WSL (va_wsS RL 203 yL_sharedPairs ((Cond.codeWith yL_sharedPairs cL_sharedPairs 4 (some .int) [(0, 9, 12, 48), (0, 9, 15, 15)]) :: WSL)) := gd_app (List.forall_mem_cons.mpr ⟨wd_28_22, List.forall_mem_cons.mpr ⟨wd_28_23, List.forall_mem_cons.mpr ⟨wd_6_16, fun _ h => nomatch h⟩⟩⟩) (gdw wd_29_0)
theorem cwS_L_sharedPairs : yL_sharedPairs.cls ≠ "java/lang/invoke/MethodHandle" ∧ yL_sharedPairs.cls ≠ "java/lang/invoke/VarHandle" ∧ (parseMethodDescriptor yL_sharedPairs.desc).map (fun d => d.parameters.length) = some 3 := by decide +kernel
theorem lk_L_205 : GoodIn WSL (wsV RL 205 RX11 yX11_sharedPairs (ws_ yX11_sharedPairs cX11_sharedPairs 7 (some .int))) := gd_app (List.forall_mem_cons.mpr ⟨wd_29_21, List.forall_mem_cons.mpr ⟨wd_29_22, List.forall_mem_cons.mpr ⟨wd_29_23, List.forall_mem_cons.mpr ⟨wd_1_5, fun _ h => nomatch h⟩⟩⟩⟩) (gd_ wd_30_0)
theorem cwV_X11_sharedPairs : yX11_sharedPairs.cls = RX11 ∧ yX11_sharedPairs.cls ≠ "java/lang/invoke/MethodHandle" ∧ yX11_sharedPairs.cls ≠ "java/lang/invoke/VarHandle" ∧ (parseMethodDescriptor yX11_sharedPairs.desc).map (fun d => d.parameters.length) = some 1 := by decide +kernel
theorem lkH_best : GoodIn WSL (va_wsS RL 206 yL_best ((Cond.codeWith yL_best cL_best 3 (some .int) [(0, 8, 11, 15), (0, 8, 14, 48)]) :: WSL)) := gd_app (List.forall_mem_cons.mpr ⟨wd_30_7, List.forall_mem_cons.mpr ⟨wd_30_8, List.forall_mem_cons.mpr ⟨wd_6_16, fun _ h => nomatch h⟩⟩⟩) (gdw wd_30_9)
theorem cwS_L_best : yL_best.cls ≠ "java/lang/invoke/MethodHandle" ∧ yL_best.cls ≠ "java/lang/invoke/VarHandle" ∧ (parseMethodDescriptor yL_best.desc).map (fun d => d.parameters.length) = some 2 := by decide +kernel
theorem lk_L_208 : GoodIn WSL (wsV RL 208 RX11 yX11_best (ws_ yX11_best cX11_best 2 (some .int))) := gd_app (List.forall_mem_cons.mpr ⟨wd_31_17, List.forall_mem_cons.mpr ⟨wd_31_18, List.forall_mem_cons.mpr ⟨wd_31_19, List.forall_mem_cons.mpr ⟨wd_1_5, fun _ h => nomatch h⟩⟩⟩⟩) (gd_ wd_31_20)
theorem lkH_bestOfAll : GoodIn WSL (va_wsS RL 209 yL_bestOfAll ((Cond.codeWith yL_bestOfAll cL_bestOfAll 3 (some .int) [(0, 8, 11, 15), (0, 8, 14, 48)]) :: WSL)) := gd_app (List.forall_mem_cons.mpr ⟨wd_32_1, List.forall_mem_cons.mpr ⟨wd_32_2, List.forall_mem_cons.mpr ⟨wd_6_16, fun _ h => nomatch h⟩⟩⟩) (gdw wd_32_3)
theorem cwS_L_bestOfAll : yL_bestOfAll.cls ≠ "java/lang/invoke/MethodHandle" ∧ yL_bestOfAll.cls ≠ "java/lang/invoke/VarHandle" ∧ (parseMethodDescriptor yL_bestOfAll.desc).map (fun d => d.parameters.length) = some 2 := by decide +kernel
theorem lk_L_211 : GoodIn WSL (wsV RL 211 RX11 yX11_bestOfAll (ws_ yX11_bestOfAll cX11_bestOfAll 1 (some .int))) := gd_app (List.forall_mem_cons.mpr ⟨wd_32_12, List.forall_mem_cons.mpr ⟨wd_32_13, List.forall_mem_cons.mpr ⟨wd_32_14, List.forall_mem_cons.mpr ⟨wd_1_5, fun _ h => nomatch h⟩⟩⟩⟩) (gd_ wd_32_15)
theorem cwV_X11_bestOfAll : yX11_bestOfAll.cls = RX11 ∧ yX11_bestOfAll.cls ≠ "java/lang/invoke/MethodHandle" ∧ yX11_bestOfAll.cls ≠ "java/lang/invoke/VarHandle" ∧ (parseMethodDescriptor yX11_bestOfAll.desc).map (fun d => d.parameters.length) = some 0 := by decide +kernel
theorem lkH_open : GoodIn WSL (va_wsS RL 212 yL_open ((Cond.codeWith yL_open cL_open 3 (some .int) [(0, 8, 11, 15)]) :: WSL)) := gd_app (List.forall_mem_cons.mpr ⟨wd_32_17, List.forall_mem_cons.mpr ⟨wd_32_18, List.forall_mem_cons.mpr ⟨wd_6_16, fun _ h => nomatch h⟩⟩⟩) (gdw wd_32_19)
theorem cwS_L_open : yL_open.cls ≠ "java/lang/invoke/MethodHandle" ∧ yL_open.cls ≠ "java/lang/invoke/VarHandle" ∧ (parseMethodDescriptor yL_open.desc).map (fun d => d.parameters.length) = some 2 := by decide +kernel
theorem lk_L_214 : GoodIn WSL (wsV RL 214 RX11 yX11_open (ws_ yX11_open cX11_open 3 (some .int))) := gd_app (List.forall_mem_cons.mpr ⟨wd_34_17, List.forall_mem_cons.mpr ⟨wd_34_18, List.forall_mem_cons.mpr ⟨wd_34_19, List.forall_mem_cons.mpr ⟨wd_1_5, fun _ h => nomatch h⟩⟩⟩⟩) (gd_ wd_34_20)
theorem cwV_X11_open : yX11_open.cls = RX11 ∧ yX11_open.cls ≠ "java/lang/invoke/MethodHandle" ∧ yX11_open.cls ≠ "java/lang/invoke/VarHandle" ∧ (parseMethodDescriptor yX11_open.desc).map (fun d => d.parameters.length) = some 0 := by decide +kernel
theorem lkH_fill : GoodIn WSL (va_wsS RL 219 yL_fill ((Cond.codeWith yL_fill cL_fill 4 (some .int) [(0, 9, 12, 13)]) :: WSL)) := gd_app (List.forall_mem_cons.mpr ⟨wd_35_13, List.forall_mem_cons.mpr ⟨wd_35_14, List.forall_mem_cons.mpr ⟨wd_6_16, fun _ h => nomatch h⟩⟩⟩) (gdw wd_35_15)
theorem cwS_L_fill : yL_fill.cls ≠ "java/lang/invoke/MethodHandle" ∧ yL_fill.cls ≠ "java/lang/invoke/VarHandle" ∧ (parseMethodDescriptor yL_fill.desc).map (fun d => d.parameters.length) = some 3 := by decide +kernel
theorem lk_L_221 : GoodIn WSL (wsV RL 221 RX11 yX11_fill (ws_ yX11_fill cX11_fill 7 (some .int))) := gd_app (List.forall_mem_cons.mpr ⟨wd_38_13, List.forall_mem_cons.mpr ⟨wd_38_14, List.forall_mem_cons.mpr ⟨wd_38_15, List.forall_mem_cons.mpr ⟨wd_1_5, fun _ h => nomatch h⟩⟩⟩⟩) (gd_ wd_38_16)
theorem cwV_X11_fill : yX11_fill.cls = RX11 ∧ yX11_fill.cls ≠ "java/lang/invoke/MethodHandle" ∧ yX11_fill.cls ≠ "java/lang/invoke/VarHandle" ∧ (parseMethodDescriptor yX11_fill.desc).map (fun d => d.parameters.length) = some 1 := by decide +kernel
theorem lkH_answer : GoodIn WSL (va_wsS RL 222 yL_answer ((Cond.codeWith yL_answer cL_answer 4 (some .int) [(0, 9, 12, 92), (0, 9, 15, 15)]) :: WSL)) := gd_app (List.forall_mem_cons.mpr ⟨wd_39_23, List.forall_mem_cons.mpr ⟨wd_40_0, List.forall_mem_cons.mpr ⟨wd_6_16, fun _ h => nomatch h⟩⟩⟩) (gdw wd_40_1)
theorem cwS_L_answer : yL_answer.cls ≠ "java/lang/invoke/MethodHandle" ∧ yL_answer.cls ≠ "java/lang/invoke/VarHandle" ∧ (parseMethodDescriptor yL_answer.desc).map (fun d => d.parameters.length) = some 3 := by decide +kernel
theorem lk_L_224 : GoodIn WSL (wsV RL 224 RX11 yX11_answer (ws_ yX11_answer cX11_answer 4 (some .int))) := gd_app (List.forall_mem_cons.mpr ⟨wd_41_0, List.forall_mem_cons.mpr ⟨wd_41_1, List.forall_mem_cons.mpr ⟨wd_41_2, List.forall_mem_cons.mpr ⟨wd_1_5, fun _ h => nomatch h⟩⟩⟩⟩) (gd_ wd_41_3)
theorem cwV_X11_answer : yX11_answer.cls = RX11 ∧ yX11_answer.cls ≠ "java/lang/invoke/MethodHandle" ∧ yX11_answer.cls ≠ "java/lang/invoke/VarHandle" ∧ (parseMethodDescriptor yX11_answer.desc).map (fun d => d.parameters.length) = some 1 := by decide +kernel
theorem lkH_stateOf : GoodIn WSL (va_wsS RL 225 yL_stateOf ((Cond.codeWith yL_stateOf cL_stateOf 4 (some .int) [(0, 9, 12, 92)]) :: WSL)) := gd_app (List.forall_mem_cons.mpr ⟨wd_41_8, List.forall_mem_cons.mpr ⟨wd_41_9, List.forall_mem_cons.mpr ⟨wd_6_16, fun _ h => nomatch h⟩⟩⟩) (gdw wd_41_10)
theorem cwS_L_stateOf : yL_stateOf.cls ≠ "java/lang/invoke/MethodHandle" ∧ yL_stateOf.cls ≠ "java/lang/invoke/VarHandle" ∧ (parseMethodDescriptor yL_stateOf.desc).map (fun d => d.parameters.length) = some 3 := by decide +kernel
theorem lk_L_227 : GoodIn WSL (wsV RL 227 RX11 yX11_stateOf (ws_ yX11_stateOf cX11_stateOf 2 (some .char))) := gd_app (List.forall_mem_cons.mpr ⟨wd_41_16, List.forall_mem_cons.mpr ⟨wd_41_17, List.forall_mem_cons.mpr ⟨wd_41_18, List.forall_mem_cons.mpr ⟨wd_1_5, fun _ h => nomatch h⟩⟩⟩⟩) (gd_ wd_41_19)
theorem cwV_X11_stateOf : yX11_stateOf.cls = RX11 ∧ yX11_stateOf.cls ≠ "java/lang/invoke/MethodHandle" ∧ yX11_stateOf.cls ≠ "java/lang/invoke/VarHandle" ∧ (parseMethodDescriptor yX11_stateOf.desc).map (fun d => d.parameters.length) = some 1 := by decide +kernel
theorem lkH_unitOf : GoodIn WSL (va_wsS RL 228 yL_unitOf ((Cond.codeWith yL_unitOf cL_unitOf 4 (some .int) [(0, 9, 12, 92), (0, 9, 15, 48)]) :: WSL)) := gd_app (List.forall_mem_cons.mpr ⟨wd_41_20, List.forall_mem_cons.mpr ⟨wd_41_21, List.forall_mem_cons.mpr ⟨wd_6_16, fun _ h => nomatch h⟩⟩⟩) (gdw wd_41_22)
theorem cwS_L_unitOf : yL_unitOf.cls ≠ "java/lang/invoke/MethodHandle" ∧ yL_unitOf.cls ≠ "java/lang/invoke/VarHandle" ∧ (parseMethodDescriptor yL_unitOf.desc).map (fun d => d.parameters.length) = some 3 := by decide +kernel
theorem lk_L_230 : GoodIn WSL (wsV RL 230 RX11 yX11_unitOf (ws_ yX11_unitOf cX11_unitOf 2 (some .int))) := gd_app (List.forall_mem_cons.mpr ⟨wd_42_8, List.forall_mem_cons.mpr ⟨wd_42_9, List.forall_mem_cons.mpr ⟨wd_42_10, List.forall_mem_cons.mpr ⟨wd_1_5, fun _ h => nomatch h⟩⟩⟩⟩) (gd_ wd_42_11)
theorem cwV_X11_unitOf : yX11_unitOf.cls = RX11 ∧ yX11_unitOf.cls ≠ "java/lang/invoke/MethodHandle" ∧ yX11_unitOf.cls ≠ "java/lang/invoke/VarHandle" ∧ (parseMethodDescriptor yX11_unitOf.desc).map (fun d => d.parameters.length) = some 1 := by decide +kernel
theorem lkH_scoreOf : GoodIn WSL (va_wsS RL 231 yL_scoreOf ((Cond.codeWith yL_scoreOf cL_scoreOf 4 (some .int) [(0, 9, 12, 92), (0, 9, 15, 48)]) :: WSL)) := gd_app (List.forall_mem_cons.mpr ⟨wd_42_16, List.forall_mem_cons.mpr ⟨wd_42_17, List.forall_mem_cons.mpr ⟨wd_6_16, fun _ h => nomatch h⟩⟩⟩) (gdw wd_42_18)
theorem cwS_L_scoreOf : yL_scoreOf.cls ≠ "java/lang/invoke/MethodHandle" ∧ yL_scoreOf.cls ≠ "java/lang/invoke/VarHandle" ∧ (parseMethodDescriptor yL_scoreOf.desc).map (fun d => d.parameters.length) = some 3 := by decide +kernel
theorem lk_L_233 : GoodIn WSL (wsV RL 233 RX11 yX11_scoreOf_ (ws_ yX11_scoreOf_ cX11_scoreOf_ 2 (some .int))) := gd_app (List.forall_mem_cons.mpr ⟨wd_43_0, List.forall_mem_cons.mpr ⟨wd_43_1, List.forall_mem_cons.mpr ⟨wd_43_2, List.forall_mem_cons.mpr ⟨wd_1_5, fun _ h => nomatch h⟩⟩⟩⟩) (gd_ wd_43_3)
theorem cwV_X11_scoreOf_ : yX11_scoreOf_.cls = RX11 ∧ yX11_scoreOf_.cls ≠ "java/lang/invoke/MethodHandle" ∧ yX11_scoreOf_.cls ≠ "java/lang/invoke/VarHandle" ∧ (parseMethodDescriptor yX11_scoreOf_.desc).map (fun d => d.parameters.length) = some 1 := by decide +kernel
theorem lkH_segmentLength : GoodIn WSL (va_wsS RL 234 yL_segmentLength ((Cond.codeWith yL_segmentLength cL_segmentLength 4 (some .int) [(0, 9, 12, 92)]) :: WSL)) := gd_app (List.forall_mem_cons.mpr ⟨wd_43_4, List.forall_mem_cons.mpr ⟨wd_43_5, List.forall_mem_cons.mpr ⟨wd_6_16, fun _ h => nomatch h⟩⟩⟩) (gdw wd_43_6)
theorem cwS_L_segmentLength : yL_segmentLength.cls ≠ "java/lang/invoke/MethodHandle" ∧ yL_segmentLength.cls ≠ "java/lang/invoke/VarHandle" ∧ (parseMethodDescriptor yL_segmentLength.desc).map (fun d => d.parameters.length) = some 3 := by decide +kernel
theorem lk_L_236 : GoodIn WSL (wsV RL 236 RX11 yX11_segmentLength (ws_ yX11_segmentLength cX11_segmentLength 2 (some .int))) := gd_app (List.forall_mem_cons.mpr ⟨wd_43_11, List.forall_mem_cons.mpr ⟨wd_43_12, List.forall_mem_cons.mpr ⟨wd_43_13, List.forall_mem_cons.mpr ⟨wd_1_5, fun _ h => nomatch h⟩⟩⟩⟩) (gd_ wd_43_14)
theorem cwV_X11_segmentLength : yX11_segmentLength.cls = RX11 ∧ yX11_segmentLength.cls ≠ "java/lang/invoke/MethodHandle" ∧ yX11_segmentLength.cls ≠ "java/lang/invoke/VarHandle" ∧ (parseMethodDescriptor yX11_segmentLength.desc).map (fun d => d.parameters.length) = some 1 := by decide +kernel
theorem lkH_segmentToken : GoodIn WSL (va_wsS RL 237 yL_segmentToken ((Cond.codeWith yL_segmentToken cL_segmentToken 5 (some .int) [(0, 10, 13, 92)]) :: WSL)) := gd_app (List.forall_mem_cons.mpr ⟨wd_43_15, List.forall_mem_cons.mpr ⟨wd_43_16, List.forall_mem_cons.mpr ⟨wd_6_16, fun _ h => nomatch h⟩⟩⟩) (gdw wd_43_17)
theorem cwS_L_segmentToken : yL_segmentToken.cls ≠ "java/lang/invoke/MethodHandle" ∧ yL_segmentToken.cls ≠ "java/lang/invoke/VarHandle" ∧ (parseMethodDescriptor yL_segmentToken.desc).map (fun d => d.parameters.length) = some 4 := by decide +kernel
theorem lk_L_239 : GoodIn WSL (wsV RL 239 RX11 yX11_segmentToken (ws_ yX11_segmentToken cX11_segmentToken 3 (some .int))) := gd_app (List.forall_mem_cons.mpr ⟨wd_44_1, List.forall_mem_cons.mpr ⟨wd_44_2, List.forall_mem_cons.mpr ⟨wd_44_3, List.forall_mem_cons.mpr ⟨wd_1_5, fun _ h => nomatch h⟩⟩⟩⟩) (gd_ wd_44_4)
theorem cwV_X11_segmentToken : yX11_segmentToken.cls = RX11 ∧ yX11_segmentToken.cls ≠ "java/lang/invoke/MethodHandle" ∧ yX11_segmentToken.cls ≠ "java/lang/invoke/VarHandle" ∧ (parseMethodDescriptor yX11_segmentToken.desc).map (fun d => d.parameters.length) = some 2 := by decide +kernel
theorem lkH_targetLength : GoodIn WSL (va_wsS RL 240 yL_targetLength ((Cond.codeWith yL_targetLength cL_targetLength 4 (some .int) [(0, 9, 12, 92), (0, 9, 15, 48)]) :: WSL)) := gd_app (List.forall_mem_cons.mpr ⟨wd_44_5, List.forall_mem_cons.mpr ⟨wd_44_6, List.forall_mem_cons.mpr ⟨wd_6_16, fun _ h => nomatch h⟩⟩⟩) (gdw wd_44_7)
theorem cwS_L_targetLength : yL_targetLength.cls ≠ "java/lang/invoke/MethodHandle" ∧ yL_targetLength.cls ≠ "java/lang/invoke/VarHandle" ∧ (parseMethodDescriptor yL_targetLength.desc).map (fun d => d.parameters.length) = some 3 := by decide +kernel
theorem lk_L_242 : GoodIn WSL (wsV RL 242 RX11 yX11_targetLength (ws_ yX11_targetLength cX11_targetLength 2 (some .int))) := gd_app (List.forall_mem_cons.mpr ⟨wd_44_16, List.forall_mem_cons.mpr ⟨wd_44_17, List.forall_mem_cons.mpr ⟨wd_44_18, List.forall_mem_cons.mpr ⟨wd_1_5, fun _ h => nomatch h⟩⟩⟩⟩) (gd_ wd_44_19)
theorem cwV_X11_targetLength : yX11_targetLength.cls = RX11 ∧ yX11_targetLength.cls ≠ "java/lang/invoke/MethodHandle" ∧ yX11_targetLength.cls ≠ "java/lang/invoke/VarHandle" ∧ (parseMethodDescriptor yX11_targetLength.desc).map (fun d => d.parameters.length) = some 1 := by decide +kernel
theorem lkH_targetToken : GoodIn WSL (va_wsS RL 243 yL_targetToken ((Cond.codeWith yL_targetToken cL_targetToken 5 (some .int) [(0, 10, 13, 92), (0, 10, 17, 48)]) :: WSL)) := gd_app (List.forall_mem_cons.mpr ⟨wd_44_20, List.forall_mem_cons.mpr ⟨wd_44_21, List.forall_mem_cons.mpr ⟨wd_6_16, fun _ h => nomatch h⟩⟩⟩) (gdw wd_44_22)
theorem cwS_L_targetToken : yL_targetToken.cls ≠ "java/lang/invoke/MethodHandle" ∧ yL_targetToken.cls ≠ "java/lang/invoke/VarHandle" ∧ (parseMethodDescriptor yL_targetToken.desc).map (fun d => d.parameters.length) = some 4 := by decide +kernel
theorem lk_L_245 : GoodIn WSL (wsV RL 245 RX11 yX11_targetToken (ws_ yX11_targetToken cX11_targetToken 3 (some .int))) := gd_app (List.forall_mem_cons.mpr ⟨wd_45_7, List.forall_mem_cons.mpr ⟨wd_45_8, List.forall_mem_cons.mpr ⟨wd_45_9, List.forall_mem_cons.mpr ⟨wd_1_5, fun _ h => nomatch h⟩⟩⟩⟩) (gd_ wd_45_10)
theorem cwV_X11_targetToken : yX11_targetToken.cls = RX11 ∧ yX11_targetToken.cls ≠ "java/lang/invoke/MethodHandle" ∧ yX11_targetToken.cls ≠ "java/lang/invoke/VarHandle" ∧ (parseMethodDescriptor yX11_targetToken.desc).map (fun d => d.parameters.length) = some 2 := by decide +kernel
theorem lkH_targetKind : GoodIn WSL (va_wsS RL 246 yL_targetKind ((Cond.codeWith yL_targetKind cL_targetKind 5 (some .int) [(0, 10, 13, 92), (0, 10, 17, 48)]) :: WSL)) := gd_app (List.forall_mem_cons.mpr ⟨wd_45_15, List.forall_mem_cons.mpr ⟨wd_45_16, List.forall_mem_cons.mpr ⟨wd_6_16, fun _ h => nomatch h⟩⟩⟩) (gdw wd_45_17)
theorem cwS_L_targetKind : yL_targetKind.cls ≠ "java/lang/invoke/MethodHandle" ∧ yL_targetKind.cls ≠ "java/lang/invoke/VarHandle" ∧ (parseMethodDescriptor yL_targetKind.desc).map (fun d => d.parameters.length) = some 4 := by decide +kernel
theorem lk_L_248 : GoodIn WSL (wsV RL 248 RX11 yX11_targetKind (ws_ yX11_targetKind cX11_targetKind 4 (some .char))) := gd_app (List.forall_mem_cons.mpr ⟨wd_46_2, List.forall_mem_cons.mpr ⟨wd_46_3, List.forall_mem_cons.mpr ⟨wd_46_4, List.forall_mem_cons.mpr ⟨wd_1_5, fun _ h => nomatch h⟩⟩⟩⟩) (gd_ wd_46_5)
theorem cwV_X11_targetKind : yX11_targetKind.cls = RX11 ∧ yX11_targetKind.cls ≠ "java/lang/invoke/MethodHandle" ∧ yX11_targetKind.cls ≠ "java/lang/invoke/VarHandle" ∧ (parseMethodDescriptor yX11_targetKind.desc).map (fun d => d.parameters.length) = some 2 := by decide +kernel
set_option maxHeartbeats 4000000 in
set_option maxRecDepth 100000 in
theorem lc_word (l : Launch) (hsT : l.stackTraces = false) {g : GT} {cj cd : ClassId} {p : Program} {e : Env} {s : State} {m : MethodId} {b : Nat} {below : List Frame} {meth : Method} {c : Code} {Q : State → Prop} {ox om a1 a2 i k L : Nat} {xs : Nat → Int32} (hx : p.tables.exec = Jvm.exec) (hb : c.code = cL_law) (hml : c.maxLocals = 9) (hown : s.vm.findClass RL = some m.cls) (htl : ∀ w ∈ WSL, w.before #[Value.ref b] s = true) (hKK : KK g s) (hKJ : KJ g cj cd s) (hgb : gb g = s.heap.size) (hX : va_X b L xs s s.heap) (hbl : b < s.heap.size) (hi : i + 5 ≤ L) (hL : L ≤ 2560) (hk : k < 512) (K : LK g cj cd p l e s m b below meth c Q ox om a1 a2 (i + 5) (k + 1))
    (S : SGM) (z : Int) (w1 w2 : va_W) (f1 : Nat → Int64) (f2 : Nat → UInt64) (H : Heap) (locs : List Loc) (hCW : CW g ox S w1) (hMW : MW g om S z w2) (hSI : SI S) (hP : PP g (aJ cj a1 f1 :: aD1 cd a2 f2 :: (w1 ++ w2)) H) (hD : va_D (fun q => gb g ≤ q) (aJ cj a1 f1 :: aD1 cd a2 f2 :: (w1 ++ w2))) (hS : va_S (fun q => gb g ≤ q) s.heap H locs) (ls : Array Slot) (hl : lv_has ls 9 [(5, vi (i : Int)), (0, .ref b), (1, .ref ox), (2, .ref om), (3, .ref a1), (4, .ref a2)]) : W p l e room_1 s m #[Value.ref b] below meth c H locs (50 + 361 * k) (13700 + 13026 * k) Q (F0 m 216 ls []) := by
  have hbA : ¬ (fun q => gb g ≤ q) b := by show ¬ gb g ≤ b; omega
  have hAb : ∀ q, (fun q => gb g ≤ q) q → gb g ≤ q := fun _ h => h
  obtain ⟨v1, hv1, hx1⟩ : ∃ v : Int, jR v ∧ xs (jI ((i : Int) + 1)).toNatClampNeg = jI v := ⟨_, jR_of _, jI_of _⟩
  have hDc := (hD.perm pmA).left
  have hPc : PP g (aJ cj a1 f1 :: w1) H := (hP.perm pmA).mem fun q h => List.mem_append_left _ h
  have hsz : ∀ q, H.size ≤ q → gb g ≤ q := fun q h => by have := hS.1; omega
  have hFl : ∀ q, va_A (aJ cj a1 f1 :: w1) H.size q → gb g ≤ q := va_A_sub hDc (Nat.le_refl _) hsz
  refine lv_aload_n hx hb dL_law_216 rfl (lv_at hl 2 rfl) ?_
  refine lv_aload_n hx hb dL_law_217 rfl (lv_at hl 1 rfl) ?_
  refine lv_iload hx hb dL_law_218 (lv_at hl 0 rfl) ?_
  refine jr_iconst hx hb dL_law_220 ?_
  refine jr_iadd hx hb dL_law_221 ?_
  refine va_sld hx hb hX hbl hbA hS (jI_in (by omega) (by omega) (by omega)) dL_law_222 ?_
  rw [hx1]
  refine lv_aload_n hx hb dL_law_223 rfl (lv_at hl 4 rfl) ?_
  refine jk_Qi (vx_runSW (As := [.ref ox, vi v1, .ref a1]) (rest := []) ⟨hx, hb, hml, hown, htl⟩ (m_L_word l hsT g cj cd ox a1 f1 S w1 hCW H.size v1 hv1) (vx_cwSW 3 htl lkH_word rfl rfl rfl cwS_L_word ⟨Nat.le_of_ble_eq_true rfl, Nat.le_of_ble_eq_true rfl⟩) (jp_H hKK hKJ hS hAb ⟨rfl, hPc, hDc⟩) rfl rfl hl.1 rfl (lv_room (Nat.le_of_ble_eq_true rfl)) dL_law_224 ⟨by show _ ≤ 603072; omega, by show _ ≤ 7219306; omega⟩) hS (fun q _ h => hFl q h) hFl (fun z3 H1 locs hz3 hzs hks hS => ?_)
  obtain ⟨hz3, v1w, fn, hcase, hP1, hD1⟩ := hz3
  obtain ⟨hP, hD⟩ := lj_H hP hD hks hFl hP1 hD1
  subst hz3
  clear hks hzs hP1 hD1 hFl hsz hPc hDc; generalize H1 = H at hP hD hS ⊢
  refine W.widen (k := 50 + 361 * (k + 1)) (n := 13700 + 13026 * (k + 1)) (by omega) (by omega) ?_
  refine lv_istore (lv' := [(6, vi (cdTok S (0 ≤ v1 ∧ v1 < 100))), (5, vi (i : Int)), (0, .ref b), (1, .ref ox), (2, .ref om), (3, .ref a1), (4, .ref a2)]) hx hb dL_law_227 hl (by decide) rfl (fun ls hl => ?_)
  refine lv_aload_n hx hb dL_law_229 rfl (lv_at hl 4 rfl) ?_
  refine lv_aload_n hx hb dL_law_230 rfl (lv_at hl 2 rfl) ?_
  refine lv_iload hx hb dL_law_231 (lv_at hl 1 rfl) ?_
  refine jr_iconst hx hb dL_law_233 ?_
  refine jr_iadd hx hb dL_law_234 ?_
  refine va_sld hx hb hX hbl hbA hS (jI_in (by omega) (by omega) (by omega)) dL_law_235 ?_
  rw [hx1]
  have hPm : PP g w2 H := (hP.perm pmB).mem fun q h => List.mem_append_left _ h
  have hDm := (hD.perm pmB).left
  have hsz : ∀ q, H.size ≤ q → gb g ≤ q := fun q h => by have := hS.1; omega
  refine jk_Qi (va_runV (As := [vi v1]) (rest := []) ⟨hx, hb, hml, hown, htl⟩ (m_X11_word l g om S z w2 hMW v1 hv1) (cwV 1 htl lk_L_139 rfl rfl rfl cwV_X11_word ⟨Nat.le_of_ble_eq_true rfl, Nat.le_of_ble_eq_true rfl⟩) (jp_V hKK hS hAb (MW.recv hKK hMW hPm) ⟨hPm, hDm⟩) rfl rfl hl.1 rfl (lv_room (Nat.le_of_ble_eq_true rfl)) dL_law_236 ⟨by show _ ≤ 603072; omega, by show _ ≤ 7219306; omega⟩) hS (fun q _ h => hDm.inA h) (fun q h => hDm.inA h) (fun zm H1 locs hzm hzs hks hS => ?_)
  have hok : (cdTok S (0 ≤ v1 ∧ v1 < 100)) = 0 → 0 ≤ v1 ∧ v1 < 100 := fun q => by unfold cdTok at q; by_cases h : 0 ≤ v1 ∧ v1 < 100; exact h; rw [if_pos h] at q; exact absurd q (by decide)
  obtain ⟨S9, v2w, hC9, hM9, hI9, hP2, hD2, hval⟩ : ∃ (S9 : SGM) (v2w : va_W), CW g ox S9 v1w ∧ MW g om S9 (cdTok S (0 ≤ v1 ∧ v1 < 100)) v2w ∧ SI S9 ∧ PP g v2w H1 ∧ va_D (jA w2) v2w ∧ ((cdTok S (0 ≤ v1 ∧ v1 < 100)) = 0 → fn 0 = (jI ((S.1.length : Int) + 1)).toInt64 ∧ zm = (S.1.length : Int) + 1) := by
    rcases hcase with ⟨h1, h2, h3⟩ | ⟨h1, h2⟩ <;> rcases hzm with ⟨h4, h5, v2w, h6, h7, h8⟩ | ⟨h4, v2w, h6, h7, h8⟩
    · exact ⟨((S.1 ++ [0 * 10000 + v1], S.2)), v2w, h2, by rw [h1]; exact h6, hSI.push rfl (by have := hok h1; omega), h7, h8, fun _ => ⟨h3, h5⟩⟩
    · exact absurd h1 h4
    · exact absurd h4 h1
    · exact ⟨S, v2w, h2, h6, hSI, h7, h8, fun q => absurd q h1⟩
  obtain ⟨hP, hD⟩ := lj_M hP hD hsz hks hP2 hD2
  clear hcase hks hzs hP2 hD2 hPm hDm hsz hzm; generalize H1 = H at hP hD hS ⊢
  refine lv_istore (lv' := [(7, vi zm), (6, vi (cdTok S (0 ≤ v1 ∧ v1 < 100))), (5, vi (i : Int)), (0, .ref b), (1, .ref ox), (2, .ref om), (3, .ref a1), (4, .ref a2)]) hx hb dL_law_239 hl (by decide) rfl (fun ls hl => ?_)
  refine lv_aload_n hx hb dL_law_241 rfl (lv_at hl 5 rfl) ?_
  refine jk_Si (va_runV (As := []) (rest := []) ⟨hx, hb, hml, hown, htl⟩ (m_X11_thrownW l g om S9 (cdTok S (0 ≤ v1 ∧ v1 < 100)) v2w hM9) (cwV 0 htl lk_L_140 rfl rfl rfl cwV_X11_thrown ⟨Nat.le_of_ble_eq_true rfl, Nat.le_of_ble_eq_true rfl⟩) (jp_V hKK hS hAb (MW.recv hKK hM9 (hP.mem fun q h => List.mem_cons_of_mem _ (List.mem_cons_of_mem _ (List.mem_append_right _ h)))) (hP.mem fun q h => List.mem_cons_of_mem _ (List.mem_cons_of_mem _ (List.mem_append_right _ h)))) rfl rfl hl.1 rfl (lv_room (Nat.le_of_ble_eq_true rfl)) dL_law_242 ⟨by show _ ≤ 603072; omega, by show _ ≤ 7219306; omega⟩) (fun z4 hz4 => ?_)
  subst hz4
  refine lv_iload hx hb dL_law_245 (lv_at hl 1 rfl) ?_
  refine lv_icmp_eq (tgt := 252) hx hb dL_law_247 (by decide) (fun _ => ?_) (fun h9 => absurd rfl h9)
  refine lv_iload hx hb dL_law_252 (lv_at hl 1 rfl) ?_
  have hcdR : jR (cdTok S (0 ≤ v1 ∧ v1 < 100)) := by unfold cdTok; (repeat' split) <;> exact ⟨by omega, by omega⟩
  refine lv_if_ne (tgt := 269) hx hb dL_law_254 (by decide) (fun h9 => ?_) (fun h9 => ?_)
  · refine lv_goto (tgt := 2202) hx hb dL_law_269 (by decide) ?_
    refine jr_iinc (lv' := [(5, vi ((i : Int) + 5)), (7, vi zm), (6, vi (cdTok S (0 ≤ v1 ∧ v1 < 100))), (0, .ref b), (1, .ref ox), (2, .ref om), (3, .ref a1), (4, .ref a2)]) hx hb dL_law_2202 hl (k := 2) rfl rfl (by decide) rfl (fun ls hl => ?_)
    refine lv_goto (tgt := 28) hx hb dL_law_2205 (by decide) ?_
    exact K S9 _ v1w v2w fn f2 H locs hC9 hM9 hI9 hP hD hS ls (lv_sub hl [0, 3, 4, 5, 6, 7] rfl)
  · have hc0 : (cdTok S (0 ≤ v1 ∧ v1 < 100)) = 0 := (jI_inj hcdR ⟨by omega, by omega⟩).mp h9
    obtain ⟨hLV, hZ⟩ := hval hc0
    subst hZ
    refine lv_aload_n hx hb dL_law_257 rfl (lv_at hl 6 rfl) ?_
    refine jr_iconst hx hb dL_law_258 ?_
    refine va_lald hx hb hKJ hP 0 0 rfl rfl (jI_in (by omega) (by omega) (by omega)) dL_law_259 ?_
    rw [show (jI 0).toNatClampNeg = 0 from rfl, hLV]
    refine lv_iload hx hb dL_law_260 (lv_at hl 0 rfl) ?_
    refine lv_i2l hx hb dL_law_262 rfl ?_
    refine W.lcmp hx hb dL_law_263 ?_
    refine lv_if_eq (tgt := 269) hx hb dL_law_264 (by decide) (fun _ => ?_) (fun h9 => absurd (lg_cmp_self _) h9)
    refine lv_goto (tgt := 2202) hx hb dL_law_269 (by decide) ?_
    refine jr_iinc (lv' := [(5, vi ((i : Int) + 5)), (7, vi ((S.1.length : Int) + 1)), (6, vi (cdTok S (0 ≤ v1 ∧ v1 < 100))), (0, .ref b), (1, .ref ox), (2, .ref om), (3, .ref a1), (4, .ref a2)]) hx hb dL_law_2202 hl (k := 2) rfl rfl (by decide) rfl (fun ls hl => ?_)
    refine lv_goto (tgt := 28) hx hb dL_law_2205 (by decide) ?_
    exact K S9 _ v1w v2w fn f2 H locs hC9 hM9 hI9 hP hD hS ls (lv_sub hl [0, 3, 4, 5, 6, 7] rfl)
set_option maxHeartbeats 4000000 in
set_option maxRecDepth 100000 in
theorem lc_number (l : Launch) (hsT : l.stackTraces = false) {g : GT} {cj cd : ClassId} {p : Program} {e : Env} {s : State} {m : MethodId} {b : Nat} {below : List Frame} {meth : Method} {c : Code} {Q : State → Prop} {ox om a1 a2 i k L : Nat} {xs : Nat → Int32} (hx : p.tables.exec = Jvm.exec) (hb : c.code = cL_law) (hml : c.maxLocals = 9) (hown : s.vm.findClass RL = some m.cls) (htl : ∀ w ∈ WSL, w.before #[Value.ref b] s = true) (hKK : KK g s) (hKJ : KJ g cj cd s) (hgb : gb g = s.heap.size) (hX : va_X b L xs s s.heap) (hbl : b < s.heap.size) (hi : i + 5 ≤ L) (hL : L ≤ 2560) (hk : k < 512) (K : LK g cj cd p l e s m b below meth c Q ox om a1 a2 (i + 5) (k + 1))
    (S : SGM) (z : Int) (w1 w2 : va_W) (f1 : Nat → Int64) (f2 : Nat → UInt64) (H : Heap) (locs : List Loc) (hCW : CW g ox S w1) (hMW : MW g om S z w2) (hSI : SI S) (hP : PP g (aJ cj a1 f1 :: aD1 cd a2 f2 :: (w1 ++ w2)) H) (hD : va_D (fun q => gb g ≤ q) (aJ cj a1 f1 :: aD1 cd a2 f2 :: (w1 ++ w2))) (hS : va_S (fun q => gb g ≤ q) s.heap H locs) (ls : Array Slot) (hl : lv_has ls 9 [(5, vi (i : Int)), (0, .ref b), (1, .ref ox), (2, .ref om), (3, .ref a1), (4, .ref a2)]) : W p l e room_1 s m #[Value.ref b] below meth c H locs (50 + 361 * k) (13700 + 13026 * k) Q (F0 m 272 ls []) := by
  have hbA : ¬ (fun q => gb g ≤ q) b := by show ¬ gb g ≤ b; omega
  have hAb : ∀ q, (fun q => gb g ≤ q) q → gb g ≤ q := fun _ h => h
  obtain ⟨v1, hv1, hx1⟩ : ∃ v : Int, jR v ∧ xs (jI ((i : Int) + 1)).toNatClampNeg = jI v := ⟨_, jR_of _, jI_of _⟩
  have hDc := (hD.perm pmA).left
  have hPc : PP g (aJ cj a1 f1 :: w1) H := (hP.perm pmA).mem fun q h => List.mem_append_left _ h
  have hsz : ∀ q, H.size ≤ q → gb g ≤ q := fun q h => by have := hS.1; omega
  have hFl : ∀ q, va_A (aJ cj a1 f1 :: w1) H.size q → gb g ≤ q := va_A_sub hDc (Nat.le_refl _) hsz
  refine lv_aload_n hx hb dL_law_272 rfl (lv_at hl 2 rfl) ?_
  refine lv_aload_n hx hb dL_law_273 rfl (lv_at hl 1 rfl) ?_
  refine lv_iload hx hb dL_law_274 (lv_at hl 0 rfl) ?_
  refine jr_iconst hx hb dL_law_276 ?_
  refine jr_iadd hx hb dL_law_277 ?_
  refine va_sld hx hb hX hbl hbA hS (jI_in (by omega) (by omega) (by omega)) dL_law_278 ?_
  rw [hx1]
  refine lv_aload_n hx hb dL_law_279 rfl (lv_at hl 4 rfl) ?_
  refine jk_Qi (vx_runSW (As := [.ref ox, vi v1, .ref a1]) (rest := []) ⟨hx, hb, hml, hown, htl⟩ (m_L_number l hsT g cj cd ox a1 f1 S w1 hCW H.size v1 hv1) (vx_cwSW 3 htl lkH_number rfl rfl rfl cwS_L_number ⟨Nat.le_of_ble_eq_true rfl, Nat.le_of_ble_eq_true rfl⟩) (jp_H hKK hKJ hS hAb ⟨rfl, hPc, hDc⟩) rfl rfl hl.1 rfl (lv_room (Nat.le_of_ble_eq_true rfl)) dL_law_280 ⟨by show _ ≤ 603072; omega, by show _ ≤ 7219306; omega⟩) hS (fun q _ h => hFl q h) hFl (fun z3 H1 locs hz3 hzs hks hS => ?_)
  obtain ⟨hz3, v1w, fn, hcase, hP1, hD1⟩ := hz3
  obtain ⟨hP, hD⟩ := lj_H hP hD hks hFl hP1 hD1
  subst hz3
  clear hks hzs hP1 hD1 hFl hsz hPc hDc; generalize H1 = H at hP hD hS ⊢
  refine W.widen (k := 50 + 361 * (k + 1)) (n := 13700 + 13026 * (k + 1)) (by omega) (by omega) ?_
  refine lv_istore (lv' := [(6, vi (cdTok S (0 ≤ v1 ∧ v1 < 10000))), (5, vi (i : Int)), (0, .ref b), (1, .ref ox), (2, .ref om), (3, .ref a1), (4, .ref a2)]) hx hb dL_law_283 hl (by decide) rfl (fun ls hl => ?_)
  refine lv_aload_n hx hb dL_law_285 rfl (lv_at hl 4 rfl) ?_
  refine lv_aload_n hx hb dL_law_286 rfl (lv_at hl 2 rfl) ?_
  refine lv_iload hx hb dL_law_287 (lv_at hl 1 rfl) ?_
  refine jr_iconst hx hb dL_law_289 ?_
  refine jr_iadd hx hb dL_law_290 ?_
  refine va_sld hx hb hX hbl hbA hS (jI_in (by omega) (by omega) (by omega)) dL_law_291 ?_
  rw [hx1]
  have hPm : PP g w2 H := (hP.perm pmB).mem fun q h => List.mem_append_left _ h
  have hDm := (hD.perm pmB).left
  have hsz : ∀ q, H.size ≤ q → gb g ≤ q := fun q h => by have := hS.1; omega
  refine jk_Qi (va_runV (As := [vi v1]) (rest := []) ⟨hx, hb, hml, hown, htl⟩ (m_X11_number l g om S z w2 hMW v1 hv1) (cwV 1 htl lk_L_145 rfl rfl rfl cwV_X11_number ⟨Nat.le_of_ble_eq_true rfl, Nat.le_of_ble_eq_true rfl⟩) (jp_V hKK hS hAb (MW.recv hKK hMW hPm) ⟨hPm, hDm⟩) rfl rfl hl.1 rfl (lv_room (Nat.le_of_ble_eq_true rfl)) dL_law_292 ⟨by show _ ≤ 603072; omega, by show _ ≤ 7219306; omega⟩) hS (fun q _ h => hDm.inA h) (fun q h => hDm.inA h) (fun zm H1 locs hzm hzs hks hS => ?_)
  have hok : (cdTok S (0 ≤ v1 ∧ v1 < 10000)) = 0 → 0 ≤ v1 ∧ v1 < 10000 := fun q => by unfold cdTok at q; by_cases h : 0 ≤ v1 ∧ v1 < 10000; exact h; rw [if_pos h] at q; exact absurd q (by decide)
  obtain ⟨S9, v2w, hC9, hM9, hI9, hP2, hD2, hval⟩ : ∃ (S9 : SGM) (v2w : va_W), CW g ox S9 v1w ∧ MW g om S9 (cdTok S (0 ≤ v1 ∧ v1 < 10000)) v2w ∧ SI S9 ∧ PP g v2w H1 ∧ va_D (jA w2) v2w ∧ ((cdTok S (0 ≤ v1 ∧ v1 < 10000)) = 0 → fn 0 = (jI ((S.1.length : Int) + 1)).toInt64 ∧ zm = (S.1.length : Int) + 1) := by
    rcases hcase with ⟨h1, h2, h3⟩ | ⟨h1, h2⟩ <;> rcases hzm with ⟨h4, h5, v2w, h6, h7, h8⟩ | ⟨h4, v2w, h6, h7, h8⟩
    · exact ⟨((S.1 ++ [1 * 10000 + v1], S.2)), v2w, h2, by rw [h1]; exact h6, hSI.push rfl (by have := hok h1; omega), h7, h8, fun _ => ⟨h3, h5⟩⟩
    · exact absurd h1 h4
    · exact absurd h4 h1
    · exact ⟨S, v2w, h2, h6, hSI, h7, h8, fun q => absurd q h1⟩
  obtain ⟨hP, hD⟩ := lj_M hP hD hsz hks hP2 hD2
  clear hcase hks hzs hP2 hD2 hPm hDm hsz hzm; generalize H1 = H at hP hD hS ⊢
  refine lv_istore (lv' := [(7, vi zm), (6, vi (cdTok S (0 ≤ v1 ∧ v1 < 10000))), (5, vi (i : Int)), (0, .ref b), (1, .ref ox), (2, .ref om), (3, .ref a1), (4, .ref a2)]) hx hb dL_law_295 hl (by decide) rfl (fun ls hl => ?_)
  refine lv_aload_n hx hb dL_law_297 rfl (lv_at hl 5 rfl) ?_
  refine jk_Si (va_runV (As := []) (rest := []) ⟨hx, hb, hml, hown, htl⟩ (m_X11_thrownW l g om S9 (cdTok S (0 ≤ v1 ∧ v1 < 10000)) v2w hM9) (cwV 0 htl lk_L_140 rfl rfl rfl cwV_X11_thrown ⟨Nat.le_of_ble_eq_true rfl, Nat.le_of_ble_eq_true rfl⟩) (jp_V hKK hS hAb (MW.recv hKK hM9 (hP.mem fun q h => List.mem_cons_of_mem _ (List.mem_cons_of_mem _ (List.mem_append_right _ h)))) (hP.mem fun q h => List.mem_cons_of_mem _ (List.mem_cons_of_mem _ (List.mem_append_right _ h)))) rfl rfl hl.1 rfl (lv_room (Nat.le_of_ble_eq_true rfl)) dL_law_298 ⟨by show _ ≤ 603072; omega, by show _ ≤ 7219306; omega⟩) (fun z4 hz4 => ?_)
  subst hz4
  refine lv_iload hx hb dL_law_301 (lv_at hl 1 rfl) ?_
  refine lv_icmp_eq (tgt := 308) hx hb dL_law_303 (by decide) (fun _ => ?_) (fun h9 => absurd rfl h9)
  refine lv_iload hx hb dL_law_308 (lv_at hl 1 rfl) ?_
  have hcdR : jR (cdTok S (0 ≤ v1 ∧ v1 < 10000)) := by unfold cdTok; (repeat' split) <;> exact ⟨by omega, by omega⟩
  refine lv_if_ne (tgt := 325) hx hb dL_law_310 (by decide) (fun h9 => ?_) (fun h9 => ?_)
  · refine lv_goto (tgt := 2202) hx hb dL_law_325 (by decide) ?_
    refine jr_iinc (lv' := [(5, vi ((i : Int) + 5)), (7, vi zm), (6, vi (cdTok S (0 ≤ v1 ∧ v1 < 10000))), (0, .ref b), (1, .ref ox), (2, .ref om), (3, .ref a1), (4, .ref a2)]) hx hb dL_law_2202 hl (k := 2) rfl rfl (by decide) rfl (fun ls hl => ?_)
    refine lv_goto (tgt := 28) hx hb dL_law_2205 (by decide) ?_
    exact K S9 _ v1w v2w fn f2 H locs hC9 hM9 hI9 hP hD hS ls (lv_sub hl [0, 3, 4, 5, 6, 7] rfl)
  · have hc0 : (cdTok S (0 ≤ v1 ∧ v1 < 10000)) = 0 := (jI_inj hcdR ⟨by omega, by omega⟩).mp h9
    obtain ⟨hLV, hZ⟩ := hval hc0
    subst hZ
    refine lv_aload_n hx hb dL_law_313 rfl (lv_at hl 6 rfl) ?_
    refine jr_iconst hx hb dL_law_314 ?_
    refine va_lald hx hb hKJ hP 0 0 rfl rfl (jI_in (by omega) (by omega) (by omega)) dL_law_315 ?_
    rw [show (jI 0).toNatClampNeg = 0 from rfl, hLV]
    refine lv_iload hx hb dL_law_316 (lv_at hl 0 rfl) ?_
    refine lv_i2l hx hb dL_law_318 rfl ?_
    refine W.lcmp hx hb dL_law_319 ?_
    refine lv_if_eq (tgt := 325) hx hb dL_law_320 (by decide) (fun _ => ?_) (fun h9 => absurd (lg_cmp_self _) h9)
    refine lv_goto (tgt := 2202) hx hb dL_law_325 (by decide) ?_
    refine jr_iinc (lv' := [(5, vi ((i : Int) + 5)), (7, vi ((S.1.length : Int) + 1)), (6, vi (cdTok S (0 ≤ v1 ∧ v1 < 10000))), (0, .ref b), (1, .ref ox), (2, .ref om), (3, .ref a1), (4, .ref a2)]) hx hb dL_law_2202 hl (k := 2) rfl rfl (by decide) rfl (fun ls hl => ?_)
    refine lv_goto (tgt := 28) hx hb dL_law_2205 (by decide) ?_
    exact K S9 _ v1w v2w fn f2 H locs hC9 hM9 hI9 hP hD hS ls (lv_sub hl [0, 3, 4, 5, 6, 7] rfl)
set_option maxHeartbeats 4000000 in
set_option maxRecDepth 100000 in
theorem lc_tag (l : Launch) (hsT : l.stackTraces = false) {g : GT} {cj cd : ClassId} {p : Program} {e : Env} {s : State} {m : MethodId} {b : Nat} {below : List Frame} {meth : Method} {c : Code} {Q : State → Prop} {ox om a1 a2 i k L : Nat} {xs : Nat → Int32} (hx : p.tables.exec = Jvm.exec) (hb : c.code = cL_law) (hml : c.maxLocals = 9) (hown : s.vm.findClass RL = some m.cls) (htl : ∀ w ∈ WSL, w.before #[Value.ref b] s = true) (hKK : KK g s) (hKJ : KJ g cj cd s) (hgb : gb g = s.heap.size) (hX : va_X b L xs s s.heap) (hbl : b < s.heap.size) (hi : i + 5 ≤ L) (hL : L ≤ 2560) (hk : k < 512) (K : LK g cj cd p l e s m b below meth c Q ox om a1 a2 (i + 5) (k + 1))
    (S : SGM) (z : Int) (w1 w2 : va_W) (f1 : Nat → Int64) (f2 : Nat → UInt64) (H : Heap) (locs : List Loc) (hCW : CW g ox S w1) (hMW : MW g om S z w2) (hSI : SI S) (hP : PP g (aJ cj a1 f1 :: aD1 cd a2 f2 :: (w1 ++ w2)) H) (hD : va_D (fun q => gb g ≤ q) (aJ cj a1 f1 :: aD1 cd a2 f2 :: (w1 ++ w2))) (hS : va_S (fun q => gb g ≤ q) s.heap H locs) (ls : Array Slot) (hl : lv_has ls 9 [(5, vi (i : Int)), (0, .ref b), (1, .ref ox), (2, .ref om), (3, .ref a1), (4, .ref a2)]) : W p l e room_1 s m #[Value.ref b] below meth c H locs (50 + 361 * k) (13700 + 13026 * k) Q (F0 m 328 ls []) := by
  have hbA : ¬ (fun q => gb g ≤ q) b := by show ¬ gb g ≤ b; omega
  have hAb : ∀ q, (fun q => gb g ≤ q) q → gb g ≤ q := fun _ h => h
  obtain ⟨v1, hv1, hx1⟩ : ∃ v : Int, jR v ∧ xs (jI ((i : Int) + 1)).toNatClampNeg = jI v := ⟨_, jR_of _, jI_of _⟩
  have hDc := (hD.perm pmA).left
  have hPc : PP g (aJ cj a1 f1 :: w1) H := (hP.perm pmA).mem fun q h => List.mem_append_left _ h
  have hsz : ∀ q, H.size ≤ q → gb g ≤ q := fun q h => by have := hS.1; omega
  have hFl : ∀ q, va_A (aJ cj a1 f1 :: w1) H.size q → gb g ≤ q := va_A_sub hDc (Nat.le_refl _) hsz
  refine lv_aload_n hx hb dL_law_328 rfl (lv_at hl 2 rfl) ?_
  refine lv_aload_n hx hb dL_law_329 rfl (lv_at hl 1 rfl) ?_
  refine lv_iload hx hb dL_law_330 (lv_at hl 0 rfl) ?_
  refine jr_iconst hx hb dL_law_332 ?_
  refine jr_iadd hx hb dL_law_333 ?_
  refine va_sld hx hb hX hbl hbA hS (jI_in (by omega) (by omega) (by omega)) dL_law_334 ?_
  rw [hx1]
  refine lv_aload_n hx hb dL_law_335 rfl (lv_at hl 4 rfl) ?_
  refine jk_Qi (vx_runSW (As := [.ref ox, vi v1, .ref a1]) (rest := []) ⟨hx, hb, hml, hown, htl⟩ (m_L_tag l hsT g cj cd ox a1 f1 S w1 hCW H.size v1 hv1) (vx_cwSW 3 htl lkH_tag rfl rfl rfl cwS_L_tag ⟨Nat.le_of_ble_eq_true rfl, Nat.le_of_ble_eq_true rfl⟩) (jp_H hKK hKJ hS hAb ⟨rfl, hPc, hDc⟩) rfl rfl hl.1 rfl (lv_room (Nat.le_of_ble_eq_true rfl)) dL_law_336 ⟨by show _ ≤ 603072; omega, by show _ ≤ 7219306; omega⟩) hS (fun q _ h => hFl q h) hFl (fun z3 H1 locs hz3 hzs hks hS => ?_)
  obtain ⟨hz3, v1w, fn, hcase, hP1, hD1⟩ := hz3
  obtain ⟨hP, hD⟩ := lj_H hP hD hks hFl hP1 hD1
  subst hz3
  clear hks hzs hP1 hD1 hFl hsz hPc hDc; generalize H1 = H at hP hD hS ⊢
  refine W.widen (k := 50 + 361 * (k + 1)) (n := 13700 + 13026 * (k + 1)) (by omega) (by omega) ?_
  refine lv_istore (lv' := [(6, vi (cdTok S (0 ≤ v1 ∧ v1 < 10))), (5, vi (i : Int)), (0, .ref b), (1, .ref ox), (2, .ref om), (3, .ref a1), (4, .ref a2)]) hx hb dL_law_339 hl (by decide) rfl (fun ls hl => ?_)
  refine lv_aload_n hx hb dL_law_341 rfl (lv_at hl 4 rfl) ?_
  refine lv_aload_n hx hb dL_law_342 rfl (lv_at hl 2 rfl) ?_
  refine lv_iload hx hb dL_law_343 (lv_at hl 1 rfl) ?_
  refine jr_iconst hx hb dL_law_345 ?_
  refine jr_iadd hx hb dL_law_346 ?_
  refine va_sld hx hb hX hbl hbA hS (jI_in (by omega) (by omega) (by omega)) dL_law_347 ?_
  rw [hx1]
  have hPm : PP g w2 H := (hP.perm pmB).mem fun q h => List.mem_append_left _ h
  have hDm := (hD.perm pmB).left
  have hsz : ∀ q, H.size ≤ q → gb g ≤ q := fun q h => by have := hS.1; omega
  refine jk_Qi (va_runV (As := [vi v1]) (rest := []) ⟨hx, hb, hml, hown, htl⟩ (m_X11_tag l g om S z w2 hMW v1 hv1) (cwV 1 htl lk_L_148 rfl rfl rfl cwV_X11_tag ⟨Nat.le_of_ble_eq_true rfl, Nat.le_of_ble_eq_true rfl⟩) (jp_V hKK hS hAb (MW.recv hKK hMW hPm) ⟨hPm, hDm⟩) rfl rfl hl.1 rfl (lv_room (Nat.le_of_ble_eq_true rfl)) dL_law_348 ⟨by show _ ≤ 603072; omega, by show _ ≤ 7219306; omega⟩) hS (fun q _ h => hDm.inA h) (fun q h => hDm.inA h) (fun zm H1 locs hzm hzs hks hS => ?_)
  have hok : (cdTok S (0 ≤ v1 ∧ v1 < 10)) = 0 → 0 ≤ v1 ∧ v1 < 10 := fun q => by unfold cdTok at q; by_cases h : 0 ≤ v1 ∧ v1 < 10; exact h; rw [if_pos h] at q; exact absurd q (by decide)
  obtain ⟨S9, v2w, hC9, hM9, hI9, hP2, hD2, hval⟩ : ∃ (S9 : SGM) (v2w : va_W), CW g ox S9 v1w ∧ MW g om S9 (cdTok S (0 ≤ v1 ∧ v1 < 10)) v2w ∧ SI S9 ∧ PP g v2w H1 ∧ va_D (jA w2) v2w ∧ ((cdTok S (0 ≤ v1 ∧ v1 < 10)) = 0 → fn 0 = (jI ((S.1.length : Int) + 1)).toInt64 ∧ zm = (S.1.length : Int) + 1) := by
    rcases hcase with ⟨h1, h2, h3⟩ | ⟨h1, h2⟩ <;> rcases hzm with ⟨h4, h5, v2w, h6, h7, h8⟩ | ⟨h4, v2w, h6, h7, h8⟩
    · exact ⟨((S.1 ++ [2 * 10000 + v1], S.2)), v2w, h2, by rw [h1]; exact h6, hSI.push rfl (by have := hok h1; omega), h7, h8, fun _ => ⟨h3, h5⟩⟩
    · exact absurd h1 h4
    · exact absurd h4 h1
    · exact ⟨S, v2w, h2, h6, hSI, h7, h8, fun q => absurd q h1⟩
  obtain ⟨hP, hD⟩ := lj_M hP hD hsz hks hP2 hD2
  clear hcase hks hzs hP2 hD2 hPm hDm hsz hzm; generalize H1 = H at hP hD hS ⊢
  refine lv_istore (lv' := [(7, vi zm), (6, vi (cdTok S (0 ≤ v1 ∧ v1 < 10))), (5, vi (i : Int)), (0, .ref b), (1, .ref ox), (2, .ref om), (3, .ref a1), (4, .ref a2)]) hx hb dL_law_351 hl (by decide) rfl (fun ls hl => ?_)
  refine lv_aload_n hx hb dL_law_353 rfl (lv_at hl 5 rfl) ?_
  refine jk_Si (va_runV (As := []) (rest := []) ⟨hx, hb, hml, hown, htl⟩ (m_X11_thrownW l g om S9 (cdTok S (0 ≤ v1 ∧ v1 < 10)) v2w hM9) (cwV 0 htl lk_L_140 rfl rfl rfl cwV_X11_thrown ⟨Nat.le_of_ble_eq_true rfl, Nat.le_of_ble_eq_true rfl⟩) (jp_V hKK hS hAb (MW.recv hKK hM9 (hP.mem fun q h => List.mem_cons_of_mem _ (List.mem_cons_of_mem _ (List.mem_append_right _ h)))) (hP.mem fun q h => List.mem_cons_of_mem _ (List.mem_cons_of_mem _ (List.mem_append_right _ h)))) rfl rfl hl.1 rfl (lv_room (Nat.le_of_ble_eq_true rfl)) dL_law_354 ⟨by show _ ≤ 603072; omega, by show _ ≤ 7219306; omega⟩) (fun z4 hz4 => ?_)
  subst hz4
  refine lv_iload hx hb dL_law_357 (lv_at hl 1 rfl) ?_
  refine lv_icmp_eq (tgt := 364) hx hb dL_law_359 (by decide) (fun _ => ?_) (fun h9 => absurd rfl h9)
  refine lv_iload hx hb dL_law_364 (lv_at hl 1 rfl) ?_
  have hcdR : jR (cdTok S (0 ≤ v1 ∧ v1 < 10)) := by unfold cdTok; (repeat' split) <;> exact ⟨by omega, by omega⟩
  refine lv_if_ne (tgt := 381) hx hb dL_law_366 (by decide) (fun h9 => ?_) (fun h9 => ?_)
  · refine lv_goto (tgt := 2202) hx hb dL_law_381 (by decide) ?_
    refine jr_iinc (lv' := [(5, vi ((i : Int) + 5)), (7, vi zm), (6, vi (cdTok S (0 ≤ v1 ∧ v1 < 10))), (0, .ref b), (1, .ref ox), (2, .ref om), (3, .ref a1), (4, .ref a2)]) hx hb dL_law_2202 hl (k := 2) rfl rfl (by decide) rfl (fun ls hl => ?_)
    refine lv_goto (tgt := 28) hx hb dL_law_2205 (by decide) ?_
    exact K S9 _ v1w v2w fn f2 H locs hC9 hM9 hI9 hP hD hS ls (lv_sub hl [0, 3, 4, 5, 6, 7] rfl)
  · have hc0 : (cdTok S (0 ≤ v1 ∧ v1 < 10)) = 0 := (jI_inj hcdR ⟨by omega, by omega⟩).mp h9
    obtain ⟨hLV, hZ⟩ := hval hc0
    subst hZ
    refine lv_aload_n hx hb dL_law_369 rfl (lv_at hl 6 rfl) ?_
    refine jr_iconst hx hb dL_law_370 ?_
    refine va_lald hx hb hKJ hP 0 0 rfl rfl (jI_in (by omega) (by omega) (by omega)) dL_law_371 ?_
    rw [show (jI 0).toNatClampNeg = 0 from rfl, hLV]
    refine lv_iload hx hb dL_law_372 (lv_at hl 0 rfl) ?_
    refine lv_i2l hx hb dL_law_374 rfl ?_
    refine W.lcmp hx hb dL_law_375 ?_
    refine lv_if_eq (tgt := 381) hx hb dL_law_376 (by decide) (fun _ => ?_) (fun h9 => absurd (lg_cmp_self _) h9)
    refine lv_goto (tgt := 2202) hx hb dL_law_381 (by decide) ?_
    refine jr_iinc (lv' := [(5, vi ((i : Int) + 5)), (7, vi ((S.1.length : Int) + 1)), (6, vi (cdTok S (0 ≤ v1 ∧ v1 < 10))), (0, .ref b), (1, .ref ox), (2, .ref om), (3, .ref a1), (4, .ref a2)]) hx hb dL_law_2202 hl (k := 2) rfl rfl (by decide) rfl (fun ls hl => ?_)
    refine lv_goto (tgt := 28) hx hb dL_law_2205 (by decide) ?_
    exact K S9 _ v1w v2w fn f2 H locs hC9 hM9 hI9 hP hD hS ls (lv_sub hl [0, 3, 4, 5, 6, 7] rfl)
set_option maxHeartbeats 4000000 in
set_option maxRecDepth 100000 in
theorem lc_mark (l : Launch) (hsT : l.stackTraces = false) {g : GT} {cj cd : ClassId} {p : Program} {e : Env} {s : State} {m : MethodId} {b : Nat} {below : List Frame} {meth : Method} {c : Code} {Q : State → Prop} {ox om a1 a2 i k L : Nat} {xs : Nat → Int32} (hx : p.tables.exec = Jvm.exec) (hb : c.code = cL_law) (hml : c.maxLocals = 9) (hown : s.vm.findClass RL = some m.cls) (htl : ∀ w ∈ WSL, w.before #[Value.ref b] s = true) (hKK : KK g s) (hKJ : KJ g cj cd s) (hgb : gb g = s.heap.size) (hX : va_X b L xs s s.heap) (hbl : b < s.heap.size) (hi : i + 5 ≤ L) (hL : L ≤ 2560) (hk : k < 512) (K : LK g cj cd p l e s m b below meth c Q ox om a1 a2 (i + 5) (k + 1))
    (S : SGM) (z : Int) (w1 w2 : va_W) (f1 : Nat → Int64) (f2 : Nat → UInt64) (H : Heap) (locs : List Loc) (hCW : CW g ox S w1) (hMW : MW g om S z w2) (hSI : SI S) (hP : PP g (aJ cj a1 f1 :: aD1 cd a2 f2 :: (w1 ++ w2)) H) (hD : va_D (fun q => gb g ≤ q) (aJ cj a1 f1 :: aD1 cd a2 f2 :: (w1 ++ w2))) (hS : va_S (fun q => gb g ≤ q) s.heap H locs) (ls : Array Slot) (hl : lv_has ls 9 [(5, vi (i : Int)), (0, .ref b), (1, .ref ox), (2, .ref om), (3, .ref a1), (4, .ref a2)]) : W p l e room_1 s m #[Value.ref b] below meth c H locs (50 + 361 * k) (13700 + 13026 * k) Q (F0 m 384 ls []) := by
  have hbA : ¬ (fun q => gb g ≤ q) b := by show ¬ gb g ≤ b; omega
  have hAb : ∀ q, (fun q => gb g ≤ q) q → gb g ≤ q := fun _ h => h
  obtain ⟨v1, hv1, hx1⟩ : ∃ v : Int, jR v ∧ xs (jI ((i : Int) + 1)).toNatClampNeg = jI v := ⟨_, jR_of _, jI_of _⟩
  obtain ⟨u1, hu0, hu1⟩ := i2c_ok v1
  have hDc := (hD.perm pmA).left
  have hPc : PP g (aJ cj a1 f1 :: w1) H := (hP.perm pmA).mem fun q h => List.mem_append_left _ h
  have hsz : ∀ q, H.size ≤ q → gb g ≤ q := fun q h => by have := hS.1; omega
  have hFl : ∀ q, va_A (aJ cj a1 f1 :: w1) H.size q → gb g ≤ q := va_A_sub hDc (Nat.le_refl _) hsz
  refine lv_aload_n hx hb dL_law_384 rfl (lv_at hl 2 rfl) ?_
  refine lv_aload_n hx hb dL_law_385 rfl (lv_at hl 1 rfl) ?_
  refine lv_iload hx hb dL_law_386 (lv_at hl 0 rfl) ?_
  refine jr_iconst hx hb dL_law_388 ?_
  refine jr_iadd hx hb dL_law_389 ?_
  refine va_sld hx hb hX hbl hbA hS (jI_in (by omega) (by omega) (by omega)) dL_law_390 ?_
  rw [hx1]
  refine lv_i2c hx hb dL_law_391 hu1 ?_
  refine lv_aload_n hx hb dL_law_392 rfl (lv_at hl 4 rfl) ?_
  refine jk_Qi (vx_runSW (As := [.ref ox, vi u1, .ref a1]) (rest := []) ⟨hx, hb, hml, hown, htl⟩ (m_L_mark l hsT g cj cd ox a1 f1 S w1 hCW H.size u1 hu0) (vx_cwSW 3 htl lkH_mark rfl rfl rfl cwS_L_mark ⟨Nat.le_of_ble_eq_true rfl, Nat.le_of_ble_eq_true rfl⟩) (jp_H hKK hKJ hS hAb ⟨rfl, hPc, hDc⟩) rfl rfl hl.1 rfl (lv_room (Nat.le_of_ble_eq_true rfl)) dL_law_393 ⟨by show _ ≤ 603072; omega, by show _ ≤ 7219306; omega⟩) hS (fun q _ h => hFl q h) hFl (fun z3 H1 locs hz3 hzs hks hS => ?_)
  obtain ⟨hz3, v1w, fn, hcase, hP1, hD1⟩ := hz3
  obtain ⟨hP, hD⟩ := lj_H hP hD hks hFl hP1 hD1
  subst hz3
  clear hks hzs hP1 hD1 hFl hsz hPc hDc; generalize H1 = H at hP hD hS ⊢
  refine W.widen (k := 50 + 361 * (k + 1)) (n := 13700 + 13026 * (k + 1)) (by omega) (by omega) ?_
  refine lv_istore (lv' := [(6, vi (cdTok S (u1 = 46 ∨ u1 = 33 ∨ u1 = 63 ∨ u1 = 44 ∨ u1 = 59))), (5, vi (i : Int)), (0, .ref b), (1, .ref ox), (2, .ref om), (3, .ref a1), (4, .ref a2)]) hx hb dL_law_396 hl (by decide) rfl (fun ls hl => ?_)
  refine lv_aload_n hx hb dL_law_398 rfl (lv_at hl 4 rfl) ?_
  refine lv_aload_n hx hb dL_law_399 rfl (lv_at hl 2 rfl) ?_
  refine lv_iload hx hb dL_law_400 (lv_at hl 1 rfl) ?_
  refine jr_iconst hx hb dL_law_402 ?_
  refine jr_iadd hx hb dL_law_403 ?_
  refine va_sld hx hb hX hbl hbA hS (jI_in (by omega) (by omega) (by omega)) dL_law_404 ?_
  rw [hx1]
  refine lv_i2c hx hb dL_law_405 hu1 ?_
  have hPm : PP g w2 H := (hP.perm pmB).mem fun q h => List.mem_append_left _ h
  have hDm := (hD.perm pmB).left
  have hsz : ∀ q, H.size ≤ q → gb g ≤ q := fun q h => by have := hS.1; omega
  refine jk_Qi (va_runV (As := [vi u1]) (rest := []) ⟨hx, hb, hml, hown, htl⟩ (m_X11_mark l g om S z w2 hMW u1 hu0) (cwV 1 htl lk_L_152 rfl rfl rfl cwV_X11_mark ⟨Nat.le_of_ble_eq_true rfl, Nat.le_of_ble_eq_true rfl⟩) (jp_V hKK hS hAb (MW.recv hKK hMW hPm) ⟨hPm, hDm⟩) rfl rfl hl.1 rfl (lv_room (Nat.le_of_ble_eq_true rfl)) dL_law_406 ⟨by show _ ≤ 603072; omega, by show _ ≤ 7219306; omega⟩) hS (fun q _ h => hDm.inA h) (fun q h => hDm.inA h) (fun zm H1 locs hzm hzs hks hS => ?_)
  have hok : (cdTok S (u1 = 46 ∨ u1 = 33 ∨ u1 = 63 ∨ u1 = 44 ∨ u1 = 59)) = 0 → u1 = 46 ∨ u1 = 33 ∨ u1 = 63 ∨ u1 = 44 ∨ u1 = 59 := fun q => by unfold cdTok at q; by_cases h : u1 = 46 ∨ u1 = 33 ∨ u1 = 63 ∨ u1 = 44 ∨ u1 = 59; exact h; rw [if_pos h] at q; exact absurd q (by decide)
  obtain ⟨S9, v2w, hC9, hM9, hI9, hP2, hD2, hval⟩ : ∃ (S9 : SGM) (v2w : va_W), CW g ox S9 v1w ∧ MW g om S9 (cdTok S (u1 = 46 ∨ u1 = 33 ∨ u1 = 63 ∨ u1 = 44 ∨ u1 = 59)) v2w ∧ SI S9 ∧ PP g v2w H1 ∧ va_D (jA w2) v2w ∧ ((cdTok S (u1 = 46 ∨ u1 = 33 ∨ u1 = 63 ∨ u1 = 44 ∨ u1 = 59)) = 0 → fn 0 = (jI ((S.1.length : Int) + 1)).toInt64 ∧ zm = (S.1.length : Int) + 1) := by
    rcases hcase with ⟨h1, h2, h3⟩ | ⟨h1, h2⟩ <;> rcases hzm with ⟨h4, h5, v2w, h6, h7, h8⟩ | ⟨h4, v2w, h6, h7, h8⟩
    · exact ⟨((S.1 ++ [3 * 10000 + u1], S.2)), v2w, h2, by rw [h1]; exact h6, hSI.push rfl (by have := hok h1; omega), h7, h8, fun _ => ⟨h3, h5⟩⟩
    · exact absurd h1 h4
    · exact absurd h4 h1
    · exact ⟨S, v2w, h2, h6, hSI, h7, h8, fun q => absurd q h1⟩
  obtain ⟨hP, hD⟩ := lj_M hP hD hsz hks hP2 hD2
  clear hcase hks hzs hP2 hD2 hPm hDm hsz hzm; generalize H1 = H at hP hD hS ⊢
  refine lv_istore (lv' := [(7, vi zm), (6, vi (cdTok S (u1 = 46 ∨ u1 = 33 ∨ u1 = 63 ∨ u1 = 44 ∨ u1 = 59))), (5, vi (i : Int)), (0, .ref b), (1, .ref ox), (2, .ref om), (3, .ref a1), (4, .ref a2)]) hx hb dL_law_409 hl (by decide) rfl (fun ls hl => ?_)
  refine lv_aload_n hx hb dL_law_411 rfl (lv_at hl 5 rfl) ?_
  refine jk_Si (va_runV (As := []) (rest := []) ⟨hx, hb, hml, hown, htl⟩ (m_X11_thrownW l g om S9 (cdTok S (u1 = 46 ∨ u1 = 33 ∨ u1 = 63 ∨ u1 = 44 ∨ u1 = 59)) v2w hM9) (cwV 0 htl lk_L_140 rfl rfl rfl cwV_X11_thrown ⟨Nat.le_of_ble_eq_true rfl, Nat.le_of_ble_eq_true rfl⟩) (jp_V hKK hS hAb (MW.recv hKK hM9 (hP.mem fun q h => List.mem_cons_of_mem _ (List.mem_cons_of_mem _ (List.mem_append_right _ h)))) (hP.mem fun q h => List.mem_cons_of_mem _ (List.mem_cons_of_mem _ (List.mem_append_right _ h)))) rfl rfl hl.1 rfl (lv_room (Nat.le_of_ble_eq_true rfl)) dL_law_412 ⟨by show _ ≤ 603072; omega, by show _ ≤ 7219306; omega⟩) (fun z4 hz4 => ?_)
  subst hz4
  refine lv_iload hx hb dL_law_415 (lv_at hl 1 rfl) ?_
  refine lv_icmp_eq (tgt := 422) hx hb dL_law_417 (by decide) (fun _ => ?_) (fun h9 => absurd rfl h9)
  refine lv_iload hx hb dL_law_422 (lv_at hl 1 rfl) ?_
  have hcdR : jR (cdTok S (u1 = 46 ∨ u1 = 33 ∨ u1 = 63 ∨ u1 = 44 ∨ u1 = 59)) := by unfold cdTok; (repeat' split) <;> exact ⟨by omega, by omega⟩
  refine lv_if_ne (tgt := 439) hx hb dL_law_424 (by decide) (fun h9 => ?_) (fun h9 => ?_)
  · refine lv_goto (tgt := 2202) hx hb dL_law_439 (by decide) ?_
    refine jr_iinc (lv' := [(5, vi ((i : Int) + 5)), (7, vi zm), (6, vi (cdTok S (u1 = 46 ∨ u1 = 33 ∨ u1 = 63 ∨ u1 = 44 ∨ u1 = 59))), (0, .ref b), (1, .ref ox), (2, .ref om), (3, .ref a1), (4, .ref a2)]) hx hb dL_law_2202 hl (k := 2) rfl rfl (by decide) rfl (fun ls hl => ?_)
    refine lv_goto (tgt := 28) hx hb dL_law_2205 (by decide) ?_
    exact K S9 _ v1w v2w fn f2 H locs hC9 hM9 hI9 hP hD hS ls (lv_sub hl [0, 3, 4, 5, 6, 7] rfl)
  · have hc0 : (cdTok S (u1 = 46 ∨ u1 = 33 ∨ u1 = 63 ∨ u1 = 44 ∨ u1 = 59)) = 0 := (jI_inj hcdR ⟨by omega, by omega⟩).mp h9
    obtain ⟨hLV, hZ⟩ := hval hc0
    subst hZ
    refine lv_aload_n hx hb dL_law_427 rfl (lv_at hl 6 rfl) ?_
    refine jr_iconst hx hb dL_law_428 ?_
    refine va_lald hx hb hKJ hP 0 0 rfl rfl (jI_in (by omega) (by omega) (by omega)) dL_law_429 ?_
    rw [show (jI 0).toNatClampNeg = 0 from rfl, hLV]
    refine lv_iload hx hb dL_law_430 (lv_at hl 0 rfl) ?_
    refine lv_i2l hx hb dL_law_432 rfl ?_
    refine W.lcmp hx hb dL_law_433 ?_
    refine lv_if_eq (tgt := 439) hx hb dL_law_434 (by decide) (fun _ => ?_) (fun h9 => absurd (lg_cmp_self _) h9)
    refine lv_goto (tgt := 2202) hx hb dL_law_439 (by decide) ?_
    refine jr_iinc (lv' := [(5, vi ((i : Int) + 5)), (7, vi ((S.1.length : Int) + 1)), (6, vi (cdTok S (u1 = 46 ∨ u1 = 33 ∨ u1 = 63 ∨ u1 = 44 ∨ u1 = 59))), (0, .ref b), (1, .ref ox), (2, .ref om), (3, .ref a1), (4, .ref a2)]) hx hb dL_law_2202 hl (k := 2) rfl rfl (by decide) rfl (fun ls hl => ?_)
    refine lv_goto (tgt := 28) hx hb dL_law_2205 (by decide) ?_
    exact K S9 _ v1w v2w fn f2 H locs hC9 hM9 hI9 hP hD hS ls (lv_sub hl [0, 3, 4, 5, 6, 7] rfl)
set_option maxHeartbeats 4000000 in
set_option maxRecDepth 100000 in
theorem lc_setWeights (l : Launch) (hsT : l.stackTraces = false) {g : GT} {cj cd : ClassId} {p : Program} {e : Env} {s : State} {m : MethodId} {b : Nat} {below : List Frame} {meth : Method} {c : Code} {Q : State → Prop} {ox om a1 a2 i k L : Nat} {xs : Nat → Int32} (hx : p.tables.exec = Jvm.exec) (hb : c.code = cL_law) (hml : c.maxLocals = 9) (hown : s.vm.findClass RL = some m.cls) (htl : ∀ w ∈ WSL, w.before #[Value.ref b] s = true) (hKK : KK g s) (hKJ : KJ g cj cd s) (hgb : gb g = s.heap.size) (hX : va_X b L xs s s.heap) (hbl : b < s.heap.size) (hi : i + 5 ≤ L) (hL : L ≤ 2560) (hk : k < 512) (K : LK g cj cd p l e s m b below meth c Q ox om a1 a2 (i + 5) (k + 1))
    (S : SGM) (z : Int) (w1 w2 : va_W) (f1 : Nat → Int64) (f2 : Nat → UInt64) (H : Heap) (locs : List Loc) (hCW : CW g ox S w1) (hMW : MW g om S z w2) (hSI : SI S) (hP : PP g (aJ cj a1 f1 :: aD1 cd a2 f2 :: (w1 ++ w2)) H) (hD : va_D (fun q => gb g ≤ q) (aJ cj a1 f1 :: aD1 cd a2 f2 :: (w1 ++ w2))) (hS : va_S (fun q => gb g ≤ q) s.heap H locs) (ls : Array Slot) (hl : lv_has ls 9 [(5, vi (i : Int)), (0, .ref b), (1, .ref ox), (2, .ref om), (3, .ref a1), (4, .ref a2)]) : W p l e room_1 s m #[Value.ref b] below meth c H locs (50 + 361 * k) (13700 + 13026 * k) Q (F0 m 455 ls []) := by
  have hbA : ¬ (fun q => gb g ≤ q) b := by show ¬ gb g ≤ b; omega
  have hAb : ∀ q, (fun q => gb g ≤ q) q → gb g ≤ q := fun _ h => h
  obtain ⟨v1, hv1, hx1⟩ : ∃ v : Int, jR v ∧ xs (jI ((i : Int) + 1)).toNatClampNeg = jI v := ⟨_, jR_of _, jI_of _⟩
  obtain ⟨v2, hv2, hx2⟩ : ∃ v : Int, jR v ∧ xs (jI ((i : Int) + 2)).toNatClampNeg = jI v := ⟨_, jR_of _, jI_of _⟩
  obtain ⟨v3, hv3, hx3⟩ : ∃ v : Int, jR v ∧ xs (jI ((i : Int) + 3)).toNatClampNeg = jI v := ⟨_, jR_of _, jI_of _⟩
  obtain ⟨v4, hv4, hx4⟩ : ∃ v : Int, jR v ∧ xs (jI ((i : Int) + 4)).toNatClampNeg = jI v := ⟨_, jR_of _, jI_of _⟩
  have hDc := (hD.perm pmA).left
  have hPc : PP g (aJ cj a1 f1 :: w1) H := (hP.perm pmA).mem fun q h => List.mem_append_left _ h
  have hsz : ∀ q, H.size ≤ q → gb g ≤ q := fun q h => by have := hS.1; omega
  have hFl : ∀ q, va_A (aJ cj a1 f1 :: w1) H.size q → gb g ≤ q := va_A_sub hDc (Nat.le_refl _) hsz
  refine lv_aload_n hx hb dL_law_455 rfl (lv_at hl 2 rfl) ?_
  refine lv_aload_n hx hb dL_law_456 rfl (lv_at hl 1 rfl) ?_
  refine lv_iload hx hb dL_law_457 (lv_at hl 0 rfl) ?_
  refine jr_iconst hx hb dL_law_459 ?_
  refine jr_iadd hx hb dL_law_460 ?_
  refine va_sld hx hb hX hbl hbA hS (jI_in (by omega) (by omega) (by omega)) dL_law_461 ?_
  rw [hx1]
  refine lv_aload_n hx hb dL_law_462 rfl (lv_at hl 1 rfl) ?_
  refine lv_iload hx hb dL_law_463 (lv_at hl 0 rfl) ?_
  refine jr_iconst hx hb dL_law_465 ?_
  refine jr_iadd hx hb dL_law_466 ?_
  refine va_sld hx hb hX hbl hbA hS (jI_in (by omega) (by omega) (by omega)) dL_law_467 ?_
  rw [hx2]
  refine lv_aload_n hx hb dL_law_468 rfl (lv_at hl 1 rfl) ?_
  refine lv_iload hx hb dL_law_469 (lv_at hl 0 rfl) ?_
  refine jr_iconst hx hb dL_law_471 ?_
  refine jr_iadd hx hb dL_law_472 ?_
  refine va_sld hx hb hX hbl hbA hS (jI_in (by omega) (by omega) (by omega)) dL_law_473 ?_
  rw [hx3]
  refine lv_aload_n hx hb dL_law_474 rfl (lv_at hl 1 rfl) ?_
  refine lv_iload hx hb dL_law_475 (lv_at hl 0 rfl) ?_
  refine jr_iconst hx hb dL_law_477 ?_
  refine jr_iadd hx hb dL_law_478 ?_
  refine va_sld hx hb hX hbl hbA hS (jI_in (by omega) (by omega) (by omega)) dL_law_479 ?_
  rw [hx4]
  refine lv_aload_n hx hb dL_law_480 rfl (lv_at hl 4 rfl) ?_
  refine jk_Qi (vx_runSW (As := [.ref ox, vi v1, vi v2, vi v3, vi v4, .ref a1]) (rest := []) ⟨hx, hb, hml, hown, htl⟩ (m_L_setWeights l hsT g cj cd ox a1 f1 S w1 hCW H.size v1 v2 v3 v4 hv1 hv2 hv3 hv4) (vx_cwSW 6 htl lkH_setWeights rfl rfl rfl cwS_L_setWeights ⟨Nat.le_of_ble_eq_true rfl, Nat.le_of_ble_eq_true rfl⟩) (jp_H hKK hKJ hS hAb ⟨rfl, hPc, hDc⟩) rfl rfl hl.1 rfl (lv_room (Nat.le_of_ble_eq_true rfl)) dL_law_481 ⟨by show _ ≤ 603072; omega, by show _ ≤ 7219306; omega⟩) hS (fun q _ h => hFl q h) hFl (fun z3 H1 locs hz3 hzs hks hS => ?_)
  obtain ⟨hz3, v1w, fn, hcase, hP1, hD1⟩ := hz3
  obtain ⟨hP, hD⟩ := lj_H hP hD hks hFl hP1 hD1
  subst hz3
  clear hks hzs hP1 hD1 hFl hsz hPc hDc; generalize H1 = H at hP hD hS ⊢
  refine W.widen (k := 50 + 361 * (k + 1)) (n := 13700 + 13026 * (k + 1)) (by omega) (by omega) ?_
  refine lv_istore (lv' := [(6, vi (cd1 ((1 ≤ v1 ∧ v1 ≤ 9) ∧ (1 ≤ v2 ∧ v2 ≤ 9) ∧ (1 ≤ v3 ∧ v3 ≤ 9) ∧ (1 ≤ v4 ∧ v4 ≤ 9)))), (5, vi (i : Int)), (0, .ref b), (1, .ref ox), (2, .ref om), (3, .ref a1), (4, .ref a2)]) hx hb dL_law_484 hl (by decide) rfl (fun ls hl => ?_)
  refine lv_aload_n hx hb dL_law_486 rfl (lv_at hl 4 rfl) ?_
  refine lv_aload_n hx hb dL_law_487 rfl (lv_at hl 2 rfl) ?_
  refine lv_iload hx hb dL_law_488 (lv_at hl 1 rfl) ?_
  refine jr_iconst hx hb dL_law_490 ?_
  refine jr_iadd hx hb dL_law_491 ?_
  refine va_sld hx hb hX hbl hbA hS (jI_in (by omega) (by omega) (by omega)) dL_law_492 ?_
  rw [hx1]
  refine lv_aload_n hx hb dL_law_493 rfl (lv_at hl 2 rfl) ?_
  refine lv_iload hx hb dL_law_494 (lv_at hl 1 rfl) ?_
  refine jr_iconst hx hb dL_law_496 ?_
  refine jr_iadd hx hb dL_law_497 ?_
  refine va_sld hx hb hX hbl hbA hS (jI_in (by omega) (by omega) (by omega)) dL_law_498 ?_
  rw [hx2]
  refine lv_aload_n hx hb dL_law_499 rfl (lv_at hl 2 rfl) ?_
  refine lv_iload hx hb dL_law_500 (lv_at hl 1 rfl) ?_
  refine jr_iconst hx hb dL_law_502 ?_
  refine jr_iadd hx hb dL_law_503 ?_
  refine va_sld hx hb hX hbl hbA hS (jI_in (by omega) (by omega) (by omega)) dL_law_504 ?_
  rw [hx3]
  refine lv_aload_n hx hb dL_law_505 rfl (lv_at hl 2 rfl) ?_
  refine lv_iload hx hb dL_law_506 (lv_at hl 1 rfl) ?_
  refine jr_iconst hx hb dL_law_508 ?_
  refine jr_iadd hx hb dL_law_509 ?_
  refine va_sld hx hb hX hbl hbA hS (jI_in (by omega) (by omega) (by omega)) dL_law_510 ?_
  rw [hx4]
  have hPm : PP g w2 H := (hP.perm pmB).mem fun q h => List.mem_append_left _ h
  have hDm := (hD.perm pmB).left
  have hsz : ∀ q, H.size ≤ q → gb g ≤ q := fun q h => by have := hS.1; omega
  refine jk_Qi (va_runV (As := [vi v1, vi v2, vi v3, vi v4]) (rest := []) ⟨hx, hb, hml, hown, htl⟩ (m_X11_setWeights l g om S z w2 hMW v1 v2 v3 v4 hv1 hv2 hv3 hv4) (cwV 4 htl lk_L_160 rfl rfl rfl cwV_X11_setWeights ⟨Nat.le_of_ble_eq_true rfl, Nat.le_of_ble_eq_true rfl⟩) (jp_V hKK hS hAb (MW.recv hKK hMW hPm) ⟨hPm, hDm⟩) rfl rfl hl.1 rfl (lv_room (Nat.le_of_ble_eq_true rfl)) dL_law_511 ⟨by show _ ≤ 603072; omega, by show _ ≤ 7219306; omega⟩) hS (fun q _ h => hDm.inA h) (fun q h => hDm.inA h) (fun zm H1 locs hzm hzs hks hS => ?_)
  obtain ⟨S9, v2w, hC9, hM9, hI9, hP2, hD2, hval⟩ : ∃ (S9 : SGM) (v2w : va_W), CW g ox S9 v1w ∧ MW g om S9 (cd1 ((1 ≤ v1 ∧ v1 ≤ 9) ∧ (1 ≤ v2 ∧ v2 ≤ 9) ∧ (1 ≤ v3 ∧ v3 ≤ 9) ∧ (1 ≤ v4 ∧ v4 ≤ 9))) v2w ∧ SI S9 ∧ PP g v2w H1 ∧ va_D (jA w2) v2w ∧ ((cd1 ((1 ≤ v1 ∧ v1 ≤ 9) ∧ (1 ≤ v2 ∧ v2 ≤ 9) ∧ (1 ≤ v3 ∧ v3 ≤ 9) ∧ (1 ≤ v4 ∧ v4 ≤ 9))) = 0 → fn 0 = (jI (wk S.2.2.2.1 0)).toInt64 ∧ zm = wk S.2.2.2.1 0) := by
    rcases hcase with ⟨h1, h2, h3⟩ | ⟨h1, h2⟩ <;> rcases hzm with ⟨h4, h5, v2w, h6, h7, h8⟩ | ⟨h4, v2w, h6, h7, h8⟩
    · exact ⟨(nxW S v1 v2 v3 v4), v2w, h2, by rw [h1]; exact h6, hSI.same rfl, h7, h8, fun _ => ⟨h3, h5⟩⟩
    · exact absurd h1 h4
    · exact absurd h4 h1
    · exact ⟨S, v2w, h2, h6, hSI, h7, h8, fun q => absurd q h1⟩
  obtain ⟨hP, hD⟩ := lj_M hP hD hsz hks hP2 hD2
  clear hcase hks hzs hP2 hD2 hPm hDm hsz hzm; generalize H1 = H at hP hD hS ⊢
  refine lv_istore (lv' := [(7, vi zm), (6, vi (cd1 ((1 ≤ v1 ∧ v1 ≤ 9) ∧ (1 ≤ v2 ∧ v2 ≤ 9) ∧ (1 ≤ v3 ∧ v3 ≤ 9) ∧ (1 ≤ v4 ∧ v4 ≤ 9)))), (5, vi (i : Int)), (0, .ref b), (1, .ref ox), (2, .ref om), (3, .ref a1), (4, .ref a2)]) hx hb dL_law_514 hl (by decide) rfl (fun ls hl => ?_)
  refine lv_aload_n hx hb dL_law_516 rfl (lv_at hl 5 rfl) ?_
  refine jk_Si (va_runV (As := []) (rest := []) ⟨hx, hb, hml, hown, htl⟩ (m_X11_thrownW l g om S9 (cd1 ((1 ≤ v1 ∧ v1 ≤ 9) ∧ (1 ≤ v2 ∧ v2 ≤ 9) ∧ (1 ≤ v3 ∧ v3 ≤ 9) ∧ (1 ≤ v4 ∧ v4 ≤ 9))) v2w hM9) (cwV 0 htl lk_L_140 rfl rfl rfl cwV_X11_thrown ⟨Nat.le_of_ble_eq_true rfl, Nat.le_of_ble_eq_true rfl⟩) (jp_V hKK hS hAb (MW.recv hKK hM9 (hP.mem fun q h => List.mem_cons_of_mem _ (List.mem_cons_of_mem _ (List.mem_append_right _ h)))) (hP.mem fun q h => List.mem_cons_of_mem _ (List.mem_cons_of_mem _ (List.mem_append_right _ h)))) rfl rfl hl.1 rfl (lv_room (Nat.le_of_ble_eq_true rfl)) dL_law_517 ⟨by show _ ≤ 603072; omega, by show _ ≤ 7219306; omega⟩) (fun z4 hz4 => ?_)
  subst hz4
  refine lv_iload hx hb dL_law_520 (lv_at hl 1 rfl) ?_
  refine lv_icmp_eq (tgt := 527) hx hb dL_law_522 (by decide) (fun _ => ?_) (fun h9 => absurd rfl h9)
  refine lv_iload hx hb dL_law_527 (lv_at hl 1 rfl) ?_
  have hcdR : jR (cd1 ((1 ≤ v1 ∧ v1 ≤ 9) ∧ (1 ≤ v2 ∧ v2 ≤ 9) ∧ (1 ≤ v3 ∧ v3 ≤ 9) ∧ (1 ≤ v4 ∧ v4 ≤ 9))) := by unfold cd1; (repeat' split) <;> exact ⟨by omega, by omega⟩
  refine lv_if_ne (tgt := 544) hx hb dL_law_529 (by decide) (fun h9 => ?_) (fun h9 => ?_)
  · refine lv_goto (tgt := 2202) hx hb dL_law_544 (by decide) ?_
    refine jr_iinc (lv' := [(5, vi ((i : Int) + 5)), (7, vi zm), (6, vi (cd1 ((1 ≤ v1 ∧ v1 ≤ 9) ∧ (1 ≤ v2 ∧ v2 ≤ 9) ∧ (1 ≤ v3 ∧ v3 ≤ 9) ∧ (1 ≤ v4 ∧ v4 ≤ 9)))), (0, .ref b), (1, .ref ox), (2, .ref om), (3, .ref a1), (4, .ref a2)]) hx hb dL_law_2202 hl (k := 2) rfl rfl (by decide) rfl (fun ls hl => ?_)
    refine lv_goto (tgt := 28) hx hb dL_law_2205 (by decide) ?_
    exact K S9 _ v1w v2w fn f2 H locs hC9 hM9 hI9 hP hD hS ls (lv_sub hl [0, 3, 4, 5, 6, 7] rfl)
  · have hc0 : (cd1 ((1 ≤ v1 ∧ v1 ≤ 9) ∧ (1 ≤ v2 ∧ v2 ≤ 9) ∧ (1 ≤ v3 ∧ v3 ≤ 9) ∧ (1 ≤ v4 ∧ v4 ≤ 9))) = 0 := (jI_inj hcdR ⟨by omega, by omega⟩).mp h9
    obtain ⟨hLV, hZ⟩ := hval hc0
    subst hZ
    refine lv_aload_n hx hb dL_law_532 rfl (lv_at hl 6 rfl) ?_
    refine jr_iconst hx hb dL_law_533 ?_
    refine va_lald hx hb hKJ hP 0 0 rfl rfl (jI_in (by omega) (by omega) (by omega)) dL_law_534 ?_
    rw [show (jI 0).toNatClampNeg = 0 from rfl, hLV]
    refine lv_iload hx hb dL_law_535 (lv_at hl 0 rfl) ?_
    refine lv_i2l hx hb dL_law_537 rfl ?_
    refine W.lcmp hx hb dL_law_538 ?_
    refine lv_if_eq (tgt := 544) hx hb dL_law_539 (by decide) (fun _ => ?_) (fun h9 => absurd (lg_cmp_self _) h9)
    refine lv_goto (tgt := 2202) hx hb dL_law_544 (by decide) ?_
    refine jr_iinc (lv' := [(5, vi ((i : Int) + 5)), (7, vi (wk S.2.2.2.1 0)), (6, vi (cd1 ((1 ≤ v1 ∧ v1 ≤ 9) ∧ (1 ≤ v2 ∧ v2 ≤ 9) ∧ (1 ≤ v3 ∧ v3 ≤ 9) ∧ (1 ≤ v4 ∧ v4 ≤ 9)))), (0, .ref b), (1, .ref ox), (2, .ref om), (3, .ref a1), (4, .ref a2)]) hx hb dL_law_2202 hl (k := 2) rfl rfl (by decide) rfl (fun ls hl => ?_)
    refine lv_goto (tgt := 28) hx hb dL_law_2205 (by decide) ?_
    exact K S9 _ v1w v2w fn f2 H locs hC9 hM9 hI9 hP hD hS ls (lv_sub hl [0, 3, 4, 5, 6, 7] rfl)
set_option maxHeartbeats 4000000 in
set_option maxRecDepth 100000 in
theorem lc_addAbbreviation (l : Launch) (hsT : l.stackTraces = false) {g : GT} {cj cd : ClassId} {p : Program} {e : Env} {s : State} {m : MethodId} {b : Nat} {below : List Frame} {meth : Method} {c : Code} {Q : State → Prop} {ox om a1 a2 i k L : Nat} {xs : Nat → Int32} (hx : p.tables.exec = Jvm.exec) (hb : c.code = cL_law) (hml : c.maxLocals = 9) (hown : s.vm.findClass RL = some m.cls) (htl : ∀ w ∈ WSL, w.before #[Value.ref b] s = true) (hKK : KK g s) (hKJ : KJ g cj cd s) (hgb : gb g = s.heap.size) (hX : va_X b L xs s s.heap) (hbl : b < s.heap.size) (hi : i + 5 ≤ L) (hL : L ≤ 2560) (hk : k < 512) (K : LK g cj cd p l e s m b below meth c Q ox om a1 a2 (i + 5) (k + 1))
    (S : SGM) (z : Int) (w1 w2 : va_W) (f1 : Nat → Int64) (f2 : Nat → UInt64) (H : Heap) (locs : List Loc) (hCW : CW g ox S w1) (hMW : MW g om S z w2) (hSI : SI S) (hP : PP g (aJ cj a1 f1 :: aD1 cd a2 f2 :: (w1 ++ w2)) H) (hD : va_D (fun q => gb g ≤ q) (aJ cj a1 f1 :: aD1 cd a2 f2 :: (w1 ++ w2))) (hS : va_S (fun q => gb g ≤ q) s.heap H locs) (ls : Array Slot) (hl : lv_has ls 9 [(5, vi (i : Int)), (0, .ref b), (1, .ref ox), (2, .ref om), (3, .ref a1), (4, .ref a2)]) : W p l e room_1 s m #[Value.ref b] below meth c H locs (50 + 361 * k) (13700 + 13026 * k) Q (F0 m 547 ls []) := by
  have hbA : ¬ (fun q => gb g ≤ q) b := by show ¬ gb g ≤ b; omega
  have hAb : ∀ q, (fun q => gb g ≤ q) q → gb g ≤ q := fun _ h => h
  obtain ⟨v1, hv1, hx1⟩ : ∃ v : Int, jR v ∧ xs (jI ((i : Int) + 1)).toNatClampNeg = jI v := ⟨_, jR_of _, jI_of _⟩
  have hDc := (hD.perm pmA).left
  have hPc : PP g (aJ cj a1 f1 :: w1) H := (hP.perm pmA).mem fun q h => List.mem_append_left _ h
  have hsz : ∀ q, H.size ≤ q → gb g ≤ q := fun q h => by have := hS.1; omega
  have hFl : ∀ q, va_A (aJ cj a1 f1 :: w1) H.size q → gb g ≤ q := va_A_sub hDc (Nat.le_refl _) hsz
  refine lv_aload_n hx hb dL_law_547 rfl (lv_at hl 2 rfl) ?_
  refine lv_aload_n hx hb dL_law_548 rfl (lv_at hl 1 rfl) ?_
  refine lv_iload hx hb dL_law_549 (lv_at hl 0 rfl) ?_
  refine jr_iconst hx hb dL_law_551 ?_
  refine jr_iadd hx hb dL_law_552 ?_
  refine va_sld hx hb hX hbl hbA hS (jI_in (by omega) (by omega) (by omega)) dL_law_553 ?_
  rw [hx1]
  refine lv_aload_n hx hb dL_law_554 rfl (lv_at hl 4 rfl) ?_
  refine jk_Qi (vx_runSW (As := [.ref ox, vi v1, .ref a1]) (rest := []) ⟨hx, hb, hml, hown, htl⟩ (m_L_addAbbreviation l hsT g cj cd ox a1 f1 S w1 hCW H.size v1 hv1) (vx_cwSW 3 htl lkH_addAbbreviation rfl rfl rfl cwS_L_addAbbreviation ⟨Nat.le_of_ble_eq_true rfl, Nat.le_of_ble_eq_true rfl⟩) (jp_H hKK hKJ hS hAb ⟨rfl, hPc, hDc⟩) rfl rfl hl.1 rfl (lv_room (Nat.le_of_ble_eq_true rfl)) dL_law_555 ⟨by show _ ≤ 603072; omega, by show _ ≤ 7219306; omega⟩) hS (fun q _ h => hFl q h) hFl (fun z3 H1 locs hz3 hzs hks hS => ?_)
  obtain ⟨hz3, v1w, fn, hcase, hP1, hD1⟩ := hz3
  obtain ⟨hP, hD⟩ := lj_H hP hD hks hFl hP1 hD1
  subst hz3
  clear hks hzs hP1 hD1 hFl hsz hPc hDc; generalize H1 = H at hP hD hS ⊢
  refine W.widen (k := 50 + 361 * (k + 1)) (n := 13700 + 13026 * (k + 1)) (by omega) (by omega) ?_
  refine lv_istore (lv' := [(6, vi (cd1 (0 ≤ v1 ∧ v1 < 100))), (5, vi (i : Int)), (0, .ref b), (1, .ref ox), (2, .ref om), (3, .ref a1), (4, .ref a2)]) hx hb dL_law_558 hl (by decide) rfl (fun ls hl => ?_)
  refine lv_aload_n hx hb dL_law_560 rfl (lv_at hl 4 rfl) ?_
  refine lv_aload_n hx hb dL_law_561 rfl (lv_at hl 2 rfl) ?_
  refine lv_iload hx hb dL_law_562 (lv_at hl 1 rfl) ?_
  refine jr_iconst hx hb dL_law_564 ?_
  refine jr_iadd hx hb dL_law_565 ?_
  refine va_sld hx hb hX hbl hbA hS (jI_in (by omega) (by omega) (by omega)) dL_law_566 ?_
  rw [hx1]
  have hPm : PP g w2 H := (hP.perm pmB).mem fun q h => List.mem_append_left _ h
  have hDm := (hD.perm pmB).left
  have hsz : ∀ q, H.size ≤ q → gb g ≤ q := fun q h => by have := hS.1; omega
  refine jk_Qi (va_runV (As := [vi v1]) (rest := []) ⟨hx, hb, hml, hown, htl⟩ (m_X11_addAbbreviation l g om S z w2 hMW v1 hv1) (cwV 1 htl lk_L_163 rfl rfl rfl cwV_X11_addAbbreviation ⟨Nat.le_of_ble_eq_true rfl, Nat.le_of_ble_eq_true rfl⟩) (jp_V hKK hS hAb (MW.recv hKK hMW hPm) ⟨hPm, hDm⟩) rfl rfl hl.1 rfl (lv_room (Nat.le_of_ble_eq_true rfl)) dL_law_567 ⟨by show _ ≤ 603072; omega, by show _ ≤ 7219306; omega⟩) hS (fun q _ h => hDm.inA h) (fun q h => hDm.inA h) (fun zm H1 locs hzm hzs hks hS => ?_)
  obtain ⟨S9, v2w, hC9, hM9, hI9, hP2, hD2, hval⟩ : ∃ (S9 : SGM) (v2w : va_W), CW g ox S9 v1w ∧ MW g om S9 (cd1 (0 ≤ v1 ∧ v1 < 100)) v2w ∧ SI S9 ∧ PP g v2w H1 ∧ va_D (jA w2) v2w ∧ ((cd1 (0 ≤ v1 ∧ v1 < 100)) = 0 → fn 0 = (if jI (if S.2.2.1 v1.toNat = 0 then 1 else 0) = 0 then (0 : Int64) else 1) ∧ zm = if S.2.2.1 v1.toNat = 0 then 1 else 0) := by
    rcases hcase with ⟨h1, h2, h3⟩ | ⟨h1, h2⟩ <;> rcases hzm with ⟨h4, h5, v2w, h6, h7, h8⟩ | ⟨h4, v2w, h6, h7, h8⟩
    · exact ⟨(nxAb S v1), v2w, h2, by rw [h1]; exact h6, hSI.same rfl, h7, h8, fun _ => ⟨h3, h5⟩⟩
    · exact absurd h1 h4
    · exact absurd h4 h1
    · exact ⟨S, v2w, h2, h6, hSI, h7, h8, fun q => absurd q h1⟩
  obtain ⟨hP, hD⟩ := lj_M hP hD hsz hks hP2 hD2
  clear hcase hks hzs hP2 hD2 hPm hDm hsz hzm; generalize H1 = H at hP hD hS ⊢
  refine lv_istore (lv' := [(7, vi zm), (6, vi (cd1 (0 ≤ v1 ∧ v1 < 100))), (5, vi (i : Int)), (0, .ref b), (1, .ref ox), (2, .ref om), (3, .ref a1), (4, .ref a2)]) hx hb dL_law_570 hl (by decide) rfl (fun ls hl => ?_)
  refine lv_aload_n hx hb dL_law_572 rfl (lv_at hl 5 rfl) ?_
  refine jk_Si (va_runV (As := []) (rest := []) ⟨hx, hb, hml, hown, htl⟩ (m_X11_thrownW l g om S9 (cd1 (0 ≤ v1 ∧ v1 < 100)) v2w hM9) (cwV 0 htl lk_L_140 rfl rfl rfl cwV_X11_thrown ⟨Nat.le_of_ble_eq_true rfl, Nat.le_of_ble_eq_true rfl⟩) (jp_V hKK hS hAb (MW.recv hKK hM9 (hP.mem fun q h => List.mem_cons_of_mem _ (List.mem_cons_of_mem _ (List.mem_append_right _ h)))) (hP.mem fun q h => List.mem_cons_of_mem _ (List.mem_cons_of_mem _ (List.mem_append_right _ h)))) rfl rfl hl.1 rfl (lv_room (Nat.le_of_ble_eq_true rfl)) dL_law_573 ⟨by show _ ≤ 603072; omega, by show _ ≤ 7219306; omega⟩) (fun z4 hz4 => ?_)
  subst hz4
  refine lv_iload hx hb dL_law_576 (lv_at hl 1 rfl) ?_
  refine lv_icmp_eq (tgt := 583) hx hb dL_law_578 (by decide) (fun _ => ?_) (fun h9 => absurd rfl h9)
  refine lv_iload hx hb dL_law_583 (lv_at hl 1 rfl) ?_
  have hcdR : jR (cd1 (0 ≤ v1 ∧ v1 < 100)) := by unfold cd1; (repeat' split) <;> exact ⟨by omega, by omega⟩
  refine lv_if_ne (tgt := 607) hx hb dL_law_585 (by decide) (fun h9 => ?_) (fun h9 => ?_)
  · refine lv_goto (tgt := 2202) hx hb dL_law_607 (by decide) ?_
    refine jr_iinc (lv' := [(5, vi ((i : Int) + 5)), (7, vi zm), (6, vi (cd1 (0 ≤ v1 ∧ v1 < 100))), (0, .ref b), (1, .ref ox), (2, .ref om), (3, .ref a1), (4, .ref a2)]) hx hb dL_law_2202 hl (k := 2) rfl rfl (by decide) rfl (fun ls hl => ?_)
    refine lv_goto (tgt := 28) hx hb dL_law_2205 (by decide) ?_
    exact K S9 _ v1w v2w fn f2 H locs hC9 hM9 hI9 hP hD hS ls (lv_sub hl [0, 3, 4, 5, 6, 7] rfl)
  · have hc0 : (cd1 (0 ≤ v1 ∧ v1 < 100)) = 0 := (jI_inj hcdR ⟨by omega, by omega⟩).mp h9
    obtain ⟨hLV, hZ⟩ := hval hc0
    subst hZ
    refine lv_aload_n hx hb dL_law_588 rfl (lv_at hl 6 rfl) ?_
    refine jr_iconst hx hb dL_law_589 ?_
    refine va_lald hx hb hKJ hP 0 0 rfl rfl (jI_in (by omega) (by omega) (by omega)) dL_law_590 ?_
    rw [show (jI 0).toNatClampNeg = 0 from rfl, hLV]
    refine lv_iload hx hb dL_law_591 (lv_at hl 0 rfl) ?_
    refine lv_if_eq (tgt := 600) hx hb dL_law_593 (by decide) (fun hz8 => ?_) (fun hz8 => ?_)
    · rw [if_pos hz8]
      refine lv_lconst (v := (0 : Int64)) hx hb dL_law_600 rfl ?_
      refine W.lcmp hx hb dL_law_601 ?_
      refine lv_if_eq (tgt := 607) hx hb dL_law_602 (by decide) (fun _ => ?_) (fun h9 => absurd (lg_cmp_self _) h9)
      refine lv_goto (tgt := 2202) hx hb dL_law_607 (by decide) ?_
      refine jr_iinc (lv' := [(5, vi ((i : Int) + 5)), (7, vi (if S.2.2.1 v1.toNat = 0 then 1 else 0)), (6, vi (cd1 (0 ≤ v1 ∧ v1 < 100))), (0, .ref b), (1, .ref ox), (2, .ref om), (3, .ref a1), (4, .ref a2)]) hx hb dL_law_2202 hl (k := 2) rfl rfl (by decide) rfl (fun ls hl => ?_)
      refine lv_goto (tgt := 28) hx hb dL_law_2205 (by decide) ?_
      exact K S9 _ v1w v2w fn f2 H locs hC9 hM9 hI9 hP hD hS ls (lv_sub hl [0, 3, 4, 5, 6, 7] rfl)
    · rw [if_neg hz8]
      refine lv_lconst (v := (1 : Int64)) hx hb dL_law_596 rfl ?_
      refine lv_goto (tgt := 601) hx hb dL_law_597 (by decide) ?_
      refine W.lcmp hx hb dL_law_601 ?_
      refine lv_if_eq (tgt := 607) hx hb dL_law_602 (by decide) (fun _ => ?_) (fun h9 => absurd (lg_cmp_self _) h9)
      refine lv_goto (tgt := 2202) hx hb dL_law_607 (by decide) ?_
      refine jr_iinc (lv' := [(5, vi ((i : Int) + 5)), (7, vi (if S.2.2.1 v1.toNat = 0 then 1 else 0)), (6, vi (cd1 (0 ≤ v1 ∧ v1 < 100))), (0, .ref b), (1, .ref ox), (2, .ref om), (3, .ref a1), (4, .ref a2)]) hx hb dL_law_2202 hl (k := 2) rfl rfl (by decide) rfl (fun ls hl => ?_)
      refine lv_goto (tgt := 28) hx hb dL_law_2205 (by decide) ?_
      exact K S9 _ v1w v2w fn f2 H locs hC9 hM9 hI9 hP hD hS ls (lv_sub hl [0, 3, 4, 5, 6, 7] rfl)
set_option maxHeartbeats 4000000 in
set_option maxRecDepth 100000 in
theorem lc_addTerm (l : Launch) (hsT : l.stackTraces = false) {g : GT} {cj cd : ClassId} {p : Program} {e : Env} {s : State} {m : MethodId} {b : Nat} {below : List Frame} {meth : Method} {c : Code} {Q : State → Prop} {ox om a1 a2 i k L : Nat} {xs : Nat → Int32} (hx : p.tables.exec = Jvm.exec) (hb : c.code = cL_law) (hml : c.maxLocals = 9) (hown : s.vm.findClass RL = some m.cls) (htl : ∀ w ∈ WSL, w.before #[Value.ref b] s = true) (hKK : KK g s) (hKJ : KJ g cj cd s) (hgb : gb g = s.heap.size) (hX : va_X b L xs s s.heap) (hbl : b < s.heap.size) (hi : i + 5 ≤ L) (hL : L ≤ 2560) (hk : k < 512) (K : LK g cj cd p l e s m b below meth c Q ox om a1 a2 (i + 5) (k + 1))
    (S : SGM) (z : Int) (w1 w2 : va_W) (f1 : Nat → Int64) (f2 : Nat → UInt64) (H : Heap) (locs : List Loc) (hCW : CW g ox S w1) (hMW : MW g om S z w2) (hSI : SI S) (hP : PP g (aJ cj a1 f1 :: aD1 cd a2 f2 :: (w1 ++ w2)) H) (hD : va_D (fun q => gb g ≤ q) (aJ cj a1 f1 :: aD1 cd a2 f2 :: (w1 ++ w2))) (hS : va_S (fun q => gb g ≤ q) s.heap H locs) (ls : Array Slot) (hl : lv_has ls 9 [(5, vi (i : Int)), (0, .ref b), (1, .ref ox), (2, .ref om), (3, .ref a1), (4, .ref a2)]) : W p l e room_1 s m #[Value.ref b] below meth c H locs (50 + 361 * k) (13700 + 13026 * k) Q (F0 m 610 ls []) := by
  have hbA : ¬ (fun q => gb g ≤ q) b := by show ¬ gb g ≤ b; omega
  have hAb : ∀ q, (fun q => gb g ≤ q) q → gb g ≤ q := fun _ h => h
  obtain ⟨v1, hv1, hx1⟩ : ∃ v : Int, jR v ∧ xs (jI ((i : Int) + 1)).toNatClampNeg = jI v := ⟨_, jR_of _, jI_of _⟩
  obtain ⟨v2, hv2, hx2⟩ : ∃ v : Int, jR v ∧ xs (jI ((i : Int) + 2)).toNatClampNeg = jI v := ⟨_, jR_of _, jI_of _⟩
  have hDc := (hD.perm pmA).left
  have hPc : PP g (aJ cj a1 f1 :: w1) H := (hP.perm pmA).mem fun q h => List.mem_append_left _ h
  have hsz : ∀ q, H.size ≤ q → gb g ≤ q := fun q h => by have := hS.1; omega
  have hFl : ∀ q, va_A (aJ cj a1 f1 :: w1) H.size q → gb g ≤ q := va_A_sub hDc (Nat.le_refl _) hsz
  refine lv_aload_n hx hb dL_law_610 rfl (lv_at hl 2 rfl) ?_
  refine lv_aload_n hx hb dL_law_611 rfl (lv_at hl 1 rfl) ?_
  refine lv_iload hx hb dL_law_612 (lv_at hl 0 rfl) ?_
  refine jr_iconst hx hb dL_law_614 ?_
  refine jr_iadd hx hb dL_law_615 ?_
  refine va_sld hx hb hX hbl hbA hS (jI_in (by omega) (by omega) (by omega)) dL_law_616 ?_
  rw [hx1]
  refine lv_aload_n hx hb dL_law_617 rfl (lv_at hl 1 rfl) ?_
  refine lv_iload hx hb dL_law_618 (lv_at hl 0 rfl) ?_
  refine jr_iconst hx hb dL_law_620 ?_
  refine jr_iadd hx hb dL_law_621 ?_
  refine va_sld hx hb hX hbl hbA hS (jI_in (by omega) (by omega) (by omega)) dL_law_622 ?_
  rw [hx2]
  refine lv_aload_n hx hb dL_law_623 rfl (lv_at hl 4 rfl) ?_
  refine jk_Qi (vx_runSW (As := [.ref ox, vi v1, vi v2, .ref a1]) (rest := []) ⟨hx, hb, hml, hown, htl⟩ (m_L_addTerm l hsT g cj cd ox a1 f1 S w1 hCW H.size v1 v2 hv1 hv2) (vx_cwSW 4 htl lkH_addTerm rfl rfl rfl cwS_L_addTerm ⟨Nat.le_of_ble_eq_true rfl, Nat.le_of_ble_eq_true rfl⟩) (jp_H hKK hKJ hS hAb ⟨rfl, hPc, hDc⟩) rfl rfl hl.1 rfl (lv_room (Nat.le_of_ble_eq_true rfl)) dL_law_624 ⟨by show _ ≤ 603072; omega, by show _ ≤ 7219306; omega⟩) hS (fun q _ h => hFl q h) hFl (fun z3 H1 locs hz3 hzs hks hS => ?_)
  obtain ⟨hz3, v1w, fn, hcase, hP1, hD1⟩ := hz3
  obtain ⟨hP, hD⟩ := lj_H hP hD hks hFl hP1 hD1
  subst hz3
  clear hks hzs hP1 hD1 hFl hsz hPc hDc; generalize H1 = H at hP hD hS ⊢
  refine W.widen (k := 50 + 361 * (k + 1)) (n := 13700 + 13026 * (k + 1)) (by omega) (by omega) ?_
  refine lv_istore (lv' := [(6, vi (cdTerm S v1 v2)), (5, vi (i : Int)), (0, .ref b), (1, .ref ox), (2, .ref om), (3, .ref a1), (4, .ref a2)]) hx hb dL_law_627 hl (by decide) rfl (fun ls hl => ?_)
  refine lv_aload_n hx hb dL_law_629 rfl (lv_at hl 4 rfl) ?_
  refine lv_aload_n hx hb dL_law_630 rfl (lv_at hl 2 rfl) ?_
  refine lv_iload hx hb dL_law_631 (lv_at hl 1 rfl) ?_
  refine jr_iconst hx hb dL_law_633 ?_
  refine jr_iadd hx hb dL_law_634 ?_
  refine va_sld hx hb hX hbl hbA hS (jI_in (by omega) (by omega) (by omega)) dL_law_635 ?_
  rw [hx1]
  refine lv_aload_n hx hb dL_law_636 rfl (lv_at hl 2 rfl) ?_
  refine lv_iload hx hb dL_law_637 (lv_at hl 1 rfl) ?_
  refine jr_iconst hx hb dL_law_639 ?_
  refine jr_iadd hx hb dL_law_640 ?_
  refine va_sld hx hb hX hbl hbA hS (jI_in (by omega) (by omega) (by omega)) dL_law_641 ?_
  rw [hx2]
  have hPm : PP g w2 H := (hP.perm pmB).mem fun q h => List.mem_append_left _ h
  have hDm := (hD.perm pmB).left
  have hsz : ∀ q, H.size ≤ q → gb g ≤ q := fun q h => by have := hS.1; omega
  refine jk_Qi (va_runV (As := [vi v1, vi v2]) (rest := []) ⟨hx, hb, hml, hown, htl⟩ (m_X11_addTerm l g om S z w2 hMW v1 v2 hv1 hv2) (cwV 2 htl lk_L_167 rfl rfl rfl cwV_X11_addTerm ⟨Nat.le_of_ble_eq_true rfl, Nat.le_of_ble_eq_true rfl⟩) (jp_V hKK hS hAb (MW.recv hKK hMW hPm) ⟨hPm, hDm⟩) rfl rfl hl.1 rfl (lv_room (Nat.le_of_ble_eq_true rfl)) dL_law_642 ⟨by show _ ≤ 603072; omega, by show _ ≤ 7219306; omega⟩) hS (fun q _ h => hDm.inA h) (fun q h => hDm.inA h) (fun zm H1 locs hzm hzs hks hS => ?_)
  obtain ⟨S9, v2w, hC9, hM9, hI9, hP2, hD2, hval⟩ : ∃ (S9 : SGM) (v2w : va_W), CW g ox S9 v1w ∧ MW g om S9 (cdTerm S v1 v2) v2w ∧ SI S9 ∧ PP g v2w H1 ∧ va_D (jA w2) v2w ∧ ((cdTerm S v1 v2) = 0 → fn 0 = (jI (((S.2.2.2.2.1.1 + 1 : Nat) : Int))).toInt64 ∧ zm = ((S.2.2.2.2.1.1 + 1 : Nat) : Int)) := by
    rcases hcase with ⟨h1, h2, h3⟩ | ⟨h1, h2⟩ <;> rcases hzm with ⟨h4, h5, v2w, h6, h7, h8⟩ | ⟨h4, v2w, h6, h7, h8⟩
    · exact ⟨(nxT S v1 v2), v2w, h2, by rw [h1]; exact h6, hSI.same rfl, h7, h8, fun _ => ⟨h3, h5⟩⟩
    · exact absurd h1 h4
    · exact absurd h4 h1
    · exact ⟨S, v2w, h2, h6, hSI, h7, h8, fun q => absurd q h1⟩
  obtain ⟨hP, hD⟩ := lj_M hP hD hsz hks hP2 hD2
  clear hcase hks hzs hP2 hD2 hPm hDm hsz hzm; generalize H1 = H at hP hD hS ⊢
  refine lv_istore (lv' := [(7, vi zm), (6, vi (cdTerm S v1 v2)), (5, vi (i : Int)), (0, .ref b), (1, .ref ox), (2, .ref om), (3, .ref a1), (4, .ref a2)]) hx hb dL_law_645 hl (by decide) rfl (fun ls hl => ?_)
  refine lv_aload_n hx hb dL_law_647 rfl (lv_at hl 5 rfl) ?_
  refine jk_Si (va_runV (As := []) (rest := []) ⟨hx, hb, hml, hown, htl⟩ (m_X11_thrownW l g om S9 (cdTerm S v1 v2) v2w hM9) (cwV 0 htl lk_L_140 rfl rfl rfl cwV_X11_thrown ⟨Nat.le_of_ble_eq_true rfl, Nat.le_of_ble_eq_true rfl⟩) (jp_V hKK hS hAb (MW.recv hKK hM9 (hP.mem fun q h => List.mem_cons_of_mem _ (List.mem_cons_of_mem _ (List.mem_append_right _ h)))) (hP.mem fun q h => List.mem_cons_of_mem _ (List.mem_cons_of_mem _ (List.mem_append_right _ h)))) rfl rfl hl.1 rfl (lv_room (Nat.le_of_ble_eq_true rfl)) dL_law_648 ⟨by show _ ≤ 603072; omega, by show _ ≤ 7219306; omega⟩) (fun z4 hz4 => ?_)
  subst hz4
  refine lv_iload hx hb dL_law_651 (lv_at hl 1 rfl) ?_
  refine lv_icmp_eq (tgt := 658) hx hb dL_law_653 (by decide) (fun _ => ?_) (fun h9 => absurd rfl h9)
  refine lv_iload hx hb dL_law_658 (lv_at hl 1 rfl) ?_
  have hcdR : jR (cdTerm S v1 v2) := by unfold cdTerm; (repeat' split) <;> exact ⟨by omega, by omega⟩
  refine lv_if_ne (tgt := 675) hx hb dL_law_660 (by decide) (fun h9 => ?_) (fun h9 => ?_)
  · refine lv_goto (tgt := 2202) hx hb dL_law_675 (by decide) ?_
    refine jr_iinc (lv' := [(5, vi ((i : Int) + 5)), (7, vi zm), (6, vi (cdTerm S v1 v2)), (0, .ref b), (1, .ref ox), (2, .ref om), (3, .ref a1), (4, .ref a2)]) hx hb dL_law_2202 hl (k := 2) rfl rfl (by decide) rfl (fun ls hl => ?_)
    refine lv_goto (tgt := 28) hx hb dL_law_2205 (by decide) ?_
    exact K S9 _ v1w v2w fn f2 H locs hC9 hM9 hI9 hP hD hS ls (lv_sub hl [0, 3, 4, 5, 6, 7] rfl)
  · have hc0 : (cdTerm S v1 v2) = 0 := (jI_inj hcdR ⟨by omega, by omega⟩).mp h9
    obtain ⟨hLV, hZ⟩ := hval hc0
    subst hZ
    refine lv_aload_n hx hb dL_law_663 rfl (lv_at hl 6 rfl) ?_
    refine jr_iconst hx hb dL_law_664 ?_
    refine va_lald hx hb hKJ hP 0 0 rfl rfl (jI_in (by omega) (by omega) (by omega)) dL_law_665 ?_
    rw [show (jI 0).toNatClampNeg = 0 from rfl, hLV]
    refine lv_iload hx hb dL_law_666 (lv_at hl 0 rfl) ?_
    refine lv_i2l hx hb dL_law_668 rfl ?_
    refine W.lcmp hx hb dL_law_669 ?_
    refine lv_if_eq (tgt := 675) hx hb dL_law_670 (by decide) (fun _ => ?_) (fun h9 => absurd (lg_cmp_self _) h9)
    refine lv_goto (tgt := 2202) hx hb dL_law_675 (by decide) ?_
    refine jr_iinc (lv' := [(5, vi ((i : Int) + 5)), (7, vi ((S.2.2.2.2.1.1 + 1 : Nat) : Int)), (6, vi (cdTerm S v1 v2)), (0, .ref b), (1, .ref ox), (2, .ref om), (3, .ref a1), (4, .ref a2)]) hx hb dL_law_2202 hl (k := 2) rfl rfl (by decide) rfl (fun ls hl => ?_)
    refine lv_goto (tgt := 28) hx hb dL_law_2205 (by decide) ?_
    exact K S9 _ v1w v2w fn f2 H locs hC9 hM9 hI9 hP hD hS ls (lv_sub hl [0, 3, 4, 5, 6, 7] rfl)
set_option maxHeartbeats 4000000 in
set_option maxRecDepth 100000 in
theorem lc_takeSource (l : Launch) (hsT : l.stackTraces = false) {g : GT} {cj cd : ClassId} {p : Program} {e : Env} {s : State} {m : MethodId} {b : Nat} {below : List Frame} {meth : Method} {c : Code} {Q : State → Prop} {ox om a1 a2 i k L : Nat} {xs : Nat → Int32} (hx : p.tables.exec = Jvm.exec) (hb : c.code = cL_law) (hml : c.maxLocals = 9) (hown : s.vm.findClass RL = some m.cls) (htl : ∀ w ∈ WSL, w.before #[Value.ref b] s = true) (hKK : KK g s) (hKJ : KJ g cj cd s) (hgb : gb g = s.heap.size) (hX : va_X b L xs s s.heap) (hbl : b < s.heap.size) (hi : i + 5 ≤ L) (hL : L ≤ 2560) (hk : k < 512) (K : LK g cj cd p l e s m b below meth c Q ox om a1 a2 (i + 5) (k + 1))
    (S : SGM) (z : Int) (w1 w2 : va_W) (f1 : Nat → Int64) (f2 : Nat → UInt64) (H : Heap) (locs : List Loc) (hCW : CW g ox S w1) (hMW : MW g om S z w2) (hSI : SI S) (hP : PP g (aJ cj a1 f1 :: aD1 cd a2 f2 :: (w1 ++ w2)) H) (hD : va_D (fun q => gb g ≤ q) (aJ cj a1 f1 :: aD1 cd a2 f2 :: (w1 ++ w2))) (hS : va_S (fun q => gb g ≤ q) s.heap H locs) (ls : Array Slot) (hl : lv_has ls 9 [(5, vi (i : Int)), (0, .ref b), (1, .ref ox), (2, .ref om), (3, .ref a1), (4, .ref a2)]) : W p l e room_1 s m #[Value.ref b] below meth c H locs (50 + 361 * k) (13700 + 13026 * k) Q (F0 m 678 ls []) := by
  have hbA : ¬ (fun q => gb g ≤ q) b := by show ¬ gb g ≤ b; omega
  have hAb : ∀ q, (fun q => gb g ≤ q) q → gb g ≤ q := fun _ h => h
  have hDc := (hD.perm pmA).left
  have hPc : PP g (aJ cj a1 f1 :: w1) H := (hP.perm pmA).mem fun q h => List.mem_append_left _ h
  have hsz : ∀ q, H.size ≤ q → gb g ≤ q := fun q h => by have := hS.1; omega
  have hFl : ∀ q, va_A (aJ cj a1 f1 :: w1) H.size q → gb g ≤ q := va_A_sub hDc (Nat.le_refl _) hsz
  refine lv_aload_n hx hb dL_law_678 rfl (lv_at hl 2 rfl) ?_
  refine lv_aload_n hx hb dL_law_679 rfl (lv_at hl 4 rfl) ?_
  refine jk_Qi (vx_runSW (As := [.ref ox, .ref a1]) (rest := []) ⟨hx, hb, hml, hown, htl⟩ (m_L_takeSource l hsT g cj cd ox a1 f1 S w1 hCW H.size ) (vx_cwSW 2 htl lkH_takeSource rfl rfl rfl cwS_L_takeSource ⟨Nat.le_of_ble_eq_true rfl, Nat.le_of_ble_eq_true rfl⟩) (jp_H hKK hKJ hS hAb ⟨rfl, hPc, hDc⟩) rfl rfl hl.1 rfl (lv_room (Nat.le_of_ble_eq_true rfl)) dL_law_680 ⟨by show _ ≤ 603072; omega, by show _ ≤ 7219306; omega⟩) hS (fun q _ h => hFl q h) hFl (fun z3 H1 locs hz3 hzs hks hS => ?_)
  obtain ⟨hz3, v1w, fn, hcase, hP1, hD1⟩ := hz3
  obtain ⟨hP, hD⟩ := lj_H hP hD hks hFl hP1 hD1
  subst hz3
  clear hks hzs hP1 hD1 hFl hsz hPc hDc; generalize H1 = H at hP hD hS ⊢
  refine W.widen (k := 50 + 361 * (k + 1)) (n := 13700 + 13026 * (k + 1)) (by omega) (by omega) ?_
  refine lv_istore (lv' := [(6, vi (cd1 (¬ S.1.length = 0))), (5, vi (i : Int)), (0, .ref b), (1, .ref ox), (2, .ref om), (3, .ref a1), (4, .ref a2)]) hx hb dL_law_683 hl (by decide) rfl (fun ls hl => ?_)
  refine lv_aload_n hx hb dL_law_685 rfl (lv_at hl 4 rfl) ?_
  have hPm : PP g w2 H := (hP.perm pmB).mem fun q h => List.mem_append_left _ h
  have hDm := (hD.perm pmB).left
  have hsz : ∀ q, H.size ≤ q → gb g ≤ q := fun q h => by have := hS.1; omega
  refine jk_Qi (va_runV (As := []) (rest := []) ⟨hx, hb, hml, hown, htl⟩ (m_X11_takeSource l g om S z w2 hMW ) (cwV 0 htl lk_L_171 rfl rfl rfl cwV_X11_takeSource ⟨Nat.le_of_ble_eq_true rfl, Nat.le_of_ble_eq_true rfl⟩) (jp_V hKK hS hAb (MW.recv hKK hMW hPm) ⟨hPm, hDm⟩) rfl rfl hl.1 rfl (lv_room (Nat.le_of_ble_eq_true rfl)) dL_law_686 ⟨by show _ ≤ 603072; omega, by show _ ≤ 7219306; omega⟩) hS (fun q _ h => hDm.inA h) (fun q h => hDm.inA h) (fun zm H1 locs hzm hzs hks hS => ?_)
  obtain ⟨S9, v2w, hC9, hM9, hI9, hP2, hD2, hval⟩ : ∃ (S9 : SGM) (v2w : va_W), CW g ox S9 v1w ∧ MW g om S9 (cd1 (¬ S.1.length = 0)) v2w ∧ SI S9 ∧ PP g v2w H1 ∧ va_D (jA w2) v2w ∧ ((cd1 (¬ S.1.length = 0)) = 0 → fn 0 = (jI ((S.1.length : Int))).toInt64 ∧ zm = (S.1.length : Int)) := by
    rcases hcase with ⟨h1, h2, h3⟩ | ⟨h1, h2⟩ <;> rcases hzm with ⟨h4, h5, v2w, h6, h7, h8⟩ | ⟨h4, v2w, h6, h7, h8⟩
    · exact ⟨(nxTake S), v2w, h2, by rw [h1]; exact h6, SI.nil _ rfl, h7, h8, fun _ => ⟨h3, h5⟩⟩
    · exact absurd h1 h4
    · exact absurd h4 h1
    · exact ⟨S, v2w, h2, h6, hSI, h7, h8, fun q => absurd q h1⟩
  obtain ⟨hP, hD⟩ := lj_M hP hD hsz hks hP2 hD2
  clear hcase hks hzs hP2 hD2 hPm hDm hsz hzm; generalize H1 = H at hP hD hS ⊢
  refine lv_istore (lv' := [(7, vi zm), (6, vi (cd1 (¬ S.1.length = 0))), (5, vi (i : Int)), (0, .ref b), (1, .ref ox), (2, .ref om), (3, .ref a1), (4, .ref a2)]) hx hb dL_law_689 hl (by decide) rfl (fun ls hl => ?_)
  refine lv_aload_n hx hb dL_law_691 rfl (lv_at hl 5 rfl) ?_
  refine jk_Si (va_runV (As := []) (rest := []) ⟨hx, hb, hml, hown, htl⟩ (m_X11_thrownW l g om S9 (cd1 (¬ S.1.length = 0)) v2w hM9) (cwV 0 htl lk_L_140 rfl rfl rfl cwV_X11_thrown ⟨Nat.le_of_ble_eq_true rfl, Nat.le_of_ble_eq_true rfl⟩) (jp_V hKK hS hAb (MW.recv hKK hM9 (hP.mem fun q h => List.mem_cons_of_mem _ (List.mem_cons_of_mem _ (List.mem_append_right _ h)))) (hP.mem fun q h => List.mem_cons_of_mem _ (List.mem_cons_of_mem _ (List.mem_append_right _ h)))) rfl rfl hl.1 rfl (lv_room (Nat.le_of_ble_eq_true rfl)) dL_law_692 ⟨by show _ ≤ 603072; omega, by show _ ≤ 7219306; omega⟩) (fun z4 hz4 => ?_)
  subst hz4
  refine lv_iload hx hb dL_law_695 (lv_at hl 1 rfl) ?_
  refine lv_icmp_eq (tgt := 702) hx hb dL_law_697 (by decide) (fun _ => ?_) (fun h9 => absurd rfl h9)
  refine lv_iload hx hb dL_law_702 (lv_at hl 1 rfl) ?_
  have hcdR : jR (cd1 (¬ S.1.length = 0)) := by unfold cd1; (repeat' split) <;> exact ⟨by omega, by omega⟩
  refine lv_if_ne (tgt := 719) hx hb dL_law_704 (by decide) (fun h9 => ?_) (fun h9 => ?_)
  · refine lv_goto (tgt := 2202) hx hb dL_law_719 (by decide) ?_
    refine jr_iinc (lv' := [(5, vi ((i : Int) + 5)), (7, vi zm), (6, vi (cd1 (¬ S.1.length = 0))), (0, .ref b), (1, .ref ox), (2, .ref om), (3, .ref a1), (4, .ref a2)]) hx hb dL_law_2202 hl (k := 2) rfl rfl (by decide) rfl (fun ls hl => ?_)
    refine lv_goto (tgt := 28) hx hb dL_law_2205 (by decide) ?_
    exact K S9 _ v1w v2w fn f2 H locs hC9 hM9 hI9 hP hD hS ls (lv_sub hl [0, 3, 4, 5, 6, 7] rfl)
  · have hc0 : (cd1 (¬ S.1.length = 0)) = 0 := (jI_inj hcdR ⟨by omega, by omega⟩).mp h9
    obtain ⟨hLV, hZ⟩ := hval hc0
    subst hZ
    refine lv_aload_n hx hb dL_law_707 rfl (lv_at hl 6 rfl) ?_
    refine jr_iconst hx hb dL_law_708 ?_
    refine va_lald hx hb hKJ hP 0 0 rfl rfl (jI_in (by omega) (by omega) (by omega)) dL_law_709 ?_
    rw [show (jI 0).toNatClampNeg = 0 from rfl, hLV]
    refine lv_iload hx hb dL_law_710 (lv_at hl 0 rfl) ?_
    refine lv_i2l hx hb dL_law_712 rfl ?_
    refine W.lcmp hx hb dL_law_713 ?_
    refine lv_if_eq (tgt := 719) hx hb dL_law_714 (by decide) (fun _ => ?_) (fun h9 => absurd (lg_cmp_self _) h9)
    refine lv_goto (tgt := 2202) hx hb dL_law_719 (by decide) ?_
    refine jr_iinc (lv' := [(5, vi ((i : Int) + 5)), (7, vi (S.1.length : Int)), (6, vi (cd1 (¬ S.1.length = 0))), (0, .ref b), (1, .ref ox), (2, .ref om), (3, .ref a1), (4, .ref a2)]) hx hb dL_law_2202 hl (k := 2) rfl rfl (by decide) rfl (fun ls hl => ?_)
    refine lv_goto (tgt := 28) hx hb dL_law_2205 (by decide) ?_
    exact K S9 _ v1w v2w fn f2 H locs hC9 hM9 hI9 hP hD hS ls (lv_sub hl [0, 3, 4, 5, 6, 7] rfl)
set_option maxHeartbeats 4000000 in
set_option maxRecDepth 100000 in
theorem lc_addUnit (l : Launch) (hsT : l.stackTraces = false) {g : GT} {cj cd : ClassId} {p : Program} {e : Env} {s : State} {m : MethodId} {b : Nat} {below : List Frame} {meth : Method} {c : Code} {Q : State → Prop} {ox om a1 a2 i k L : Nat} {xs : Nat → Int32} (hx : p.tables.exec = Jvm.exec) (hb : c.code = cL_law) (hml : c.maxLocals = 9) (hown : s.vm.findClass RL = some m.cls) (htl : ∀ w ∈ WSL, w.before #[Value.ref b] s = true) (hKK : KK g s) (hKJ : KJ g cj cd s) (hgb : gb g = s.heap.size) (hX : va_X b L xs s s.heap) (hbl : b < s.heap.size) (hi : i + 5 ≤ L) (hL : L ≤ 2560) (hk : k < 512) (K : LK g cj cd p l e s m b below meth c Q ox om a1 a2 (i + 5) (k + 1))
    (S : SGM) (z : Int) (w1 w2 : va_W) (f1 : Nat → Int64) (f2 : Nat → UInt64) (H : Heap) (locs : List Loc) (hCW : CW g ox S w1) (hMW : MW g om S z w2) (hSI : SI S) (hP : PP g (aJ cj a1 f1 :: aD1 cd a2 f2 :: (w1 ++ w2)) H) (hD : va_D (fun q => gb g ≤ q) (aJ cj a1 f1 :: aD1 cd a2 f2 :: (w1 ++ w2))) (hS : va_S (fun q => gb g ≤ q) s.heap H locs) (ls : Array Slot) (hl : lv_has ls 9 [(5, vi (i : Int)), (0, .ref b), (1, .ref ox), (2, .ref om), (3, .ref a1), (4, .ref a2)]) : W p l e room_1 s m #[Value.ref b] below meth c H locs (50 + 361 * k) (13700 + 13026 * k) Q (F0 m 722 ls []) := by
  have hbA : ¬ (fun q => gb g ≤ q) b := by show ¬ gb g ≤ b; omega
  have hAb : ∀ q, (fun q => gb g ≤ q) q → gb g ≤ q := fun _ h => h
  have hDc := (hD.perm pmA).left
  have hPc : PP g (aJ cj a1 f1 :: w1) H := (hP.perm pmA).mem fun q h => List.mem_append_left _ h
  have hsz : ∀ q, H.size ≤ q → gb g ≤ q := fun q h => by have := hS.1; omega
  have hFl : ∀ q, va_A (aJ cj a1 f1 :: w1) H.size q → gb g ≤ q := va_A_sub hDc (Nat.le_refl _) hsz
  refine lv_aload_n hx hb dL_law_722 rfl (lv_at hl 2 rfl) ?_
  refine lv_aload_n hx hb dL_law_723 rfl (lv_at hl 4 rfl) ?_
  refine jk_Qi (vx_runSW (As := [.ref ox, .ref a1]) (rest := []) ⟨hx, hb, hml, hown, htl⟩ (m_L_addUnit l hsT g cj cd ox a1 f1 S w1 hCW H.size ) (vx_cwSW 2 htl lkH_addUnit rfl rfl rfl cwS_L_addUnit ⟨Nat.le_of_ble_eq_true rfl, Nat.le_of_ble_eq_true rfl⟩) (jp_H hKK hKJ hS hAb ⟨rfl, hPc, hDc⟩) rfl rfl hl.1 rfl (lv_room (Nat.le_of_ble_eq_true rfl)) dL_law_724 ⟨by show _ ≤ 603072; omega, by show _ ≤ 7219306; omega⟩) hS (fun q _ h => hFl q h) hFl (fun z3 H1 locs hz3 hzs hks hS => ?_)
  obtain ⟨hz3, v1w, fn, hcase, hP1, hD1⟩ := hz3
  obtain ⟨hP, hD⟩ := lj_H hP hD hks hFl hP1 hD1
  subst hz3
  clear hks hzs hP1 hD1 hFl hsz hPc hDc; generalize H1 = H at hP hD hS ⊢
  refine W.widen (k := 50 + 361 * (k + 1)) (n := 13700 + 13026 * (k + 1)) (by omega) (by omega) ?_
  refine lv_istore (lv' := [(6, vi (cdAdd S)), (5, vi (i : Int)), (0, .ref b), (1, .ref ox), (2, .ref om), (3, .ref a1), (4, .ref a2)]) hx hb dL_law_727 hl (by decide) rfl (fun ls hl => ?_)
  refine lv_aload_n hx hb dL_law_729 rfl (lv_at hl 4 rfl) ?_
  have hPm : PP g w2 H := (hP.perm pmB).mem fun q h => List.mem_append_left _ h
  have hDm := (hD.perm pmB).left
  have hsz : ∀ q, H.size ≤ q → gb g ≤ q := fun q h => by have := hS.1; omega
  refine jk_Qi (va_runV (As := []) (rest := []) ⟨hx, hb, hml, hown, htl⟩ (m_X11_addUnit l g om S z w2 hMW ) (cwV 0 htl lk_L_174 rfl rfl rfl cwV_X11_addUnit ⟨Nat.le_of_ble_eq_true rfl, Nat.le_of_ble_eq_true rfl⟩) (jp_V hKK hS hAb (MW.recv hKK hMW hPm) ⟨hPm, hDm⟩) rfl rfl hl.1 rfl (lv_room (Nat.le_of_ble_eq_true rfl)) dL_law_730 ⟨by show _ ≤ 603072; omega, by show _ ≤ 7219306; omega⟩) hS (fun q _ h => hDm.inA h) (fun q h => hDm.inA h) (fun zm H1 locs hzm hzs hks hS => ?_)
  obtain ⟨S9, v2w, hC9, hM9, hI9, hP2, hD2, hval⟩ : ∃ (S9 : SGM) (v2w : va_W), CW g ox S9 v1w ∧ MW g om S9 (cdAdd S) v2w ∧ SI S9 ∧ PP g v2w H1 ∧ va_D (jA w2) v2w ∧ ((cdAdd S) = 0 → fn 0 = (jI ((nU S : Int))).toInt64 ∧ zm = (nU S : Int)) := by
    rcases hcase with ⟨h1, h2, h3⟩ | ⟨h1, h2⟩ <;> rcases hzm with ⟨h4, h5, v2w, h6, h7, h8⟩ | ⟨h4, v2w, h6, h7, h8⟩
    · exact ⟨(nxAdd S), v2w, h2, by rw [h1]; exact h6, SI.nil _ rfl, h7, h8, fun _ => ⟨h3, h5⟩⟩
    · exact absurd h1 h4
    · exact absurd h4 h1
    · exact ⟨S, v2w, h2, h6, hSI, h7, h8, fun q => absurd q h1⟩
  obtain ⟨hP, hD⟩ := lj_M hP hD hsz hks hP2 hD2
  clear hcase hks hzs hP2 hD2 hPm hDm hsz hzm; generalize H1 = H at hP hD hS ⊢
  refine lv_istore (lv' := [(7, vi zm), (6, vi (cdAdd S)), (5, vi (i : Int)), (0, .ref b), (1, .ref ox), (2, .ref om), (3, .ref a1), (4, .ref a2)]) hx hb dL_law_733 hl (by decide) rfl (fun ls hl => ?_)
  refine lv_aload_n hx hb dL_law_735 rfl (lv_at hl 5 rfl) ?_
  refine jk_Si (va_runV (As := []) (rest := []) ⟨hx, hb, hml, hown, htl⟩ (m_X11_thrownW l g om S9 (cdAdd S) v2w hM9) (cwV 0 htl lk_L_140 rfl rfl rfl cwV_X11_thrown ⟨Nat.le_of_ble_eq_true rfl, Nat.le_of_ble_eq_true rfl⟩) (jp_V hKK hS hAb (MW.recv hKK hM9 (hP.mem fun q h => List.mem_cons_of_mem _ (List.mem_cons_of_mem _ (List.mem_append_right _ h)))) (hP.mem fun q h => List.mem_cons_of_mem _ (List.mem_cons_of_mem _ (List.mem_append_right _ h)))) rfl rfl hl.1 rfl (lv_room (Nat.le_of_ble_eq_true rfl)) dL_law_736 ⟨by show _ ≤ 603072; omega, by show _ ≤ 7219306; omega⟩) (fun z4 hz4 => ?_)
  subst hz4
  refine lv_iload hx hb dL_law_739 (lv_at hl 1 rfl) ?_
  refine lv_icmp_eq (tgt := 746) hx hb dL_law_741 (by decide) (fun _ => ?_) (fun h9 => absurd rfl h9)
  refine lv_iload hx hb dL_law_746 (lv_at hl 1 rfl) ?_
  have hcdR : jR (cdAdd S) := by unfold cdAdd; (repeat' split) <;> exact ⟨by omega, by omega⟩
  refine lv_if_ne (tgt := 763) hx hb dL_law_748 (by decide) (fun h9 => ?_) (fun h9 => ?_)
  · refine lv_goto (tgt := 2202) hx hb dL_law_763 (by decide) ?_
    refine jr_iinc (lv' := [(5, vi ((i : Int) + 5)), (7, vi zm), (6, vi (cdAdd S)), (0, .ref b), (1, .ref ox), (2, .ref om), (3, .ref a1), (4, .ref a2)]) hx hb dL_law_2202 hl (k := 2) rfl rfl (by decide) rfl (fun ls hl => ?_)
    refine lv_goto (tgt := 28) hx hb dL_law_2205 (by decide) ?_
    exact K S9 _ v1w v2w fn f2 H locs hC9 hM9 hI9 hP hD hS ls (lv_sub hl [0, 3, 4, 5, 6, 7] rfl)
  · have hc0 : (cdAdd S) = 0 := (jI_inj hcdR ⟨by omega, by omega⟩).mp h9
    obtain ⟨hLV, hZ⟩ := hval hc0
    subst hZ
    refine lv_aload_n hx hb dL_law_751 rfl (lv_at hl 6 rfl) ?_
    refine jr_iconst hx hb dL_law_752 ?_
    refine va_lald hx hb hKJ hP 0 0 rfl rfl (jI_in (by omega) (by omega) (by omega)) dL_law_753 ?_
    rw [show (jI 0).toNatClampNeg = 0 from rfl, hLV]
    refine lv_iload hx hb dL_law_754 (lv_at hl 0 rfl) ?_
    refine lv_i2l hx hb dL_law_756 rfl ?_
    refine W.lcmp hx hb dL_law_757 ?_
    refine lv_if_eq (tgt := 763) hx hb dL_law_758 (by decide) (fun _ => ?_) (fun h9 => absurd (lg_cmp_self _) h9)
    refine lv_goto (tgt := 2202) hx hb dL_law_763 (by decide) ?_
    refine jr_iinc (lv' := [(5, vi ((i : Int) + 5)), (7, vi (nU S : Int)), (6, vi (cdAdd S)), (0, .ref b), (1, .ref ox), (2, .ref om), (3, .ref a1), (4, .ref a2)]) hx hb dL_law_2202 hl (k := 2) rfl rfl (by decide) rfl (fun ls hl => ?_)
    refine lv_goto (tgt := 28) hx hb dL_law_2205 (by decide) ?_
    exact K S9 _ v1w v2w fn f2 H locs hC9 hM9 hI9 hP hD hS ls (lv_sub hl [0, 3, 4, 5, 6, 7] rfl)
set_option maxHeartbeats 4000000 in
set_option maxRecDepth 100000 in
theorem lc_correct (l : Launch) (hsT : l.stackTraces = false) {g : GT} {cj cd : ClassId} {p : Program} {e : Env} {s : State} {m : MethodId} {b : Nat} {below : List Frame} {meth : Method} {c : Code} {Q : State → Prop} {ox om a1 a2 i k L : Nat} {xs : Nat → Int32} (hx : p.tables.exec = Jvm.exec) (hb : c.code = cL_law) (hml : c.maxLocals = 9) (hown : s.vm.findClass RL = some m.cls) (htl : ∀ w ∈ WSL, w.before #[Value.ref b] s = true) (hKK : KK g s) (hKJ : KJ g cj cd s) (hgb : gb g = s.heap.size) (hX : va_X b L xs s s.heap) (hbl : b < s.heap.size) (hi : i + 5 ≤ L) (hL : L ≤ 2560) (hk : k < 512) (K : LK g cj cd p l e s m b below meth c Q ox om a1 a2 (i + 5) (k + 1))
    (S : SGM) (z : Int) (w1 w2 : va_W) (f1 : Nat → Int64) (f2 : Nat → UInt64) (H : Heap) (locs : List Loc) (hCW : CW g ox S w1) (hMW : MW g om S z w2) (hSI : SI S) (hP : PP g (aJ cj a1 f1 :: aD1 cd a2 f2 :: (w1 ++ w2)) H) (hD : va_D (fun q => gb g ≤ q) (aJ cj a1 f1 :: aD1 cd a2 f2 :: (w1 ++ w2))) (hS : va_S (fun q => gb g ≤ q) s.heap H locs) (ls : Array Slot) (hl : lv_has ls 9 [(5, vi (i : Int)), (0, .ref b), (1, .ref ox), (2, .ref om), (3, .ref a1), (4, .ref a2)]) : W p l e room_1 s m #[Value.ref b] below meth c H locs (50 + 361 * k) (13700 + 13026 * k) Q (F0 m 766 ls []) := by
  have hbA : ¬ (fun q => gb g ≤ q) b := by show ¬ gb g ≤ b; omega
  have hAb : ∀ q, (fun q => gb g ≤ q) q → gb g ≤ q := fun _ h => h
  obtain ⟨v1, hv1, hx1⟩ : ∃ v : Int, jR v ∧ xs (jI ((i : Int) + 1)).toNatClampNeg = jI v := ⟨_, jR_of _, jI_of _⟩
  have hDc := (hD.perm pmA).left
  have hPc : PP g (aJ cj a1 f1 :: w1) H := (hP.perm pmA).mem fun q h => List.mem_append_left _ h
  have hsz : ∀ q, H.size ≤ q → gb g ≤ q := fun q h => by have := hS.1; omega
  have hFl : ∀ q, va_A (aJ cj a1 f1 :: w1) H.size q → gb g ≤ q := va_A_sub hDc (Nat.le_refl _) hsz
  refine lv_aload_n hx hb dL_law_766 rfl (lv_at hl 2 rfl) ?_
  refine lv_aload_n hx hb dL_law_767 rfl (lv_at hl 1 rfl) ?_
  refine lv_iload hx hb dL_law_768 (lv_at hl 0 rfl) ?_
  refine jr_iconst hx hb dL_law_770 ?_
  refine jr_iadd hx hb dL_law_771 ?_
  refine va_sld hx hb hX hbl hbA hS (jI_in (by omega) (by omega) (by omega)) dL_law_772 ?_
  rw [hx1]
  refine lv_aload_n hx hb dL_law_773 rfl (lv_at hl 4 rfl) ?_
  refine jk_Qi (vx_runSW (As := [.ref ox, vi v1, .ref a1]) (rest := []) ⟨hx, hb, hml, hown, htl⟩ (m_L_correct l hsT g cj cd ox a1 f1 S w1 hCW H.size v1 hv1) (vx_cwSW 3 htl lkH_correct rfl rfl rfl cwS_L_correct ⟨Nat.le_of_ble_eq_true rfl, Nat.le_of_ble_eq_true rfl⟩) (jp_H hKK hKJ hS hAb ⟨rfl, hPc, hDc⟩) rfl rfl hl.1 rfl (lv_room (Nat.le_of_ble_eq_true rfl)) dL_law_774 ⟨by show _ ≤ 603072; omega, by show _ ≤ 7219306; omega⟩) hS (fun q _ h => hFl q h) hFl (fun z3 H1 locs hz3 hzs hks hS => ?_)
  obtain ⟨hz3, v1w, fn, hcase, hP1, hD1⟩ := hz3
  obtain ⟨hP, hD⟩ := lj_H hP hD hks hFl hP1 hD1
  subst hz3
  clear hks hzs hP1 hD1 hFl hsz hPc hDc; generalize H1 = H at hP hD hS ⊢
  refine W.widen (k := 50 + 361 * (k + 1)) (n := 13700 + 13026 * (k + 1)) (by omega) (by omega) ?_
  refine lv_istore (lv' := [(6, vi (cdCor S v1)), (5, vi (i : Int)), (0, .ref b), (1, .ref ox), (2, .ref om), (3, .ref a1), (4, .ref a2)]) hx hb dL_law_777 hl (by decide) rfl (fun ls hl => ?_)
  refine lv_aload_n hx hb dL_law_779 rfl (lv_at hl 4 rfl) ?_
  refine lv_aload_n hx hb dL_law_780 rfl (lv_at hl 2 rfl) ?_
  refine lv_iload hx hb dL_law_781 (lv_at hl 1 rfl) ?_
  refine jr_iconst hx hb dL_law_783 ?_
  refine jr_iadd hx hb dL_law_784 ?_
  refine va_sld hx hb hX hbl hbA hS (jI_in (by omega) (by omega) (by omega)) dL_law_785 ?_
  rw [hx1]
  have hPm : PP g w2 H := (hP.perm pmB).mem fun q h => List.mem_append_left _ h
  have hDm := (hD.perm pmB).left
  have hsz : ∀ q, H.size ≤ q → gb g ≤ q := fun q h => by have := hS.1; omega
  refine jk_Qi (va_runV (As := [vi v1]) (rest := []) ⟨hx, hb, hml, hown, htl⟩ (m_X11_correct l g om S z w2 hMW v1 hv1) (cwV 1 htl lk_L_177 rfl rfl rfl cwV_X11_correct ⟨Nat.le_of_ble_eq_true rfl, Nat.le_of_ble_eq_true rfl⟩) (jp_V hKK hS hAb (MW.recv hKK hMW hPm) ⟨hPm, hDm⟩) rfl rfl hl.1 rfl (lv_room (Nat.le_of_ble_eq_true rfl)) dL_law_786 ⟨by show _ ≤ 603072; omega, by show _ ≤ 7219306; omega⟩) hS (fun q _ h => hDm.inA h) (fun q h => hDm.inA h) (fun zm H1 locs hzm hzs hks hS => ?_)
  obtain ⟨S9, v2w, hC9, hM9, hI9, hP2, hD2, hval⟩ : ∃ (S9 : SGM) (v2w : va_W), CW g ox S9 v1w ∧ MW g om S9 (cdCor S v1) v2w ∧ SI S9 ∧ PP g v2w H1 ∧ va_D (jA w2) v2w ∧ ((cdCor S v1) = 0 → fn 0 = (jI (((ug S v1).2.1.length : Int))).toInt64 ∧ zm = ((ug S v1).2.1.length : Int)) := by
    rcases hcase with ⟨h1, h2, h3⟩ | ⟨h1, h2⟩ <;> rcases hzm with ⟨h4, h5, v2w, h6, h7, h8⟩ | ⟨h4, v2w, h6, h7, h8⟩
    · exact ⟨(nxCor S v1), v2w, h2, by rw [h1]; exact h6, SI.nil _ rfl, h7, h8, fun _ => ⟨h3, h5⟩⟩
    · exact absurd h1 h4
    · exact absurd h4 h1
    · exact ⟨S, v2w, h2, h6, hSI, h7, h8, fun q => absurd q h1⟩
  obtain ⟨hP, hD⟩ := lj_M hP hD hsz hks hP2 hD2
  clear hcase hks hzs hP2 hD2 hPm hDm hsz hzm; generalize H1 = H at hP hD hS ⊢
  refine lv_istore (lv' := [(7, vi zm), (6, vi (cdCor S v1)), (5, vi (i : Int)), (0, .ref b), (1, .ref ox), (2, .ref om), (3, .ref a1), (4, .ref a2)]) hx hb dL_law_789 hl (by decide) rfl (fun ls hl => ?_)
  refine lv_aload_n hx hb dL_law_791 rfl (lv_at hl 5 rfl) ?_
  refine jk_Si (va_runV (As := []) (rest := []) ⟨hx, hb, hml, hown, htl⟩ (m_X11_thrownW l g om S9 (cdCor S v1) v2w hM9) (cwV 0 htl lk_L_140 rfl rfl rfl cwV_X11_thrown ⟨Nat.le_of_ble_eq_true rfl, Nat.le_of_ble_eq_true rfl⟩) (jp_V hKK hS hAb (MW.recv hKK hM9 (hP.mem fun q h => List.mem_cons_of_mem _ (List.mem_cons_of_mem _ (List.mem_append_right _ h)))) (hP.mem fun q h => List.mem_cons_of_mem _ (List.mem_cons_of_mem _ (List.mem_append_right _ h)))) rfl rfl hl.1 rfl (lv_room (Nat.le_of_ble_eq_true rfl)) dL_law_792 ⟨by show _ ≤ 603072; omega, by show _ ≤ 7219306; omega⟩) (fun z4 hz4 => ?_)
  subst hz4
  refine lv_iload hx hb dL_law_795 (lv_at hl 1 rfl) ?_
  refine lv_icmp_eq (tgt := 802) hx hb dL_law_797 (by decide) (fun _ => ?_) (fun h9 => absurd rfl h9)
  refine lv_iload hx hb dL_law_802 (lv_at hl 1 rfl) ?_
  have hcdR : jR (cdCor S v1) := by unfold cdCor; (repeat' split) <;> exact ⟨by omega, by omega⟩
  refine lv_if_ne (tgt := 819) hx hb dL_law_804 (by decide) (fun h9 => ?_) (fun h9 => ?_)
  · refine lv_goto (tgt := 2202) hx hb dL_law_819 (by decide) ?_
    refine jr_iinc (lv' := [(5, vi ((i : Int) + 5)), (7, vi zm), (6, vi (cdCor S v1)), (0, .ref b), (1, .ref ox), (2, .ref om), (3, .ref a1), (4, .ref a2)]) hx hb dL_law_2202 hl (k := 2) rfl rfl (by decide) rfl (fun ls hl => ?_)
    refine lv_goto (tgt := 28) hx hb dL_law_2205 (by decide) ?_
    exact K S9 _ v1w v2w fn f2 H locs hC9 hM9 hI9 hP hD hS ls (lv_sub hl [0, 3, 4, 5, 6, 7] rfl)
  · have hc0 : (cdCor S v1) = 0 := (jI_inj hcdR ⟨by omega, by omega⟩).mp h9
    obtain ⟨hLV, hZ⟩ := hval hc0
    subst hZ
    refine lv_aload_n hx hb dL_law_807 rfl (lv_at hl 6 rfl) ?_
    refine jr_iconst hx hb dL_law_808 ?_
    refine va_lald hx hb hKJ hP 0 0 rfl rfl (jI_in (by omega) (by omega) (by omega)) dL_law_809 ?_
    rw [show (jI 0).toNatClampNeg = 0 from rfl, hLV]
    refine lv_iload hx hb dL_law_810 (lv_at hl 0 rfl) ?_
    refine lv_i2l hx hb dL_law_812 rfl ?_
    refine W.lcmp hx hb dL_law_813 ?_
    refine lv_if_eq (tgt := 819) hx hb dL_law_814 (by decide) (fun _ => ?_) (fun h9 => absurd (lg_cmp_self _) h9)
    refine lv_goto (tgt := 2202) hx hb dL_law_819 (by decide) ?_
    refine jr_iinc (lv' := [(5, vi ((i : Int) + 5)), (7, vi ((ug S v1).2.1.length : Int)), (6, vi (cdCor S v1)), (0, .ref b), (1, .ref ox), (2, .ref om), (3, .ref a1), (4, .ref a2)]) hx hb dL_law_2202 hl (k := 2) rfl rfl (by decide) rfl (fun ls hl => ?_)
    refine lv_goto (tgt := 28) hx hb dL_law_2205 (by decide) ?_
    exact K S9 _ v1w v2w fn f2 H locs hC9 hM9 hI9 hP hD hS ls (lv_sub hl [0, 3, 4, 5, 6, 7] rfl)
set_option maxHeartbeats 4000000 in
set_option maxRecDepth 100000 in
theorem lc_withdraw (l : Launch) (hsT : l.stackTraces = false) {g : GT} {cj cd : ClassId} {p : Program} {e : Env} {s : State} {m : MethodId} {b : Nat} {below : List Frame} {meth : Method} {c : Code} {Q : State → Prop} {ox om a1 a2 i k L : Nat} {xs : Nat → Int32} (hx : p.tables.exec = Jvm.exec) (hb : c.code = cL_law) (hml : c.maxLocals = 9) (hown : s.vm.findClass RL = some m.cls) (htl : ∀ w ∈ WSL, w.before #[Value.ref b] s = true) (hKK : KK g s) (hKJ : KJ g cj cd s) (hgb : gb g = s.heap.size) (hX : va_X b L xs s s.heap) (hbl : b < s.heap.size) (hi : i + 5 ≤ L) (hL : L ≤ 2560) (hk : k < 512) (K : LK g cj cd p l e s m b below meth c Q ox om a1 a2 (i + 5) (k + 1))
    (S : SGM) (z : Int) (w1 w2 : va_W) (f1 : Nat → Int64) (f2 : Nat → UInt64) (H : Heap) (locs : List Loc) (hCW : CW g ox S w1) (hMW : MW g om S z w2) (hSI : SI S) (hP : PP g (aJ cj a1 f1 :: aD1 cd a2 f2 :: (w1 ++ w2)) H) (hD : va_D (fun q => gb g ≤ q) (aJ cj a1 f1 :: aD1 cd a2 f2 :: (w1 ++ w2))) (hS : va_S (fun q => gb g ≤ q) s.heap H locs) (ls : Array Slot) (hl : lv_has ls 9 [(5, vi (i : Int)), (0, .ref b), (1, .ref ox), (2, .ref om), (3, .ref a1), (4, .ref a2)]) : W p l e room_1 s m #[Value.ref b] below meth c H locs (50 + 361 * k) (13700 + 13026 * k) Q (F0 m 822 ls []) := by
  have hbA : ¬ (fun q => gb g ≤ q) b := by show ¬ gb g ≤ b; omega
  have hAb : ∀ q, (fun q => gb g ≤ q) q → gb g ≤ q := fun _ h => h
  obtain ⟨v1, hv1, hx1⟩ : ∃ v : Int, jR v ∧ xs (jI ((i : Int) + 1)).toNatClampNeg = jI v := ⟨_, jR_of _, jI_of _⟩
  have hDc := (hD.perm pmA).left
  have hPc : PP g (aJ cj a1 f1 :: w1) H := (hP.perm pmA).mem fun q h => List.mem_append_left _ h
  have hsz : ∀ q, H.size ≤ q → gb g ≤ q := fun q h => by have := hS.1; omega
  have hFl : ∀ q, va_A (aJ cj a1 f1 :: w1) H.size q → gb g ≤ q := va_A_sub hDc (Nat.le_refl _) hsz
  refine lv_aload_n hx hb dL_law_822 rfl (lv_at hl 2 rfl) ?_
  refine lv_aload_n hx hb dL_law_823 rfl (lv_at hl 1 rfl) ?_
  refine lv_iload hx hb dL_law_824 (lv_at hl 0 rfl) ?_
  refine jr_iconst hx hb dL_law_826 ?_
  refine jr_iadd hx hb dL_law_827 ?_
  refine va_sld hx hb hX hbl hbA hS (jI_in (by omega) (by omega) (by omega)) dL_law_828 ?_
  rw [hx1]
  refine lv_aload_n hx hb dL_law_829 rfl (lv_at hl 4 rfl) ?_
  refine jk_Qi (vx_runSW (As := [.ref ox, vi v1, .ref a1]) (rest := []) ⟨hx, hb, hml, hown, htl⟩ (m_L_withdraw l hsT g cj cd ox a1 f1 S w1 hCW H.size v1 hv1) (vx_cwSW 3 htl lkH_withdraw rfl rfl rfl cwS_L_withdraw ⟨Nat.le_of_ble_eq_true rfl, Nat.le_of_ble_eq_true rfl⟩) (jp_H hKK hKJ hS hAb ⟨rfl, hPc, hDc⟩) rfl rfl hl.1 rfl (lv_room (Nat.le_of_ble_eq_true rfl)) dL_law_830 ⟨by show _ ≤ 603072; omega, by show _ ≤ 7219306; omega⟩) hS (fun q _ h => hFl q h) hFl (fun z3 H1 locs hz3 hzs hks hS => ?_)
  obtain ⟨hz3, v1w, fn, hcase, hP1, hD1⟩ := hz3
  obtain ⟨hP, hD⟩ := lj_H hP hD hks hFl hP1 hD1
  subst hz3
  clear hks hzs hP1 hD1 hFl hsz hPc hDc; generalize H1 = H at hP hD hS ⊢
  refine W.widen (k := 50 + 361 * (k + 1)) (n := 13700 + 13026 * (k + 1)) (by omega) (by omega) ?_
  refine lv_istore (lv' := [(6, vi (cdUL S v1)), (5, vi (i : Int)), (0, .ref b), (1, .ref ox), (2, .ref om), (3, .ref a1), (4, .ref a2)]) hx hb dL_law_833 hl (by decide) rfl (fun ls hl => ?_)
  refine lv_aload_n hx hb dL_law_835 rfl (lv_at hl 4 rfl) ?_
  refine lv_aload_n hx hb dL_law_836 rfl (lv_at hl 2 rfl) ?_
  refine lv_iload hx hb dL_law_837 (lv_at hl 1 rfl) ?_
  refine jr_iconst hx hb dL_law_839 ?_
  refine jr_iadd hx hb dL_law_840 ?_
  refine va_sld hx hb hX hbl hbA hS (jI_in (by omega) (by omega) (by omega)) dL_law_841 ?_
  rw [hx1]
  have hPm : PP g w2 H := (hP.perm pmB).mem fun q h => List.mem_append_left _ h
  have hDm := (hD.perm pmB).left
  have hsz : ∀ q, H.size ≤ q → gb g ≤ q := fun q h => by have := hS.1; omega
  refine jk_Qi (va_runV (As := [vi v1]) (rest := []) ⟨hx, hb, hml, hown, htl⟩ (m_X11_withdraw l g om S z w2 hMW v1 hv1) (cwV 1 htl lk_L_180 rfl rfl rfl cwV_X11_withdraw ⟨Nat.le_of_ble_eq_true rfl, Nat.le_of_ble_eq_true rfl⟩) (jp_V hKK hS hAb (MW.recv hKK hMW hPm) ⟨hPm, hDm⟩) rfl rfl hl.1 rfl (lv_room (Nat.le_of_ble_eq_true rfl)) dL_law_842 ⟨by show _ ≤ 603072; omega, by show _ ≤ 7219306; omega⟩) hS (fun q _ h => hDm.inA h) (fun q h => hDm.inA h) (fun zm H1 locs hzm hzs hks hS => ?_)
  obtain ⟨S9, v2w, hC9, hM9, hI9, hP2, hD2, hval⟩ : ∃ (S9 : SGM) (v2w : va_W), CW g ox S9 v1w ∧ MW g om S9 (cdUL S v1) v2w ∧ SI S9 ∧ PP g v2w H1 ∧ va_D (jA w2) v2w ∧ ((cdUL S v1) = 0 → fn 0 = (jI (clv (uS (nxWd S v1)) (nU (nxWd S v1)))).toInt64 ∧ zm = clv (uS (nxWd S v1)) (nU (nxWd S v1))) := by
    rcases hcase with ⟨h1, h2, h3⟩ | ⟨h1, h2⟩ <;> rcases hzm with ⟨h4, h5, v2w, h6, h7, h8⟩ | ⟨h4, v2w, h6, h7, h8⟩
    · exact ⟨(nxWd S v1), v2w, h2, by rw [h1]; exact h6, hSI.same rfl, h7, h8, fun _ => ⟨h3, h5⟩⟩
    · exact absurd h1 h4
    · exact absurd h4 h1
    · exact ⟨S, v2w, h2, h6, hSI, h7, h8, fun q => absurd q h1⟩
  obtain ⟨hP, hD⟩ := lj_M hP hD hsz hks hP2 hD2
  clear hcase hks hzs hP2 hD2 hPm hDm hsz hzm; generalize H1 = H at hP hD hS ⊢
  refine lv_istore (lv' := [(7, vi zm), (6, vi (cdUL S v1)), (5, vi (i : Int)), (0, .ref b), (1, .ref ox), (2, .ref om), (3, .ref a1), (4, .ref a2)]) hx hb dL_law_845 hl (by decide) rfl (fun ls hl => ?_)
  refine lv_aload_n hx hb dL_law_847 rfl (lv_at hl 5 rfl) ?_
  refine jk_Si (va_runV (As := []) (rest := []) ⟨hx, hb, hml, hown, htl⟩ (m_X11_thrownW l g om S9 (cdUL S v1) v2w hM9) (cwV 0 htl lk_L_140 rfl rfl rfl cwV_X11_thrown ⟨Nat.le_of_ble_eq_true rfl, Nat.le_of_ble_eq_true rfl⟩) (jp_V hKK hS hAb (MW.recv hKK hM9 (hP.mem fun q h => List.mem_cons_of_mem _ (List.mem_cons_of_mem _ (List.mem_append_right _ h)))) (hP.mem fun q h => List.mem_cons_of_mem _ (List.mem_cons_of_mem _ (List.mem_append_right _ h)))) rfl rfl hl.1 rfl (lv_room (Nat.le_of_ble_eq_true rfl)) dL_law_848 ⟨by show _ ≤ 603072; omega, by show _ ≤ 7219306; omega⟩) (fun z4 hz4 => ?_)
  subst hz4
  refine lv_iload hx hb dL_law_851 (lv_at hl 1 rfl) ?_
  refine lv_icmp_eq (tgt := 858) hx hb dL_law_853 (by decide) (fun _ => ?_) (fun h9 => absurd rfl h9)
  refine lv_iload hx hb dL_law_858 (lv_at hl 1 rfl) ?_
  have hcdR : jR (cdUL S v1) := by unfold cdUL; (repeat' split) <;> exact ⟨by omega, by omega⟩
  refine lv_if_ne (tgt := 875) hx hb dL_law_860 (by decide) (fun h9 => ?_) (fun h9 => ?_)
  · refine lv_goto (tgt := 2202) hx hb dL_law_875 (by decide) ?_
    refine jr_iinc (lv' := [(5, vi ((i : Int) + 5)), (7, vi zm), (6, vi (cdUL S v1)), (0, .ref b), (1, .ref ox), (2, .ref om), (3, .ref a1), (4, .ref a2)]) hx hb dL_law_2202 hl (k := 2) rfl rfl (by decide) rfl (fun ls hl => ?_)
    refine lv_goto (tgt := 28) hx hb dL_law_2205 (by decide) ?_
    exact K S9 _ v1w v2w fn f2 H locs hC9 hM9 hI9 hP hD hS ls (lv_sub hl [0, 3, 4, 5, 6, 7] rfl)
  · have hc0 : (cdUL S v1) = 0 := (jI_inj hcdR ⟨by omega, by omega⟩).mp h9
    obtain ⟨hLV, hZ⟩ := hval hc0
    subst hZ
    refine lv_aload_n hx hb dL_law_863 rfl (lv_at hl 6 rfl) ?_
    refine jr_iconst hx hb dL_law_864 ?_
    refine va_lald hx hb hKJ hP 0 0 rfl rfl (jI_in (by omega) (by omega) (by omega)) dL_law_865 ?_
    rw [show (jI 0).toNatClampNeg = 0 from rfl, hLV]
    refine lv_iload hx hb dL_law_866 (lv_at hl 0 rfl) ?_
    refine lv_i2l hx hb dL_law_868 rfl ?_
    refine W.lcmp hx hb dL_law_869 ?_
    refine lv_if_eq (tgt := 875) hx hb dL_law_870 (by decide) (fun _ => ?_) (fun h9 => absurd (lg_cmp_self _) h9)
    refine lv_goto (tgt := 2202) hx hb dL_law_875 (by decide) ?_
    refine jr_iinc (lv' := [(5, vi ((i : Int) + 5)), (7, vi (clv (uS (nxWd S v1)) (nU (nxWd S v1)))), (6, vi (cdUL S v1)), (0, .ref b), (1, .ref ox), (2, .ref om), (3, .ref a1), (4, .ref a2)]) hx hb dL_law_2202 hl (k := 2) rfl rfl (by decide) rfl (fun ls hl => ?_)
    refine lv_goto (tgt := 28) hx hb dL_law_2205 (by decide) ?_
    exact K S9 _ v1w v2w fn f2 H locs hC9 hM9 hI9 hP hD hS ls (lv_sub hl [0, 3, 4, 5, 6, 7] rfl)
set_option maxHeartbeats 4000000 in
set_option maxRecDepth 100000 in
theorem lc_isLive (l : Launch) (hsT : l.stackTraces = false) {g : GT} {cj cd : ClassId} {p : Program} {e : Env} {s : State} {m : MethodId} {b : Nat} {below : List Frame} {meth : Method} {c : Code} {Q : State → Prop} {ox om a1 a2 i k L : Nat} {xs : Nat → Int32} (hx : p.tables.exec = Jvm.exec) (hb : c.code = cL_law) (hml : c.maxLocals = 9) (hown : s.vm.findClass RL = some m.cls) (htl : ∀ w ∈ WSL, w.before #[Value.ref b] s = true) (hKK : KK g s) (hKJ : KJ g cj cd s) (hgb : gb g = s.heap.size) (hX : va_X b L xs s s.heap) (hbl : b < s.heap.size) (hi : i + 5 ≤ L) (hL : L ≤ 2560) (hk : k < 512) (K : LK g cj cd p l e s m b below meth c Q ox om a1 a2 (i + 5) (k + 1))
    (S : SGM) (z : Int) (w1 w2 : va_W) (f1 : Nat → Int64) (f2 : Nat → UInt64) (H : Heap) (locs : List Loc) (hCW : CW g ox S w1) (hMW : MW g om S z w2) (hSI : SI S) (hP : PP g (aJ cj a1 f1 :: aD1 cd a2 f2 :: (w1 ++ w2)) H) (hD : va_D (fun q => gb g ≤ q) (aJ cj a1 f1 :: aD1 cd a2 f2 :: (w1 ++ w2))) (hS : va_S (fun q => gb g ≤ q) s.heap H locs) (ls : Array Slot) (hl : lv_has ls 9 [(5, vi (i : Int)), (0, .ref b), (1, .ref ox), (2, .ref om), (3, .ref a1), (4, .ref a2)]) : W p l e room_1 s m #[Value.ref b] below meth c H locs (50 + 361 * k) (13700 + 13026 * k) Q (F0 m 891 ls []) := by
  have hbA : ¬ (fun q => gb g ≤ q) b := by show ¬ gb g ≤ b; omega
  have hAb : ∀ q, (fun q => gb g ≤ q) q → gb g ≤ q := fun _ h => h
  obtain ⟨v1, hv1, hx1⟩ : ∃ v : Int, jR v ∧ xs (jI ((i : Int) + 1)).toNatClampNeg = jI v := ⟨_, jR_of _, jI_of _⟩
  have hDc := (hD.perm pmA).left
  have hPc : PP g (aJ cj a1 f1 :: w1) H := (hP.perm pmA).mem fun q h => List.mem_append_left _ h
  have hsz : ∀ q, H.size ≤ q → gb g ≤ q := fun q h => by have := hS.1; omega
  have hFl : ∀ q, va_A (aJ cj a1 f1 :: w1) H.size q → gb g ≤ q := va_A_sub hDc (Nat.le_refl _) hsz
  refine lv_aload_n hx hb dL_law_891 rfl (lv_at hl 2 rfl) ?_
  refine lv_aload_n hx hb dL_law_892 rfl (lv_at hl 1 rfl) ?_
  refine lv_iload hx hb dL_law_893 (lv_at hl 0 rfl) ?_
  refine jr_iconst hx hb dL_law_895 ?_
  refine jr_iadd hx hb dL_law_896 ?_
  refine va_sld hx hb hX hbl hbA hS (jI_in (by omega) (by omega) (by omega)) dL_law_897 ?_
  rw [hx1]
  refine lv_aload_n hx hb dL_law_898 rfl (lv_at hl 4 rfl) ?_
  refine jk_Qi (vx_runSW (As := [.ref ox, vi v1, .ref a1]) (rest := []) ⟨hx, hb, hml, hown, htl⟩ (m_L_isLive l hsT g cj cd ox a1 f1 S w1 hCW H.size v1 hv1) (vx_cwSW 3 htl lkH_isLive rfl rfl rfl cwS_L_isLive ⟨Nat.le_of_ble_eq_true rfl, Nat.le_of_ble_eq_true rfl⟩) (jp_H hKK hKJ hS hAb ⟨rfl, hPc, hDc⟩) rfl rfl hl.1 rfl (lv_room (Nat.le_of_ble_eq_true rfl)) dL_law_899 ⟨by show _ ≤ 603072; omega, by show _ ≤ 7219306; omega⟩) hS (fun q _ h => hFl q h) hFl (fun z3 H1 locs hz3 hzs hks hS => ?_)
  obtain ⟨hz3, v1w, fn, hcase, hP1, hD1⟩ := hz3
  obtain ⟨hP, hD⟩ := lj_H hP hD hks hFl hP1 hD1
  subst hz3
  clear hks hzs hP1 hD1 hFl hsz hPc hDc; generalize H1 = H at hP hD hS ⊢
  refine W.widen (k := 50 + 361 * (k + 1)) (n := 13700 + 13026 * (k + 1)) (by omega) (by omega) ?_
  refine lv_istore (lv' := [(6, vi (cdU S v1)), (5, vi (i : Int)), (0, .ref b), (1, .ref ox), (2, .ref om), (3, .ref a1), (4, .ref a2)]) hx hb dL_law_902 hl (by decide) rfl (fun ls hl => ?_)
  refine lv_aload_n hx hb dL_law_904 rfl (lv_at hl 4 rfl) ?_
  refine lv_aload_n hx hb dL_law_905 rfl (lv_at hl 2 rfl) ?_
  refine lv_iload hx hb dL_law_906 (lv_at hl 1 rfl) ?_
  refine jr_iconst hx hb dL_law_908 ?_
  refine jr_iadd hx hb dL_law_909 ?_
  refine va_sld hx hb hX hbl hbA hS (jI_in (by omega) (by omega) (by omega)) dL_law_910 ?_
  rw [hx1]
  have hPm : PP g w2 H := (hP.perm pmB).mem fun q h => List.mem_append_left _ h
  have hDm := (hD.perm pmB).left
  have hsz : ∀ q, H.size ≤ q → gb g ≤ q := fun q h => by have := hS.1; omega
  refine jk_Qi (va_runV (As := [vi v1]) (rest := []) ⟨hx, hb, hml, hown, htl⟩ (m_X11_isLive l g om S z w2 hMW v1 hv1) (cwV 1 htl lk_L_187 rfl rfl rfl cwV_X11_isLive ⟨Nat.le_of_ble_eq_true rfl, Nat.le_of_ble_eq_true rfl⟩) (jp_V hKK hS hAb (MW.recv hKK hMW hPm) ⟨hPm, hDm⟩) rfl rfl hl.1 rfl (lv_room (Nat.le_of_ble_eq_true rfl)) dL_law_911 ⟨by show _ ≤ 603072; omega, by show _ ≤ 7219306; omega⟩) hS (fun q _ h => hDm.inA h) (fun q h => hDm.inA h) (fun zm H1 locs hzm hzs hks hS => ?_)
  obtain ⟨S9, v2w, hC9, hM9, hI9, hP2, hD2, hval⟩ : ∃ (S9 : SGM) (v2w : va_W), CW g ox S9 v1w ∧ MW g om S9 (cdU S v1) v2w ∧ SI S9 ∧ PP g v2w H1 ∧ va_D (jA w2) v2w ∧ ((cdU S v1) = 0 → fn 0 = (if jI ((ug S v1).2.2) = 0 then (0 : Int64) else 1) ∧ zm = (ug S v1).2.2) := by
    rcases hcase with ⟨h1, h2, h3⟩ | ⟨h1, h2⟩ <;> rcases hzm with ⟨h4, h5, v2w, h6, h7, h8⟩ | ⟨h4, v2w, h6, h7, h8⟩
    · exact ⟨S, v2w, h2, by rw [h1]; exact h6, hSI, h7, h8, fun _ => ⟨h3, h5⟩⟩
    · exact absurd h1 h4
    · exact absurd h4 h1
    · exact ⟨S, v2w, h2, h6, hSI, h7, h8, fun q => absurd q h1⟩
  obtain ⟨hP, hD⟩ := lj_M hP hD hsz hks hP2 hD2
  clear hcase hks hzs hP2 hD2 hPm hDm hsz hzm; generalize H1 = H at hP hD hS ⊢
  refine lv_istore (lv' := [(7, vi zm), (6, vi (cdU S v1)), (5, vi (i : Int)), (0, .ref b), (1, .ref ox), (2, .ref om), (3, .ref a1), (4, .ref a2)]) hx hb dL_law_914 hl (by decide) rfl (fun ls hl => ?_)
  refine lv_aload_n hx hb dL_law_916 rfl (lv_at hl 5 rfl) ?_
  refine jk_Si (va_runV (As := []) (rest := []) ⟨hx, hb, hml, hown, htl⟩ (m_X11_thrownW l g om S9 (cdU S v1) v2w hM9) (cwV 0 htl lk_L_140 rfl rfl rfl cwV_X11_thrown ⟨Nat.le_of_ble_eq_true rfl, Nat.le_of_ble_eq_true rfl⟩) (jp_V hKK hS hAb (MW.recv hKK hM9 (hP.mem fun q h => List.mem_cons_of_mem _ (List.mem_cons_of_mem _ (List.mem_append_right _ h)))) (hP.mem fun q h => List.mem_cons_of_mem _ (List.mem_cons_of_mem _ (List.mem_append_right _ h)))) rfl rfl hl.1 rfl (lv_room (Nat.le_of_ble_eq_true rfl)) dL_law_917 ⟨by show _ ≤ 603072; omega, by show _ ≤ 7219306; omega⟩) (fun z4 hz4 => ?_)
  subst hz4
  refine lv_iload hx hb dL_law_920 (lv_at hl 1 rfl) ?_
  refine lv_icmp_eq (tgt := 927) hx hb dL_law_922 (by decide) (fun _ => ?_) (fun h9 => absurd rfl h9)
  refine lv_iload hx hb dL_law_927 (lv_at hl 1 rfl) ?_
  have hcdR : jR (cdU S v1) := by unfold cdU; (repeat' split) <;> exact ⟨by omega, by omega⟩
  refine lv_if_ne (tgt := 951) hx hb dL_law_929 (by decide) (fun h9 => ?_) (fun h9 => ?_)
  · refine lv_goto (tgt := 2202) hx hb dL_law_951 (by decide) ?_
    refine jr_iinc (lv' := [(5, vi ((i : Int) + 5)), (7, vi zm), (6, vi (cdU S v1)), (0, .ref b), (1, .ref ox), (2, .ref om), (3, .ref a1), (4, .ref a2)]) hx hb dL_law_2202 hl (k := 2) rfl rfl (by decide) rfl (fun ls hl => ?_)
    refine lv_goto (tgt := 28) hx hb dL_law_2205 (by decide) ?_
    exact K S9 _ v1w v2w fn f2 H locs hC9 hM9 hI9 hP hD hS ls (lv_sub hl [0, 3, 4, 5, 6, 7] rfl)
  · have hc0 : (cdU S v1) = 0 := (jI_inj hcdR ⟨by omega, by omega⟩).mp h9
    obtain ⟨hLV, hZ⟩ := hval hc0
    subst hZ
    refine lv_aload_n hx hb dL_law_932 rfl (lv_at hl 6 rfl) ?_
    refine jr_iconst hx hb dL_law_933 ?_
    refine va_lald hx hb hKJ hP 0 0 rfl rfl (jI_in (by omega) (by omega) (by omega)) dL_law_934 ?_
    rw [show (jI 0).toNatClampNeg = 0 from rfl, hLV]
    refine lv_iload hx hb dL_law_935 (lv_at hl 0 rfl) ?_
    refine lv_if_eq (tgt := 944) hx hb dL_law_937 (by decide) (fun hz8 => ?_) (fun hz8 => ?_)
    · rw [if_pos hz8]
      refine lv_lconst (v := (0 : Int64)) hx hb dL_law_944 rfl ?_
      refine W.lcmp hx hb dL_law_945 ?_
      refine lv_if_eq (tgt := 951) hx hb dL_law_946 (by decide) (fun _ => ?_) (fun h9 => absurd (lg_cmp_self _) h9)
      refine lv_goto (tgt := 2202) hx hb dL_law_951 (by decide) ?_
      refine jr_iinc (lv' := [(5, vi ((i : Int) + 5)), (7, vi ((ug S v1).2.2)), (6, vi (cdU S v1)), (0, .ref b), (1, .ref ox), (2, .ref om), (3, .ref a1), (4, .ref a2)]) hx hb dL_law_2202 hl (k := 2) rfl rfl (by decide) rfl (fun ls hl => ?_)
      refine lv_goto (tgt := 28) hx hb dL_law_2205 (by decide) ?_
      exact K S9 _ v1w v2w fn f2 H locs hC9 hM9 hI9 hP hD hS ls (lv_sub hl [0, 3, 4, 5, 6, 7] rfl)
    · rw [if_neg hz8]
      refine lv_lconst (v := (1 : Int64)) hx hb dL_law_940 rfl ?_
      refine lv_goto (tgt := 945) hx hb dL_law_941 (by decide) ?_
      refine W.lcmp hx hb dL_law_945 ?_
      refine lv_if_eq (tgt := 951) hx hb dL_law_946 (by decide) (fun _ => ?_) (fun h9 => absurd (lg_cmp_self _) h9)
      refine lv_goto (tgt := 2202) hx hb dL_law_951 (by decide) ?_
      refine jr_iinc (lv' := [(5, vi ((i : Int) + 5)), (7, vi ((ug S v1).2.2)), (6, vi (cdU S v1)), (0, .ref b), (1, .ref ox), (2, .ref om), (3, .ref a1), (4, .ref a2)]) hx hb dL_law_2202 hl (k := 2) rfl rfl (by decide) rfl (fun ls hl => ?_)
      refine lv_goto (tgt := 28) hx hb dL_law_2205 (by decide) ?_
      exact K S9 _ v1w v2w fn f2 H locs hC9 hM9 hI9 hP hD hS ls (lv_sub hl [0, 3, 4, 5, 6, 7] rfl)
set_option maxHeartbeats 4000000 in
set_option maxRecDepth 100000 in
theorem lc_cost (l : Launch) (hsT : l.stackTraces = false) {g : GT} {cj cd : ClassId} {p : Program} {e : Env} {s : State} {m : MethodId} {b : Nat} {below : List Frame} {meth : Method} {c : Code} {Q : State → Prop} {ox om a1 a2 i k L : Nat} {xs : Nat → Int32} (hx : p.tables.exec = Jvm.exec) (hb : c.code = cL_law) (hml : c.maxLocals = 9) (hown : s.vm.findClass RL = some m.cls) (htl : ∀ w ∈ WSL, w.before #[Value.ref b] s = true) (hKK : KK g s) (hKJ : KJ g cj cd s) (hgb : gb g = s.heap.size) (hX : va_X b L xs s s.heap) (hbl : b < s.heap.size) (hi : i + 5 ≤ L) (hL : L ≤ 2560) (hk : k < 512) (K : LK g cj cd p l e s m b below meth c Q ox om a1 a2 (i + 5) (k + 1))
    (S : SGM) (z : Int) (w1 w2 : va_W) (f1 : Nat → Int64) (f2 : Nat → UInt64) (H : Heap) (locs : List Loc) (hCW : CW g ox S w1) (hMW : MW g om S z w2) (hSI : SI S) (hP : PP g (aJ cj a1 f1 :: aD1 cd a2 f2 :: (w1 ++ w2)) H) (hD : va_D (fun q => gb g ≤ q) (aJ cj a1 f1 :: aD1 cd a2 f2 :: (w1 ++ w2))) (hS : va_S (fun q => gb g ≤ q) s.heap H locs) (ls : Array Slot) (hl : lv_has ls 9 [(5, vi (i : Int)), (0, .ref b), (1, .ref ox), (2, .ref om), (3, .ref a1), (4, .ref a2)]) : W p l e room_1 s m #[Value.ref b] below meth c H locs (50 + 361 * k) (13700 + 13026 * k) Q (F0 m 954 ls []) := by
  have hbA : ¬ (fun q => gb g ≤ q) b := by show ¬ gb g ≤ b; omega
  have hAb : ∀ q, (fun q => gb g ≤ q) q → gb g ≤ q := fun _ h => h
  obtain ⟨v1, hv1, hx1⟩ : ∃ v : Int, jR v ∧ xs (jI ((i : Int) + 1)).toNatClampNeg = jI v := ⟨_, jR_of _, jI_of _⟩
  have hDc := (hD.perm pmA).left
  have hPc : PP g (aJ cj a1 f1 :: w1) H := (hP.perm pmA).mem fun q h => List.mem_append_left _ h
  have hsz : ∀ q, H.size ≤ q → gb g ≤ q := fun q h => by have := hS.1; omega
  have hFl : ∀ q, va_A (aJ cj a1 f1 :: w1) H.size q → gb g ≤ q := va_A_sub hDc (Nat.le_refl _) hsz
  refine lv_aload_n hx hb dL_law_954 rfl (lv_at hl 2 rfl) ?_
  refine lv_aload_n hx hb dL_law_955 rfl (lv_at hl 1 rfl) ?_
  refine lv_iload hx hb dL_law_956 (lv_at hl 0 rfl) ?_
  refine jr_iconst hx hb dL_law_958 ?_
  refine jr_iadd hx hb dL_law_959 ?_
  refine va_sld hx hb hX hbl hbA hS (jI_in (by omega) (by omega) (by omega)) dL_law_960 ?_
  rw [hx1]
  refine lv_aload_n hx hb dL_law_961 rfl (lv_at hl 4 rfl) ?_
  refine jk_Qi (vx_runSW (As := [.ref ox, vi v1, .ref a1]) (rest := []) ⟨hx, hb, hml, hown, htl⟩ (m_L_cost l hsT g cj cd ox a1 f1 S w1 hCW H.size v1 hv1) (vx_cwSW 3 htl lkH_cost rfl rfl rfl cwS_L_cost ⟨Nat.le_of_ble_eq_true rfl, Nat.le_of_ble_eq_true rfl⟩) (jp_H hKK hKJ hS hAb ⟨rfl, hPc, hDc⟩) rfl rfl hl.1 rfl (lv_room (Nat.le_of_ble_eq_true rfl)) dL_law_962 ⟨by show _ ≤ 603072; omega, by show _ ≤ 7219306; omega⟩) hS (fun q _ h => hFl q h) hFl (fun z3 H1 locs hz3 hzs hks hS => ?_)
  obtain ⟨hz3, v1w, fn, hcase, hP1, hD1⟩ := hz3
  obtain ⟨hP, hD⟩ := lj_H hP hD hks hFl hP1 hD1
  subst hz3
  clear hks hzs hP1 hD1 hFl hsz hPc hDc; generalize H1 = H at hP hD hS ⊢
  refine W.widen (k := 50 + 361 * (k + 1)) (n := 13700 + 13026 * (k + 1)) (by omega) (by omega) ?_
  refine lv_istore (lv' := [(6, vi (cdUD S v1)), (5, vi (i : Int)), (0, .ref b), (1, .ref ox), (2, .ref om), (3, .ref a1), (4, .ref a2)]) hx hb dL_law_965 hl (by decide) rfl (fun ls hl => ?_)
  refine lv_aload_n hx hb dL_law_967 rfl (lv_at hl 4 rfl) ?_
  refine lv_aload_n hx hb dL_law_968 rfl (lv_at hl 2 rfl) ?_
  refine lv_iload hx hb dL_law_969 (lv_at hl 1 rfl) ?_
  refine jr_iconst hx hb dL_law_971 ?_
  refine jr_iadd hx hb dL_law_972 ?_
  refine va_sld hx hb hX hbl hbA hS (jI_in (by omega) (by omega) (by omega)) dL_law_973 ?_
  rw [hx1]
  have hPm : PP g w2 H := (hP.perm pmB).mem fun q h => List.mem_append_left _ h
  have hDm := (hD.perm pmB).left
  have hsz : ∀ q, H.size ≤ q → gb g ≤ q := fun q h => by have := hS.1; omega
  refine jk_Qi (va_runV (As := [vi v1]) (rest := []) ⟨hx, hb, hml, hown, htl⟩ (m_X11_cost l g om S z w2 hMW v1 hv1) (cwV 1 htl lk_L_190 rfl rfl rfl cwV_X11_cost ⟨Nat.le_of_ble_eq_true rfl, Nat.le_of_ble_eq_true rfl⟩) (jp_V hKK hS hAb (MW.recv hKK hMW hPm) ⟨hPm, hDm⟩) rfl rfl hl.1 rfl (lv_room (Nat.le_of_ble_eq_true rfl)) dL_law_974 ⟨by show _ ≤ 603072; omega, by show _ ≤ 7219306; omega⟩) hS (fun q _ h => hDm.inA h) (fun q h => hDm.inA h) (fun zm H1 locs hzm hzs hks hS => ?_)
  obtain ⟨S9, v2w, hC9, hM9, hI9, hP2, hD2, hval⟩ : ∃ (S9 : SGM) (v2w : va_W), CW g ox S9 v1w ∧ MW g om S9 (cdUD S v1) v2w ∧ SI S9 ∧ PP g v2w H1 ∧ va_D (jA w2) v2w ∧ ((cdUD S v1) = 0 → fn 0 = (jI (D S.2.2.2.1 S.1 (ug S v1).1 S.1.length (ug S v1).1.length)).toInt64 ∧ zm = D S.2.2.2.1 S.1 (ug S v1).1 S.1.length (ug S v1).1.length) := by
    rcases hcase with ⟨h1, h2, h3⟩ | ⟨h1, h2⟩ <;> rcases hzm with ⟨h4, h5, v2w, h6, h7, h8⟩ | ⟨h4, v2w, h6, h7, h8⟩
    · exact ⟨(S), v2w, h2, by rw [h1]; exact h6, hSI, h7, h8, fun _ => ⟨h3, h5⟩⟩
    · exact absurd h1 h4
    · exact absurd h4 h1
    · exact ⟨S, v2w, h2, h6, hSI, h7, h8, fun q => absurd q h1⟩
  obtain ⟨hP, hD⟩ := lj_M hP hD hsz hks hP2 hD2
  clear hcase hks hzs hP2 hD2 hPm hDm hsz hzm; generalize H1 = H at hP hD hS ⊢
  refine lv_istore (lv' := [(7, vi zm), (6, vi (cdUD S v1)), (5, vi (i : Int)), (0, .ref b), (1, .ref ox), (2, .ref om), (3, .ref a1), (4, .ref a2)]) hx hb dL_law_977 hl (by decide) rfl (fun ls hl => ?_)
  refine lv_aload_n hx hb dL_law_979 rfl (lv_at hl 5 rfl) ?_
  refine jk_Si (va_runV (As := []) (rest := []) ⟨hx, hb, hml, hown, htl⟩ (m_X11_thrownW l g om S9 (cdUD S v1) v2w hM9) (cwV 0 htl lk_L_140 rfl rfl rfl cwV_X11_thrown ⟨Nat.le_of_ble_eq_true rfl, Nat.le_of_ble_eq_true rfl⟩) (jp_V hKK hS hAb (MW.recv hKK hM9 (hP.mem fun q h => List.mem_cons_of_mem _ (List.mem_cons_of_mem _ (List.mem_append_right _ h)))) (hP.mem fun q h => List.mem_cons_of_mem _ (List.mem_cons_of_mem _ (List.mem_append_right _ h)))) rfl rfl hl.1 rfl (lv_room (Nat.le_of_ble_eq_true rfl)) dL_law_980 ⟨by show _ ≤ 603072; omega, by show _ ≤ 7219306; omega⟩) (fun z4 hz4 => ?_)
  subst hz4
  refine lv_iload hx hb dL_law_983 (lv_at hl 1 rfl) ?_
  refine lv_icmp_eq (tgt := 990) hx hb dL_law_985 (by decide) (fun _ => ?_) (fun h9 => absurd rfl h9)
  refine lv_iload hx hb dL_law_990 (lv_at hl 1 rfl) ?_
  have hcdR : jR (cdUD S v1) := by unfold cdUD; (repeat' split) <;> exact ⟨by omega, by omega⟩
  refine lv_if_ne (tgt := 1007) hx hb dL_law_992 (by decide) (fun h9 => ?_) (fun h9 => ?_)
  · refine lv_goto (tgt := 2202) hx hb dL_law_1007 (by decide) ?_
    refine jr_iinc (lv' := [(5, vi ((i : Int) + 5)), (7, vi zm), (6, vi (cdUD S v1)), (0, .ref b), (1, .ref ox), (2, .ref om), (3, .ref a1), (4, .ref a2)]) hx hb dL_law_2202 hl (k := 2) rfl rfl (by decide) rfl (fun ls hl => ?_)
    refine lv_goto (tgt := 28) hx hb dL_law_2205 (by decide) ?_
    exact K S9 _ v1w v2w fn f2 H locs hC9 hM9 hI9 hP hD hS ls (lv_sub hl [0, 3, 4, 5, 6, 7] rfl)
  · have hc0 : (cdUD S v1) = 0 := (jI_inj hcdR ⟨by omega, by omega⟩).mp h9
    obtain ⟨hLV, hZ⟩ := hval hc0
    subst hZ
    refine lv_aload_n hx hb dL_law_995 rfl (lv_at hl 6 rfl) ?_
    refine jr_iconst hx hb dL_law_996 ?_
    refine va_lald hx hb hKJ hP 0 0 rfl rfl (jI_in (by omega) (by omega) (by omega)) dL_law_997 ?_
    rw [show (jI 0).toNatClampNeg = 0 from rfl, hLV]
    refine lv_iload hx hb dL_law_998 (lv_at hl 0 rfl) ?_
    refine lv_i2l hx hb dL_law_1000 rfl ?_
    refine W.lcmp hx hb dL_law_1001 ?_
    refine lv_if_eq (tgt := 1007) hx hb dL_law_1002 (by decide) (fun _ => ?_) (fun h9 => absurd (lg_cmp_self _) h9)
    refine lv_goto (tgt := 2202) hx hb dL_law_1007 (by decide) ?_
    refine jr_iinc (lv' := [(5, vi ((i : Int) + 5)), (7, vi (D S.2.2.2.1 S.1 (ug S v1).1 S.1.length (ug S v1).1.length)), (6, vi (cdUD S v1)), (0, .ref b), (1, .ref ox), (2, .ref om), (3, .ref a1), (4, .ref a2)]) hx hb dL_law_2202 hl (k := 2) rfl rfl (by decide) rfl (fun ls hl => ?_)
    refine lv_goto (tgt := 28) hx hb dL_law_2205 (by decide) ?_
    exact K S9 _ v1w v2w fn f2 H locs hC9 hM9 hI9 hP hD hS ls (lv_sub hl [0, 3, 4, 5, 6, 7] rfl)
set_option maxHeartbeats 4000000 in
set_option maxRecDepth 100000 in
theorem lc_costFromEnds (l : Launch) (hsT : l.stackTraces = false) {g : GT} {cj cd : ClassId} {p : Program} {e : Env} {s : State} {m : MethodId} {b : Nat} {below : List Frame} {meth : Method} {c : Code} {Q : State → Prop} {ox om a1 a2 i k L : Nat} {xs : Nat → Int32} (hx : p.tables.exec = Jvm.exec) (hb : c.code = cL_law) (hml : c.maxLocals = 9) (hown : s.vm.findClass RL = some m.cls) (htl : ∀ w ∈ WSL, w.before #[Value.ref b] s = true) (hKK : KK g s) (hKJ : KJ g cj cd s) (hgb : gb g = s.heap.size) (hX : va_X b L xs s s.heap) (hbl : b < s.heap.size) (hi : i + 5 ≤ L) (hL : L ≤ 2560) (hk : k < 512) (K : LK g cj cd p l e s m b below meth c Q ox om a1 a2 (i + 5) (k + 1))
    (S : SGM) (z : Int) (w1 w2 : va_W) (f1 : Nat → Int64) (f2 : Nat → UInt64) (H : Heap) (locs : List Loc) (hCW : CW g ox S w1) (hMW : MW g om S z w2) (hSI : SI S) (hP : PP g (aJ cj a1 f1 :: aD1 cd a2 f2 :: (w1 ++ w2)) H) (hD : va_D (fun q => gb g ≤ q) (aJ cj a1 f1 :: aD1 cd a2 f2 :: (w1 ++ w2))) (hS : va_S (fun q => gb g ≤ q) s.heap H locs) (ls : Array Slot) (hl : lv_has ls 9 [(5, vi (i : Int)), (0, .ref b), (1, .ref ox), (2, .ref om), (3, .ref a1), (4, .ref a2)]) : W p l e room_1 s m #[Value.ref b] below meth c H locs (50 + 361 * k) (13700 + 13026 * k) Q (F0 m 1010 ls []) := by
  have hbA : ¬ (fun q => gb g ≤ q) b := by show ¬ gb g ≤ b; omega
  have hAb : ∀ q, (fun q => gb g ≤ q) q → gb g ≤ q := fun _ h => h
  obtain ⟨v1, hv1, hx1⟩ : ∃ v : Int, jR v ∧ xs (jI ((i : Int) + 1)).toNatClampNeg = jI v := ⟨_, jR_of _, jI_of _⟩
  have hDc := (hD.perm pmA).left
  have hPc : PP g (aJ cj a1 f1 :: w1) H := (hP.perm pmA).mem fun q h => List.mem_append_left _ h
  have hsz : ∀ q, H.size ≤ q → gb g ≤ q := fun q h => by have := hS.1; omega
  have hFl : ∀ q, va_A (aJ cj a1 f1 :: w1) H.size q → gb g ≤ q := va_A_sub hDc (Nat.le_refl _) hsz
  refine lv_aload_n hx hb dL_law_1010 rfl (lv_at hl 2 rfl) ?_
  refine lv_aload_n hx hb dL_law_1011 rfl (lv_at hl 1 rfl) ?_
  refine lv_iload hx hb dL_law_1012 (lv_at hl 0 rfl) ?_
  refine jr_iconst hx hb dL_law_1014 ?_
  refine jr_iadd hx hb dL_law_1015 ?_
  refine va_sld hx hb hX hbl hbA hS (jI_in (by omega) (by omega) (by omega)) dL_law_1016 ?_
  rw [hx1]
  refine lv_aload_n hx hb dL_law_1017 rfl (lv_at hl 4 rfl) ?_
  refine jk_Qi (vx_runSW (As := [.ref ox, vi v1, .ref a1]) (rest := []) ⟨hx, hb, hml, hown, htl⟩ (m_L_costFromEnds l hsT g cj cd ox a1 f1 S w1 hCW H.size v1 hv1) (vx_cwSW 3 htl lkH_costFromEnds rfl rfl rfl cwS_L_costFromEnds ⟨Nat.le_of_ble_eq_true rfl, Nat.le_of_ble_eq_true rfl⟩) (jp_H hKK hKJ hS hAb ⟨rfl, hPc, hDc⟩) rfl rfl hl.1 rfl (lv_room (Nat.le_of_ble_eq_true rfl)) dL_law_1018 ⟨by show _ ≤ 603072; omega, by show _ ≤ 7219306; omega⟩) hS (fun q _ h => hFl q h) hFl (fun z3 H1 locs hz3 hzs hks hS => ?_)
  obtain ⟨hz3, v1w, fn, hcase, hP1, hD1⟩ := hz3
  obtain ⟨hP, hD⟩ := lj_H hP hD hks hFl hP1 hD1
  subst hz3
  clear hks hzs hP1 hD1 hFl hsz hPc hDc; generalize H1 = H at hP hD hS ⊢
  refine W.widen (k := 50 + 361 * (k + 1)) (n := 13700 + 13026 * (k + 1)) (by omega) (by omega) ?_
  refine lv_istore (lv' := [(6, vi (cdUD S v1)), (5, vi (i : Int)), (0, .ref b), (1, .ref ox), (2, .ref om), (3, .ref a1), (4, .ref a2)]) hx hb dL_law_1021 hl (by decide) rfl (fun ls hl => ?_)
  refine lv_aload_n hx hb dL_law_1023 rfl (lv_at hl 4 rfl) ?_
  refine lv_aload_n hx hb dL_law_1024 rfl (lv_at hl 2 rfl) ?_
  refine lv_iload hx hb dL_law_1025 (lv_at hl 1 rfl) ?_
  refine jr_iconst hx hb dL_law_1027 ?_
  refine jr_iadd hx hb dL_law_1028 ?_
  refine va_sld hx hb hX hbl hbA hS (jI_in (by omega) (by omega) (by omega)) dL_law_1029 ?_
  rw [hx1]
  have hPm : PP g w2 H := (hP.perm pmB).mem fun q h => List.mem_append_left _ h
  have hDm := (hD.perm pmB).left
  have hsz : ∀ q, H.size ≤ q → gb g ≤ q := fun q h => by have := hS.1; omega
  refine jk_Qi (va_runV (As := [vi v1]) (rest := []) ⟨hx, hb, hml, hown, htl⟩ (m_X11_costFromEnds l g om S z w2 hMW v1 hv1) (cwV 1 htl lk_L_193 rfl rfl rfl cwV_X11_costFromEnds ⟨Nat.le_of_ble_eq_true rfl, Nat.le_of_ble_eq_true rfl⟩) (jp_V hKK hS hAb (MW.recv hKK hMW hPm) ⟨hPm, hDm⟩) rfl rfl hl.1 rfl (lv_room (Nat.le_of_ble_eq_true rfl)) dL_law_1030 ⟨by show _ ≤ 603072; omega, by show _ ≤ 7219306; omega⟩) hS (fun q _ h => hDm.inA h) (fun q h => hDm.inA h) (fun zm H1 locs hzm hzs hks hS => ?_)
  obtain ⟨S9, v2w, hC9, hM9, hI9, hP2, hD2, hval⟩ : ∃ (S9 : SGM) (v2w : va_W), CW g ox S9 v1w ∧ MW g om S9 (cdUD S v1) v2w ∧ SI S9 ∧ PP g v2w H1 ∧ va_D (jA w2) v2w ∧ ((cdUD S v1) = 0 → fn 0 = (jI (ed S.2.2.2.1 S.1 (ug S v1).1)).toInt64 ∧ zm = ed S.2.2.2.1 S.1 (ug S v1).1) := by
    rcases hcase with ⟨h1, h2, h3⟩ | ⟨h1, h2⟩ <;> rcases hzm with ⟨h4, h5, v2w, h6, h7, h8⟩ | ⟨h4, v2w, h6, h7, h8⟩
    · exact ⟨(S), v2w, h2, by rw [h1]; exact h6, hSI, h7, h8, fun _ => ⟨h3, h5⟩⟩
    · exact absurd h1 h4
    · exact absurd h4 h1
    · exact ⟨S, v2w, h2, h6, hSI, h7, h8, fun q => absurd q h1⟩
  obtain ⟨hP, hD⟩ := lj_M hP hD hsz hks hP2 hD2
  clear hcase hks hzs hP2 hD2 hPm hDm hsz hzm; generalize H1 = H at hP hD hS ⊢
  refine lv_istore (lv' := [(7, vi zm), (6, vi (cdUD S v1)), (5, vi (i : Int)), (0, .ref b), (1, .ref ox), (2, .ref om), (3, .ref a1), (4, .ref a2)]) hx hb dL_law_1033 hl (by decide) rfl (fun ls hl => ?_)
  refine lv_aload_n hx hb dL_law_1035 rfl (lv_at hl 5 rfl) ?_
  refine jk_Si (va_runV (As := []) (rest := []) ⟨hx, hb, hml, hown, htl⟩ (m_X11_thrownW l g om S9 (cdUD S v1) v2w hM9) (cwV 0 htl lk_L_140 rfl rfl rfl cwV_X11_thrown ⟨Nat.le_of_ble_eq_true rfl, Nat.le_of_ble_eq_true rfl⟩) (jp_V hKK hS hAb (MW.recv hKK hM9 (hP.mem fun q h => List.mem_cons_of_mem _ (List.mem_cons_of_mem _ (List.mem_append_right _ h)))) (hP.mem fun q h => List.mem_cons_of_mem _ (List.mem_cons_of_mem _ (List.mem_append_right _ h)))) rfl rfl hl.1 rfl (lv_room (Nat.le_of_ble_eq_true rfl)) dL_law_1036 ⟨by show _ ≤ 603072; omega, by show _ ≤ 7219306; omega⟩) (fun z4 hz4 => ?_)
  subst hz4
  refine lv_iload hx hb dL_law_1039 (lv_at hl 1 rfl) ?_
  refine lv_icmp_eq (tgt := 1046) hx hb dL_law_1041 (by decide) (fun _ => ?_) (fun h9 => absurd rfl h9)
  refine lv_iload hx hb dL_law_1046 (lv_at hl 1 rfl) ?_
  have hcdR : jR (cdUD S v1) := by unfold cdUD; (repeat' split) <;> exact ⟨by omega, by omega⟩
  refine lv_if_ne (tgt := 1063) hx hb dL_law_1048 (by decide) (fun h9 => ?_) (fun h9 => ?_)
  · refine lv_goto (tgt := 2202) hx hb dL_law_1063 (by decide) ?_
    refine jr_iinc (lv' := [(5, vi ((i : Int) + 5)), (7, vi zm), (6, vi (cdUD S v1)), (0, .ref b), (1, .ref ox), (2, .ref om), (3, .ref a1), (4, .ref a2)]) hx hb dL_law_2202 hl (k := 2) rfl rfl (by decide) rfl (fun ls hl => ?_)
    refine lv_goto (tgt := 28) hx hb dL_law_2205 (by decide) ?_
    exact K S9 _ v1w v2w fn f2 H locs hC9 hM9 hI9 hP hD hS ls (lv_sub hl [0, 3, 4, 5, 6, 7] rfl)
  · have hc0 : (cdUD S v1) = 0 := (jI_inj hcdR ⟨by omega, by omega⟩).mp h9
    obtain ⟨hLV, hZ⟩ := hval hc0
    subst hZ
    refine lv_aload_n hx hb dL_law_1051 rfl (lv_at hl 6 rfl) ?_
    refine jr_iconst hx hb dL_law_1052 ?_
    refine va_lald hx hb hKJ hP 0 0 rfl rfl (jI_in (by omega) (by omega) (by omega)) dL_law_1053 ?_
    rw [show (jI 0).toNatClampNeg = 0 from rfl, hLV]
    refine lv_iload hx hb dL_law_1054 (lv_at hl 0 rfl) ?_
    refine lv_i2l hx hb dL_law_1056 rfl ?_
    refine W.lcmp hx hb dL_law_1057 ?_
    refine lv_if_eq (tgt := 1063) hx hb dL_law_1058 (by decide) (fun _ => ?_) (fun h9 => absurd (lg_cmp_self _) h9)
    refine lv_goto (tgt := 2202) hx hb dL_law_1063 (by decide) ?_
    refine jr_iinc (lv' := [(5, vi ((i : Int) + 5)), (7, vi (ed S.2.2.2.1 S.1 (ug S v1).1)), (6, vi (cdUD S v1)), (0, .ref b), (1, .ref ox), (2, .ref om), (3, .ref a1), (4, .ref a2)]) hx hb dL_law_2202 hl (k := 2) rfl rfl (by decide) rfl (fun ls hl => ?_)
    refine lv_goto (tgt := 28) hx hb dL_law_2205 (by decide) ?_
    exact K S9 _ v1w v2w fn f2 H locs hC9 hM9 hI9 hP hD hS ls (lv_sub hl [0, 3, 4, 5, 6, 7] rfl)
set_option maxHeartbeats 4000000 in
set_option maxRecDepth 100000 in
theorem lc_likeness (l : Launch) (hsT : l.stackTraces = false) {g : GT} {cj cd : ClassId} {p : Program} {e : Env} {s : State} {m : MethodId} {b : Nat} {below : List Frame} {meth : Method} {c : Code} {Q : State → Prop} {ox om a1 a2 i k L : Nat} {xs : Nat → Int32} (hx : p.tables.exec = Jvm.exec) (hb : c.code = cL_law) (hml : c.maxLocals = 9) (hown : s.vm.findClass RL = some m.cls) (htl : ∀ w ∈ WSL, w.before #[Value.ref b] s = true) (hKK : KK g s) (hKJ : KJ g cj cd s) (hgb : gb g = s.heap.size) (hX : va_X b L xs s s.heap) (hbl : b < s.heap.size) (hi : i + 5 ≤ L) (hL : L ≤ 2560) (hk : k < 512) (K : LK g cj cd p l e s m b below meth c Q ox om a1 a2 (i + 5) (k + 1))
    (S : SGM) (z : Int) (w1 w2 : va_W) (f1 : Nat → Int64) (f2 : Nat → UInt64) (H : Heap) (locs : List Loc) (hCW : CW g ox S w1) (hMW : MW g om S z w2) (hSI : SI S) (hP : PP g (aJ cj a1 f1 :: aD1 cd a2 f2 :: (w1 ++ w2)) H) (hD : va_D (fun q => gb g ≤ q) (aJ cj a1 f1 :: aD1 cd a2 f2 :: (w1 ++ w2))) (hS : va_S (fun q => gb g ≤ q) s.heap H locs) (ls : Array Slot) (hl : lv_has ls 9 [(5, vi (i : Int)), (0, .ref b), (1, .ref ox), (2, .ref om), (3, .ref a1), (4, .ref a2)]) : W p l e room_1 s m #[Value.ref b] below meth c H locs (50 + 361 * k) (13700 + 13026 * k) Q (F0 m 1066 ls []) := by
  have hbA : ¬ (fun q => gb g ≤ q) b := by show ¬ gb g ≤ b; omega
  have hAb : ∀ q, (fun q => gb g ≤ q) q → gb g ≤ q := fun _ h => h
  obtain ⟨v1, hv1, hx1⟩ : ∃ v : Int, jR v ∧ xs (jI ((i : Int) + 1)).toNatClampNeg = jI v := ⟨_, jR_of _, jI_of _⟩
  have hDc := (hD.perm pmA).left
  have hPc : PP g (aJ cj a1 f1 :: w1) H := (hP.perm pmA).mem fun q h => List.mem_append_left _ h
  have hsz : ∀ q, H.size ≤ q → gb g ≤ q := fun q h => by have := hS.1; omega
  have hFl : ∀ q, va_A (aJ cj a1 f1 :: w1) H.size q → gb g ≤ q := va_A_sub hDc (Nat.le_refl _) hsz
  refine lv_aload_n hx hb dL_law_1066 rfl (lv_at hl 2 rfl) ?_
  refine lv_aload_n hx hb dL_law_1067 rfl (lv_at hl 1 rfl) ?_
  refine lv_iload hx hb dL_law_1068 (lv_at hl 0 rfl) ?_
  refine jr_iconst hx hb dL_law_1070 ?_
  refine jr_iadd hx hb dL_law_1071 ?_
  refine va_sld hx hb hX hbl hbA hS (jI_in (by omega) (by omega) (by omega)) dL_law_1072 ?_
  rw [hx1]
  refine lv_aload_n hx hb dL_law_1073 rfl (lv_at hl 4 rfl) ?_
  refine jk_Qi (vx_runSW (As := [.ref ox, vi v1, .ref a1]) (rest := []) ⟨hx, hb, hml, hown, htl⟩ (m_L_likeness l hsT g cj cd ox a1 f1 S w1 hCW H.size v1 hv1) (vx_cwSW 3 htl lkH_likeness rfl rfl rfl cwS_L_likeness ⟨Nat.le_of_ble_eq_true rfl, Nat.le_of_ble_eq_true rfl⟩) (jp_H hKK hKJ hS hAb ⟨rfl, hPc, hDc⟩) rfl rfl hl.1 rfl (lv_room (Nat.le_of_ble_eq_true rfl)) dL_law_1074 ⟨by show _ ≤ 603072; omega, by show _ ≤ 7219306; omega⟩) hS (fun q _ h => hFl q h) hFl (fun z3 H1 locs hz3 hzs hks hS => ?_)
  obtain ⟨hz3, v1w, fn, hcase, hP1, hD1⟩ := hz3
  obtain ⟨hP, hD⟩ := lj_H hP hD hks hFl hP1 hD1
  subst hz3
  clear hks hzs hP1 hD1 hFl hsz hPc hDc; generalize H1 = H at hP hD hS ⊢
  refine W.widen (k := 50 + 361 * (k + 1)) (n := 13700 + 13026 * (k + 1)) (by omega) (by omega) ?_
  refine lv_istore (lv' := [(6, vi (cdUD S v1)), (5, vi (i : Int)), (0, .ref b), (1, .ref ox), (2, .ref om), (3, .ref a1), (4, .ref a2)]) hx hb dL_law_1077 hl (by decide) rfl (fun ls hl => ?_)
  refine lv_aload_n hx hb dL_law_1079 rfl (lv_at hl 4 rfl) ?_
  refine lv_aload_n hx hb dL_law_1080 rfl (lv_at hl 2 rfl) ?_
  refine lv_iload hx hb dL_law_1081 (lv_at hl 1 rfl) ?_
  refine jr_iconst hx hb dL_law_1083 ?_
  refine jr_iadd hx hb dL_law_1084 ?_
  refine va_sld hx hb hX hbl hbA hS (jI_in (by omega) (by omega) (by omega)) dL_law_1085 ?_
  rw [hx1]
  have hPm : PP g w2 H := (hP.perm pmB).mem fun q h => List.mem_append_left _ h
  have hDm := (hD.perm pmB).left
  have hsz : ∀ q, H.size ≤ q → gb g ≤ q := fun q h => by have := hS.1; omega
  refine jk_Qi (va_runV (As := [vi v1]) (rest := []) ⟨hx, hb, hml, hown, htl⟩ (m_X11_likeness l g om S z w2 hMW v1 hv1) (cwV 1 htl lk_L_196 rfl rfl rfl cwV_X11_likeness ⟨Nat.le_of_ble_eq_true rfl, Nat.le_of_ble_eq_true rfl⟩) (jp_V hKK hS hAb (MW.recv hKK hMW hPm) ⟨hPm, hDm⟩) rfl rfl hl.1 rfl (lv_room (Nat.le_of_ble_eq_true rfl)) dL_law_1086 ⟨by show _ ≤ 603072; omega, by show _ ≤ 7219306; omega⟩) hS (fun q _ h => hDm.inA h) (fun q h => hDm.inA h) (fun zm H1 locs hzm hzs hks hS => ?_)
  obtain ⟨S9, v2w, hC9, hM9, hI9, hP2, hD2, hval⟩ : ∃ (S9 : SGM) (v2w : va_W), CW g ox S9 v1w ∧ MW g om S9 (cdUD S v1) v2w ∧ SI S9 ∧ PP g v2w H1 ∧ va_D (jA w2) v2w ∧ ((cdUD S v1) = 0 → fn 0 = (jI (lk S.2.2.2.1 S.1 (ug S v1).1)).toInt64 ∧ zm = lk S.2.2.2.1 S.1 (ug S v1).1) := by
    rcases hcase with ⟨h1, h2, h3⟩ | ⟨h1, h2⟩ <;> rcases hzm with ⟨h4, h5, v2w, h6, h7, h8⟩ | ⟨h4, v2w, h6, h7, h8⟩
    · exact ⟨(S), v2w, h2, by rw [h1]; exact h6, hSI, h7, h8, fun _ => ⟨h3, h5⟩⟩
    · exact absurd h1 h4
    · exact absurd h4 h1
    · exact ⟨S, v2w, h2, h6, hSI, h7, h8, fun q => absurd q h1⟩
  obtain ⟨hP, hD⟩ := lj_M hP hD hsz hks hP2 hD2
  clear hcase hks hzs hP2 hD2 hPm hDm hsz hzm; generalize H1 = H at hP hD hS ⊢
  refine lv_istore (lv' := [(7, vi zm), (6, vi (cdUD S v1)), (5, vi (i : Int)), (0, .ref b), (1, .ref ox), (2, .ref om), (3, .ref a1), (4, .ref a2)]) hx hb dL_law_1089 hl (by decide) rfl (fun ls hl => ?_)
  refine lv_aload_n hx hb dL_law_1091 rfl (lv_at hl 5 rfl) ?_
  refine jk_Si (va_runV (As := []) (rest := []) ⟨hx, hb, hml, hown, htl⟩ (m_X11_thrownW l g om S9 (cdUD S v1) v2w hM9) (cwV 0 htl lk_L_140 rfl rfl rfl cwV_X11_thrown ⟨Nat.le_of_ble_eq_true rfl, Nat.le_of_ble_eq_true rfl⟩) (jp_V hKK hS hAb (MW.recv hKK hM9 (hP.mem fun q h => List.mem_cons_of_mem _ (List.mem_cons_of_mem _ (List.mem_append_right _ h)))) (hP.mem fun q h => List.mem_cons_of_mem _ (List.mem_cons_of_mem _ (List.mem_append_right _ h)))) rfl rfl hl.1 rfl (lv_room (Nat.le_of_ble_eq_true rfl)) dL_law_1092 ⟨by show _ ≤ 603072; omega, by show _ ≤ 7219306; omega⟩) (fun z4 hz4 => ?_)
  subst hz4
  refine lv_iload hx hb dL_law_1095 (lv_at hl 1 rfl) ?_
  refine lv_icmp_eq (tgt := 1102) hx hb dL_law_1097 (by decide) (fun _ => ?_) (fun h9 => absurd rfl h9)
  refine lv_iload hx hb dL_law_1102 (lv_at hl 1 rfl) ?_
  have hcdR : jR (cdUD S v1) := by unfold cdUD; (repeat' split) <;> exact ⟨by omega, by omega⟩
  refine lv_if_ne (tgt := 1119) hx hb dL_law_1104 (by decide) (fun h9 => ?_) (fun h9 => ?_)
  · refine lv_goto (tgt := 2202) hx hb dL_law_1119 (by decide) ?_
    refine jr_iinc (lv' := [(5, vi ((i : Int) + 5)), (7, vi zm), (6, vi (cdUD S v1)), (0, .ref b), (1, .ref ox), (2, .ref om), (3, .ref a1), (4, .ref a2)]) hx hb dL_law_2202 hl (k := 2) rfl rfl (by decide) rfl (fun ls hl => ?_)
    refine lv_goto (tgt := 28) hx hb dL_law_2205 (by decide) ?_
    exact K S9 _ v1w v2w fn f2 H locs hC9 hM9 hI9 hP hD hS ls (lv_sub hl [0, 3, 4, 5, 6, 7] rfl)
  · have hc0 : (cdUD S v1) = 0 := (jI_inj hcdR ⟨by omega, by omega⟩).mp h9
    obtain ⟨hLV, hZ⟩ := hval hc0
    subst hZ
    refine lv_aload_n hx hb dL_law_1107 rfl (lv_at hl 6 rfl) ?_
    refine jr_iconst hx hb dL_law_1108 ?_
    refine va_lald hx hb hKJ hP 0 0 rfl rfl (jI_in (by omega) (by omega) (by omega)) dL_law_1109 ?_
    rw [show (jI 0).toNatClampNeg = 0 from rfl, hLV]
    refine lv_iload hx hb dL_law_1110 (lv_at hl 0 rfl) ?_
    refine lv_i2l hx hb dL_law_1112 rfl ?_
    refine W.lcmp hx hb dL_law_1113 ?_
    refine lv_if_eq (tgt := 1119) hx hb dL_law_1114 (by decide) (fun _ => ?_) (fun h9 => absurd (lg_cmp_self _) h9)
    refine lv_goto (tgt := 2202) hx hb dL_law_1119 (by decide) ?_
    refine jr_iinc (lv' := [(5, vi ((i : Int) + 5)), (7, vi (lk S.2.2.2.1 S.1 (ug S v1).1)), (6, vi (cdUD S v1)), (0, .ref b), (1, .ref ox), (2, .ref om), (3, .ref a1), (4, .ref a2)]) hx hb dL_law_2202 hl (k := 2) rfl rfl (by decide) rfl (fun ls hl => ?_)
    refine lv_goto (tgt := 28) hx hb dL_law_2205 (by decide) ?_
    exact K S9 _ v1w v2w fn f2 H locs hC9 hM9 hI9 hP hD hS ls (lv_sub hl [0, 3, 4, 5, 6, 7] rfl)
set_option maxHeartbeats 4000000 in
set_option maxRecDepth 100000 in
theorem lc_missing (l : Launch) (hsT : l.stackTraces = false) {g : GT} {cj cd : ClassId} {p : Program} {e : Env} {s : State} {m : MethodId} {b : Nat} {below : List Frame} {meth : Method} {c : Code} {Q : State → Prop} {ox om a1 a2 i k L : Nat} {xs : Nat → Int32} (hx : p.tables.exec = Jvm.exec) (hb : c.code = cL_law) (hml : c.maxLocals = 9) (hown : s.vm.findClass RL = some m.cls) (htl : ∀ w ∈ WSL, w.before #[Value.ref b] s = true) (hKK : KK g s) (hKJ : KJ g cj cd s) (hgb : gb g = s.heap.size) (hX : va_X b L xs s s.heap) (hbl : b < s.heap.size) (hi : i + 5 ≤ L) (hL : L ≤ 2560) (hk : k < 512) (K : LK g cj cd p l e s m b below meth c Q ox om a1 a2 (i + 5) (k + 1))
    (S : SGM) (z : Int) (w1 w2 : va_W) (f1 : Nat → Int64) (f2 : Nat → UInt64) (H : Heap) (locs : List Loc) (hCW : CW g ox S w1) (hMW : MW g om S z w2) (hSI : SI S) (hP : PP g (aJ cj a1 f1 :: aD1 cd a2 f2 :: (w1 ++ w2)) H) (hD : va_D (fun q => gb g ≤ q) (aJ cj a1 f1 :: aD1 cd a2 f2 :: (w1 ++ w2))) (hS : va_S (fun q => gb g ≤ q) s.heap H locs) (ls : Array Slot) (hl : lv_has ls 9 [(5, vi (i : Int)), (0, .ref b), (1, .ref ox), (2, .ref om), (3, .ref a1), (4, .ref a2)]) : W p l e room_1 s m #[Value.ref b] below meth c H locs (50 + 361 * k) (13700 + 13026 * k) Q (F0 m 1122 ls []) := by
  have hbA : ¬ (fun q => gb g ≤ q) b := by show ¬ gb g ≤ b; omega
  have hAb : ∀ q, (fun q => gb g ≤ q) q → gb g ≤ q := fun _ h => h
  obtain ⟨v1, hv1, hx1⟩ : ∃ v : Int, jR v ∧ xs (jI ((i : Int) + 1)).toNatClampNeg = jI v := ⟨_, jR_of _, jI_of _⟩
  have hDc := (hD.perm pmA).left
  have hPc : PP g (aJ cj a1 f1 :: w1) H := (hP.perm pmA).mem fun q h => List.mem_append_left _ h
  have hsz : ∀ q, H.size ≤ q → gb g ≤ q := fun q h => by have := hS.1; omega
  have hFl : ∀ q, va_A (aJ cj a1 f1 :: w1) H.size q → gb g ≤ q := va_A_sub hDc (Nat.le_refl _) hsz
  refine lv_aload_n hx hb dL_law_1122 rfl (lv_at hl 2 rfl) ?_
  refine lv_aload_n hx hb dL_law_1123 rfl (lv_at hl 1 rfl) ?_
  refine lv_iload hx hb dL_law_1124 (lv_at hl 0 rfl) ?_
  refine jr_iconst hx hb dL_law_1126 ?_
  refine jr_iadd hx hb dL_law_1127 ?_
  refine va_sld hx hb hX hbl hbA hS (jI_in (by omega) (by omega) (by omega)) dL_law_1128 ?_
  rw [hx1]
  refine lv_aload_n hx hb dL_law_1129 rfl (lv_at hl 4 rfl) ?_
  refine jk_Qi (vx_runSW (As := [.ref ox, vi v1, .ref a1]) (rest := []) ⟨hx, hb, hml, hown, htl⟩ (m_L_missing l hsT g cj cd ox a1 f1 S w1 hCW H.size v1 hv1) (vx_cwSW 3 htl lkH_missing rfl rfl rfl cwS_L_missing ⟨Nat.le_of_ble_eq_true rfl, Nat.le_of_ble_eq_true rfl⟩) (jp_H hKK hKJ hS hAb ⟨rfl, hPc, hDc⟩) rfl rfl hl.1 rfl (lv_room (Nat.le_of_ble_eq_true rfl)) dL_law_1130 ⟨by show _ ≤ 603072; omega, by show _ ≤ 7219306; omega⟩) hS (fun q _ h => hFl q h) hFl (fun z3 H1 locs hz3 hzs hks hS => ?_)
  obtain ⟨hz3, v1w, fn, hcase, hP1, hD1⟩ := hz3
  obtain ⟨hP, hD⟩ := lj_H hP hD hks hFl hP1 hD1
  subst hz3
  clear hks hzs hP1 hD1 hFl hsz hPc hDc; generalize H1 = H at hP hD hS ⊢
  refine W.widen (k := 50 + 361 * (k + 1)) (n := 13700 + 13026 * (k + 1)) (by omega) (by omega) ?_
  refine lv_istore (lv' := [(6, vi (cdUD S v1)), (5, vi (i : Int)), (0, .ref b), (1, .ref ox), (2, .ref om), (3, .ref a1), (4, .ref a2)]) hx hb dL_law_1133 hl (by decide) rfl (fun ls hl => ?_)
  refine lv_aload_n hx hb dL_law_1135 rfl (lv_at hl 4 rfl) ?_
  refine lv_aload_n hx hb dL_law_1136 rfl (lv_at hl 2 rfl) ?_
  refine lv_iload hx hb dL_law_1137 (lv_at hl 1 rfl) ?_
  refine jr_iconst hx hb dL_law_1139 ?_
  refine jr_iadd hx hb dL_law_1140 ?_
  refine va_sld hx hb hX hbl hbA hS (jI_in (by omega) (by omega) (by omega)) dL_law_1141 ?_
  rw [hx1]
  have hPm : PP g w2 H := (hP.perm pmB).mem fun q h => List.mem_append_left _ h
  have hDm := (hD.perm pmB).left
  have hsz : ∀ q, H.size ≤ q → gb g ≤ q := fun q h => by have := hS.1; omega
  refine jk_Qi (va_runV (As := [vi v1]) (rest := []) ⟨hx, hb, hml, hown, htl⟩ (m_X11_missing l g om S z w2 hMW v1 hv1) (cwV 1 htl lk_L_199 rfl rfl rfl cwV_X11_missing ⟨Nat.le_of_ble_eq_true rfl, Nat.le_of_ble_eq_true rfl⟩) (jp_V hKK hS hAb (MW.recv hKK hMW hPm) ⟨hPm, hDm⟩) rfl rfl hl.1 rfl (lv_room (Nat.le_of_ble_eq_true rfl)) dL_law_1142 ⟨by show _ ≤ 603072; omega, by show _ ≤ 7219306; omega⟩) hS (fun q _ h => hDm.inA h) (fun q h => hDm.inA h) (fun zm H1 locs hzm hzs hks hS => ?_)
  obtain ⟨S9, v2w, hC9, hM9, hI9, hP2, hD2, hval⟩ : ∃ (S9 : SGM) (v2w : va_W), CW g ox S9 v1w ∧ MW g om S9 (cdUD S v1) v2w ∧ SI S9 ∧ PP g v2w H1 ∧ va_D (jA w2) v2w ∧ ((cdUD S v1) = 0 → fn 0 = (jI (ms S.2.2.2.2.1 S.1 (ug S v1).2.1)).toInt64 ∧ zm = ms S.2.2.2.2.1 S.1 (ug S v1).2.1) := by
    rcases hcase with ⟨h1, h2, h3⟩ | ⟨h1, h2⟩ <;> rcases hzm with ⟨h4, h5, v2w, h6, h7, h8⟩ | ⟨h4, v2w, h6, h7, h8⟩
    · exact ⟨S, v2w, h2, by rw [h1]; exact h6, hSI, h7, h8, fun _ => ⟨h3, h5⟩⟩
    · exact absurd h1 h4
    · exact absurd h4 h1
    · exact ⟨S, v2w, h2, h6, hSI, h7, h8, fun q => absurd q h1⟩
  obtain ⟨hP, hD⟩ := lj_M hP hD hsz hks hP2 hD2
  clear hcase hks hzs hP2 hD2 hPm hDm hsz hzm; generalize H1 = H at hP hD hS ⊢
  refine lv_istore (lv' := [(7, vi zm), (6, vi (cdUD S v1)), (5, vi (i : Int)), (0, .ref b), (1, .ref ox), (2, .ref om), (3, .ref a1), (4, .ref a2)]) hx hb dL_law_1145 hl (by decide) rfl (fun ls hl => ?_)
  refine lv_aload_n hx hb dL_law_1147 rfl (lv_at hl 5 rfl) ?_
  refine jk_Si (va_runV (As := []) (rest := []) ⟨hx, hb, hml, hown, htl⟩ (m_X11_thrownW l g om S9 (cdUD S v1) v2w hM9) (cwV 0 htl lk_L_140 rfl rfl rfl cwV_X11_thrown ⟨Nat.le_of_ble_eq_true rfl, Nat.le_of_ble_eq_true rfl⟩) (jp_V hKK hS hAb (MW.recv hKK hM9 (hP.mem fun q h => List.mem_cons_of_mem _ (List.mem_cons_of_mem _ (List.mem_append_right _ h)))) (hP.mem fun q h => List.mem_cons_of_mem _ (List.mem_cons_of_mem _ (List.mem_append_right _ h)))) rfl rfl hl.1 rfl (lv_room (Nat.le_of_ble_eq_true rfl)) dL_law_1148 ⟨by show _ ≤ 603072; omega, by show _ ≤ 7219306; omega⟩) (fun z4 hz4 => ?_)
  subst hz4
  refine lv_iload hx hb dL_law_1151 (lv_at hl 1 rfl) ?_
  refine lv_icmp_eq (tgt := 1158) hx hb dL_law_1153 (by decide) (fun _ => ?_) (fun h9 => absurd rfl h9)
  refine lv_iload hx hb dL_law_1158 (lv_at hl 1 rfl) ?_
  have hcdR : jR (cdUD S v1) := by unfold cdUD; (repeat' split) <;> exact ⟨by omega, by omega⟩
  refine lv_if_ne (tgt := 1175) hx hb dL_law_1160 (by decide) (fun h9 => ?_) (fun h9 => ?_)
  · refine lv_goto (tgt := 2202) hx hb dL_law_1175 (by decide) ?_
    refine jr_iinc (lv' := [(5, vi ((i : Int) + 5)), (7, vi zm), (6, vi (cdUD S v1)), (0, .ref b), (1, .ref ox), (2, .ref om), (3, .ref a1), (4, .ref a2)]) hx hb dL_law_2202 hl (k := 2) rfl rfl (by decide) rfl (fun ls hl => ?_)
    refine lv_goto (tgt := 28) hx hb dL_law_2205 (by decide) ?_
    exact K S9 _ v1w v2w fn f2 H locs hC9 hM9 hI9 hP hD hS ls (lv_sub hl [0, 3, 4, 5, 6, 7] rfl)
  · have hc0 : (cdUD S v1) = 0 := (jI_inj hcdR ⟨by omega, by omega⟩).mp h9
    obtain ⟨hLV, hZ⟩ := hval hc0
    subst hZ
    refine lv_aload_n hx hb dL_law_1163 rfl (lv_at hl 6 rfl) ?_
    refine jr_iconst hx hb dL_law_1164 ?_
    refine va_lald hx hb hKJ hP 0 0 rfl rfl (jI_in (by omega) (by omega) (by omega)) dL_law_1165 ?_
    rw [show (jI 0).toNatClampNeg = 0 from rfl, hLV]
    refine lv_iload hx hb dL_law_1166 (lv_at hl 0 rfl) ?_
    refine lv_i2l hx hb dL_law_1168 rfl ?_
    refine W.lcmp hx hb dL_law_1169 ?_
    refine lv_if_eq (tgt := 1175) hx hb dL_law_1170 (by decide) (fun _ => ?_) (fun h9 => absurd (lg_cmp_self _) h9)
    refine lv_goto (tgt := 2202) hx hb dL_law_1175 (by decide) ?_
    refine jr_iinc (lv' := [(5, vi ((i : Int) + 5)), (7, vi (ms S.2.2.2.2.1 S.1 (ug S v1).2.1)), (6, vi (cdUD S v1)), (0, .ref b), (1, .ref ox), (2, .ref om), (3, .ref a1), (4, .ref a2)]) hx hb dL_law_2202 hl (k := 2) rfl rfl (by decide) rfl (fun ls hl => ?_)
    refine lv_goto (tgt := 28) hx hb dL_law_2205 (by decide) ?_
    exact K S9 _ v1w v2w fn f2 H locs hC9 hM9 hI9 hP hD hS ls (lv_sub hl [0, 3, 4, 5, 6, 7] rfl)
set_option maxHeartbeats 4000000 in
set_option maxRecDepth 100000 in
theorem lc_score (l : Launch) (hsT : l.stackTraces = false) {g : GT} {cj cd : ClassId} {p : Program} {e : Env} {s : State} {m : MethodId} {b : Nat} {below : List Frame} {meth : Method} {c : Code} {Q : State → Prop} {ox om a1 a2 i k L : Nat} {xs : Nat → Int32} (hx : p.tables.exec = Jvm.exec) (hb : c.code = cL_law) (hml : c.maxLocals = 9) (hown : s.vm.findClass RL = some m.cls) (htl : ∀ w ∈ WSL, w.before #[Value.ref b] s = true) (hKK : KK g s) (hKJ : KJ g cj cd s) (hgb : gb g = s.heap.size) (hX : va_X b L xs s s.heap) (hbl : b < s.heap.size) (hi : i + 5 ≤ L) (hL : L ≤ 2560) (hk : k < 512) (K : LK g cj cd p l e s m b below meth c Q ox om a1 a2 (i + 5) (k + 1))
    (S : SGM) (z : Int) (w1 w2 : va_W) (f1 : Nat → Int64) (f2 : Nat → UInt64) (H : Heap) (locs : List Loc) (hCW : CW g ox S w1) (hMW : MW g om S z w2) (hSI : SI S) (hP : PP g (aJ cj a1 f1 :: aD1 cd a2 f2 :: (w1 ++ w2)) H) (hD : va_D (fun q => gb g ≤ q) (aJ cj a1 f1 :: aD1 cd a2 f2 :: (w1 ++ w2))) (hS : va_S (fun q => gb g ≤ q) s.heap H locs) (ls : Array Slot) (hl : lv_has ls 9 [(5, vi (i : Int)), (0, .ref b), (1, .ref ox), (2, .ref om), (3, .ref a1), (4, .ref a2)]) : W p l e room_1 s m #[Value.ref b] below meth c H locs (50 + 361 * k) (13700 + 13026 * k) Q (F0 m 1178 ls []) := by
  have hbA : ¬ (fun q => gb g ≤ q) b := by show ¬ gb g ≤ b; omega
  have hAb : ∀ q, (fun q => gb g ≤ q) q → gb g ≤ q := fun _ h => h
  obtain ⟨v1, hv1, hx1⟩ : ∃ v : Int, jR v ∧ xs (jI ((i : Int) + 1)).toNatClampNeg = jI v := ⟨_, jR_of _, jI_of _⟩
  have hDc := (hD.perm pmA).left
  have hPc : PP g (aJ cj a1 f1 :: w1) H := (hP.perm pmA).mem fun q h => List.mem_append_left _ h
  have hsz : ∀ q, H.size ≤ q → gb g ≤ q := fun q h => by have := hS.1; omega
  have hFl : ∀ q, va_A (aJ cj a1 f1 :: w1) H.size q → gb g ≤ q := va_A_sub hDc (Nat.le_refl _) hsz
  refine lv_aload_n hx hb dL_law_1178 rfl (lv_at hl 2 rfl) ?_
  refine lv_aload_n hx hb dL_law_1179 rfl (lv_at hl 1 rfl) ?_
  refine lv_iload hx hb dL_law_1180 (lv_at hl 0 rfl) ?_
  refine jr_iconst hx hb dL_law_1182 ?_
  refine jr_iadd hx hb dL_law_1183 ?_
  refine va_sld hx hb hX hbl hbA hS (jI_in (by omega) (by omega) (by omega)) dL_law_1184 ?_
  rw [hx1]
  refine lv_aload_n hx hb dL_law_1185 rfl (lv_at hl 4 rfl) ?_
  refine jk_Qi (vx_runSW (As := [.ref ox, vi v1, .ref a1]) (rest := []) ⟨hx, hb, hml, hown, htl⟩ (m_L_score l hsT g cj cd ox a1 f1 S w1 hCW H.size v1 hv1) (vx_cwSW 3 htl lkH_score rfl rfl rfl cwS_L_score ⟨Nat.le_of_ble_eq_true rfl, Nat.le_of_ble_eq_true rfl⟩) (jp_H hKK hKJ hS hAb ⟨rfl, hPc, hDc⟩) rfl rfl hl.1 rfl (lv_room (Nat.le_of_ble_eq_true rfl)) dL_law_1186 ⟨by show _ ≤ 603072; omega, by show _ ≤ 7219306; omega⟩) hS (fun q _ h => hFl q h) hFl (fun z3 H1 locs hz3 hzs hks hS => ?_)
  obtain ⟨hz3, v1w, fn, hcase, hP1, hD1⟩ := hz3
  obtain ⟨hP, hD⟩ := lj_H hP hD hks hFl hP1 hD1
  subst hz3
  clear hks hzs hP1 hD1 hFl hsz hPc hDc; generalize H1 = H at hP hD hS ⊢
  refine W.widen (k := 50 + 361 * (k + 1)) (n := 13700 + 13026 * (k + 1)) (by omega) (by omega) ?_
  refine lv_istore (lv' := [(6, vi (cdUD S v1)), (5, vi (i : Int)), (0, .ref b), (1, .ref ox), (2, .ref om), (3, .ref a1), (4, .ref a2)]) hx hb dL_law_1189 hl (by decide) rfl (fun ls hl => ?_)
  refine lv_aload_n hx hb dL_law_1191 rfl (lv_at hl 4 rfl) ?_
  refine lv_aload_n hx hb dL_law_1192 rfl (lv_at hl 2 rfl) ?_
  refine lv_iload hx hb dL_law_1193 (lv_at hl 1 rfl) ?_
  refine jr_iconst hx hb dL_law_1195 ?_
  refine jr_iadd hx hb dL_law_1196 ?_
  refine va_sld hx hb hX hbl hbA hS (jI_in (by omega) (by omega) (by omega)) dL_law_1197 ?_
  rw [hx1]
  have hPm : PP g w2 H := (hP.perm pmB).mem fun q h => List.mem_append_left _ h
  have hDm := (hD.perm pmB).left
  have hsz : ∀ q, H.size ≤ q → gb g ≤ q := fun q h => by have := hS.1; omega
  refine jk_Qi (va_runV (As := [vi v1]) (rest := []) ⟨hx, hb, hml, hown, htl⟩ (m_X11_score l g om S z w2 hMW v1 hv1) (cwV 1 htl lk_L_202 rfl rfl rfl cwV_X11_score ⟨Nat.le_of_ble_eq_true rfl, Nat.le_of_ble_eq_true rfl⟩) (jp_V hKK hS hAb (MW.recv hKK hMW hPm) ⟨hPm, hDm⟩) rfl rfl hl.1 rfl (lv_room (Nat.le_of_ble_eq_true rfl)) dL_law_1198 ⟨by show _ ≤ 603072; omega, by show _ ≤ 7219306; omega⟩) hS (fun q _ h => hDm.inA h) (fun q h => hDm.inA h) (fun zm H1 locs hzm hzs hks hS => ?_)
  obtain ⟨S9, v2w, hC9, hM9, hI9, hP2, hD2, hval⟩ : ∃ (S9 : SGM) (v2w : va_W), CW g ox S9 v1w ∧ MW g om S9 (cdUD S v1) v2w ∧ SI S9 ∧ PP g v2w H1 ∧ va_D (jA w2) v2w ∧ ((cdUD S v1) = 0 → fn 0 = (jI (rate S.2.2.2.1 S.2.2.2.2.1 S.1 (ug S v1))).toInt64 ∧ zm = rate S.2.2.2.1 S.2.2.2.2.1 S.1 (ug S v1)) := by
    rcases hcase with ⟨h1, h2, h3⟩ | ⟨h1, h2⟩ <;> rcases hzm with ⟨h4, h5, v2w, h6, h7, h8⟩ | ⟨h4, v2w, h6, h7, h8⟩
    · exact ⟨(S), v2w, h2, by rw [h1]; exact h6, hSI, h7, h8, fun _ => ⟨h3, h5⟩⟩
    · exact absurd h1 h4
    · exact absurd h4 h1
    · exact ⟨S, v2w, h2, h6, hSI, h7, h8, fun q => absurd q h1⟩
  obtain ⟨hP, hD⟩ := lj_M hP hD hsz hks hP2 hD2
  clear hcase hks hzs hP2 hD2 hPm hDm hsz hzm; generalize H1 = H at hP hD hS ⊢
  refine lv_istore (lv' := [(7, vi zm), (6, vi (cdUD S v1)), (5, vi (i : Int)), (0, .ref b), (1, .ref ox), (2, .ref om), (3, .ref a1), (4, .ref a2)]) hx hb dL_law_1201 hl (by decide) rfl (fun ls hl => ?_)
  refine lv_aload_n hx hb dL_law_1203 rfl (lv_at hl 5 rfl) ?_
  refine jk_Si (va_runV (As := []) (rest := []) ⟨hx, hb, hml, hown, htl⟩ (m_X11_thrownW l g om S9 (cdUD S v1) v2w hM9) (cwV 0 htl lk_L_140 rfl rfl rfl cwV_X11_thrown ⟨Nat.le_of_ble_eq_true rfl, Nat.le_of_ble_eq_true rfl⟩) (jp_V hKK hS hAb (MW.recv hKK hM9 (hP.mem fun q h => List.mem_cons_of_mem _ (List.mem_cons_of_mem _ (List.mem_append_right _ h)))) (hP.mem fun q h => List.mem_cons_of_mem _ (List.mem_cons_of_mem _ (List.mem_append_right _ h)))) rfl rfl hl.1 rfl (lv_room (Nat.le_of_ble_eq_true rfl)) dL_law_1204 ⟨by show _ ≤ 603072; omega, by show _ ≤ 7219306; omega⟩) (fun z4 hz4 => ?_)
  subst hz4
  refine lv_iload hx hb dL_law_1207 (lv_at hl 1 rfl) ?_
  refine lv_icmp_eq (tgt := 1214) hx hb dL_law_1209 (by decide) (fun _ => ?_) (fun h9 => absurd rfl h9)
  refine lv_iload hx hb dL_law_1214 (lv_at hl 1 rfl) ?_
  have hcdR : jR (cdUD S v1) := by unfold cdUD; (repeat' split) <;> exact ⟨by omega, by omega⟩
  refine lv_if_ne (tgt := 1231) hx hb dL_law_1216 (by decide) (fun h9 => ?_) (fun h9 => ?_)
  · refine lv_goto (tgt := 2202) hx hb dL_law_1231 (by decide) ?_
    refine jr_iinc (lv' := [(5, vi ((i : Int) + 5)), (7, vi zm), (6, vi (cdUD S v1)), (0, .ref b), (1, .ref ox), (2, .ref om), (3, .ref a1), (4, .ref a2)]) hx hb dL_law_2202 hl (k := 2) rfl rfl (by decide) rfl (fun ls hl => ?_)
    refine lv_goto (tgt := 28) hx hb dL_law_2205 (by decide) ?_
    exact K S9 _ v1w v2w fn f2 H locs hC9 hM9 hI9 hP hD hS ls (lv_sub hl [0, 3, 4, 5, 6, 7] rfl)
  · have hc0 : (cdUD S v1) = 0 := (jI_inj hcdR ⟨by omega, by omega⟩).mp h9
    obtain ⟨hLV, hZ⟩ := hval hc0
    subst hZ
    refine lv_aload_n hx hb dL_law_1219 rfl (lv_at hl 6 rfl) ?_
    refine jr_iconst hx hb dL_law_1220 ?_
    refine va_lald hx hb hKJ hP 0 0 rfl rfl (jI_in (by omega) (by omega) (by omega)) dL_law_1221 ?_
    rw [show (jI 0).toNatClampNeg = 0 from rfl, hLV]
    refine lv_iload hx hb dL_law_1222 (lv_at hl 0 rfl) ?_
    refine lv_i2l hx hb dL_law_1224 rfl ?_
    refine W.lcmp hx hb dL_law_1225 ?_
    refine lv_if_eq (tgt := 1231) hx hb dL_law_1226 (by decide) (fun _ => ?_) (fun h9 => absurd (lg_cmp_self _) h9)
    refine lv_goto (tgt := 2202) hx hb dL_law_1231 (by decide) ?_
    refine jr_iinc (lv' := [(5, vi ((i : Int) + 5)), (7, vi (rate S.2.2.2.1 S.2.2.2.2.1 S.1 (ug S v1))), (6, vi (cdUD S v1)), (0, .ref b), (1, .ref ox), (2, .ref om), (3, .ref a1), (4, .ref a2)]) hx hb dL_law_2202 hl (k := 2) rfl rfl (by decide) rfl (fun ls hl => ?_)
    refine lv_goto (tgt := 28) hx hb dL_law_2205 (by decide) ?_
    exact K S9 _ v1w v2w fn f2 H locs hC9 hM9 hI9 hP hD hS ls (lv_sub hl [0, 3, 4, 5, 6, 7] rfl)
set_option maxHeartbeats 4000000 in
set_option maxRecDepth 100000 in
theorem lc_sharedPairs (l : Launch) (hsT : l.stackTraces = false) {g : GT} {cj cd : ClassId} {p : Program} {e : Env} {s : State} {m : MethodId} {b : Nat} {below : List Frame} {meth : Method} {c : Code} {Q : State → Prop} {ox om a1 a2 i k L : Nat} {xs : Nat → Int32} (hx : p.tables.exec = Jvm.exec) (hb : c.code = cL_law) (hml : c.maxLocals = 9) (hown : s.vm.findClass RL = some m.cls) (htl : ∀ w ∈ WSL, w.before #[Value.ref b] s = true) (hKK : KK g s) (hKJ : KJ g cj cd s) (hgb : gb g = s.heap.size) (hX : va_X b L xs s s.heap) (hbl : b < s.heap.size) (hi : i + 5 ≤ L) (hL : L ≤ 2560) (hk : k < 512) (K : LK g cj cd p l e s m b below meth c Q ox om a1 a2 (i + 5) (k + 1))
    (S : SGM) (z : Int) (w1 w2 : va_W) (f1 : Nat → Int64) (f2 : Nat → UInt64) (H : Heap) (locs : List Loc) (hCW : CW g ox S w1) (hMW : MW g om S z w2) (hSI : SI S) (hP : PP g (aJ cj a1 f1 :: aD1 cd a2 f2 :: (w1 ++ w2)) H) (hD : va_D (fun q => gb g ≤ q) (aJ cj a1 f1 :: aD1 cd a2 f2 :: (w1 ++ w2))) (hS : va_S (fun q => gb g ≤ q) s.heap H locs) (ls : Array Slot) (hl : lv_has ls 9 [(5, vi (i : Int)), (0, .ref b), (1, .ref ox), (2, .ref om), (3, .ref a1), (4, .ref a2)]) : W p l e room_1 s m #[Value.ref b] below meth c H locs (50 + 361 * k) (13700 + 13026 * k) Q (F0 m 1234 ls []) := by
  have hbA : ¬ (fun q => gb g ≤ q) b := by show ¬ gb g ≤ b; omega
  have hAb : ∀ q, (fun q => gb g ≤ q) q → gb g ≤ q := fun _ h => h
  obtain ⟨v1, hv1, hx1⟩ : ∃ v : Int, jR v ∧ xs (jI ((i : Int) + 1)).toNatClampNeg = jI v := ⟨_, jR_of _, jI_of _⟩
  have hDc := (hD.perm pmA).left
  have hPc : PP g (aJ cj a1 f1 :: w1) H := (hP.perm pmA).mem fun q h => List.mem_append_left _ h
  have hsz : ∀ q, H.size ≤ q → gb g ≤ q := fun q h => by have := hS.1; omega
  have hFl : ∀ q, va_A (aJ cj a1 f1 :: w1) H.size q → gb g ≤ q := va_A_sub hDc (Nat.le_refl _) hsz
  refine lv_aload_n hx hb dL_law_1234 rfl (lv_at hl 2 rfl) ?_
  refine lv_aload_n hx hb dL_law_1235 rfl (lv_at hl 1 rfl) ?_
  refine lv_iload hx hb dL_law_1236 (lv_at hl 0 rfl) ?_
  refine jr_iconst hx hb dL_law_1238 ?_
  refine jr_iadd hx hb dL_law_1239 ?_
  refine va_sld hx hb hX hbl hbA hS (jI_in (by omega) (by omega) (by omega)) dL_law_1240 ?_
  rw [hx1]
  refine lv_aload_n hx hb dL_law_1241 rfl (lv_at hl 4 rfl) ?_
  refine jk_Qi (vx_runSW (As := [.ref ox, vi v1, .ref a1]) (rest := []) ⟨hx, hb, hml, hown, htl⟩ (m_L_sharedPairs l hsT g cj cd ox a1 f1 S w1 hCW H.size v1 hv1) (vx_cwSW 3 htl lkH_sharedPairs rfl rfl rfl cwS_L_sharedPairs ⟨Nat.le_of_ble_eq_true rfl, Nat.le_of_ble_eq_true rfl⟩) (jp_H hKK hKJ hS hAb ⟨rfl, hPc, hDc⟩) rfl rfl hl.1 rfl (lv_room (Nat.le_of_ble_eq_true rfl)) dL_law_1242 ⟨by show _ ≤ 603072; omega, by show _ ≤ 7219306; omega⟩) hS (fun q _ h => hFl q h) hFl (fun z3 H1 locs hz3 hzs hks hS => ?_)
  obtain ⟨hz3, v1w, fn, hcase, hP1, hD1⟩ := hz3
  obtain ⟨hP, hD⟩ := lj_H hP hD hks hFl hP1 hD1
  subst hz3
  clear hks hzs hP1 hD1 hFl hsz hPc hDc; generalize H1 = H at hP hD hS ⊢
  refine W.widen (k := 50 + 361 * (k + 1)) (n := 13700 + 13026 * (k + 1)) (by omega) (by omega) ?_
  refine lv_istore (lv' := [(6, vi (cdUD S v1)), (5, vi (i : Int)), (0, .ref b), (1, .ref ox), (2, .ref om), (3, .ref a1), (4, .ref a2)]) hx hb dL_law_1245 hl (by decide) rfl (fun ls hl => ?_)
  refine lv_aload_n hx hb dL_law_1247 rfl (lv_at hl 4 rfl) ?_
  refine lv_aload_n hx hb dL_law_1248 rfl (lv_at hl 2 rfl) ?_
  refine lv_iload hx hb dL_law_1249 (lv_at hl 1 rfl) ?_
  refine jr_iconst hx hb dL_law_1251 ?_
  refine jr_iadd hx hb dL_law_1252 ?_
  refine va_sld hx hb hX hbl hbA hS (jI_in (by omega) (by omega) (by omega)) dL_law_1253 ?_
  rw [hx1]
  have hPm : PP g w2 H := (hP.perm pmB).mem fun q h => List.mem_append_left _ h
  have hDm := (hD.perm pmB).left
  have hsz : ∀ q, H.size ≤ q → gb g ≤ q := fun q h => by have := hS.1; omega
  refine jk_Qi (va_runV (As := [vi v1]) (rest := []) ⟨hx, hb, hml, hown, htl⟩ (m_X11_sharedPairs l g om S z w2 hMW v1 hv1) (cwV 1 htl lk_L_205 rfl rfl rfl cwV_X11_sharedPairs ⟨Nat.le_of_ble_eq_true rfl, Nat.le_of_ble_eq_true rfl⟩) (jp_V hKK hS hAb (MW.recv hKK hMW hPm) ⟨hPm, hDm⟩) rfl rfl hl.1 rfl (lv_room (Nat.le_of_ble_eq_true rfl)) dL_law_1254 ⟨by show _ ≤ 603072; omega, by show _ ≤ 7219306; omega⟩) hS (fun q _ h => hDm.inA h) (fun q h => hDm.inA h) (fun zm H1 locs hzm hzs hks hS => ?_)
  obtain ⟨S9, v2w, hC9, hM9, hI9, hP2, hD2, hval⟩ : ∃ (S9 : SGM) (v2w : va_W), CW g ox S9 v1w ∧ MW g om S9 (cdUD S v1) v2w ∧ SI S9 ∧ PP g v2w H1 ∧ va_D (jA w2) v2w ∧ ((cdUD S v1) = 0 → fn 0 = (jI (shA (pl S.1) (pl (ug S v1).1) ((pl S.1).length - 1))).toInt64 ∧ zm = shA (pl S.1) (pl (ug S v1).1) ((pl S.1).length - 1)) := by
    rcases hcase with ⟨h1, h2, h3⟩ | ⟨h1, h2⟩ <;> rcases hzm with ⟨h4, h5, v2w, h6, h7, h8⟩ | ⟨h4, v2w, h6, h7, h8⟩
    · exact ⟨(S), v2w, h2, by rw [h1]; exact h6, hSI, h7, h8, fun _ => ⟨h3, h5⟩⟩
    · exact absurd h1 h4
    · exact absurd h4 h1
    · exact ⟨S, v2w, h2, h6, hSI, h7, h8, fun q => absurd q h1⟩
  obtain ⟨hP, hD⟩ := lj_M hP hD hsz hks hP2 hD2
  clear hcase hks hzs hP2 hD2 hPm hDm hsz hzm; generalize H1 = H at hP hD hS ⊢
  refine lv_istore (lv' := [(7, vi zm), (6, vi (cdUD S v1)), (5, vi (i : Int)), (0, .ref b), (1, .ref ox), (2, .ref om), (3, .ref a1), (4, .ref a2)]) hx hb dL_law_1257 hl (by decide) rfl (fun ls hl => ?_)
  refine lv_aload_n hx hb dL_law_1259 rfl (lv_at hl 5 rfl) ?_
  refine jk_Si (va_runV (As := []) (rest := []) ⟨hx, hb, hml, hown, htl⟩ (m_X11_thrownW l g om S9 (cdUD S v1) v2w hM9) (cwV 0 htl lk_L_140 rfl rfl rfl cwV_X11_thrown ⟨Nat.le_of_ble_eq_true rfl, Nat.le_of_ble_eq_true rfl⟩) (jp_V hKK hS hAb (MW.recv hKK hM9 (hP.mem fun q h => List.mem_cons_of_mem _ (List.mem_cons_of_mem _ (List.mem_append_right _ h)))) (hP.mem fun q h => List.mem_cons_of_mem _ (List.mem_cons_of_mem _ (List.mem_append_right _ h)))) rfl rfl hl.1 rfl (lv_room (Nat.le_of_ble_eq_true rfl)) dL_law_1260 ⟨by show _ ≤ 603072; omega, by show _ ≤ 7219306; omega⟩) (fun z4 hz4 => ?_)
  subst hz4
  refine lv_iload hx hb dL_law_1263 (lv_at hl 1 rfl) ?_
  refine lv_icmp_eq (tgt := 1270) hx hb dL_law_1265 (by decide) (fun _ => ?_) (fun h9 => absurd rfl h9)
  refine lv_iload hx hb dL_law_1270 (lv_at hl 1 rfl) ?_
  have hcdR : jR (cdUD S v1) := by unfold cdUD; (repeat' split) <;> exact ⟨by omega, by omega⟩
  refine lv_if_ne (tgt := 1287) hx hb dL_law_1272 (by decide) (fun h9 => ?_) (fun h9 => ?_)
  · refine lv_goto (tgt := 2202) hx hb dL_law_1287 (by decide) ?_
    refine jr_iinc (lv' := [(5, vi ((i : Int) + 5)), (7, vi zm), (6, vi (cdUD S v1)), (0, .ref b), (1, .ref ox), (2, .ref om), (3, .ref a1), (4, .ref a2)]) hx hb dL_law_2202 hl (k := 2) rfl rfl (by decide) rfl (fun ls hl => ?_)
    refine lv_goto (tgt := 28) hx hb dL_law_2205 (by decide) ?_
    exact K S9 _ v1w v2w fn f2 H locs hC9 hM9 hI9 hP hD hS ls (lv_sub hl [0, 3, 4, 5, 6, 7] rfl)
  · have hc0 : (cdUD S v1) = 0 := (jI_inj hcdR ⟨by omega, by omega⟩).mp h9
    obtain ⟨hLV, hZ⟩ := hval hc0
    subst hZ
    refine lv_aload_n hx hb dL_law_1275 rfl (lv_at hl 6 rfl) ?_
    refine jr_iconst hx hb dL_law_1276 ?_
    refine va_lald hx hb hKJ hP 0 0 rfl rfl (jI_in (by omega) (by omega) (by omega)) dL_law_1277 ?_
    rw [show (jI 0).toNatClampNeg = 0 from rfl, hLV]
    refine lv_iload hx hb dL_law_1278 (lv_at hl 0 rfl) ?_
    refine lv_i2l hx hb dL_law_1280 rfl ?_
    refine W.lcmp hx hb dL_law_1281 ?_
    refine lv_if_eq (tgt := 1287) hx hb dL_law_1282 (by decide) (fun _ => ?_) (fun h9 => absurd (lg_cmp_self _) h9)
    refine lv_goto (tgt := 2202) hx hb dL_law_1287 (by decide) ?_
    refine jr_iinc (lv' := [(5, vi ((i : Int) + 5)), (7, vi (shA (pl S.1) (pl (ug S v1).1) ((pl S.1).length - 1))), (6, vi (cdUD S v1)), (0, .ref b), (1, .ref ox), (2, .ref om), (3, .ref a1), (4, .ref a2)]) hx hb dL_law_2202 hl (k := 2) rfl rfl (by decide) rfl (fun ls hl => ?_)
    refine lv_goto (tgt := 28) hx hb dL_law_2205 (by decide) ?_
    exact K S9 _ v1w v2w fn f2 H locs hC9 hM9 hI9 hP hD hS ls (lv_sub hl [0, 3, 4, 5, 6, 7] rfl)
set_option maxHeartbeats 4000000 in
set_option maxRecDepth 100000 in
theorem lc_best (l : Launch) (hsT : l.stackTraces = false) {g : GT} {cj cd : ClassId} {p : Program} {e : Env} {s : State} {m : MethodId} {b : Nat} {below : List Frame} {meth : Method} {c : Code} {Q : State → Prop} {ox om a1 a2 i k L : Nat} {xs : Nat → Int32} (hx : p.tables.exec = Jvm.exec) (hb : c.code = cL_law) (hml : c.maxLocals = 9) (hown : s.vm.findClass RL = some m.cls) (htl : ∀ w ∈ WSL, w.before #[Value.ref b] s = true) (hKK : KK g s) (hKJ : KJ g cj cd s) (hgb : gb g = s.heap.size) (hX : va_X b L xs s s.heap) (hbl : b < s.heap.size) (hi : i + 5 ≤ L) (hL : L ≤ 2560) (hk : k < 512) (K : LK g cj cd p l e s m b below meth c Q ox om a1 a2 (i + 5) (k + 1))
    (S : SGM) (z : Int) (w1 w2 : va_W) (f1 : Nat → Int64) (f2 : Nat → UInt64) (H : Heap) (locs : List Loc) (hCW : CW g ox S w1) (hMW : MW g om S z w2) (hSI : SI S) (hP : PP g (aJ cj a1 f1 :: aD1 cd a2 f2 :: (w1 ++ w2)) H) (hD : va_D (fun q => gb g ≤ q) (aJ cj a1 f1 :: aD1 cd a2 f2 :: (w1 ++ w2))) (hS : va_S (fun q => gb g ≤ q) s.heap H locs) (ls : Array Slot) (hl : lv_has ls 9 [(5, vi (i : Int)), (0, .ref b), (1, .ref ox), (2, .ref om), (3, .ref a1), (4, .ref a2)]) : W p l e room_1 s m #[Value.ref b] below meth c H locs (50 + 361 * k) (13700 + 13026 * k) Q (F0 m 1290 ls []) := by
  have hbA : ¬ (fun q => gb g ≤ q) b := by show ¬ gb g ≤ b; omega
  have hAb : ∀ q, (fun q => gb g ≤ q) q → gb g ≤ q := fun _ h => h
  have hDc := (hD.perm pmA).left
  have hPc : PP g (aJ cj a1 f1 :: w1) H := (hP.perm pmA).mem fun q h => List.mem_append_left _ h
  have hsz : ∀ q, H.size ≤ q → gb g ≤ q := fun q h => by have := hS.1; omega
  have hFl : ∀ q, va_A (aJ cj a1 f1 :: w1) H.size q → gb g ≤ q := va_A_sub hDc (Nat.le_refl _) hsz
  refine lv_aload_n hx hb dL_law_1290 rfl (lv_at hl 2 rfl) ?_
  refine lv_aload_n hx hb dL_law_1291 rfl (lv_at hl 4 rfl) ?_
  refine jk_Qi (vx_runSW (As := [.ref ox, .ref a1]) (rest := []) ⟨hx, hb, hml, hown, htl⟩ (m_L_best l hsT g cj cd ox a1 f1 S w1 hCW H.size ) (vx_cwSW 2 htl lkH_best rfl rfl rfl cwS_L_best ⟨Nat.le_of_ble_eq_true rfl, Nat.le_of_ble_eq_true rfl⟩) (jp_H hKK hKJ hS hAb ⟨rfl, hPc, hDc⟩) rfl rfl hl.1 rfl (lv_room (Nat.le_of_ble_eq_true rfl)) dL_law_1292 ⟨by show _ ≤ 603072; omega, by show _ ≤ 7219306; omega⟩) hS (fun q _ h => hFl q h) hFl (fun z3 H1 locs hz3 hzs hks hS => ?_)
  obtain ⟨hz3, v1w, fn, hcase, hP1, hD1⟩ := hz3
  obtain ⟨hP, hD⟩ := lj_H hP hD hks hFl hP1 hD1
  subst hz3
  clear hks hzs hP1 hD1 hFl hsz hPc hDc; generalize H1 = H at hP hD hS ⊢
  refine W.widen (k := 50 + 361 * (k + 1)) (n := 13700 + 13026 * (k + 1)) (by omega) (by omega) ?_
  refine lv_istore (lv' := [(6, vi (cdBest S)), (5, vi (i : Int)), (0, .ref b), (1, .ref ox), (2, .ref om), (3, .ref a1), (4, .ref a2)]) hx hb dL_law_1295 hl (by decide) rfl (fun ls hl => ?_)
  refine lv_aload_n hx hb dL_law_1297 rfl (lv_at hl 4 rfl) ?_
  have hPm : PP g w2 H := (hP.perm pmB).mem fun q h => List.mem_append_left _ h
  have hDm := (hD.perm pmB).left
  have hsz : ∀ q, H.size ≤ q → gb g ≤ q := fun q h => by have := hS.1; omega
  refine jk_Qi (va_runV (As := []) (rest := []) ⟨hx, hb, hml, hown, htl⟩ (m_X11_best l g om S z w2 hMW ) (cwV 0 htl lk_L_208 rfl rfl rfl cwV_X11_best ⟨Nat.le_of_ble_eq_true rfl, Nat.le_of_ble_eq_true rfl⟩) (jp_V hKK hS hAb (MW.recv hKK hMW hPm) ⟨hPm, hDm⟩) rfl rfl hl.1 rfl (lv_room (Nat.le_of_ble_eq_true rfl)) dL_law_1298 ⟨by show _ ≤ 603072; omega, by show _ ≤ 7219306; omega⟩) hS (fun q _ h => hDm.inA h) (fun q h => hDm.inA h) (fun zm H1 locs hzm hzs hks hS => ?_)
  obtain ⟨S9, v2w, hC9, hM9, hI9, hP2, hD2, hval⟩ : ∃ (S9 : SGM) (v2w : va_W), CW g ox S9 v1w ∧ MW g om S9 (cdBest S) v2w ∧ SI S9 ∧ PP g v2w H1 ∧ va_D (jA w2) v2w ∧ ((cdBest S) = 0 → fn 0 = (jI (bsU S S.1)).toInt64 ∧ zm = bsU S S.1) := by
    rcases hcase with ⟨h1, h2, h3⟩ | ⟨h1, h2⟩ <;> rcases hzm with ⟨h4, h5, v2w, h6, h7, h8⟩ | ⟨h4, v2w, h6, h7, h8⟩
    · exact ⟨(S), v2w, h2, by rw [h1]; exact h6, hSI, h7, h8, fun _ => ⟨h3, h5⟩⟩
    · exact absurd h1 h4
    · exact absurd h4 h1
    · exact ⟨S, v2w, h2, h6, hSI, h7, h8, fun q => absurd q h1⟩
  obtain ⟨hP, hD⟩ := lj_M hP hD hsz hks hP2 hD2
  clear hcase hks hzs hP2 hD2 hPm hDm hsz hzm; generalize H1 = H at hP hD hS ⊢
  refine lv_istore (lv' := [(7, vi zm), (6, vi (cdBest S)), (5, vi (i : Int)), (0, .ref b), (1, .ref ox), (2, .ref om), (3, .ref a1), (4, .ref a2)]) hx hb dL_law_1301 hl (by decide) rfl (fun ls hl => ?_)
  refine lv_aload_n hx hb dL_law_1303 rfl (lv_at hl 5 rfl) ?_
  refine jk_Si (va_runV (As := []) (rest := []) ⟨hx, hb, hml, hown, htl⟩ (m_X11_thrownW l g om S9 (cdBest S) v2w hM9) (cwV 0 htl lk_L_140 rfl rfl rfl cwV_X11_thrown ⟨Nat.le_of_ble_eq_true rfl, Nat.le_of_ble_eq_true rfl⟩) (jp_V hKK hS hAb (MW.recv hKK hM9 (hP.mem fun q h => List.mem_cons_of_mem _ (List.mem_cons_of_mem _ (List.mem_append_right _ h)))) (hP.mem fun q h => List.mem_cons_of_mem _ (List.mem_cons_of_mem _ (List.mem_append_right _ h)))) rfl rfl hl.1 rfl (lv_room (Nat.le_of_ble_eq_true rfl)) dL_law_1304 ⟨by show _ ≤ 603072; omega, by show _ ≤ 7219306; omega⟩) (fun z4 hz4 => ?_)
  subst hz4
  refine lv_iload hx hb dL_law_1307 (lv_at hl 1 rfl) ?_
  refine lv_icmp_eq (tgt := 1314) hx hb dL_law_1309 (by decide) (fun _ => ?_) (fun h9 => absurd rfl h9)
  refine lv_iload hx hb dL_law_1314 (lv_at hl 1 rfl) ?_
  have hcdR : jR (cdBest S) := by unfold cdBest; (repeat' split) <;> exact ⟨by omega, by omega⟩
  refine lv_if_ne (tgt := 1331) hx hb dL_law_1316 (by decide) (fun h9 => ?_) (fun h9 => ?_)
  · refine lv_goto (tgt := 2202) hx hb dL_law_1331 (by decide) ?_
    refine jr_iinc (lv' := [(5, vi ((i : Int) + 5)), (7, vi zm), (6, vi (cdBest S)), (0, .ref b), (1, .ref ox), (2, .ref om), (3, .ref a1), (4, .ref a2)]) hx hb dL_law_2202 hl (k := 2) rfl rfl (by decide) rfl (fun ls hl => ?_)
    refine lv_goto (tgt := 28) hx hb dL_law_2205 (by decide) ?_
    exact K S9 _ v1w v2w fn f2 H locs hC9 hM9 hI9 hP hD hS ls (lv_sub hl [0, 3, 4, 5, 6, 7] rfl)
  · have hc0 : (cdBest S) = 0 := (jI_inj hcdR ⟨by omega, by omega⟩).mp h9
    obtain ⟨hLV, hZ⟩ := hval hc0
    subst hZ
    refine lv_aload_n hx hb dL_law_1319 rfl (lv_at hl 6 rfl) ?_
    refine jr_iconst hx hb dL_law_1320 ?_
    refine va_lald hx hb hKJ hP 0 0 rfl rfl (jI_in (by omega) (by omega) (by omega)) dL_law_1321 ?_
    rw [show (jI 0).toNatClampNeg = 0 from rfl, hLV]
    refine lv_iload hx hb dL_law_1322 (lv_at hl 0 rfl) ?_
    refine lv_i2l hx hb dL_law_1324 rfl ?_
    refine W.lcmp hx hb dL_law_1325 ?_
    refine lv_if_eq (tgt := 1331) hx hb dL_law_1326 (by decide) (fun _ => ?_) (fun h9 => absurd (lg_cmp_self _) h9)
    refine lv_goto (tgt := 2202) hx hb dL_law_1331 (by decide) ?_
    refine jr_iinc (lv' := [(5, vi ((i : Int) + 5)), (7, vi (bsU S S.1)), (6, vi (cdBest S)), (0, .ref b), (1, .ref ox), (2, .ref om), (3, .ref a1), (4, .ref a2)]) hx hb dL_law_2202 hl (k := 2) rfl rfl (by decide) rfl (fun ls hl => ?_)
    refine lv_goto (tgt := 28) hx hb dL_law_2205 (by decide) ?_
    exact K S9 _ v1w v2w fn f2 H locs hC9 hM9 hI9 hP hD hS ls (lv_sub hl [0, 3, 4, 5, 6, 7] rfl)
set_option maxHeartbeats 4000000 in
set_option maxRecDepth 100000 in
theorem lc_bestOfAll (l : Launch) (hsT : l.stackTraces = false) {g : GT} {cj cd : ClassId} {p : Program} {e : Env} {s : State} {m : MethodId} {b : Nat} {below : List Frame} {meth : Method} {c : Code} {Q : State → Prop} {ox om a1 a2 i k L : Nat} {xs : Nat → Int32} (hx : p.tables.exec = Jvm.exec) (hb : c.code = cL_law) (hml : c.maxLocals = 9) (hown : s.vm.findClass RL = some m.cls) (htl : ∀ w ∈ WSL, w.before #[Value.ref b] s = true) (hKK : KK g s) (hKJ : KJ g cj cd s) (hgb : gb g = s.heap.size) (hX : va_X b L xs s s.heap) (hbl : b < s.heap.size) (hi : i + 5 ≤ L) (hL : L ≤ 2560) (hk : k < 512) (K : LK g cj cd p l e s m b below meth c Q ox om a1 a2 (i + 5) (k + 1))
    (S : SGM) (z : Int) (w1 w2 : va_W) (f1 : Nat → Int64) (f2 : Nat → UInt64) (H : Heap) (locs : List Loc) (hCW : CW g ox S w1) (hMW : MW g om S z w2) (hSI : SI S) (hP : PP g (aJ cj a1 f1 :: aD1 cd a2 f2 :: (w1 ++ w2)) H) (hD : va_D (fun q => gb g ≤ q) (aJ cj a1 f1 :: aD1 cd a2 f2 :: (w1 ++ w2))) (hS : va_S (fun q => gb g ≤ q) s.heap H locs) (ls : Array Slot) (hl : lv_has ls 9 [(5, vi (i : Int)), (0, .ref b), (1, .ref ox), (2, .ref om), (3, .ref a1), (4, .ref a2)]) : W p l e room_1 s m #[Value.ref b] below meth c H locs (50 + 361 * k) (13700 + 13026 * k) Q (F0 m 1334 ls []) := by
  have hbA : ¬ (fun q => gb g ≤ q) b := by show ¬ gb g ≤ b; omega
  have hAb : ∀ q, (fun q => gb g ≤ q) q → gb g ≤ q := fun _ h => h
  have hDc := (hD.perm pmA).left
  have hPc : PP g (aJ cj a1 f1 :: w1) H := (hP.perm pmA).mem fun q h => List.mem_append_left _ h
  have hsz : ∀ q, H.size ≤ q → gb g ≤ q := fun q h => by have := hS.1; omega
  have hFl : ∀ q, va_A (aJ cj a1 f1 :: w1) H.size q → gb g ≤ q := va_A_sub hDc (Nat.le_refl _) hsz
  refine lv_aload_n hx hb dL_law_1334 rfl (lv_at hl 2 rfl) ?_
  refine lv_aload_n hx hb dL_law_1335 rfl (lv_at hl 4 rfl) ?_
  refine jk_Qi (vx_runSW (As := [.ref ox, .ref a1]) (rest := []) ⟨hx, hb, hml, hown, htl⟩ (m_L_bestOfAll l hsT g cj cd ox a1 f1 S w1 hCW H.size ) (vx_cwSW 2 htl lkH_bestOfAll rfl rfl rfl cwS_L_bestOfAll ⟨Nat.le_of_ble_eq_true rfl, Nat.le_of_ble_eq_true rfl⟩) (jp_H hKK hKJ hS hAb ⟨rfl, hPc, hDc⟩) rfl rfl hl.1 rfl (lv_room (Nat.le_of_ble_eq_true rfl)) dL_law_1336 ⟨by show _ ≤ 603072; omega, by show _ ≤ 7219306; omega⟩) hS (fun q _ h => hFl q h) hFl (fun z3 H1 locs hz3 hzs hks hS => ?_)
  obtain ⟨hz3, v1w, fn, hcase, hP1, hD1⟩ := hz3
  obtain ⟨hP, hD⟩ := lj_H hP hD hks hFl hP1 hD1
  subst hz3
  clear hks hzs hP1 hD1 hFl hsz hPc hDc; generalize H1 = H at hP hD hS ⊢
  refine W.widen (k := 50 + 361 * (k + 1)) (n := 13700 + 13026 * (k + 1)) (by omega) (by omega) ?_
  refine lv_istore (lv' := [(6, vi (cdBest S)), (5, vi (i : Int)), (0, .ref b), (1, .ref ox), (2, .ref om), (3, .ref a1), (4, .ref a2)]) hx hb dL_law_1339 hl (by decide) rfl (fun ls hl => ?_)
  refine lv_aload_n hx hb dL_law_1341 rfl (lv_at hl 4 rfl) ?_
  have hPm : PP g w2 H := (hP.perm pmB).mem fun q h => List.mem_append_left _ h
  have hDm := (hD.perm pmB).left
  have hsz : ∀ q, H.size ≤ q → gb g ≤ q := fun q h => by have := hS.1; omega
  refine jk_Qi (va_runV (As := []) (rest := []) ⟨hx, hb, hml, hown, htl⟩ (m_X11_bestOfAll l g om S z w2 hMW ) (cwV 0 htl lk_L_211 rfl rfl rfl cwV_X11_bestOfAll ⟨Nat.le_of_ble_eq_true rfl, Nat.le_of_ble_eq_true rfl⟩) (jp_V hKK hS hAb (MW.recv hKK hMW hPm) ⟨hPm, hDm⟩) rfl rfl hl.1 rfl (lv_room (Nat.le_of_ble_eq_true rfl)) dL_law_1342 ⟨by show _ ≤ 603072; omega, by show _ ≤ 7219306; omega⟩) hS (fun q _ h => hDm.inA h) (fun q h => hDm.inA h) (fun zm H1 locs hzm hzs hks hS => ?_)
  obtain ⟨S9, v2w, hC9, hM9, hI9, hP2, hD2, hval⟩ : ∃ (S9 : SGM) (v2w : va_W), CW g ox S9 v1w ∧ MW g om S9 (cdBest S) v2w ∧ SI S9 ∧ PP g v2w H1 ∧ va_D (jA w2) v2w ∧ ((cdBest S) = 0 → fn 0 = (jI (bsU S S.1)).toInt64 ∧ zm = bsU S S.1) := by
    rcases hcase with ⟨h1, h2, h3⟩ | ⟨h1, h2⟩ <;> rcases hzm with ⟨h4, h5, v2w, h6, h7, h8⟩ | ⟨h4, v2w, h6, h7, h8⟩
    · exact ⟨(S), v2w, h2, by rw [h1]; exact h6, hSI, h7, h8, fun _ => ⟨h3, h5⟩⟩
    · exact absurd h1 h4
    · exact absurd h4 h1
    · exact ⟨S, v2w, h2, h6, hSI, h7, h8, fun q => absurd q h1⟩
  obtain ⟨hP, hD⟩ := lj_M hP hD hsz hks hP2 hD2
  clear hcase hks hzs hP2 hD2 hPm hDm hsz hzm; generalize H1 = H at hP hD hS ⊢
  refine lv_istore (lv' := [(7, vi zm), (6, vi (cdBest S)), (5, vi (i : Int)), (0, .ref b), (1, .ref ox), (2, .ref om), (3, .ref a1), (4, .ref a2)]) hx hb dL_law_1345 hl (by decide) rfl (fun ls hl => ?_)
  refine lv_aload_n hx hb dL_law_1347 rfl (lv_at hl 5 rfl) ?_
  refine jk_Si (va_runV (As := []) (rest := []) ⟨hx, hb, hml, hown, htl⟩ (m_X11_thrownW l g om S9 (cdBest S) v2w hM9) (cwV 0 htl lk_L_140 rfl rfl rfl cwV_X11_thrown ⟨Nat.le_of_ble_eq_true rfl, Nat.le_of_ble_eq_true rfl⟩) (jp_V hKK hS hAb (MW.recv hKK hM9 (hP.mem fun q h => List.mem_cons_of_mem _ (List.mem_cons_of_mem _ (List.mem_append_right _ h)))) (hP.mem fun q h => List.mem_cons_of_mem _ (List.mem_cons_of_mem _ (List.mem_append_right _ h)))) rfl rfl hl.1 rfl (lv_room (Nat.le_of_ble_eq_true rfl)) dL_law_1348 ⟨by show _ ≤ 603072; omega, by show _ ≤ 7219306; omega⟩) (fun z4 hz4 => ?_)
  subst hz4
  refine lv_iload hx hb dL_law_1351 (lv_at hl 1 rfl) ?_
  refine lv_icmp_eq (tgt := 1358) hx hb dL_law_1353 (by decide) (fun _ => ?_) (fun h9 => absurd rfl h9)
  refine lv_iload hx hb dL_law_1358 (lv_at hl 1 rfl) ?_
  have hcdR : jR (cdBest S) := by unfold cdBest; (repeat' split) <;> exact ⟨by omega, by omega⟩
  refine lv_if_ne (tgt := 1375) hx hb dL_law_1360 (by decide) (fun h9 => ?_) (fun h9 => ?_)
  · refine lv_goto (tgt := 2202) hx hb dL_law_1375 (by decide) ?_
    refine jr_iinc (lv' := [(5, vi ((i : Int) + 5)), (7, vi zm), (6, vi (cdBest S)), (0, .ref b), (1, .ref ox), (2, .ref om), (3, .ref a1), (4, .ref a2)]) hx hb dL_law_2202 hl (k := 2) rfl rfl (by decide) rfl (fun ls hl => ?_)
    refine lv_goto (tgt := 28) hx hb dL_law_2205 (by decide) ?_
    exact K S9 _ v1w v2w fn f2 H locs hC9 hM9 hI9 hP hD hS ls (lv_sub hl [0, 3, 4, 5, 6, 7] rfl)
  · have hc0 : (cdBest S) = 0 := (jI_inj hcdR ⟨by omega, by omega⟩).mp h9
    obtain ⟨hLV, hZ⟩ := hval hc0
    subst hZ
    refine lv_aload_n hx hb dL_law_1363 rfl (lv_at hl 6 rfl) ?_
    refine jr_iconst hx hb dL_law_1364 ?_
    refine va_lald hx hb hKJ hP 0 0 rfl rfl (jI_in (by omega) (by omega) (by omega)) dL_law_1365 ?_
    rw [show (jI 0).toNatClampNeg = 0 from rfl, hLV]
    refine lv_iload hx hb dL_law_1366 (lv_at hl 0 rfl) ?_
    refine lv_i2l hx hb dL_law_1368 rfl ?_
    refine W.lcmp hx hb dL_law_1369 ?_
    refine lv_if_eq (tgt := 1375) hx hb dL_law_1370 (by decide) (fun _ => ?_) (fun h9 => absurd (lg_cmp_self _) h9)
    refine lv_goto (tgt := 2202) hx hb dL_law_1375 (by decide) ?_
    refine jr_iinc (lv' := [(5, vi ((i : Int) + 5)), (7, vi (bsU S S.1)), (6, vi (cdBest S)), (0, .ref b), (1, .ref ox), (2, .ref om), (3, .ref a1), (4, .ref a2)]) hx hb dL_law_2202 hl (k := 2) rfl rfl (by decide) rfl (fun ls hl => ?_)
    refine lv_goto (tgt := 28) hx hb dL_law_2205 (by decide) ?_
    exact K S9 _ v1w v2w fn f2 H locs hC9 hM9 hI9 hP hD hS ls (lv_sub hl [0, 3, 4, 5, 6, 7] rfl)
set_option maxHeartbeats 4000000 in
set_option maxRecDepth 100000 in
theorem lc_open (l : Launch) (hsT : l.stackTraces = false) {g : GT} {cj cd : ClassId} {p : Program} {e : Env} {s : State} {m : MethodId} {b : Nat} {below : List Frame} {meth : Method} {c : Code} {Q : State → Prop} {ox om a1 a2 i k L : Nat} {xs : Nat → Int32} (hx : p.tables.exec = Jvm.exec) (hb : c.code = cL_law) (hml : c.maxLocals = 9) (hown : s.vm.findClass RL = some m.cls) (htl : ∀ w ∈ WSL, w.before #[Value.ref b] s = true) (hKK : KK g s) (hKJ : KJ g cj cd s) (hgb : gb g = s.heap.size) (hX : va_X b L xs s s.heap) (hbl : b < s.heap.size) (hi : i + 5 ≤ L) (hL : L ≤ 2560) (hk : k < 512) (K : LK g cj cd p l e s m b below meth c Q ox om a1 a2 (i + 5) (k + 1))
    (S : SGM) (z : Int) (w1 w2 : va_W) (f1 : Nat → Int64) (f2 : Nat → UInt64) (H : Heap) (locs : List Loc) (hCW : CW g ox S w1) (hMW : MW g om S z w2) (hSI : SI S) (hP : PP g (aJ cj a1 f1 :: aD1 cd a2 f2 :: (w1 ++ w2)) H) (hD : va_D (fun q => gb g ≤ q) (aJ cj a1 f1 :: aD1 cd a2 f2 :: (w1 ++ w2))) (hS : va_S (fun q => gb g ≤ q) s.heap H locs) (ls : Array Slot) (hl : lv_has ls 9 [(5, vi (i : Int)), (0, .ref b), (1, .ref ox), (2, .ref om), (3, .ref a1), (4, .ref a2)]) : W p l e room_1 s m #[Value.ref b] below meth c H locs (50 + 361 * k) (13700 + 13026 * k) Q (F0 m 1378 ls []) := by
  have hbA : ¬ (fun q => gb g ≤ q) b := by show ¬ gb g ≤ b; omega
  have hAb : ∀ q, (fun q => gb g ≤ q) q → gb g ≤ q := fun _ h => h
  have hDc := (hD.perm pmA).left
  have hPc : PP g (aJ cj a1 f1 :: w1) H := (hP.perm pmA).mem fun q h => List.mem_append_left _ h
  have hsz : ∀ q, H.size ≤ q → gb g ≤ q := fun q h => by have := hS.1; omega
  have hFl : ∀ q, va_A (aJ cj a1 f1 :: w1) H.size q → gb g ≤ q := va_A_sub hDc (Nat.le_refl _) hsz
  refine lv_aload_n hx hb dL_law_1378 rfl (lv_at hl 2 rfl) ?_
  refine lv_aload_n hx hb dL_law_1379 rfl (lv_at hl 4 rfl) ?_
  refine jk_Qi (vx_runSW (As := [.ref ox, .ref a1]) (rest := []) ⟨hx, hb, hml, hown, htl⟩ (m_L_open l hsT g cj cd ox a1 f1 S w1 hCW H.size ) (vx_cwSW 2 htl lkH_open rfl rfl rfl cwS_L_open ⟨Nat.le_of_ble_eq_true rfl, Nat.le_of_ble_eq_true rfl⟩) (jp_H hKK hKJ hS hAb ⟨rfl, hPc, hDc⟩) rfl rfl hl.1 rfl (lv_room (Nat.le_of_ble_eq_true rfl)) dL_law_1380 ⟨by show _ ≤ 603072; omega, by show _ ≤ 7219306; omega⟩) hS (fun q _ h => hFl q h) hFl (fun z3 H1 locs hz3 hzs hks hS => ?_)
  obtain ⟨hz3, v1w, fn, hcase, hP1, hD1⟩ := hz3
  obtain ⟨hP, hD⟩ := lj_H hP hD hks hFl hP1 hD1
  subst hz3
  clear hks hzs hP1 hD1 hFl hsz hPc hDc; generalize H1 = H at hP hD hS ⊢
  refine W.widen (k := 50 + 361 * (k + 1)) (n := 13700 + 13026 * (k + 1)) (by omega) (by omega) ?_
  refine lv_istore (lv' := [(6, vi (cd1 (¬ S.1.length = 0))), (5, vi (i : Int)), (0, .ref b), (1, .ref ox), (2, .ref om), (3, .ref a1), (4, .ref a2)]) hx hb dL_law_1383 hl (by decide) rfl (fun ls hl => ?_)
  refine lv_aload_n hx hb dL_law_1385 rfl (lv_at hl 4 rfl) ?_
  have hPm : PP g w2 H := (hP.perm pmB).mem fun q h => List.mem_append_left _ h
  have hDm := (hD.perm pmB).left
  have hsz : ∀ q, H.size ≤ q → gb g ≤ q := fun q h => by have := hS.1; omega
  refine jk_Qi (va_runV (As := []) (rest := []) ⟨hx, hb, hml, hown, htl⟩ (m_X11_open l g om S z w2 hMW hSI) (cwV 0 htl lk_L_214 rfl rfl rfl cwV_X11_open ⟨Nat.le_of_ble_eq_true rfl, Nat.le_of_ble_eq_true rfl⟩) (jp_V hKK hS hAb (MW.recv hKK hMW hPm) ⟨hPm, hDm⟩) rfl rfl hl.1 rfl (lv_room (Nat.le_of_ble_eq_true rfl)) dL_law_1386 ⟨by show _ ≤ 603072; omega, by show _ ≤ 7219306; omega⟩) hS (fun q _ h => hDm.inA h) (fun q h => hDm.inA h) (fun zm H1 locs hzm hzs hks hS => ?_)
  obtain ⟨S9, v2w, hC9, hM9, hI9, hP2, hD2, hval⟩ : ∃ (S9 : SGM) (v2w : va_W), CW g ox S9 v1w ∧ MW g om S9 (cd1 (¬ S.1.length = 0)) v2w ∧ SI S9 ∧ PP g v2w H1 ∧ va_D (jA w2) v2w ∧ ((cd1 (¬ S.1.length = 0)) = 0 → fn 0 = (jI (((ctP S.2.2.1 S.1 S.1.length).1.length : Int))).toInt64 ∧ zm = ((ctP S.2.2.1 S.1 S.1.length).1.length : Int)) := by
    rcases hcase with ⟨h1, h2, h3⟩ | ⟨h1, h2⟩ <;> rcases hzm with ⟨h4, h5, v2w, h6, h7, h8⟩ | ⟨h4, v2w, h6, h7, h8⟩
    · exact ⟨(nxOpen S), v2w, h2, by rw [h1]; exact h6, SI.nil _ rfl, h7, h8, fun _ => ⟨h3, h5⟩⟩
    · exact absurd h1 h4
    · exact absurd h4 h1
    · exact ⟨S, v2w, h2, h6, hSI, h7, h8, fun q => absurd q h1⟩
  obtain ⟨hP, hD⟩ := lj_M hP hD hsz hks hP2 hD2
  clear hcase hks hzs hP2 hD2 hPm hDm hsz hzm; generalize H1 = H at hP hD hS ⊢
  refine lv_istore (lv' := [(7, vi zm), (6, vi (cd1 (¬ S.1.length = 0))), (5, vi (i : Int)), (0, .ref b), (1, .ref ox), (2, .ref om), (3, .ref a1), (4, .ref a2)]) hx hb dL_law_1389 hl (by decide) rfl (fun ls hl => ?_)
  refine lv_aload_n hx hb dL_law_1391 rfl (lv_at hl 5 rfl) ?_
  refine jk_Si (va_runV (As := []) (rest := []) ⟨hx, hb, hml, hown, htl⟩ (m_X11_thrownW l g om S9 (cd1 (¬ S.1.length = 0)) v2w hM9) (cwV 0 htl lk_L_140 rfl rfl rfl cwV_X11_thrown ⟨Nat.le_of_ble_eq_true rfl, Nat.le_of_ble_eq_true rfl⟩) (jp_V hKK hS hAb (MW.recv hKK hM9 (hP.mem fun q h => List.mem_cons_of_mem _ (List.mem_cons_of_mem _ (List.mem_append_right _ h)))) (hP.mem fun q h => List.mem_cons_of_mem _ (List.mem_cons_of_mem _ (List.mem_append_right _ h)))) rfl rfl hl.1 rfl (lv_room (Nat.le_of_ble_eq_true rfl)) dL_law_1392 ⟨by show _ ≤ 603072; omega, by show _ ≤ 7219306; omega⟩) (fun z4 hz4 => ?_)
  subst hz4
  refine lv_iload hx hb dL_law_1395 (lv_at hl 1 rfl) ?_
  refine lv_icmp_eq (tgt := 1402) hx hb dL_law_1397 (by decide) (fun _ => ?_) (fun h9 => absurd rfl h9)
  refine lv_iload hx hb dL_law_1402 (lv_at hl 1 rfl) ?_
  have hcdR : jR (cd1 (¬ S.1.length = 0)) := by unfold cd1; (repeat' split) <;> exact ⟨by omega, by omega⟩
  refine lv_if_ne (tgt := 1419) hx hb dL_law_1404 (by decide) (fun h9 => ?_) (fun h9 => ?_)
  · refine lv_goto (tgt := 2202) hx hb dL_law_1419 (by decide) ?_
    refine jr_iinc (lv' := [(5, vi ((i : Int) + 5)), (7, vi zm), (6, vi (cd1 (¬ S.1.length = 0))), (0, .ref b), (1, .ref ox), (2, .ref om), (3, .ref a1), (4, .ref a2)]) hx hb dL_law_2202 hl (k := 2) rfl rfl (by decide) rfl (fun ls hl => ?_)
    refine lv_goto (tgt := 28) hx hb dL_law_2205 (by decide) ?_
    exact K S9 _ v1w v2w fn f2 H locs hC9 hM9 hI9 hP hD hS ls (lv_sub hl [0, 3, 4, 5, 6, 7] rfl)
  · have hc0 : (cd1 (¬ S.1.length = 0)) = 0 := (jI_inj hcdR ⟨by omega, by omega⟩).mp h9
    obtain ⟨hLV, hZ⟩ := hval hc0
    subst hZ
    refine lv_aload_n hx hb dL_law_1407 rfl (lv_at hl 6 rfl) ?_
    refine jr_iconst hx hb dL_law_1408 ?_
    refine va_lald hx hb hKJ hP 0 0 rfl rfl (jI_in (by omega) (by omega) (by omega)) dL_law_1409 ?_
    rw [show (jI 0).toNatClampNeg = 0 from rfl, hLV]
    refine lv_iload hx hb dL_law_1410 (lv_at hl 0 rfl) ?_
    refine lv_i2l hx hb dL_law_1412 rfl ?_
    refine W.lcmp hx hb dL_law_1413 ?_
    refine lv_if_eq (tgt := 1419) hx hb dL_law_1414 (by decide) (fun _ => ?_) (fun h9 => absurd (lg_cmp_self _) h9)
    refine lv_goto (tgt := 2202) hx hb dL_law_1419 (by decide) ?_
    refine jr_iinc (lv' := [(5, vi ((i : Int) + 5)), (7, vi ((ctP S.2.2.1 S.1 S.1.length).1.length : Int)), (6, vi (cd1 (¬ S.1.length = 0))), (0, .ref b), (1, .ref ox), (2, .ref om), (3, .ref a1), (4, .ref a2)]) hx hb dL_law_2202 hl (k := 2) rfl rfl (by decide) rfl (fun ls hl => ?_)
    refine lv_goto (tgt := 28) hx hb dL_law_2205 (by decide) ?_
    exact K S9 _ v1w v2w fn f2 H locs hC9 hM9 hI9 hP hD hS ls (lv_sub hl [0, 3, 4, 5, 6, 7] rfl)
set_option maxHeartbeats 4000000 in
set_option maxRecDepth 100000 in
theorem lc_fill (l : Launch) (hsT : l.stackTraces = false) {g : GT} {cj cd : ClassId} {p : Program} {e : Env} {s : State} {m : MethodId} {b : Nat} {below : List Frame} {meth : Method} {c : Code} {Q : State → Prop} {ox om a1 a2 i k L : Nat} {xs : Nat → Int32} (hx : p.tables.exec = Jvm.exec) (hb : c.code = cL_law) (hml : c.maxLocals = 9) (hown : s.vm.findClass RL = some m.cls) (htl : ∀ w ∈ WSL, w.before #[Value.ref b] s = true) (hKK : KK g s) (hKJ : KJ g cj cd s) (hgb : gb g = s.heap.size) (hX : va_X b L xs s s.heap) (hbl : b < s.heap.size) (hi : i + 5 ≤ L) (hL : L ≤ 2560) (hk : k < 512) (K : LK g cj cd p l e s m b below meth c Q ox om a1 a2 (i + 5) (k + 1))
    (S : SGM) (z : Int) (w1 w2 : va_W) (f1 : Nat → Int64) (f2 : Nat → UInt64) (H : Heap) (locs : List Loc) (hCW : CW g ox S w1) (hMW : MW g om S z w2) (hSI : SI S) (hP : PP g (aJ cj a1 f1 :: aD1 cd a2 f2 :: (w1 ++ w2)) H) (hD : va_D (fun q => gb g ≤ q) (aJ cj a1 f1 :: aD1 cd a2 f2 :: (w1 ++ w2))) (hS : va_S (fun q => gb g ≤ q) s.heap H locs) (ls : Array Slot) (hl : lv_has ls 9 [(5, vi (i : Int)), (0, .ref b), (1, .ref ox), (2, .ref om), (3, .ref a1), (4, .ref a2)]) : W p l e room_1 s m #[Value.ref b] below meth c H locs (50 + 361 * k) (13700 + 13026 * k) Q (F0 m 1435 ls []) := by
  have hbA : ¬ (fun q => gb g ≤ q) b := by show ¬ gb g ≤ b; omega
  have hAb : ∀ q, (fun q => gb g ≤ q) q → gb g ≤ q := fun _ h => h
  obtain ⟨v1, hv1, hx1⟩ : ∃ v : Int, jR v ∧ xs (jI ((i : Int) + 1)).toNatClampNeg = jI v := ⟨_, jR_of _, jI_of _⟩
  have hDc := (hD.perm pmA).left
  have hPc : PP g (aJ cj a1 f1 :: w1) H := (hP.perm pmA).mem fun q h => List.mem_append_left _ h
  have hsz : ∀ q, H.size ≤ q → gb g ≤ q := fun q h => by have := hS.1; omega
  have hFl : ∀ q, va_A (aJ cj a1 f1 :: w1) H.size q → gb g ≤ q := va_A_sub hDc (Nat.le_refl _) hsz
  refine lv_aload_n hx hb dL_law_1435 rfl (lv_at hl 2 rfl) ?_
  refine lv_aload_n hx hb dL_law_1436 rfl (lv_at hl 1 rfl) ?_
  refine lv_iload hx hb dL_law_1437 (lv_at hl 0 rfl) ?_
  refine jr_iconst hx hb dL_law_1439 ?_
  refine jr_iadd hx hb dL_law_1440 ?_
  refine va_sld hx hb hX hbl hbA hS (jI_in (by omega) (by omega) (by omega)) dL_law_1441 ?_
  rw [hx1]
  refine lv_aload_n hx hb dL_law_1442 rfl (lv_at hl 4 rfl) ?_
  refine jk_Qi (vx_runSW (As := [.ref ox, vi v1, .ref a1]) (rest := []) ⟨hx, hb, hml, hown, htl⟩ (m_L_fill l hsT g cj cd ox a1 f1 S w1 hCW H.size v1 hv1) (vx_cwSW 3 htl lkH_fill rfl rfl rfl cwS_L_fill ⟨Nat.le_of_ble_eq_true rfl, Nat.le_of_ble_eq_true rfl⟩) (jp_H hKK hKJ hS hAb ⟨rfl, hPc, hDc⟩) rfl rfl hl.1 rfl (lv_room (Nat.le_of_ble_eq_true rfl)) dL_law_1443 ⟨by show _ ≤ 603072; omega, by show _ ≤ 7219306; omega⟩) hS (fun q _ h => hFl q h) hFl (fun z3 H1 locs hz3 hzs hks hS => ?_)
  obtain ⟨hz3, v1w, fn, hcase, hP1, hD1⟩ := hz3
  obtain ⟨hP, hD⟩ := lj_H hP hD hks hFl hP1 hD1
  subst hz3
  clear hks hzs hP1 hD1 hFl hsz hPc hDc; generalize H1 = H at hP hD hS ⊢
  refine W.widen (k := 50 + 361 * (k + 1)) (n := 13700 + 13026 * (k + 1)) (by omega) (by omega) ?_
  refine lv_istore (lv' := [(6, vi (cd1 (1 ≤ v1 ∧ v1 ≤ 100))), (5, vi (i : Int)), (0, .ref b), (1, .ref ox), (2, .ref om), (3, .ref a1), (4, .ref a2)]) hx hb dL_law_1446 hl (by decide) rfl (fun ls hl => ?_)
  refine lv_aload_n hx hb dL_law_1448 rfl (lv_at hl 4 rfl) ?_
  refine lv_aload_n hx hb dL_law_1449 rfl (lv_at hl 2 rfl) ?_
  refine lv_iload hx hb dL_law_1450 (lv_at hl 1 rfl) ?_
  refine jr_iconst hx hb dL_law_1452 ?_
  refine jr_iadd hx hb dL_law_1453 ?_
  refine va_sld hx hb hX hbl hbA hS (jI_in (by omega) (by omega) (by omega)) dL_law_1454 ?_
  rw [hx1]
  have hPm : PP g w2 H := (hP.perm pmB).mem fun q h => List.mem_append_left _ h
  have hDm := (hD.perm pmB).left
  have hsz : ∀ q, H.size ≤ q → gb g ≤ q := fun q h => by have := hS.1; omega
  refine jk_Qi (va_runV (As := [vi v1]) (rest := []) ⟨hx, hb, hml, hown, htl⟩ (m_X11_fill l g om S z w2 hMW v1 hv1) (cwV 1 htl lk_L_221 rfl rfl rfl cwV_X11_fill ⟨Nat.le_of_ble_eq_true rfl, Nat.le_of_ble_eq_true rfl⟩) (jp_V hKK hS hAb (MW.recv hKK hMW hPm) ⟨hPm, hDm⟩) rfl rfl hl.1 rfl (lv_room (Nat.le_of_ble_eq_true rfl)) dL_law_1455 ⟨by show _ ≤ 603072; omega, by show _ ≤ 7219306; omega⟩) hS (fun q _ h => hDm.inA h) (fun q h => hDm.inA h) (fun zm H1 locs hzm hzs hks hS => ?_)
  obtain ⟨S9, v2w, hC9, hM9, hI9, hP2, hD2, hval⟩ : ∃ (S9 : SGM) (v2w : va_W), CW g ox S9 v1w ∧ MW g om S9 (cd1 (1 ≤ v1 ∧ v1 ≤ 100)) v2w ∧ SI S9 ∧ PP g v2w H1 ∧ va_D (jA w2) v2w ∧ ((cd1 (1 ≤ v1 ∧ v1 ≤ 100)) = 0 → fn 0 = (jI ((flP v1 S (nS S)).2)).toInt64 ∧ zm = (flP v1 S (nS S)).2) := by
    rcases hcase with ⟨h1, h2, h3⟩ | ⟨h1, h2⟩ <;> rcases hzm with ⟨h4, h5, v2w, h6, h7, h8⟩ | ⟨h4, v2w, h6, h7, h8⟩
    · exact ⟨((flP v1 S (nS S)).1), v2w, h2, by rw [h1]; exact h6, hSI.same (by obtain ⟨L9, h9, -⟩ := flP_w v1 S (nS S); rw [h9]), h7, h8, fun _ => ⟨h3, h5⟩⟩
    · exact absurd h1 h4
    · exact absurd h4 h1
    · exact ⟨S, v2w, h2, h6, hSI, h7, h8, fun q => absurd q h1⟩
  obtain ⟨hP, hD⟩ := lj_M hP hD hsz hks hP2 hD2
  clear hcase hks hzs hP2 hD2 hPm hDm hsz hzm; generalize H1 = H at hP hD hS ⊢
  refine lv_istore (lv' := [(7, vi zm), (6, vi (cd1 (1 ≤ v1 ∧ v1 ≤ 100))), (5, vi (i : Int)), (0, .ref b), (1, .ref ox), (2, .ref om), (3, .ref a1), (4, .ref a2)]) hx hb dL_law_1458 hl (by decide) rfl (fun ls hl => ?_)
  refine lv_aload_n hx hb dL_law_1460 rfl (lv_at hl 5 rfl) ?_
  refine jk_Si (va_runV (As := []) (rest := []) ⟨hx, hb, hml, hown, htl⟩ (m_X11_thrownW l g om S9 (cd1 (1 ≤ v1 ∧ v1 ≤ 100)) v2w hM9) (cwV 0 htl lk_L_140 rfl rfl rfl cwV_X11_thrown ⟨Nat.le_of_ble_eq_true rfl, Nat.le_of_ble_eq_true rfl⟩) (jp_V hKK hS hAb (MW.recv hKK hM9 (hP.mem fun q h => List.mem_cons_of_mem _ (List.mem_cons_of_mem _ (List.mem_append_right _ h)))) (hP.mem fun q h => List.mem_cons_of_mem _ (List.mem_cons_of_mem _ (List.mem_append_right _ h)))) rfl rfl hl.1 rfl (lv_room (Nat.le_of_ble_eq_true rfl)) dL_law_1461 ⟨by show _ ≤ 603072; omega, by show _ ≤ 7219306; omega⟩) (fun z4 hz4 => ?_)
  subst hz4
  refine lv_iload hx hb dL_law_1464 (lv_at hl 1 rfl) ?_
  refine lv_icmp_eq (tgt := 1471) hx hb dL_law_1466 (by decide) (fun _ => ?_) (fun h9 => absurd rfl h9)
  refine lv_iload hx hb dL_law_1471 (lv_at hl 1 rfl) ?_
  have hcdR : jR (cd1 (1 ≤ v1 ∧ v1 ≤ 100)) := by unfold cd1; (repeat' split) <;> exact ⟨by omega, by omega⟩
  refine lv_if_ne (tgt := 1488) hx hb dL_law_1473 (by decide) (fun h9 => ?_) (fun h9 => ?_)
  · refine lv_goto (tgt := 2202) hx hb dL_law_1488 (by decide) ?_
    refine jr_iinc (lv' := [(5, vi ((i : Int) + 5)), (7, vi zm), (6, vi (cd1 (1 ≤ v1 ∧ v1 ≤ 100))), (0, .ref b), (1, .ref ox), (2, .ref om), (3, .ref a1), (4, .ref a2)]) hx hb dL_law_2202 hl (k := 2) rfl rfl (by decide) rfl (fun ls hl => ?_)
    refine lv_goto (tgt := 28) hx hb dL_law_2205 (by decide) ?_
    exact K S9 _ v1w v2w fn f2 H locs hC9 hM9 hI9 hP hD hS ls (lv_sub hl [0, 3, 4, 5, 6, 7] rfl)
  · have hc0 : (cd1 (1 ≤ v1 ∧ v1 ≤ 100)) = 0 := (jI_inj hcdR ⟨by omega, by omega⟩).mp h9
    obtain ⟨hLV, hZ⟩ := hval hc0
    subst hZ
    refine lv_aload_n hx hb dL_law_1476 rfl (lv_at hl 6 rfl) ?_
    refine jr_iconst hx hb dL_law_1477 ?_
    refine va_lald hx hb hKJ hP 0 0 rfl rfl (jI_in (by omega) (by omega) (by omega)) dL_law_1478 ?_
    rw [show (jI 0).toNatClampNeg = 0 from rfl, hLV]
    refine lv_iload hx hb dL_law_1479 (lv_at hl 0 rfl) ?_
    refine lv_i2l hx hb dL_law_1481 rfl ?_
    refine W.lcmp hx hb dL_law_1482 ?_
    refine lv_if_eq (tgt := 1488) hx hb dL_law_1483 (by decide) (fun _ => ?_) (fun h9 => absurd (lg_cmp_self _) h9)
    refine lv_goto (tgt := 2202) hx hb dL_law_1488 (by decide) ?_
    refine jr_iinc (lv' := [(5, vi ((i : Int) + 5)), (7, vi ((flP v1 S (nS S)).2)), (6, vi (cd1 (1 ≤ v1 ∧ v1 ≤ 100))), (0, .ref b), (1, .ref ox), (2, .ref om), (3, .ref a1), (4, .ref a2)]) hx hb dL_law_2202 hl (k := 2) rfl rfl (by decide) rfl (fun ls hl => ?_)
    refine lv_goto (tgt := 28) hx hb dL_law_2205 (by decide) ?_
    exact K S9 _ v1w v2w fn f2 H locs hC9 hM9 hI9 hP hD hS ls (lv_sub hl [0, 3, 4, 5, 6, 7] rfl)
set_option maxHeartbeats 4000000 in
set_option maxRecDepth 100000 in
theorem lc_answer (l : Launch) (hsT : l.stackTraces = false) {g : GT} {cj cd : ClassId} {p : Program} {e : Env} {s : State} {m : MethodId} {b : Nat} {below : List Frame} {meth : Method} {c : Code} {Q : State → Prop} {ox om a1 a2 i k L : Nat} {xs : Nat → Int32} (hx : p.tables.exec = Jvm.exec) (hb : c.code = cL_law) (hml : c.maxLocals = 9) (hown : s.vm.findClass RL = some m.cls) (htl : ∀ w ∈ WSL, w.before #[Value.ref b] s = true) (hKK : KK g s) (hKJ : KJ g cj cd s) (hgb : gb g = s.heap.size) (hX : va_X b L xs s s.heap) (hbl : b < s.heap.size) (hi : i + 5 ≤ L) (hL : L ≤ 2560) (hk : k < 512) (K : LK g cj cd p l e s m b below meth c Q ox om a1 a2 (i + 5) (k + 1))
    (S : SGM) (z : Int) (w1 w2 : va_W) (f1 : Nat → Int64) (f2 : Nat → UInt64) (H : Heap) (locs : List Loc) (hCW : CW g ox S w1) (hMW : MW g om S z w2) (hSI : SI S) (hP : PP g (aJ cj a1 f1 :: aD1 cd a2 f2 :: (w1 ++ w2)) H) (hD : va_D (fun q => gb g ≤ q) (aJ cj a1 f1 :: aD1 cd a2 f2 :: (w1 ++ w2))) (hS : va_S (fun q => gb g ≤ q) s.heap H locs) (ls : Array Slot) (hl : lv_has ls 9 [(5, vi (i : Int)), (0, .ref b), (1, .ref ox), (2, .ref om), (3, .ref a1), (4, .ref a2)]) : W p l e room_1 s m #[Value.ref b] below meth c H locs (50 + 361 * k) (13700 + 13026 * k) Q (F0 m 1491 ls []) := by
  have hbA : ¬ (fun q => gb g ≤ q) b := by show ¬ gb g ≤ b; omega
  have hAb : ∀ q, (fun q => gb g ≤ q) q → gb g ≤ q := fun _ h => h
  obtain ⟨v1, hv1, hx1⟩ : ∃ v : Int, jR v ∧ xs (jI ((i : Int) + 1)).toNatClampNeg = jI v := ⟨_, jR_of _, jI_of _⟩
  have hDc := (hD.perm pmA).left
  have hPc : PP g (aJ cj a1 f1 :: w1) H := (hP.perm pmA).mem fun q h => List.mem_append_left _ h
  have hsz : ∀ q, H.size ≤ q → gb g ≤ q := fun q h => by have := hS.1; omega
  have hFl : ∀ q, va_A (aJ cj a1 f1 :: w1) H.size q → gb g ≤ q := va_A_sub hDc (Nat.le_refl _) hsz
  refine lv_aload_n hx hb dL_law_1491 rfl (lv_at hl 2 rfl) ?_
  refine lv_aload_n hx hb dL_law_1492 rfl (lv_at hl 1 rfl) ?_
  refine lv_iload hx hb dL_law_1493 (lv_at hl 0 rfl) ?_
  refine jr_iconst hx hb dL_law_1495 ?_
  refine jr_iadd hx hb dL_law_1496 ?_
  refine va_sld hx hb hX hbl hbA hS (jI_in (by omega) (by omega) (by omega)) dL_law_1497 ?_
  rw [hx1]
  refine lv_aload_n hx hb dL_law_1498 rfl (lv_at hl 4 rfl) ?_
  refine jk_Qi (vx_runSW (As := [.ref ox, vi v1, .ref a1]) (rest := []) ⟨hx, hb, hml, hown, htl⟩ (m_L_answer l hsT g cj cd ox a1 f1 S w1 hCW H.size v1 hv1) (vx_cwSW 3 htl lkH_answer rfl rfl rfl cwS_L_answer ⟨Nat.le_of_ble_eq_true rfl, Nat.le_of_ble_eq_true rfl⟩) (jp_H hKK hKJ hS hAb ⟨rfl, hPc, hDc⟩) rfl rfl hl.1 rfl (lv_room (Nat.le_of_ble_eq_true rfl)) dL_law_1499 ⟨by show _ ≤ 603072; omega, by show _ ≤ 7219306; omega⟩) hS (fun q _ h => hFl q h) hFl (fun z3 H1 locs hz3 hzs hks hS => ?_)
  obtain ⟨hz3, v1w, fn, hcase, hP1, hD1⟩ := hz3
  obtain ⟨hP, hD⟩ := lj_H hP hD hks hFl hP1 hD1
  subst hz3
  clear hks hzs hP1 hD1 hFl hsz hPc hDc; generalize H1 = H at hP hD hS ⊢
  refine W.widen (k := 50 + 361 * (k + 1)) (n := 13700 + 13026 * (k + 1)) (by omega) (by omega) ?_
  refine lv_istore (lv' := [(6, vi (cdAns S v1)), (5, vi (i : Int)), (0, .ref b), (1, .ref ox), (2, .ref om), (3, .ref a1), (4, .ref a2)]) hx hb dL_law_1502 hl (by decide) rfl (fun ls hl => ?_)
  refine lv_aload_n hx hb dL_law_1504 rfl (lv_at hl 4 rfl) ?_
  refine lv_aload_n hx hb dL_law_1505 rfl (lv_at hl 2 rfl) ?_
  refine lv_iload hx hb dL_law_1506 (lv_at hl 1 rfl) ?_
  refine jr_iconst hx hb dL_law_1508 ?_
  refine jr_iadd hx hb dL_law_1509 ?_
  refine va_sld hx hb hX hbl hbA hS (jI_in (by omega) (by omega) (by omega)) dL_law_1510 ?_
  rw [hx1]
  have hPm : PP g w2 H := (hP.perm pmB).mem fun q h => List.mem_append_left _ h
  have hDm := (hD.perm pmB).left
  have hsz : ∀ q, H.size ≤ q → gb g ≤ q := fun q h => by have := hS.1; omega
  refine jk_Qi (va_runV (As := [vi v1]) (rest := []) ⟨hx, hb, hml, hown, htl⟩ (m_X11_answer l g om S z w2 hMW v1 hv1) (cwV 1 htl lk_L_224 rfl rfl rfl cwV_X11_answer ⟨Nat.le_of_ble_eq_true rfl, Nat.le_of_ble_eq_true rfl⟩) (jp_V hKK hS hAb (MW.recv hKK hMW hPm) ⟨hPm, hDm⟩) rfl rfl hl.1 rfl (lv_room (Nat.le_of_ble_eq_true rfl)) dL_law_1511 ⟨by show _ ≤ 603072; omega, by show _ ≤ 7219306; omega⟩) hS (fun q _ h => hDm.inA h) (fun q h => hDm.inA h) (fun zm H1 locs hzm hzs hks hS => ?_)
  obtain ⟨S9, v2w, hC9, hM9, hI9, hP2, hD2, hval⟩ : ∃ (S9 : SGM) (v2w : va_W), CW g ox S9 v1w ∧ MW g om S9 (cdAns S v1) v2w ∧ SI S9 ∧ PP g v2w H1 ∧ va_D (jA w2) v2w ∧ ((cdAns S v1) = 0 → fn 0 = (jI (vlAns S v1)).toInt64 ∧ zm = vlAns S v1) := by
    rcases hcase with ⟨h1, h2, h3⟩ | ⟨h1, h2⟩ <;> rcases hzm with ⟨h4, h5, v2w, h6, h7, h8⟩ | ⟨h4, v2w, h6, h7, h8⟩
    · exact ⟨(nxAns S v1), v2w, h2, by rw [h1]; exact h6, SI.nil _ rfl, h7, h8, fun _ => ⟨h3, h5⟩⟩
    · exact absurd h1 h4
    · exact absurd h4 h1
    · exact ⟨S, v2w, h2, h6, hSI, h7, h8, fun q => absurd q h1⟩
  obtain ⟨hP, hD⟩ := lj_M hP hD hsz hks hP2 hD2
  clear hcase hks hzs hP2 hD2 hPm hDm hsz hzm; generalize H1 = H at hP hD hS ⊢
  refine lv_istore (lv' := [(7, vi zm), (6, vi (cdAns S v1)), (5, vi (i : Int)), (0, .ref b), (1, .ref ox), (2, .ref om), (3, .ref a1), (4, .ref a2)]) hx hb dL_law_1514 hl (by decide) rfl (fun ls hl => ?_)
  refine lv_aload_n hx hb dL_law_1516 rfl (lv_at hl 5 rfl) ?_
  refine jk_Si (va_runV (As := []) (rest := []) ⟨hx, hb, hml, hown, htl⟩ (m_X11_thrownW l g om S9 (cdAns S v1) v2w hM9) (cwV 0 htl lk_L_140 rfl rfl rfl cwV_X11_thrown ⟨Nat.le_of_ble_eq_true rfl, Nat.le_of_ble_eq_true rfl⟩) (jp_V hKK hS hAb (MW.recv hKK hM9 (hP.mem fun q h => List.mem_cons_of_mem _ (List.mem_cons_of_mem _ (List.mem_append_right _ h)))) (hP.mem fun q h => List.mem_cons_of_mem _ (List.mem_cons_of_mem _ (List.mem_append_right _ h)))) rfl rfl hl.1 rfl (lv_room (Nat.le_of_ble_eq_true rfl)) dL_law_1517 ⟨by show _ ≤ 603072; omega, by show _ ≤ 7219306; omega⟩) (fun z4 hz4 => ?_)
  subst hz4
  refine lv_iload hx hb dL_law_1520 (lv_at hl 1 rfl) ?_
  refine lv_icmp_eq (tgt := 1527) hx hb dL_law_1522 (by decide) (fun _ => ?_) (fun h9 => absurd rfl h9)
  refine lv_iload hx hb dL_law_1527 (lv_at hl 1 rfl) ?_
  have hcdR : jR (cdAns S v1) := by unfold cdAns; (repeat' split) <;> exact ⟨by omega, by omega⟩
  refine lv_if_ne (tgt := 1544) hx hb dL_law_1529 (by decide) (fun h9 => ?_) (fun h9 => ?_)
  · refine lv_goto (tgt := 2202) hx hb dL_law_1544 (by decide) ?_
    refine jr_iinc (lv' := [(5, vi ((i : Int) + 5)), (7, vi zm), (6, vi (cdAns S v1)), (0, .ref b), (1, .ref ox), (2, .ref om), (3, .ref a1), (4, .ref a2)]) hx hb dL_law_2202 hl (k := 2) rfl rfl (by decide) rfl (fun ls hl => ?_)
    refine lv_goto (tgt := 28) hx hb dL_law_2205 (by decide) ?_
    exact K S9 _ v1w v2w fn f2 H locs hC9 hM9 hI9 hP hD hS ls (lv_sub hl [0, 3, 4, 5, 6, 7] rfl)
  · have hc0 : (cdAns S v1) = 0 := (jI_inj hcdR ⟨by omega, by omega⟩).mp h9
    obtain ⟨hLV, hZ⟩ := hval hc0
    subst hZ
    refine lv_aload_n hx hb dL_law_1532 rfl (lv_at hl 6 rfl) ?_
    refine jr_iconst hx hb dL_law_1533 ?_
    refine va_lald hx hb hKJ hP 0 0 rfl rfl (jI_in (by omega) (by omega) (by omega)) dL_law_1534 ?_
    rw [show (jI 0).toNatClampNeg = 0 from rfl, hLV]
    refine lv_iload hx hb dL_law_1535 (lv_at hl 0 rfl) ?_
    refine lv_i2l hx hb dL_law_1537 rfl ?_
    refine W.lcmp hx hb dL_law_1538 ?_
    refine lv_if_eq (tgt := 1544) hx hb dL_law_1539 (by decide) (fun _ => ?_) (fun h9 => absurd (lg_cmp_self _) h9)
    refine lv_goto (tgt := 2202) hx hb dL_law_1544 (by decide) ?_
    refine jr_iinc (lv' := [(5, vi ((i : Int) + 5)), (7, vi (vlAns S v1)), (6, vi (cdAns S v1)), (0, .ref b), (1, .ref ox), (2, .ref om), (3, .ref a1), (4, .ref a2)]) hx hb dL_law_2202 hl (k := 2) rfl rfl (by decide) rfl (fun ls hl => ?_)
    refine lv_goto (tgt := 28) hx hb dL_law_2205 (by decide) ?_
    exact K S9 _ v1w v2w fn f2 H locs hC9 hM9 hI9 hP hD hS ls (lv_sub hl [0, 3, 4, 5, 6, 7] rfl)
set_option maxHeartbeats 4000000 in
set_option maxRecDepth 100000 in
theorem lc_stateOf (l : Launch) (hsT : l.stackTraces = false) {g : GT} {cj cd : ClassId} {p : Program} {e : Env} {s : State} {m : MethodId} {b : Nat} {below : List Frame} {meth : Method} {c : Code} {Q : State → Prop} {ox om a1 a2 i k L : Nat} {xs : Nat → Int32} (hx : p.tables.exec = Jvm.exec) (hb : c.code = cL_law) (hml : c.maxLocals = 9) (hown : s.vm.findClass RL = some m.cls) (htl : ∀ w ∈ WSL, w.before #[Value.ref b] s = true) (hKK : KK g s) (hKJ : KJ g cj cd s) (hgb : gb g = s.heap.size) (hX : va_X b L xs s s.heap) (hbl : b < s.heap.size) (hi : i + 5 ≤ L) (hL : L ≤ 2560) (hk : k < 512) (K : LK g cj cd p l e s m b below meth c Q ox om a1 a2 (i + 5) (k + 1))
    (S : SGM) (z : Int) (w1 w2 : va_W) (f1 : Nat → Int64) (f2 : Nat → UInt64) (H : Heap) (locs : List Loc) (hCW : CW g ox S w1) (hMW : MW g om S z w2) (hSI : SI S) (hP : PP g (aJ cj a1 f1 :: aD1 cd a2 f2 :: (w1 ++ w2)) H) (hD : va_D (fun q => gb g ≤ q) (aJ cj a1 f1 :: aD1 cd a2 f2 :: (w1 ++ w2))) (hS : va_S (fun q => gb g ≤ q) s.heap H locs) (ls : Array Slot) (hl : lv_has ls 9 [(5, vi (i : Int)), (0, .ref b), (1, .ref ox), (2, .ref om), (3, .ref a1), (4, .ref a2)]) : W p l e room_1 s m #[Value.ref b] below meth c H locs (50 + 361 * k) (13700 + 13026 * k) Q (F0 m 1547 ls []) := by
  have hbA : ¬ (fun q => gb g ≤ q) b := by show ¬ gb g ≤ b; omega
  have hAb : ∀ q, (fun q => gb g ≤ q) q → gb g ≤ q := fun _ h => h
  obtain ⟨v1, hv1, hx1⟩ : ∃ v : Int, jR v ∧ xs (jI ((i : Int) + 1)).toNatClampNeg = jI v := ⟨_, jR_of _, jI_of _⟩
  have hDc := (hD.perm pmA).left
  have hPc : PP g (aJ cj a1 f1 :: w1) H := (hP.perm pmA).mem fun q h => List.mem_append_left _ h
  have hsz : ∀ q, H.size ≤ q → gb g ≤ q := fun q h => by have := hS.1; omega
  have hFl : ∀ q, va_A (aJ cj a1 f1 :: w1) H.size q → gb g ≤ q := va_A_sub hDc (Nat.le_refl _) hsz
  refine lv_aload_n hx hb dL_law_1547 rfl (lv_at hl 2 rfl) ?_
  refine lv_aload_n hx hb dL_law_1548 rfl (lv_at hl 1 rfl) ?_
  refine lv_iload hx hb dL_law_1549 (lv_at hl 0 rfl) ?_
  refine jr_iconst hx hb dL_law_1551 ?_
  refine jr_iadd hx hb dL_law_1552 ?_
  refine va_sld hx hb hX hbl hbA hS (jI_in (by omega) (by omega) (by omega)) dL_law_1553 ?_
  rw [hx1]
  refine lv_aload_n hx hb dL_law_1554 rfl (lv_at hl 4 rfl) ?_
  refine jk_Qi (vx_runSW (As := [.ref ox, vi v1, .ref a1]) (rest := []) ⟨hx, hb, hml, hown, htl⟩ (m_L_stateOf l hsT g cj cd ox a1 f1 S w1 hCW H.size v1 hv1) (vx_cwSW 3 htl lkH_stateOf rfl rfl rfl cwS_L_stateOf ⟨Nat.le_of_ble_eq_true rfl, Nat.le_of_ble_eq_true rfl⟩) (jp_H hKK hKJ hS hAb ⟨rfl, hPc, hDc⟩) rfl rfl hl.1 rfl (lv_room (Nat.le_of_ble_eq_true rfl)) dL_law_1555 ⟨by show _ ≤ 603072; omega, by show _ ≤ 7219306; omega⟩) hS (fun q _ h => hFl q h) hFl (fun z3 H1 locs hz3 hzs hks hS => ?_)
  obtain ⟨hz3, v1w, fn, hcase, hP1, hD1⟩ := hz3
  obtain ⟨hP, hD⟩ := lj_H hP hD hks hFl hP1 hD1
  subst hz3
  clear hks hzs hP1 hD1 hFl hsz hPc hDc; generalize H1 = H at hP hD hS ⊢
  refine W.widen (k := 50 + 361 * (k + 1)) (n := 13700 + 13026 * (k + 1)) (by omega) (by omega) ?_
  refine lv_istore (lv' := [(6, vi (cdS S v1)), (5, vi (i : Int)), (0, .ref b), (1, .ref ox), (2, .ref om), (3, .ref a1), (4, .ref a2)]) hx hb dL_law_1558 hl (by decide) rfl (fun ls hl => ?_)
  refine lv_aload_n hx hb dL_law_1560 rfl (lv_at hl 4 rfl) ?_
  refine lv_aload_n hx hb dL_law_1561 rfl (lv_at hl 2 rfl) ?_
  refine lv_iload hx hb dL_law_1562 (lv_at hl 1 rfl) ?_
  refine jr_iconst hx hb dL_law_1564 ?_
  refine jr_iadd hx hb dL_law_1565 ?_
  refine va_sld hx hb hX hbl hbA hS (jI_in (by omega) (by omega) (by omega)) dL_law_1566 ?_
  rw [hx1]
  have hPm : PP g w2 H := (hP.perm pmB).mem fun q h => List.mem_append_left _ h
  have hDm := (hD.perm pmB).left
  have hsz : ∀ q, H.size ≤ q → gb g ≤ q := fun q h => by have := hS.1; omega
  refine jk_Qi (va_runV (As := [vi v1]) (rest := []) ⟨hx, hb, hml, hown, htl⟩ (m_X11_stateOf l g om S z w2 hMW v1 hv1) (cwV 1 htl lk_L_227 rfl rfl rfl cwV_X11_stateOf ⟨Nat.le_of_ble_eq_true rfl, Nat.le_of_ble_eq_true rfl⟩) (jp_V hKK hS hAb (MW.recv hKK hMW hPm) ⟨hPm, hDm⟩) rfl rfl hl.1 rfl (lv_room (Nat.le_of_ble_eq_true rfl)) dL_law_1567 ⟨by show _ ≤ 603072; omega, by show _ ≤ 7219306; omega⟩) hS (fun q _ h => hDm.inA h) (fun q h => hDm.inA h) (fun zm H1 locs hzm hzs hks hS => ?_)
  obtain ⟨S9, v2w, hC9, hM9, hI9, hP2, hD2, hval⟩ : ∃ (S9 : SGM) (v2w : va_W), CW g ox S9 v1w ∧ MW g om S9 (cdS S v1) v2w ∧ SI S9 ∧ PP g v2w H1 ∧ va_D (jA w2) v2w ∧ ((cdS S v1) = 0 → fn 0 = (jI ((sg S v1).2.2.1)).toInt64 ∧ zm = (sg S v1).2.2.1) := by
    rcases hcase with ⟨h1, h2, h3⟩ | ⟨h1, h2⟩ <;> rcases hzm with ⟨h4, h5, v2w, h6, h7, h8⟩ | ⟨h4, v2w, h6, h7, h8⟩
    · exact ⟨S, v2w, h2, by rw [h1]; exact h6, hSI, h7, h8, fun _ => ⟨h3, h5⟩⟩
    · exact absurd h1 h4
    · exact absurd h4 h1
    · exact ⟨S, v2w, h2, h6, hSI, h7, h8, fun q => absurd q h1⟩
  obtain ⟨hP, hD⟩ := lj_M hP hD hsz hks hP2 hD2
  clear hcase hks hzs hP2 hD2 hPm hDm hsz hzm; generalize H1 = H at hP hD hS ⊢
  refine lv_istore (lv' := [(7, vi zm), (6, vi (cdS S v1)), (5, vi (i : Int)), (0, .ref b), (1, .ref ox), (2, .ref om), (3, .ref a1), (4, .ref a2)]) hx hb dL_law_1570 hl (by decide) rfl (fun ls hl => ?_)
  refine lv_aload_n hx hb dL_law_1572 rfl (lv_at hl 5 rfl) ?_
  refine jk_Si (va_runV (As := []) (rest := []) ⟨hx, hb, hml, hown, htl⟩ (m_X11_thrownW l g om S9 (cdS S v1) v2w hM9) (cwV 0 htl lk_L_140 rfl rfl rfl cwV_X11_thrown ⟨Nat.le_of_ble_eq_true rfl, Nat.le_of_ble_eq_true rfl⟩) (jp_V hKK hS hAb (MW.recv hKK hM9 (hP.mem fun q h => List.mem_cons_of_mem _ (List.mem_cons_of_mem _ (List.mem_append_right _ h)))) (hP.mem fun q h => List.mem_cons_of_mem _ (List.mem_cons_of_mem _ (List.mem_append_right _ h)))) rfl rfl hl.1 rfl (lv_room (Nat.le_of_ble_eq_true rfl)) dL_law_1573 ⟨by show _ ≤ 603072; omega, by show _ ≤ 7219306; omega⟩) (fun z4 hz4 => ?_)
  subst hz4
  refine lv_iload hx hb dL_law_1576 (lv_at hl 1 rfl) ?_
  refine lv_icmp_eq (tgt := 1583) hx hb dL_law_1578 (by decide) (fun _ => ?_) (fun h9 => absurd rfl h9)
  refine lv_iload hx hb dL_law_1583 (lv_at hl 1 rfl) ?_
  have hcdR : jR (cdS S v1) := by unfold cdS; (repeat' split) <;> exact ⟨by omega, by omega⟩
  refine lv_if_ne (tgt := 1600) hx hb dL_law_1585 (by decide) (fun h9 => ?_) (fun h9 => ?_)
  · refine lv_goto (tgt := 2202) hx hb dL_law_1600 (by decide) ?_
    refine jr_iinc (lv' := [(5, vi ((i : Int) + 5)), (7, vi zm), (6, vi (cdS S v1)), (0, .ref b), (1, .ref ox), (2, .ref om), (3, .ref a1), (4, .ref a2)]) hx hb dL_law_2202 hl (k := 2) rfl rfl (by decide) rfl (fun ls hl => ?_)
    refine lv_goto (tgt := 28) hx hb dL_law_2205 (by decide) ?_
    exact K S9 _ v1w v2w fn f2 H locs hC9 hM9 hI9 hP hD hS ls (lv_sub hl [0, 3, 4, 5, 6, 7] rfl)
  · have hc0 : (cdS S v1) = 0 := (jI_inj hcdR ⟨by omega, by omega⟩).mp h9
    obtain ⟨hLV, hZ⟩ := hval hc0
    subst hZ
    refine lv_aload_n hx hb dL_law_1588 rfl (lv_at hl 6 rfl) ?_
    refine jr_iconst hx hb dL_law_1589 ?_
    refine va_lald hx hb hKJ hP 0 0 rfl rfl (jI_in (by omega) (by omega) (by omega)) dL_law_1590 ?_
    rw [show (jI 0).toNatClampNeg = 0 from rfl, hLV]
    refine lv_iload hx hb dL_law_1591 (lv_at hl 0 rfl) ?_
    refine lv_i2l hx hb dL_law_1593 rfl ?_
    refine W.lcmp hx hb dL_law_1594 ?_
    refine lv_if_eq (tgt := 1600) hx hb dL_law_1595 (by decide) (fun _ => ?_) (fun h9 => absurd (lg_cmp_self _) h9)
    refine lv_goto (tgt := 2202) hx hb dL_law_1600 (by decide) ?_
    refine jr_iinc (lv' := [(5, vi ((i : Int) + 5)), (7, vi ((sg S v1).2.2.1)), (6, vi (cdS S v1)), (0, .ref b), (1, .ref ox), (2, .ref om), (3, .ref a1), (4, .ref a2)]) hx hb dL_law_2202 hl (k := 2) rfl rfl (by decide) rfl (fun ls hl => ?_)
    refine lv_goto (tgt := 28) hx hb dL_law_2205 (by decide) ?_
    exact K S9 _ v1w v2w fn f2 H locs hC9 hM9 hI9 hP hD hS ls (lv_sub hl [0, 3, 4, 5, 6, 7] rfl)
set_option maxHeartbeats 4000000 in
set_option maxRecDepth 100000 in
theorem lc_unitOf (l : Launch) (hsT : l.stackTraces = false) {g : GT} {cj cd : ClassId} {p : Program} {e : Env} {s : State} {m : MethodId} {b : Nat} {below : List Frame} {meth : Method} {c : Code} {Q : State → Prop} {ox om a1 a2 i k L : Nat} {xs : Nat → Int32} (hx : p.tables.exec = Jvm.exec) (hb : c.code = cL_law) (hml : c.maxLocals = 9) (hown : s.vm.findClass RL = some m.cls) (htl : ∀ w ∈ WSL, w.before #[Value.ref b] s = true) (hKK : KK g s) (hKJ : KJ g cj cd s) (hgb : gb g = s.heap.size) (hX : va_X b L xs s s.heap) (hbl : b < s.heap.size) (hi : i + 5 ≤ L) (hL : L ≤ 2560) (hk : k < 512) (K : LK g cj cd p l e s m b below meth c Q ox om a1 a2 (i + 5) (k + 1))
    (S : SGM) (z : Int) (w1 w2 : va_W) (f1 : Nat → Int64) (f2 : Nat → UInt64) (H : Heap) (locs : List Loc) (hCW : CW g ox S w1) (hMW : MW g om S z w2) (hSI : SI S) (hP : PP g (aJ cj a1 f1 :: aD1 cd a2 f2 :: (w1 ++ w2)) H) (hD : va_D (fun q => gb g ≤ q) (aJ cj a1 f1 :: aD1 cd a2 f2 :: (w1 ++ w2))) (hS : va_S (fun q => gb g ≤ q) s.heap H locs) (ls : Array Slot) (hl : lv_has ls 9 [(5, vi (i : Int)), (0, .ref b), (1, .ref ox), (2, .ref om), (3, .ref a1), (4, .ref a2)]) : W p l e room_1 s m #[Value.ref b] below meth c H locs (50 + 361 * k) (13700 + 13026 * k) Q (F0 m 1603 ls []) := by
  have hbA : ¬ (fun q => gb g ≤ q) b := by show ¬ gb g ≤ b; omega
  have hAb : ∀ q, (fun q => gb g ≤ q) q → gb g ≤ q := fun _ h => h
  obtain ⟨v1, hv1, hx1⟩ : ∃ v : Int, jR v ∧ xs (jI ((i : Int) + 1)).toNatClampNeg = jI v := ⟨_, jR_of _, jI_of _⟩
  have hDc := (hD.perm pmA).left
  have hPc : PP g (aJ cj a1 f1 :: w1) H := (hP.perm pmA).mem fun q h => List.mem_append_left _ h
  have hsz : ∀ q, H.size ≤ q → gb g ≤ q := fun q h => by have := hS.1; omega
  have hFl : ∀ q, va_A (aJ cj a1 f1 :: w1) H.size q → gb g ≤ q := va_A_sub hDc (Nat.le_refl _) hsz
  refine lv_aload_n hx hb dL_law_1603 rfl (lv_at hl 2 rfl) ?_
  refine lv_aload_n hx hb dL_law_1604 rfl (lv_at hl 1 rfl) ?_
  refine lv_iload hx hb dL_law_1605 (lv_at hl 0 rfl) ?_
  refine jr_iconst hx hb dL_law_1607 ?_
  refine jr_iadd hx hb dL_law_1608 ?_
  refine va_sld hx hb hX hbl hbA hS (jI_in (by omega) (by omega) (by omega)) dL_law_1609 ?_
  rw [hx1]
  refine lv_aload_n hx hb dL_law_1610 rfl (lv_at hl 4 rfl) ?_
  refine jk_Qi (vx_runSW (As := [.ref ox, vi v1, .ref a1]) (rest := []) ⟨hx, hb, hml, hown, htl⟩ (m_L_unitOf l hsT g cj cd ox a1 f1 S w1 hCW H.size v1 hv1) (vx_cwSW 3 htl lkH_unitOf rfl rfl rfl cwS_L_unitOf ⟨Nat.le_of_ble_eq_true rfl, Nat.le_of_ble_eq_true rfl⟩) (jp_H hKK hKJ hS hAb ⟨rfl, hPc, hDc⟩) rfl rfl hl.1 rfl (lv_room (Nat.le_of_ble_eq_true rfl)) dL_law_1611 ⟨by show _ ≤ 603072; omega, by show _ ≤ 7219306; omega⟩) hS (fun q _ h => hFl q h) hFl (fun z3 H1 locs hz3 hzs hks hS => ?_)
  obtain ⟨hz3, v1w, fn, hcase, hP1, hD1⟩ := hz3
  obtain ⟨hP, hD⟩ := lj_H hP hD hks hFl hP1 hD1
  subst hz3
  clear hks hzs hP1 hD1 hFl hsz hPc hDc; generalize H1 = H at hP hD hS ⊢
  refine W.widen (k := 50 + 361 * (k + 1)) (n := 13700 + 13026 * (k + 1)) (by omega) (by omega) ?_
  refine lv_istore (lv' := [(6, vi (cdSF S v1)), (5, vi (i : Int)), (0, .ref b), (1, .ref ox), (2, .ref om), (3, .ref a1), (4, .ref a2)]) hx hb dL_law_1614 hl (by decide) rfl (fun ls hl => ?_)
  refine lv_aload_n hx hb dL_law_1616 rfl (lv_at hl 4 rfl) ?_
  refine lv_aload_n hx hb dL_law_1617 rfl (lv_at hl 2 rfl) ?_
  refine lv_iload hx hb dL_law_1618 (lv_at hl 1 rfl) ?_
  refine jr_iconst hx hb dL_law_1620 ?_
  refine jr_iadd hx hb dL_law_1621 ?_
  refine va_sld hx hb hX hbl hbA hS (jI_in (by omega) (by omega) (by omega)) dL_law_1622 ?_
  rw [hx1]
  have hPm : PP g w2 H := (hP.perm pmB).mem fun q h => List.mem_append_left _ h
  have hDm := (hD.perm pmB).left
  have hsz : ∀ q, H.size ≤ q → gb g ≤ q := fun q h => by have := hS.1; omega
  refine jk_Qi (va_runV (As := [vi v1]) (rest := []) ⟨hx, hb, hml, hown, htl⟩ (m_X11_unitOf l g om S z w2 hMW v1 hv1) (cwV 1 htl lk_L_230 rfl rfl rfl cwV_X11_unitOf ⟨Nat.le_of_ble_eq_true rfl, Nat.le_of_ble_eq_true rfl⟩) (jp_V hKK hS hAb (MW.recv hKK hMW hPm) ⟨hPm, hDm⟩) rfl rfl hl.1 rfl (lv_room (Nat.le_of_ble_eq_true rfl)) dL_law_1623 ⟨by show _ ≤ 603072; omega, by show _ ≤ 7219306; omega⟩) hS (fun q _ h => hDm.inA h) (fun q h => hDm.inA h) (fun zm H1 locs hzm hzs hks hS => ?_)
  obtain ⟨S9, v2w, hC9, hM9, hI9, hP2, hD2, hval⟩ : ∃ (S9 : SGM) (v2w : va_W), CW g ox S9 v1w ∧ MW g om S9 (cdSF S v1) v2w ∧ SI S9 ∧ PP g v2w H1 ∧ va_D (jA w2) v2w ∧ ((cdSF S v1) = 0 → fn 0 = (jI ((sg S v1).2.2.2.1)).toInt64 ∧ zm = (sg S v1).2.2.2.1) := by
    rcases hcase with ⟨h1, h2, h3⟩ | ⟨h1, h2⟩ <;> rcases hzm with ⟨h4, h5, v2w, h6, h7, h8⟩ | ⟨h4, v2w, h6, h7, h8⟩
    · exact ⟨S, v2w, h2, by rw [h1]; exact h6, hSI, h7, h8, fun _ => ⟨h3, h5⟩⟩
    · exact absurd h1 h4
    · exact absurd h4 h1
    · exact ⟨S, v2w, h2, h6, hSI, h7, h8, fun q => absurd q h1⟩
  obtain ⟨hP, hD⟩ := lj_M hP hD hsz hks hP2 hD2
  clear hcase hks hzs hP2 hD2 hPm hDm hsz hzm; generalize H1 = H at hP hD hS ⊢
  refine lv_istore (lv' := [(7, vi zm), (6, vi (cdSF S v1)), (5, vi (i : Int)), (0, .ref b), (1, .ref ox), (2, .ref om), (3, .ref a1), (4, .ref a2)]) hx hb dL_law_1626 hl (by decide) rfl (fun ls hl => ?_)
  refine lv_aload_n hx hb dL_law_1628 rfl (lv_at hl 5 rfl) ?_
  refine jk_Si (va_runV (As := []) (rest := []) ⟨hx, hb, hml, hown, htl⟩ (m_X11_thrownW l g om S9 (cdSF S v1) v2w hM9) (cwV 0 htl lk_L_140 rfl rfl rfl cwV_X11_thrown ⟨Nat.le_of_ble_eq_true rfl, Nat.le_of_ble_eq_true rfl⟩) (jp_V hKK hS hAb (MW.recv hKK hM9 (hP.mem fun q h => List.mem_cons_of_mem _ (List.mem_cons_of_mem _ (List.mem_append_right _ h)))) (hP.mem fun q h => List.mem_cons_of_mem _ (List.mem_cons_of_mem _ (List.mem_append_right _ h)))) rfl rfl hl.1 rfl (lv_room (Nat.le_of_ble_eq_true rfl)) dL_law_1629 ⟨by show _ ≤ 603072; omega, by show _ ≤ 7219306; omega⟩) (fun z4 hz4 => ?_)
  subst hz4
  refine lv_iload hx hb dL_law_1632 (lv_at hl 1 rfl) ?_
  refine lv_icmp_eq (tgt := 1639) hx hb dL_law_1634 (by decide) (fun _ => ?_) (fun h9 => absurd rfl h9)
  refine lv_iload hx hb dL_law_1639 (lv_at hl 1 rfl) ?_
  have hcdR : jR (cdSF S v1) := by unfold cdSF; (repeat' split) <;> exact ⟨by omega, by omega⟩
  refine lv_if_ne (tgt := 1656) hx hb dL_law_1641 (by decide) (fun h9 => ?_) (fun h9 => ?_)
  · refine lv_goto (tgt := 2202) hx hb dL_law_1656 (by decide) ?_
    refine jr_iinc (lv' := [(5, vi ((i : Int) + 5)), (7, vi zm), (6, vi (cdSF S v1)), (0, .ref b), (1, .ref ox), (2, .ref om), (3, .ref a1), (4, .ref a2)]) hx hb dL_law_2202 hl (k := 2) rfl rfl (by decide) rfl (fun ls hl => ?_)
    refine lv_goto (tgt := 28) hx hb dL_law_2205 (by decide) ?_
    exact K S9 _ v1w v2w fn f2 H locs hC9 hM9 hI9 hP hD hS ls (lv_sub hl [0, 3, 4, 5, 6, 7] rfl)
  · have hc0 : (cdSF S v1) = 0 := (jI_inj hcdR ⟨by omega, by omega⟩).mp h9
    obtain ⟨hLV, hZ⟩ := hval hc0
    subst hZ
    refine lv_aload_n hx hb dL_law_1644 rfl (lv_at hl 6 rfl) ?_
    refine jr_iconst hx hb dL_law_1645 ?_
    refine va_lald hx hb hKJ hP 0 0 rfl rfl (jI_in (by omega) (by omega) (by omega)) dL_law_1646 ?_
    rw [show (jI 0).toNatClampNeg = 0 from rfl, hLV]
    refine lv_iload hx hb dL_law_1647 (lv_at hl 0 rfl) ?_
    refine lv_i2l hx hb dL_law_1649 rfl ?_
    refine W.lcmp hx hb dL_law_1650 ?_
    refine lv_if_eq (tgt := 1656) hx hb dL_law_1651 (by decide) (fun _ => ?_) (fun h9 => absurd (lg_cmp_self _) h9)
    refine lv_goto (tgt := 2202) hx hb dL_law_1656 (by decide) ?_
    refine jr_iinc (lv' := [(5, vi ((i : Int) + 5)), (7, vi ((sg S v1).2.2.2.1)), (6, vi (cdSF S v1)), (0, .ref b), (1, .ref ox), (2, .ref om), (3, .ref a1), (4, .ref a2)]) hx hb dL_law_2202 hl (k := 2) rfl rfl (by decide) rfl (fun ls hl => ?_)
    refine lv_goto (tgt := 28) hx hb dL_law_2205 (by decide) ?_
    exact K S9 _ v1w v2w fn f2 H locs hC9 hM9 hI9 hP hD hS ls (lv_sub hl [0, 3, 4, 5, 6, 7] rfl)
set_option maxHeartbeats 4000000 in
set_option maxRecDepth 100000 in
theorem lc_scoreOf (l : Launch) (hsT : l.stackTraces = false) {g : GT} {cj cd : ClassId} {p : Program} {e : Env} {s : State} {m : MethodId} {b : Nat} {below : List Frame} {meth : Method} {c : Code} {Q : State → Prop} {ox om a1 a2 i k L : Nat} {xs : Nat → Int32} (hx : p.tables.exec = Jvm.exec) (hb : c.code = cL_law) (hml : c.maxLocals = 9) (hown : s.vm.findClass RL = some m.cls) (htl : ∀ w ∈ WSL, w.before #[Value.ref b] s = true) (hKK : KK g s) (hKJ : KJ g cj cd s) (hgb : gb g = s.heap.size) (hX : va_X b L xs s s.heap) (hbl : b < s.heap.size) (hi : i + 5 ≤ L) (hL : L ≤ 2560) (hk : k < 512) (K : LK g cj cd p l e s m b below meth c Q ox om a1 a2 (i + 5) (k + 1))
    (S : SGM) (z : Int) (w1 w2 : va_W) (f1 : Nat → Int64) (f2 : Nat → UInt64) (H : Heap) (locs : List Loc) (hCW : CW g ox S w1) (hMW : MW g om S z w2) (hSI : SI S) (hP : PP g (aJ cj a1 f1 :: aD1 cd a2 f2 :: (w1 ++ w2)) H) (hD : va_D (fun q => gb g ≤ q) (aJ cj a1 f1 :: aD1 cd a2 f2 :: (w1 ++ w2))) (hS : va_S (fun q => gb g ≤ q) s.heap H locs) (ls : Array Slot) (hl : lv_has ls 9 [(5, vi (i : Int)), (0, .ref b), (1, .ref ox), (2, .ref om), (3, .ref a1), (4, .ref a2)]) : W p l e room_1 s m #[Value.ref b] below meth c H locs (50 + 361 * k) (13700 + 13026 * k) Q (F0 m 1659 ls []) := by
  have hbA : ¬ (fun q => gb g ≤ q) b := by show ¬ gb g ≤ b; omega
  have hAb : ∀ q, (fun q => gb g ≤ q) q → gb g ≤ q := fun _ h => h
  obtain ⟨v1, hv1, hx1⟩ : ∃ v : Int, jR v ∧ xs (jI ((i : Int) + 1)).toNatClampNeg = jI v := ⟨_, jR_of _, jI_of _⟩
  have hDc := (hD.perm pmA).left
  have hPc : PP g (aJ cj a1 f1 :: w1) H := (hP.perm pmA).mem fun q h => List.mem_append_left _ h
  have hsz : ∀ q, H.size ≤ q → gb g ≤ q := fun q h => by have := hS.1; omega
  have hFl : ∀ q, va_A (aJ cj a1 f1 :: w1) H.size q → gb g ≤ q := va_A_sub hDc (Nat.le_refl _) hsz
  refine lv_aload_n hx hb dL_law_1659 rfl (lv_at hl 2 rfl) ?_
  refine lv_aload_n hx hb dL_law_1660 rfl (lv_at hl 1 rfl) ?_
  refine lv_iload hx hb dL_law_1661 (lv_at hl 0 rfl) ?_
  refine jr_iconst hx hb dL_law_1663 ?_
  refine jr_iadd hx hb dL_law_1664 ?_
  refine va_sld hx hb hX hbl hbA hS (jI_in (by omega) (by omega) (by omega)) dL_law_1665 ?_
  rw [hx1]
  refine lv_aload_n hx hb dL_law_1666 rfl (lv_at hl 4 rfl) ?_
  refine jk_Qi (vx_runSW (As := [.ref ox, vi v1, .ref a1]) (rest := []) ⟨hx, hb, hml, hown, htl⟩ (m_L_scoreOf l hsT g cj cd ox a1 f1 S w1 hCW H.size v1 hv1) (vx_cwSW 3 htl lkH_scoreOf rfl rfl rfl cwS_L_scoreOf ⟨Nat.le_of_ble_eq_true rfl, Nat.le_of_ble_eq_true rfl⟩) (jp_H hKK hKJ hS hAb ⟨rfl, hPc, hDc⟩) rfl rfl hl.1 rfl (lv_room (Nat.le_of_ble_eq_true rfl)) dL_law_1667 ⟨by show _ ≤ 603072; omega, by show _ ≤ 7219306; omega⟩) hS (fun q _ h => hFl q h) hFl (fun z3 H1 locs hz3 hzs hks hS => ?_)
  obtain ⟨hz3, v1w, fn, hcase, hP1, hD1⟩ := hz3
  obtain ⟨hP, hD⟩ := lj_H hP hD hks hFl hP1 hD1
  subst hz3
  clear hks hzs hP1 hD1 hFl hsz hPc hDc; generalize H1 = H at hP hD hS ⊢
  refine W.widen (k := 50 + 361 * (k + 1)) (n := 13700 + 13026 * (k + 1)) (by omega) (by omega) ?_
  refine lv_istore (lv' := [(6, vi (cdSF S v1)), (5, vi (i : Int)), (0, .ref b), (1, .ref ox), (2, .ref om), (3, .ref a1), (4, .ref a2)]) hx hb dL_law_1670 hl (by decide) rfl (fun ls hl => ?_)
  refine lv_aload_n hx hb dL_law_1672 rfl (lv_at hl 4 rfl) ?_
  refine lv_aload_n hx hb dL_law_1673 rfl (lv_at hl 2 rfl) ?_
  refine lv_iload hx hb dL_law_1674 (lv_at hl 1 rfl) ?_
  refine jr_iconst hx hb dL_law_1676 ?_
  refine jr_iadd hx hb dL_law_1677 ?_
  refine va_sld hx hb hX hbl hbA hS (jI_in (by omega) (by omega) (by omega)) dL_law_1678 ?_
  rw [hx1]
  have hPm : PP g w2 H := (hP.perm pmB).mem fun q h => List.mem_append_left _ h
  have hDm := (hD.perm pmB).left
  have hsz : ∀ q, H.size ≤ q → gb g ≤ q := fun q h => by have := hS.1; omega
  refine jk_Qi (va_runV (As := [vi v1]) (rest := []) ⟨hx, hb, hml, hown, htl⟩ (m_X11_scoreOf_ l g om S z w2 hMW v1 hv1) (cwV 1 htl lk_L_233 rfl rfl rfl cwV_X11_scoreOf_ ⟨Nat.le_of_ble_eq_true rfl, Nat.le_of_ble_eq_true rfl⟩) (jp_V hKK hS hAb (MW.recv hKK hMW hPm) ⟨hPm, hDm⟩) rfl rfl hl.1 rfl (lv_room (Nat.le_of_ble_eq_true rfl)) dL_law_1679 ⟨by show _ ≤ 603072; omega, by show _ ≤ 7219306; omega⟩) hS (fun q _ h => hDm.inA h) (fun q h => hDm.inA h) (fun zm H1 locs hzm hzs hks hS => ?_)
  obtain ⟨S9, v2w, hC9, hM9, hI9, hP2, hD2, hval⟩ : ∃ (S9 : SGM) (v2w : va_W), CW g ox S9 v1w ∧ MW g om S9 (cdSF S v1) v2w ∧ SI S9 ∧ PP g v2w H1 ∧ va_D (jA w2) v2w ∧ ((cdSF S v1) = 0 → fn 0 = (jI ((sg S v1).2.2.2.2)).toInt64 ∧ zm = (sg S v1).2.2.2.2) := by
    rcases hcase with ⟨h1, h2, h3⟩ | ⟨h1, h2⟩ <;> rcases hzm with ⟨h4, h5, v2w, h6, h7, h8⟩ | ⟨h4, v2w, h6, h7, h8⟩
    · exact ⟨S, v2w, h2, by rw [h1]; exact h6, hSI, h7, h8, fun _ => ⟨h3, h5⟩⟩
    · exact absurd h1 h4
    · exact absurd h4 h1
    · exact ⟨S, v2w, h2, h6, hSI, h7, h8, fun q => absurd q h1⟩
  obtain ⟨hP, hD⟩ := lj_M hP hD hsz hks hP2 hD2
  clear hcase hks hzs hP2 hD2 hPm hDm hsz hzm; generalize H1 = H at hP hD hS ⊢
  refine lv_istore (lv' := [(7, vi zm), (6, vi (cdSF S v1)), (5, vi (i : Int)), (0, .ref b), (1, .ref ox), (2, .ref om), (3, .ref a1), (4, .ref a2)]) hx hb dL_law_1682 hl (by decide) rfl (fun ls hl => ?_)
  refine lv_aload_n hx hb dL_law_1684 rfl (lv_at hl 5 rfl) ?_
  refine jk_Si (va_runV (As := []) (rest := []) ⟨hx, hb, hml, hown, htl⟩ (m_X11_thrownW l g om S9 (cdSF S v1) v2w hM9) (cwV 0 htl lk_L_140 rfl rfl rfl cwV_X11_thrown ⟨Nat.le_of_ble_eq_true rfl, Nat.le_of_ble_eq_true rfl⟩) (jp_V hKK hS hAb (MW.recv hKK hM9 (hP.mem fun q h => List.mem_cons_of_mem _ (List.mem_cons_of_mem _ (List.mem_append_right _ h)))) (hP.mem fun q h => List.mem_cons_of_mem _ (List.mem_cons_of_mem _ (List.mem_append_right _ h)))) rfl rfl hl.1 rfl (lv_room (Nat.le_of_ble_eq_true rfl)) dL_law_1685 ⟨by show _ ≤ 603072; omega, by show _ ≤ 7219306; omega⟩) (fun z4 hz4 => ?_)
  subst hz4
  refine lv_iload hx hb dL_law_1688 (lv_at hl 1 rfl) ?_
  refine lv_icmp_eq (tgt := 1695) hx hb dL_law_1690 (by decide) (fun _ => ?_) (fun h9 => absurd rfl h9)
  refine lv_iload hx hb dL_law_1695 (lv_at hl 1 rfl) ?_
  have hcdR : jR (cdSF S v1) := by unfold cdSF; (repeat' split) <;> exact ⟨by omega, by omega⟩
  refine lv_if_ne (tgt := 1712) hx hb dL_law_1697 (by decide) (fun h9 => ?_) (fun h9 => ?_)
  · refine lv_goto (tgt := 2202) hx hb dL_law_1712 (by decide) ?_
    refine jr_iinc (lv' := [(5, vi ((i : Int) + 5)), (7, vi zm), (6, vi (cdSF S v1)), (0, .ref b), (1, .ref ox), (2, .ref om), (3, .ref a1), (4, .ref a2)]) hx hb dL_law_2202 hl (k := 2) rfl rfl (by decide) rfl (fun ls hl => ?_)
    refine lv_goto (tgt := 28) hx hb dL_law_2205 (by decide) ?_
    exact K S9 _ v1w v2w fn f2 H locs hC9 hM9 hI9 hP hD hS ls (lv_sub hl [0, 3, 4, 5, 6, 7] rfl)
  · have hc0 : (cdSF S v1) = 0 := (jI_inj hcdR ⟨by omega, by omega⟩).mp h9
    obtain ⟨hLV, hZ⟩ := hval hc0
    subst hZ
    refine lv_aload_n hx hb dL_law_1700 rfl (lv_at hl 6 rfl) ?_
    refine jr_iconst hx hb dL_law_1701 ?_
    refine va_lald hx hb hKJ hP 0 0 rfl rfl (jI_in (by omega) (by omega) (by omega)) dL_law_1702 ?_
    rw [show (jI 0).toNatClampNeg = 0 from rfl, hLV]
    refine lv_iload hx hb dL_law_1703 (lv_at hl 0 rfl) ?_
    refine lv_i2l hx hb dL_law_1705 rfl ?_
    refine W.lcmp hx hb dL_law_1706 ?_
    refine lv_if_eq (tgt := 1712) hx hb dL_law_1707 (by decide) (fun _ => ?_) (fun h9 => absurd (lg_cmp_self _) h9)
    refine lv_goto (tgt := 2202) hx hb dL_law_1712 (by decide) ?_
    refine jr_iinc (lv' := [(5, vi ((i : Int) + 5)), (7, vi ((sg S v1).2.2.2.2)), (6, vi (cdSF S v1)), (0, .ref b), (1, .ref ox), (2, .ref om), (3, .ref a1), (4, .ref a2)]) hx hb dL_law_2202 hl (k := 2) rfl rfl (by decide) rfl (fun ls hl => ?_)
    refine lv_goto (tgt := 28) hx hb dL_law_2205 (by decide) ?_
    exact K S9 _ v1w v2w fn f2 H locs hC9 hM9 hI9 hP hD hS ls (lv_sub hl [0, 3, 4, 5, 6, 7] rfl)
set_option maxHeartbeats 4000000 in
set_option maxRecDepth 100000 in
theorem lc_segmentLength (l : Launch) (hsT : l.stackTraces = false) {g : GT} {cj cd : ClassId} {p : Program} {e : Env} {s : State} {m : MethodId} {b : Nat} {below : List Frame} {meth : Method} {c : Code} {Q : State → Prop} {ox om a1 a2 i k L : Nat} {xs : Nat → Int32} (hx : p.tables.exec = Jvm.exec) (hb : c.code = cL_law) (hml : c.maxLocals = 9) (hown : s.vm.findClass RL = some m.cls) (htl : ∀ w ∈ WSL, w.before #[Value.ref b] s = true) (hKK : KK g s) (hKJ : KJ g cj cd s) (hgb : gb g = s.heap.size) (hX : va_X b L xs s s.heap) (hbl : b < s.heap.size) (hi : i + 5 ≤ L) (hL : L ≤ 2560) (hk : k < 512) (K : LK g cj cd p l e s m b below meth c Q ox om a1 a2 (i + 5) (k + 1))
    (S : SGM) (z : Int) (w1 w2 : va_W) (f1 : Nat → Int64) (f2 : Nat → UInt64) (H : Heap) (locs : List Loc) (hCW : CW g ox S w1) (hMW : MW g om S z w2) (hSI : SI S) (hP : PP g (aJ cj a1 f1 :: aD1 cd a2 f2 :: (w1 ++ w2)) H) (hD : va_D (fun q => gb g ≤ q) (aJ cj a1 f1 :: aD1 cd a2 f2 :: (w1 ++ w2))) (hS : va_S (fun q => gb g ≤ q) s.heap H locs) (ls : Array Slot) (hl : lv_has ls 9 [(5, vi (i : Int)), (0, .ref b), (1, .ref ox), (2, .ref om), (3, .ref a1), (4, .ref a2)]) : W p l e room_1 s m #[Value.ref b] below meth c H locs (50 + 361 * k) (13700 + 13026 * k) Q (F0 m 1715 ls []) := by
  have hbA : ¬ (fun q => gb g ≤ q) b := by show ¬ gb g ≤ b; omega
  have hAb : ∀ q, (fun q => gb g ≤ q) q → gb g ≤ q := fun _ h => h
  obtain ⟨v1, hv1, hx1⟩ : ∃ v : Int, jR v ∧ xs (jI ((i : Int) + 1)).toNatClampNeg = jI v := ⟨_, jR_of _, jI_of _⟩
  have hDc := (hD.perm pmA).left
  have hPc : PP g (aJ cj a1 f1 :: w1) H := (hP.perm pmA).mem fun q h => List.mem_append_left _ h
  have hsz : ∀ q, H.size ≤ q → gb g ≤ q := fun q h => by have := hS.1; omega
  have hFl : ∀ q, va_A (aJ cj a1 f1 :: w1) H.size q → gb g ≤ q := va_A_sub hDc (Nat.le_refl _) hsz
  refine lv_aload_n hx hb dL_law_1715 rfl (lv_at hl 2 rfl) ?_
  refine lv_aload_n hx hb dL_law_1716 rfl (lv_at hl 1 rfl) ?_
  refine lv_iload hx hb dL_law_1717 (lv_at hl 0 rfl) ?_
  refine jr_iconst hx hb dL_law_1719 ?_
  refine jr_iadd hx hb dL_law_1720 ?_
  refine va_sld hx hb hX hbl hbA hS (jI_in (by omega) (by omega) (by omega)) dL_law_1721 ?_
  rw [hx1]
  refine lv_aload_n hx hb dL_law_1722 rfl (lv_at hl 4 rfl) ?_
  refine jk_Qi (vx_runSW (As := [.ref ox, vi v1, .ref a1]) (rest := []) ⟨hx, hb, hml, hown, htl⟩ (m_L_segmentLength l hsT g cj cd ox a1 f1 S w1 hCW H.size v1 hv1) (vx_cwSW 3 htl lkH_segmentLength rfl rfl rfl cwS_L_segmentLength ⟨Nat.le_of_ble_eq_true rfl, Nat.le_of_ble_eq_true rfl⟩) (jp_H hKK hKJ hS hAb ⟨rfl, hPc, hDc⟩) rfl rfl hl.1 rfl (lv_room (Nat.le_of_ble_eq_true rfl)) dL_law_1723 ⟨by show _ ≤ 603072; omega, by show _ ≤ 7219306; omega⟩) hS (fun q _ h => hFl q h) hFl (fun z3 H1 locs hz3 hzs hks hS => ?_)
  obtain ⟨hz3, v1w, fn, hcase, hP1, hD1⟩ := hz3
  obtain ⟨hP, hD⟩ := lj_H hP hD hks hFl hP1 hD1
  subst hz3
  clear hks hzs hP1 hD1 hFl hsz hPc hDc; generalize H1 = H at hP hD hS ⊢
  refine W.widen (k := 50 + 361 * (k + 1)) (n := 13700 + 13026 * (k + 1)) (by omega) (by omega) ?_
  refine lv_istore (lv' := [(6, vi (cdS S v1)), (5, vi (i : Int)), (0, .ref b), (1, .ref ox), (2, .ref om), (3, .ref a1), (4, .ref a2)]) hx hb dL_law_1726 hl (by decide) rfl (fun ls hl => ?_)
  refine lv_aload_n hx hb dL_law_1728 rfl (lv_at hl 4 rfl) ?_
  refine lv_aload_n hx hb dL_law_1729 rfl (lv_at hl 2 rfl) ?_
  refine lv_iload hx hb dL_law_1730 (lv_at hl 1 rfl) ?_
  refine jr_iconst hx hb dL_law_1732 ?_
  refine jr_iadd hx hb dL_law_1733 ?_
  refine va_sld hx hb hX hbl hbA hS (jI_in (by omega) (by omega) (by omega)) dL_law_1734 ?_
  rw [hx1]
  have hPm : PP g w2 H := (hP.perm pmB).mem fun q h => List.mem_append_left _ h
  have hDm := (hD.perm pmB).left
  have hsz : ∀ q, H.size ≤ q → gb g ≤ q := fun q h => by have := hS.1; omega
  refine jk_Qi (va_runV (As := [vi v1]) (rest := []) ⟨hx, hb, hml, hown, htl⟩ (m_X11_segmentLength l g om S z w2 hMW v1 hv1) (cwV 1 htl lk_L_236 rfl rfl rfl cwV_X11_segmentLength ⟨Nat.le_of_ble_eq_true rfl, Nat.le_of_ble_eq_true rfl⟩) (jp_V hKK hS hAb (MW.recv hKK hMW hPm) ⟨hPm, hDm⟩) rfl rfl hl.1 rfl (lv_room (Nat.le_of_ble_eq_true rfl)) dL_law_1735 ⟨by show _ ≤ 603072; omega, by show _ ≤ 7219306; omega⟩) hS (fun q _ h => hDm.inA h) (fun q h => hDm.inA h) (fun zm H1 locs hzm hzs hks hS => ?_)
  obtain ⟨S9, v2w, hC9, hM9, hI9, hP2, hD2, hval⟩ : ∃ (S9 : SGM) (v2w : va_W), CW g ox S9 v1w ∧ MW g om S9 (cdS S v1) v2w ∧ SI S9 ∧ PP g v2w H1 ∧ va_D (jA w2) v2w ∧ ((cdS S v1) = 0 → fn 0 = (jI (((sg S v1).1.length : Int))).toInt64 ∧ zm = ((sg S v1).1.length : Int)) := by
    rcases hcase with ⟨h1, h2, h3⟩ | ⟨h1, h2⟩ <;> rcases hzm with ⟨h4, h5, v2w, h6, h7, h8⟩ | ⟨h4, v2w, h6, h7, h8⟩
    · exact ⟨S, v2w, h2, by rw [h1]; exact h6, hSI, h7, h8, fun _ => ⟨h3, h5⟩⟩
    · exact absurd h1 h4
    · exact absurd h4 h1
    · exact ⟨S, v2w, h2, h6, hSI, h7, h8, fun q => absurd q h1⟩
  obtain ⟨hP, hD⟩ := lj_M hP hD hsz hks hP2 hD2
  clear hcase hks hzs hP2 hD2 hPm hDm hsz hzm; generalize H1 = H at hP hD hS ⊢
  refine lv_istore (lv' := [(7, vi zm), (6, vi (cdS S v1)), (5, vi (i : Int)), (0, .ref b), (1, .ref ox), (2, .ref om), (3, .ref a1), (4, .ref a2)]) hx hb dL_law_1738 hl (by decide) rfl (fun ls hl => ?_)
  refine lv_aload_n hx hb dL_law_1740 rfl (lv_at hl 5 rfl) ?_
  refine jk_Si (va_runV (As := []) (rest := []) ⟨hx, hb, hml, hown, htl⟩ (m_X11_thrownW l g om S9 (cdS S v1) v2w hM9) (cwV 0 htl lk_L_140 rfl rfl rfl cwV_X11_thrown ⟨Nat.le_of_ble_eq_true rfl, Nat.le_of_ble_eq_true rfl⟩) (jp_V hKK hS hAb (MW.recv hKK hM9 (hP.mem fun q h => List.mem_cons_of_mem _ (List.mem_cons_of_mem _ (List.mem_append_right _ h)))) (hP.mem fun q h => List.mem_cons_of_mem _ (List.mem_cons_of_mem _ (List.mem_append_right _ h)))) rfl rfl hl.1 rfl (lv_room (Nat.le_of_ble_eq_true rfl)) dL_law_1741 ⟨by show _ ≤ 603072; omega, by show _ ≤ 7219306; omega⟩) (fun z4 hz4 => ?_)
  subst hz4
  refine lv_iload hx hb dL_law_1744 (lv_at hl 1 rfl) ?_
  refine lv_icmp_eq (tgt := 1751) hx hb dL_law_1746 (by decide) (fun _ => ?_) (fun h9 => absurd rfl h9)
  refine lv_iload hx hb dL_law_1751 (lv_at hl 1 rfl) ?_
  have hcdR : jR (cdS S v1) := by unfold cdS; (repeat' split) <;> exact ⟨by omega, by omega⟩
  refine lv_if_ne (tgt := 1768) hx hb dL_law_1753 (by decide) (fun h9 => ?_) (fun h9 => ?_)
  · refine lv_goto (tgt := 2202) hx hb dL_law_1768 (by decide) ?_
    refine jr_iinc (lv' := [(5, vi ((i : Int) + 5)), (7, vi zm), (6, vi (cdS S v1)), (0, .ref b), (1, .ref ox), (2, .ref om), (3, .ref a1), (4, .ref a2)]) hx hb dL_law_2202 hl (k := 2) rfl rfl (by decide) rfl (fun ls hl => ?_)
    refine lv_goto (tgt := 28) hx hb dL_law_2205 (by decide) ?_
    exact K S9 _ v1w v2w fn f2 H locs hC9 hM9 hI9 hP hD hS ls (lv_sub hl [0, 3, 4, 5, 6, 7] rfl)
  · have hc0 : (cdS S v1) = 0 := (jI_inj hcdR ⟨by omega, by omega⟩).mp h9
    obtain ⟨hLV, hZ⟩ := hval hc0
    subst hZ
    refine lv_aload_n hx hb dL_law_1756 rfl (lv_at hl 6 rfl) ?_
    refine jr_iconst hx hb dL_law_1757 ?_
    refine va_lald hx hb hKJ hP 0 0 rfl rfl (jI_in (by omega) (by omega) (by omega)) dL_law_1758 ?_
    rw [show (jI 0).toNatClampNeg = 0 from rfl, hLV]
    refine lv_iload hx hb dL_law_1759 (lv_at hl 0 rfl) ?_
    refine lv_i2l hx hb dL_law_1761 rfl ?_
    refine W.lcmp hx hb dL_law_1762 ?_
    refine lv_if_eq (tgt := 1768) hx hb dL_law_1763 (by decide) (fun _ => ?_) (fun h9 => absurd (lg_cmp_self _) h9)
    refine lv_goto (tgt := 2202) hx hb dL_law_1768 (by decide) ?_
    refine jr_iinc (lv' := [(5, vi ((i : Int) + 5)), (7, vi ((sg S v1).1.length : Int)), (6, vi (cdS S v1)), (0, .ref b), (1, .ref ox), (2, .ref om), (3, .ref a1), (4, .ref a2)]) hx hb dL_law_2202 hl (k := 2) rfl rfl (by decide) rfl (fun ls hl => ?_)
    refine lv_goto (tgt := 28) hx hb dL_law_2205 (by decide) ?_
    exact K S9 _ v1w v2w fn f2 H locs hC9 hM9 hI9 hP hD hS ls (lv_sub hl [0, 3, 4, 5, 6, 7] rfl)
set_option maxHeartbeats 4000000 in
set_option maxRecDepth 100000 in
theorem lc_segmentToken (l : Launch) (hsT : l.stackTraces = false) {g : GT} {cj cd : ClassId} {p : Program} {e : Env} {s : State} {m : MethodId} {b : Nat} {below : List Frame} {meth : Method} {c : Code} {Q : State → Prop} {ox om a1 a2 i k L : Nat} {xs : Nat → Int32} (hx : p.tables.exec = Jvm.exec) (hb : c.code = cL_law) (hml : c.maxLocals = 9) (hown : s.vm.findClass RL = some m.cls) (htl : ∀ w ∈ WSL, w.before #[Value.ref b] s = true) (hKK : KK g s) (hKJ : KJ g cj cd s) (hgb : gb g = s.heap.size) (hX : va_X b L xs s s.heap) (hbl : b < s.heap.size) (hi : i + 5 ≤ L) (hL : L ≤ 2560) (hk : k < 512) (K : LK g cj cd p l e s m b below meth c Q ox om a1 a2 (i + 5) (k + 1))
    (S : SGM) (z : Int) (w1 w2 : va_W) (f1 : Nat → Int64) (f2 : Nat → UInt64) (H : Heap) (locs : List Loc) (hCW : CW g ox S w1) (hMW : MW g om S z w2) (hSI : SI S) (hP : PP g (aJ cj a1 f1 :: aD1 cd a2 f2 :: (w1 ++ w2)) H) (hD : va_D (fun q => gb g ≤ q) (aJ cj a1 f1 :: aD1 cd a2 f2 :: (w1 ++ w2))) (hS : va_S (fun q => gb g ≤ q) s.heap H locs) (ls : Array Slot) (hl : lv_has ls 9 [(5, vi (i : Int)), (0, .ref b), (1, .ref ox), (2, .ref om), (3, .ref a1), (4, .ref a2)]) : W p l e room_1 s m #[Value.ref b] below meth c H locs (50 + 361 * k) (13700 + 13026 * k) Q (F0 m 1771 ls []) := by
  have hbA : ¬ (fun q => gb g ≤ q) b := by show ¬ gb g ≤ b; omega
  have hAb : ∀ q, (fun q => gb g ≤ q) q → gb g ≤ q := fun _ h => h
  obtain ⟨v1, hv1, hx1⟩ : ∃ v : Int, jR v ∧ xs (jI ((i : Int) + 1)).toNatClampNeg = jI v := ⟨_, jR_of _, jI_of _⟩
  obtain ⟨v2, hv2, hx2⟩ : ∃ v : Int, jR v ∧ xs (jI ((i : Int) + 2)).toNatClampNeg = jI v := ⟨_, jR_of _, jI_of _⟩
  have hDc := (hD.perm pmA).left
  have hPc : PP g (aJ cj a1 f1 :: w1) H := (hP.perm pmA).mem fun q h => List.mem_append_left _ h
  have hsz : ∀ q, H.size ≤ q → gb g ≤ q := fun q h => by have := hS.1; omega
  have hFl : ∀ q, va_A (aJ cj a1 f1 :: w1) H.size q → gb g ≤ q := va_A_sub hDc (Nat.le_refl _) hsz
  refine lv_aload_n hx hb dL_law_1771 rfl (lv_at hl 2 rfl) ?_
  refine lv_aload_n hx hb dL_law_1772 rfl (lv_at hl 1 rfl) ?_
  refine lv_iload hx hb dL_law_1773 (lv_at hl 0 rfl) ?_
  refine jr_iconst hx hb dL_law_1775 ?_
  refine jr_iadd hx hb dL_law_1776 ?_
  refine va_sld hx hb hX hbl hbA hS (jI_in (by omega) (by omega) (by omega)) dL_law_1777 ?_
  rw [hx1]
  refine lv_aload_n hx hb dL_law_1778 rfl (lv_at hl 1 rfl) ?_
  refine lv_iload hx hb dL_law_1779 (lv_at hl 0 rfl) ?_
  refine jr_iconst hx hb dL_law_1781 ?_
  refine jr_iadd hx hb dL_law_1782 ?_
  refine va_sld hx hb hX hbl hbA hS (jI_in (by omega) (by omega) (by omega)) dL_law_1783 ?_
  rw [hx2]
  refine lv_aload_n hx hb dL_law_1784 rfl (lv_at hl 4 rfl) ?_
  refine jk_Qi (vx_runSW (As := [.ref ox, vi v1, vi v2, .ref a1]) (rest := []) ⟨hx, hb, hml, hown, htl⟩ (m_L_segmentToken l hsT g cj cd ox a1 f1 S w1 hCW H.size v1 hv1 v2 hv2) (vx_cwSW 4 htl lkH_segmentToken rfl rfl rfl cwS_L_segmentToken ⟨Nat.le_of_ble_eq_true rfl, Nat.le_of_ble_eq_true rfl⟩) (jp_H hKK hKJ hS hAb ⟨rfl, hPc, hDc⟩) rfl rfl hl.1 rfl (lv_room (Nat.le_of_ble_eq_true rfl)) dL_law_1785 ⟨by show _ ≤ 603072; omega, by show _ ≤ 7219306; omega⟩) hS (fun q _ h => hFl q h) hFl (fun z3 H1 locs hz3 hzs hks hS => ?_)
  obtain ⟨hz3, v1w, fn, hcase, hP1, hD1⟩ := hz3
  obtain ⟨hP, hD⟩ := lj_H hP hD hks hFl hP1 hD1
  subst hz3
  clear hks hzs hP1 hD1 hFl hsz hPc hDc; generalize H1 = H at hP hD hS ⊢
  refine W.widen (k := 50 + 361 * (k + 1)) (n := 13700 + 13026 * (k + 1)) (by omega) (by omega) ?_
  refine lv_istore (lv' := [(6, vi (cdSk S v1 v2)), (5, vi (i : Int)), (0, .ref b), (1, .ref ox), (2, .ref om), (3, .ref a1), (4, .ref a2)]) hx hb dL_law_1788 hl (by decide) rfl (fun ls hl => ?_)
  refine lv_aload_n hx hb dL_law_1790 rfl (lv_at hl 4 rfl) ?_
  refine lv_aload_n hx hb dL_law_1791 rfl (lv_at hl 2 rfl) ?_
  refine lv_iload hx hb dL_law_1792 (lv_at hl 1 rfl) ?_
  refine jr_iconst hx hb dL_law_1794 ?_
  refine jr_iadd hx hb dL_law_1795 ?_
  refine va_sld hx hb hX hbl hbA hS (jI_in (by omega) (by omega) (by omega)) dL_law_1796 ?_
  rw [hx1]
  refine lv_aload_n hx hb dL_law_1797 rfl (lv_at hl 2 rfl) ?_
  refine lv_iload hx hb dL_law_1798 (lv_at hl 1 rfl) ?_
  refine jr_iconst hx hb dL_law_1800 ?_
  refine jr_iadd hx hb dL_law_1801 ?_
  refine va_sld hx hb hX hbl hbA hS (jI_in (by omega) (by omega) (by omega)) dL_law_1802 ?_
  rw [hx2]
  have hPm : PP g w2 H := (hP.perm pmB).mem fun q h => List.mem_append_left _ h
  have hDm := (hD.perm pmB).left
  have hsz : ∀ q, H.size ≤ q → gb g ≤ q := fun q h => by have := hS.1; omega
  refine jk_Qi (va_runV (As := [vi v1, vi v2]) (rest := []) ⟨hx, hb, hml, hown, htl⟩ (m_X11_segmentToken l g om S z w2 hMW v1 hv1 v2 hv2) (cwV 2 htl lk_L_239 rfl rfl rfl cwV_X11_segmentToken ⟨Nat.le_of_ble_eq_true rfl, Nat.le_of_ble_eq_true rfl⟩) (jp_V hKK hS hAb (MW.recv hKK hMW hPm) ⟨hPm, hDm⟩) rfl rfl hl.1 rfl (lv_room (Nat.le_of_ble_eq_true rfl)) dL_law_1803 ⟨by show _ ≤ 603072; omega, by show _ ≤ 7219306; omega⟩) hS (fun q _ h => hDm.inA h) (fun q h => hDm.inA h) (fun zm H1 locs hzm hzs hks hS => ?_)
  obtain ⟨S9, v2w, hC9, hM9, hI9, hP2, hD2, hval⟩ : ∃ (S9 : SGM) (v2w : va_W), CW g ox S9 v1w ∧ MW g om S9 (cdSk S v1 v2) v2w ∧ SI S9 ∧ PP g v2w H1 ∧ va_D (jA w2) v2w ∧ ((cdSk S v1 v2) = 0 → fn 0 = (jI (vl (tAt (sg S v1).1 v2))).toInt64 ∧ zm = vl (tAt (sg S v1).1 v2)) := by
    rcases hcase with ⟨h1, h2, h3⟩ | ⟨h1, h2⟩ <;> rcases hzm with ⟨h4, h5, v2w, h6, h7, h8⟩ | ⟨h4, v2w, h6, h7, h8⟩
    · exact ⟨S, v2w, h2, by rw [h1]; exact h6, hSI, h7, h8, fun _ => ⟨h3, h5⟩⟩
    · exact absurd h1 h4
    · exact absurd h4 h1
    · exact ⟨S, v2w, h2, h6, hSI, h7, h8, fun q => absurd q h1⟩
  obtain ⟨hP, hD⟩ := lj_M hP hD hsz hks hP2 hD2
  clear hcase hks hzs hP2 hD2 hPm hDm hsz hzm; generalize H1 = H at hP hD hS ⊢
  refine lv_istore (lv' := [(7, vi zm), (6, vi (cdSk S v1 v2)), (5, vi (i : Int)), (0, .ref b), (1, .ref ox), (2, .ref om), (3, .ref a1), (4, .ref a2)]) hx hb dL_law_1806 hl (by decide) rfl (fun ls hl => ?_)
  refine lv_aload_n hx hb dL_law_1808 rfl (lv_at hl 5 rfl) ?_
  refine jk_Si (va_runV (As := []) (rest := []) ⟨hx, hb, hml, hown, htl⟩ (m_X11_thrownW l g om S9 (cdSk S v1 v2) v2w hM9) (cwV 0 htl lk_L_140 rfl rfl rfl cwV_X11_thrown ⟨Nat.le_of_ble_eq_true rfl, Nat.le_of_ble_eq_true rfl⟩) (jp_V hKK hS hAb (MW.recv hKK hM9 (hP.mem fun q h => List.mem_cons_of_mem _ (List.mem_cons_of_mem _ (List.mem_append_right _ h)))) (hP.mem fun q h => List.mem_cons_of_mem _ (List.mem_cons_of_mem _ (List.mem_append_right _ h)))) rfl rfl hl.1 rfl (lv_room (Nat.le_of_ble_eq_true rfl)) dL_law_1809 ⟨by show _ ≤ 603072; omega, by show _ ≤ 7219306; omega⟩) (fun z4 hz4 => ?_)
  subst hz4
  refine lv_iload hx hb dL_law_1812 (lv_at hl 1 rfl) ?_
  refine lv_icmp_eq (tgt := 1819) hx hb dL_law_1814 (by decide) (fun _ => ?_) (fun h9 => absurd rfl h9)
  refine lv_iload hx hb dL_law_1819 (lv_at hl 1 rfl) ?_
  have hcdR : jR (cdSk S v1 v2) := by unfold cdSk; (repeat' split) <;> exact ⟨by omega, by omega⟩
  refine lv_if_ne (tgt := 1836) hx hb dL_law_1821 (by decide) (fun h9 => ?_) (fun h9 => ?_)
  · refine lv_goto (tgt := 2202) hx hb dL_law_1836 (by decide) ?_
    refine jr_iinc (lv' := [(5, vi ((i : Int) + 5)), (7, vi zm), (6, vi (cdSk S v1 v2)), (0, .ref b), (1, .ref ox), (2, .ref om), (3, .ref a1), (4, .ref a2)]) hx hb dL_law_2202 hl (k := 2) rfl rfl (by decide) rfl (fun ls hl => ?_)
    refine lv_goto (tgt := 28) hx hb dL_law_2205 (by decide) ?_
    exact K S9 _ v1w v2w fn f2 H locs hC9 hM9 hI9 hP hD hS ls (lv_sub hl [0, 3, 4, 5, 6, 7] rfl)
  · have hc0 : (cdSk S v1 v2) = 0 := (jI_inj hcdR ⟨by omega, by omega⟩).mp h9
    obtain ⟨hLV, hZ⟩ := hval hc0
    subst hZ
    refine lv_aload_n hx hb dL_law_1824 rfl (lv_at hl 6 rfl) ?_
    refine jr_iconst hx hb dL_law_1825 ?_
    refine va_lald hx hb hKJ hP 0 0 rfl rfl (jI_in (by omega) (by omega) (by omega)) dL_law_1826 ?_
    rw [show (jI 0).toNatClampNeg = 0 from rfl, hLV]
    refine lv_iload hx hb dL_law_1827 (lv_at hl 0 rfl) ?_
    refine lv_i2l hx hb dL_law_1829 rfl ?_
    refine W.lcmp hx hb dL_law_1830 ?_
    refine lv_if_eq (tgt := 1836) hx hb dL_law_1831 (by decide) (fun _ => ?_) (fun h9 => absurd (lg_cmp_self _) h9)
    refine lv_goto (tgt := 2202) hx hb dL_law_1836 (by decide) ?_
    refine jr_iinc (lv' := [(5, vi ((i : Int) + 5)), (7, vi (vl (tAt (sg S v1).1 v2))), (6, vi (cdSk S v1 v2)), (0, .ref b), (1, .ref ox), (2, .ref om), (3, .ref a1), (4, .ref a2)]) hx hb dL_law_2202 hl (k := 2) rfl rfl (by decide) rfl (fun ls hl => ?_)
    refine lv_goto (tgt := 28) hx hb dL_law_2205 (by decide) ?_
    exact K S9 _ v1w v2w fn f2 H locs hC9 hM9 hI9 hP hD hS ls (lv_sub hl [0, 3, 4, 5, 6, 7] rfl)
set_option maxHeartbeats 4000000 in
set_option maxRecDepth 100000 in
theorem lc_targetLength (l : Launch) (hsT : l.stackTraces = false) {g : GT} {cj cd : ClassId} {p : Program} {e : Env} {s : State} {m : MethodId} {b : Nat} {below : List Frame} {meth : Method} {c : Code} {Q : State → Prop} {ox om a1 a2 i k L : Nat} {xs : Nat → Int32} (hx : p.tables.exec = Jvm.exec) (hb : c.code = cL_law) (hml : c.maxLocals = 9) (hown : s.vm.findClass RL = some m.cls) (htl : ∀ w ∈ WSL, w.before #[Value.ref b] s = true) (hKK : KK g s) (hKJ : KJ g cj cd s) (hgb : gb g = s.heap.size) (hX : va_X b L xs s s.heap) (hbl : b < s.heap.size) (hi : i + 5 ≤ L) (hL : L ≤ 2560) (hk : k < 512) (K : LK g cj cd p l e s m b below meth c Q ox om a1 a2 (i + 5) (k + 1))
    (S : SGM) (z : Int) (w1 w2 : va_W) (f1 : Nat → Int64) (f2 : Nat → UInt64) (H : Heap) (locs : List Loc) (hCW : CW g ox S w1) (hMW : MW g om S z w2) (hSI : SI S) (hP : PP g (aJ cj a1 f1 :: aD1 cd a2 f2 :: (w1 ++ w2)) H) (hD : va_D (fun q => gb g ≤ q) (aJ cj a1 f1 :: aD1 cd a2 f2 :: (w1 ++ w2))) (hS : va_S (fun q => gb g ≤ q) s.heap H locs) (ls : Array Slot) (hl : lv_has ls 9 [(5, vi (i : Int)), (0, .ref b), (1, .ref ox), (2, .ref om), (3, .ref a1), (4, .ref a2)]) : W p l e room_1 s m #[Value.ref b] below meth c H locs (50 + 361 * k) (13700 + 13026 * k) Q (F0 m 1839 ls []) := by
  have hbA : ¬ (fun q => gb g ≤ q) b := by show ¬ gb g ≤ b; omega
  have hAb : ∀ q, (fun q => gb g ≤ q) q → gb g ≤ q := fun _ h => h
  obtain ⟨v1, hv1, hx1⟩ : ∃ v : Int, jR v ∧ xs (jI ((i : Int) + 1)).toNatClampNeg = jI v := ⟨_, jR_of _, jI_of _⟩
  have hDc := (hD.perm pmA).left
  have hPc : PP g (aJ cj a1 f1 :: w1) H := (hP.perm pmA).mem fun q h => List.mem_append_left _ h
  have hsz : ∀ q, H.size ≤ q → gb g ≤ q := fun q h => by have := hS.1; omega
  have hFl : ∀ q, va_A (aJ cj a1 f1 :: w1) H.size q → gb g ≤ q := va_A_sub hDc (Nat.le_refl _) hsz
  refine lv_aload_n hx hb dL_law_1839 rfl (lv_at hl 2 rfl) ?_
  refine lv_aload_n hx hb dL_law_1840 rfl (lv_at hl 1 rfl) ?_
  refine lv_iload hx hb dL_law_1841 (lv_at hl 0 rfl) ?_
  refine jr_iconst hx hb dL_law_1843 ?_
  refine jr_iadd hx hb dL_law_1844 ?_
  refine va_sld hx hb hX hbl hbA hS (jI_in (by omega) (by omega) (by omega)) dL_law_1845 ?_
  rw [hx1]
  refine lv_aload_n hx hb dL_law_1846 rfl (lv_at hl 4 rfl) ?_
  refine jk_Qi (vx_runSW (As := [.ref ox, vi v1, .ref a1]) (rest := []) ⟨hx, hb, hml, hown, htl⟩ (m_L_targetLength l hsT g cj cd ox a1 f1 S w1 hCW H.size v1 hv1) (vx_cwSW 3 htl lkH_targetLength rfl rfl rfl cwS_L_targetLength ⟨Nat.le_of_ble_eq_true rfl, Nat.le_of_ble_eq_true rfl⟩) (jp_H hKK hKJ hS hAb ⟨rfl, hPc, hDc⟩) rfl rfl hl.1 rfl (lv_room (Nat.le_of_ble_eq_true rfl)) dL_law_1847 ⟨by show _ ≤ 603072; omega, by show _ ≤ 7219306; omega⟩) hS (fun q _ h => hFl q h) hFl (fun z3 H1 locs hz3 hzs hks hS => ?_)
  obtain ⟨hz3, v1w, fn, hcase, hP1, hD1⟩ := hz3
  obtain ⟨hP, hD⟩ := lj_H hP hD hks hFl hP1 hD1
  subst hz3
  clear hks hzs hP1 hD1 hFl hsz hPc hDc; generalize H1 = H at hP hD hS ⊢
  refine W.widen (k := 50 + 361 * (k + 1)) (n := 13700 + 13026 * (k + 1)) (by omega) (by omega) ?_
  refine lv_istore (lv' := [(6, vi (cdST S v1)), (5, vi (i : Int)), (0, .ref b), (1, .ref ox), (2, .ref om), (3, .ref a1), (4, .ref a2)]) hx hb dL_law_1850 hl (by decide) rfl (fun ls hl => ?_)
  refine lv_aload_n hx hb dL_law_1852 rfl (lv_at hl 4 rfl) ?_
  refine lv_aload_n hx hb dL_law_1853 rfl (lv_at hl 2 rfl) ?_
  refine lv_iload hx hb dL_law_1854 (lv_at hl 1 rfl) ?_
  refine jr_iconst hx hb dL_law_1856 ?_
  refine jr_iadd hx hb dL_law_1857 ?_
  refine va_sld hx hb hX hbl hbA hS (jI_in (by omega) (by omega) (by omega)) dL_law_1858 ?_
  rw [hx1]
  have hPm : PP g w2 H := (hP.perm pmB).mem fun q h => List.mem_append_left _ h
  have hDm := (hD.perm pmB).left
  have hsz : ∀ q, H.size ≤ q → gb g ≤ q := fun q h => by have := hS.1; omega
  refine jk_Qi (va_runV (As := [vi v1]) (rest := []) ⟨hx, hb, hml, hown, htl⟩ (m_X11_targetLength l g om S z w2 hMW v1 hv1) (cwV 1 htl lk_L_242 rfl rfl rfl cwV_X11_targetLength ⟨Nat.le_of_ble_eq_true rfl, Nat.le_of_ble_eq_true rfl⟩) (jp_V hKK hS hAb (MW.recv hKK hMW hPm) ⟨hPm, hDm⟩) rfl rfl hl.1 rfl (lv_room (Nat.le_of_ble_eq_true rfl)) dL_law_1859 ⟨by show _ ≤ 603072; omega, by show _ ≤ 7219306; omega⟩) hS (fun q _ h => hDm.inA h) (fun q h => hDm.inA h) (fun zm H1 locs hzm hzs hks hS => ?_)
  obtain ⟨S9, v2w, hC9, hM9, hI9, hP2, hD2, hval⟩ : ∃ (S9 : SGM) (v2w : va_W), CW g ox S9 v1w ∧ MW g om S9 (cdST S v1) v2w ∧ SI S9 ∧ PP g v2w H1 ∧ va_D (jA w2) v2w ∧ ((cdST S v1) = 0 → fn 0 = (jI (((sg S v1).2.1.length : Int))).toInt64 ∧ zm = ((sg S v1).2.1.length : Int)) := by
    rcases hcase with ⟨h1, h2, h3⟩ | ⟨h1, h2⟩ <;> rcases hzm with ⟨h4, h5, v2w, h6, h7, h8⟩ | ⟨h4, v2w, h6, h7, h8⟩
    · exact ⟨S, v2w, h2, by rw [h1]; exact h6, hSI, h7, h8, fun _ => ⟨h3, h5⟩⟩
    · exact absurd h1 h4
    · exact absurd h4 h1
    · exact ⟨S, v2w, h2, h6, hSI, h7, h8, fun q => absurd q h1⟩
  obtain ⟨hP, hD⟩ := lj_M hP hD hsz hks hP2 hD2
  clear hcase hks hzs hP2 hD2 hPm hDm hsz hzm; generalize H1 = H at hP hD hS ⊢
  refine lv_istore (lv' := [(7, vi zm), (6, vi (cdST S v1)), (5, vi (i : Int)), (0, .ref b), (1, .ref ox), (2, .ref om), (3, .ref a1), (4, .ref a2)]) hx hb dL_law_1862 hl (by decide) rfl (fun ls hl => ?_)
  refine lv_aload_n hx hb dL_law_1864 rfl (lv_at hl 5 rfl) ?_
  refine jk_Si (va_runV (As := []) (rest := []) ⟨hx, hb, hml, hown, htl⟩ (m_X11_thrownW l g om S9 (cdST S v1) v2w hM9) (cwV 0 htl lk_L_140 rfl rfl rfl cwV_X11_thrown ⟨Nat.le_of_ble_eq_true rfl, Nat.le_of_ble_eq_true rfl⟩) (jp_V hKK hS hAb (MW.recv hKK hM9 (hP.mem fun q h => List.mem_cons_of_mem _ (List.mem_cons_of_mem _ (List.mem_append_right _ h)))) (hP.mem fun q h => List.mem_cons_of_mem _ (List.mem_cons_of_mem _ (List.mem_append_right _ h)))) rfl rfl hl.1 rfl (lv_room (Nat.le_of_ble_eq_true rfl)) dL_law_1865 ⟨by show _ ≤ 603072; omega, by show _ ≤ 7219306; omega⟩) (fun z4 hz4 => ?_)
  subst hz4
  refine lv_iload hx hb dL_law_1868 (lv_at hl 1 rfl) ?_
  refine lv_icmp_eq (tgt := 1875) hx hb dL_law_1870 (by decide) (fun _ => ?_) (fun h9 => absurd rfl h9)
  refine lv_iload hx hb dL_law_1875 (lv_at hl 1 rfl) ?_
  have hcdR : jR (cdST S v1) := by unfold cdST; (repeat' split) <;> exact ⟨by omega, by omega⟩
  refine lv_if_ne (tgt := 1892) hx hb dL_law_1877 (by decide) (fun h9 => ?_) (fun h9 => ?_)
  · refine lv_goto (tgt := 2202) hx hb dL_law_1892 (by decide) ?_
    refine jr_iinc (lv' := [(5, vi ((i : Int) + 5)), (7, vi zm), (6, vi (cdST S v1)), (0, .ref b), (1, .ref ox), (2, .ref om), (3, .ref a1), (4, .ref a2)]) hx hb dL_law_2202 hl (k := 2) rfl rfl (by decide) rfl (fun ls hl => ?_)
    refine lv_goto (tgt := 28) hx hb dL_law_2205 (by decide) ?_
    exact K S9 _ v1w v2w fn f2 H locs hC9 hM9 hI9 hP hD hS ls (lv_sub hl [0, 3, 4, 5, 6, 7] rfl)
  · have hc0 : (cdST S v1) = 0 := (jI_inj hcdR ⟨by omega, by omega⟩).mp h9
    obtain ⟨hLV, hZ⟩ := hval hc0
    subst hZ
    refine lv_aload_n hx hb dL_law_1880 rfl (lv_at hl 6 rfl) ?_
    refine jr_iconst hx hb dL_law_1881 ?_
    refine va_lald hx hb hKJ hP 0 0 rfl rfl (jI_in (by omega) (by omega) (by omega)) dL_law_1882 ?_
    rw [show (jI 0).toNatClampNeg = 0 from rfl, hLV]
    refine lv_iload hx hb dL_law_1883 (lv_at hl 0 rfl) ?_
    refine lv_i2l hx hb dL_law_1885 rfl ?_
    refine W.lcmp hx hb dL_law_1886 ?_
    refine lv_if_eq (tgt := 1892) hx hb dL_law_1887 (by decide) (fun _ => ?_) (fun h9 => absurd (lg_cmp_self _) h9)
    refine lv_goto (tgt := 2202) hx hb dL_law_1892 (by decide) ?_
    refine jr_iinc (lv' := [(5, vi ((i : Int) + 5)), (7, vi ((sg S v1).2.1.length : Int)), (6, vi (cdST S v1)), (0, .ref b), (1, .ref ox), (2, .ref om), (3, .ref a1), (4, .ref a2)]) hx hb dL_law_2202 hl (k := 2) rfl rfl (by decide) rfl (fun ls hl => ?_)
    refine lv_goto (tgt := 28) hx hb dL_law_2205 (by decide) ?_
    exact K S9 _ v1w v2w fn f2 H locs hC9 hM9 hI9 hP hD hS ls (lv_sub hl [0, 3, 4, 5, 6, 7] rfl)
set_option maxHeartbeats 4000000 in
set_option maxRecDepth 100000 in
theorem lc_targetToken (l : Launch) (hsT : l.stackTraces = false) {g : GT} {cj cd : ClassId} {p : Program} {e : Env} {s : State} {m : MethodId} {b : Nat} {below : List Frame} {meth : Method} {c : Code} {Q : State → Prop} {ox om a1 a2 i k L : Nat} {xs : Nat → Int32} (hx : p.tables.exec = Jvm.exec) (hb : c.code = cL_law) (hml : c.maxLocals = 9) (hown : s.vm.findClass RL = some m.cls) (htl : ∀ w ∈ WSL, w.before #[Value.ref b] s = true) (hKK : KK g s) (hKJ : KJ g cj cd s) (hgb : gb g = s.heap.size) (hX : va_X b L xs s s.heap) (hbl : b < s.heap.size) (hi : i + 5 ≤ L) (hL : L ≤ 2560) (hk : k < 512) (K : LK g cj cd p l e s m b below meth c Q ox om a1 a2 (i + 5) (k + 1))
    (S : SGM) (z : Int) (w1 w2 : va_W) (f1 : Nat → Int64) (f2 : Nat → UInt64) (H : Heap) (locs : List Loc) (hCW : CW g ox S w1) (hMW : MW g om S z w2) (hSI : SI S) (hP : PP g (aJ cj a1 f1 :: aD1 cd a2 f2 :: (w1 ++ w2)) H) (hD : va_D (fun q => gb g ≤ q) (aJ cj a1 f1 :: aD1 cd a2 f2 :: (w1 ++ w2))) (hS : va_S (fun q => gb g ≤ q) s.heap H locs) (ls : Array Slot) (hl : lv_has ls 9 [(5, vi (i : Int)), (0, .ref b), (1, .ref ox), (2, .ref om), (3, .ref a1), (4, .ref a2)]) : W p l e room_1 s m #[Value.ref b] below meth c H locs (50 + 361 * k) (13700 + 13026 * k) Q (F0 m 1895 ls []) := by
  have hbA : ¬ (fun q => gb g ≤ q) b := by show ¬ gb g ≤ b; omega
  have hAb : ∀ q, (fun q => gb g ≤ q) q → gb g ≤ q := fun _ h => h
  obtain ⟨v1, hv1, hx1⟩ : ∃ v : Int, jR v ∧ xs (jI ((i : Int) + 1)).toNatClampNeg = jI v := ⟨_, jR_of _, jI_of _⟩
  obtain ⟨v2, hv2, hx2⟩ : ∃ v : Int, jR v ∧ xs (jI ((i : Int) + 2)).toNatClampNeg = jI v := ⟨_, jR_of _, jI_of _⟩
  have hDc := (hD.perm pmA).left
  have hPc : PP g (aJ cj a1 f1 :: w1) H := (hP.perm pmA).mem fun q h => List.mem_append_left _ h
  have hsz : ∀ q, H.size ≤ q → gb g ≤ q := fun q h => by have := hS.1; omega
  have hFl : ∀ q, va_A (aJ cj a1 f1 :: w1) H.size q → gb g ≤ q := va_A_sub hDc (Nat.le_refl _) hsz
  refine lv_aload_n hx hb dL_law_1895 rfl (lv_at hl 2 rfl) ?_
  refine lv_aload_n hx hb dL_law_1896 rfl (lv_at hl 1 rfl) ?_
  refine lv_iload hx hb dL_law_1897 (lv_at hl 0 rfl) ?_
  refine jr_iconst hx hb dL_law_1899 ?_
  refine jr_iadd hx hb dL_law_1900 ?_
  refine va_sld hx hb hX hbl hbA hS (jI_in (by omega) (by omega) (by omega)) dL_law_1901 ?_
  rw [hx1]
  refine lv_aload_n hx hb dL_law_1902 rfl (lv_at hl 1 rfl) ?_
  refine lv_iload hx hb dL_law_1903 (lv_at hl 0 rfl) ?_
  refine jr_iconst hx hb dL_law_1905 ?_
  refine jr_iadd hx hb dL_law_1906 ?_
  refine va_sld hx hb hX hbl hbA hS (jI_in (by omega) (by omega) (by omega)) dL_law_1907 ?_
  rw [hx2]
  refine lv_aload_n hx hb dL_law_1908 rfl (lv_at hl 4 rfl) ?_
  refine jk_Qi (vx_runSW (As := [.ref ox, vi v1, vi v2, .ref a1]) (rest := []) ⟨hx, hb, hml, hown, htl⟩ (m_L_targetToken l hsT g cj cd ox a1 f1 S w1 hCW H.size v1 hv1 v2 hv2) (vx_cwSW 4 htl lkH_targetToken rfl rfl rfl cwS_L_targetToken ⟨Nat.le_of_ble_eq_true rfl, Nat.le_of_ble_eq_true rfl⟩) (jp_H hKK hKJ hS hAb ⟨rfl, hPc, hDc⟩) rfl rfl hl.1 rfl (lv_room (Nat.le_of_ble_eq_true rfl)) dL_law_1909 ⟨by show _ ≤ 603072; omega, by show _ ≤ 7219306; omega⟩) hS (fun q _ h => hFl q h) hFl (fun z3 H1 locs hz3 hzs hks hS => ?_)
  obtain ⟨hz3, v1w, fn, hcase, hP1, hD1⟩ := hz3
  obtain ⟨hP, hD⟩ := lj_H hP hD hks hFl hP1 hD1
  subst hz3
  clear hks hzs hP1 hD1 hFl hsz hPc hDc; generalize H1 = H at hP hD hS ⊢
  refine W.widen (k := 50 + 361 * (k + 1)) (n := 13700 + 13026 * (k + 1)) (by omega) (by omega) ?_
  refine lv_istore (lv' := [(6, vi (cdTk S v1 v2)), (5, vi (i : Int)), (0, .ref b), (1, .ref ox), (2, .ref om), (3, .ref a1), (4, .ref a2)]) hx hb dL_law_1912 hl (by decide) rfl (fun ls hl => ?_)
  refine lv_aload_n hx hb dL_law_1914 rfl (lv_at hl 4 rfl) ?_
  refine lv_aload_n hx hb dL_law_1915 rfl (lv_at hl 2 rfl) ?_
  refine lv_iload hx hb dL_law_1916 (lv_at hl 1 rfl) ?_
  refine jr_iconst hx hb dL_law_1918 ?_
  refine jr_iadd hx hb dL_law_1919 ?_
  refine va_sld hx hb hX hbl hbA hS (jI_in (by omega) (by omega) (by omega)) dL_law_1920 ?_
  rw [hx1]
  refine lv_aload_n hx hb dL_law_1921 rfl (lv_at hl 2 rfl) ?_
  refine lv_iload hx hb dL_law_1922 (lv_at hl 1 rfl) ?_
  refine jr_iconst hx hb dL_law_1924 ?_
  refine jr_iadd hx hb dL_law_1925 ?_
  refine va_sld hx hb hX hbl hbA hS (jI_in (by omega) (by omega) (by omega)) dL_law_1926 ?_
  rw [hx2]
  have hPm : PP g w2 H := (hP.perm pmB).mem fun q h => List.mem_append_left _ h
  have hDm := (hD.perm pmB).left
  have hsz : ∀ q, H.size ≤ q → gb g ≤ q := fun q h => by have := hS.1; omega
  refine jk_Qi (va_runV (As := [vi v1, vi v2]) (rest := []) ⟨hx, hb, hml, hown, htl⟩ (m_X11_targetToken l g om S z w2 hMW v1 hv1 v2 hv2) (cwV 2 htl lk_L_245 rfl rfl rfl cwV_X11_targetToken ⟨Nat.le_of_ble_eq_true rfl, Nat.le_of_ble_eq_true rfl⟩) (jp_V hKK hS hAb (MW.recv hKK hMW hPm) ⟨hPm, hDm⟩) rfl rfl hl.1 rfl (lv_room (Nat.le_of_ble_eq_true rfl)) dL_law_1927 ⟨by show _ ≤ 603072; omega, by show _ ≤ 7219306; omega⟩) hS (fun q _ h => hDm.inA h) (fun q h => hDm.inA h) (fun zm H1 locs hzm hzs hks hS => ?_)
  obtain ⟨S9, v2w, hC9, hM9, hI9, hP2, hD2, hval⟩ : ∃ (S9 : SGM) (v2w : va_W), CW g ox S9 v1w ∧ MW g om S9 (cdTk S v1 v2) v2w ∧ SI S9 ∧ PP g v2w H1 ∧ va_D (jA w2) v2w ∧ ((cdTk S v1 v2) = 0 → fn 0 = (jI (vl ((sg S v1).2.1.getD v2.toNat 0))).toInt64 ∧ zm = vl ((sg S v1).2.1.getD v2.toNat 0)) := by
    rcases hcase with ⟨h1, h2, h3⟩ | ⟨h1, h2⟩ <;> rcases hzm with ⟨h4, h5, v2w, h6, h7, h8⟩ | ⟨h4, v2w, h6, h7, h8⟩
    · exact ⟨S, v2w, h2, by rw [h1]; exact h6, hSI, h7, h8, fun _ => ⟨h3, h5⟩⟩
    · exact absurd h1 h4
    · exact absurd h4 h1
    · exact ⟨S, v2w, h2, h6, hSI, h7, h8, fun q => absurd q h1⟩
  obtain ⟨hP, hD⟩ := lj_M hP hD hsz hks hP2 hD2
  clear hcase hks hzs hP2 hD2 hPm hDm hsz hzm; generalize H1 = H at hP hD hS ⊢
  refine lv_istore (lv' := [(7, vi zm), (6, vi (cdTk S v1 v2)), (5, vi (i : Int)), (0, .ref b), (1, .ref ox), (2, .ref om), (3, .ref a1), (4, .ref a2)]) hx hb dL_law_1930 hl (by decide) rfl (fun ls hl => ?_)
  refine lv_aload_n hx hb dL_law_1932 rfl (lv_at hl 5 rfl) ?_
  refine jk_Si (va_runV (As := []) (rest := []) ⟨hx, hb, hml, hown, htl⟩ (m_X11_thrownW l g om S9 (cdTk S v1 v2) v2w hM9) (cwV 0 htl lk_L_140 rfl rfl rfl cwV_X11_thrown ⟨Nat.le_of_ble_eq_true rfl, Nat.le_of_ble_eq_true rfl⟩) (jp_V hKK hS hAb (MW.recv hKK hM9 (hP.mem fun q h => List.mem_cons_of_mem _ (List.mem_cons_of_mem _ (List.mem_append_right _ h)))) (hP.mem fun q h => List.mem_cons_of_mem _ (List.mem_cons_of_mem _ (List.mem_append_right _ h)))) rfl rfl hl.1 rfl (lv_room (Nat.le_of_ble_eq_true rfl)) dL_law_1933 ⟨by show _ ≤ 603072; omega, by show _ ≤ 7219306; omega⟩) (fun z4 hz4 => ?_)
  subst hz4
  refine lv_iload hx hb dL_law_1936 (lv_at hl 1 rfl) ?_
  refine lv_icmp_eq (tgt := 1943) hx hb dL_law_1938 (by decide) (fun _ => ?_) (fun h9 => absurd rfl h9)
  refine lv_iload hx hb dL_law_1943 (lv_at hl 1 rfl) ?_
  have hcdR : jR (cdTk S v1 v2) := by unfold cdTk; (repeat' split) <;> exact ⟨by omega, by omega⟩
  refine lv_if_ne (tgt := 1960) hx hb dL_law_1945 (by decide) (fun h9 => ?_) (fun h9 => ?_)
  · refine lv_goto (tgt := 2202) hx hb dL_law_1960 (by decide) ?_
    refine jr_iinc (lv' := [(5, vi ((i : Int) + 5)), (7, vi zm), (6, vi (cdTk S v1 v2)), (0, .ref b), (1, .ref ox), (2, .ref om), (3, .ref a1), (4, .ref a2)]) hx hb dL_law_2202 hl (k := 2) rfl rfl (by decide) rfl (fun ls hl => ?_)
    refine lv_goto (tgt := 28) hx hb dL_law_2205 (by decide) ?_
    exact K S9 _ v1w v2w fn f2 H locs hC9 hM9 hI9 hP hD hS ls (lv_sub hl [0, 3, 4, 5, 6, 7] rfl)
  · have hc0 : (cdTk S v1 v2) = 0 := (jI_inj hcdR ⟨by omega, by omega⟩).mp h9
    obtain ⟨hLV, hZ⟩ := hval hc0
    subst hZ
    refine lv_aload_n hx hb dL_law_1948 rfl (lv_at hl 6 rfl) ?_
    refine jr_iconst hx hb dL_law_1949 ?_
    refine va_lald hx hb hKJ hP 0 0 rfl rfl (jI_in (by omega) (by omega) (by omega)) dL_law_1950 ?_
    rw [show (jI 0).toNatClampNeg = 0 from rfl, hLV]
    refine lv_iload hx hb dL_law_1951 (lv_at hl 0 rfl) ?_
    refine lv_i2l hx hb dL_law_1953 rfl ?_
    refine W.lcmp hx hb dL_law_1954 ?_
    refine lv_if_eq (tgt := 1960) hx hb dL_law_1955 (by decide) (fun _ => ?_) (fun h9 => absurd (lg_cmp_self _) h9)
    refine lv_goto (tgt := 2202) hx hb dL_law_1960 (by decide) ?_
    refine jr_iinc (lv' := [(5, vi ((i : Int) + 5)), (7, vi (vl ((sg S v1).2.1.getD v2.toNat 0))), (6, vi (cdTk S v1 v2)), (0, .ref b), (1, .ref ox), (2, .ref om), (3, .ref a1), (4, .ref a2)]) hx hb dL_law_2202 hl (k := 2) rfl rfl (by decide) rfl (fun ls hl => ?_)
    refine lv_goto (tgt := 28) hx hb dL_law_2205 (by decide) ?_
    exact K S9 _ v1w v2w fn f2 H locs hC9 hM9 hI9 hP hD hS ls (lv_sub hl [0, 3, 4, 5, 6, 7] rfl)
set_option maxHeartbeats 4000000 in
set_option maxRecDepth 100000 in
theorem lc_targetKind (l : Launch) (hsT : l.stackTraces = false) {g : GT} {cj cd : ClassId} {p : Program} {e : Env} {s : State} {m : MethodId} {b : Nat} {below : List Frame} {meth : Method} {c : Code} {Q : State → Prop} {ox om a1 a2 i k L : Nat} {xs : Nat → Int32} (hx : p.tables.exec = Jvm.exec) (hb : c.code = cL_law) (hml : c.maxLocals = 9) (hown : s.vm.findClass RL = some m.cls) (htl : ∀ w ∈ WSL, w.before #[Value.ref b] s = true) (hKK : KK g s) (hKJ : KJ g cj cd s) (hgb : gb g = s.heap.size) (hX : va_X b L xs s s.heap) (hbl : b < s.heap.size) (hi : i + 5 ≤ L) (hL : L ≤ 2560) (hk : k < 512) (K : LK g cj cd p l e s m b below meth c Q ox om a1 a2 (i + 5) (k + 1))
    (S : SGM) (z : Int) (w1 w2 : va_W) (f1 : Nat → Int64) (f2 : Nat → UInt64) (H : Heap) (locs : List Loc) (hCW : CW g ox S w1) (hMW : MW g om S z w2) (hSI : SI S) (hP : PP g (aJ cj a1 f1 :: aD1 cd a2 f2 :: (w1 ++ w2)) H) (hD : va_D (fun q => gb g ≤ q) (aJ cj a1 f1 :: aD1 cd a2 f2 :: (w1 ++ w2))) (hS : va_S (fun q => gb g ≤ q) s.heap H locs) (ls : Array Slot) (hl : lv_has ls 9 [(5, vi (i : Int)), (0, .ref b), (1, .ref ox), (2, .ref om), (3, .ref a1), (4, .ref a2)]) : W p l e room_1 s m #[Value.ref b] below meth c H locs (50 + 361 * k) (13700 + 13026 * k) Q (F0 m 1963 ls []) := by
  have hbA : ¬ (fun q => gb g ≤ q) b := by show ¬ gb g ≤ b; omega
  have hAb : ∀ q, (fun q => gb g ≤ q) q → gb g ≤ q := fun _ h => h
  obtain ⟨v1, hv1, hx1⟩ : ∃ v : Int, jR v ∧ xs (jI ((i : Int) + 1)).toNatClampNeg = jI v := ⟨_, jR_of _, jI_of _⟩
  obtain ⟨v2, hv2, hx2⟩ : ∃ v : Int, jR v ∧ xs (jI ((i : Int) + 2)).toNatClampNeg = jI v := ⟨_, jR_of _, jI_of _⟩
  have hDc := (hD.perm pmA).left
  have hPc : PP g (aJ cj a1 f1 :: w1) H := (hP.perm pmA).mem fun q h => List.mem_append_left _ h
  have hsz : ∀ q, H.size ≤ q → gb g ≤ q := fun q h => by have := hS.1; omega
  have hFl : ∀ q, va_A (aJ cj a1 f1 :: w1) H.size q → gb g ≤ q := va_A_sub hDc (Nat.le_refl _) hsz
  refine lv_aload_n hx hb dL_law_1963 rfl (lv_at hl 2 rfl) ?_
  refine lv_aload_n hx hb dL_law_1964 rfl (lv_at hl 1 rfl) ?_
  refine lv_iload hx hb dL_law_1965 (lv_at hl 0 rfl) ?_
  refine jr_iconst hx hb dL_law_1967 ?_
  refine jr_iadd hx hb dL_law_1968 ?_
  refine va_sld hx hb hX hbl hbA hS (jI_in (by omega) (by omega) (by omega)) dL_law_1969 ?_
  rw [hx1]
  refine lv_aload_n hx hb dL_law_1970 rfl (lv_at hl 1 rfl) ?_
  refine lv_iload hx hb dL_law_1971 (lv_at hl 0 rfl) ?_
  refine jr_iconst hx hb dL_law_1973 ?_
  refine jr_iadd hx hb dL_law_1974 ?_
  refine va_sld hx hb hX hbl hbA hS (jI_in (by omega) (by omega) (by omega)) dL_law_1975 ?_
  rw [hx2]
  refine lv_aload_n hx hb dL_law_1976 rfl (lv_at hl 4 rfl) ?_
  refine jk_Qi (vx_runSW (As := [.ref ox, vi v1, vi v2, .ref a1]) (rest := []) ⟨hx, hb, hml, hown, htl⟩ (m_L_targetKind l hsT g cj cd ox a1 f1 S w1 hCW H.size v1 hv1 v2 hv2) (vx_cwSW 4 htl lkH_targetKind rfl rfl rfl cwS_L_targetKind ⟨Nat.le_of_ble_eq_true rfl, Nat.le_of_ble_eq_true rfl⟩) (jp_H hKK hKJ hS hAb ⟨rfl, hPc, hDc⟩) rfl rfl hl.1 rfl (lv_room (Nat.le_of_ble_eq_true rfl)) dL_law_1977 ⟨by show _ ≤ 603072; omega, by show _ ≤ 7219306; omega⟩) hS (fun q _ h => hFl q h) hFl (fun z3 H1 locs hz3 hzs hks hS => ?_)
  obtain ⟨hz3, v1w, fn, hcase, hP1, hD1⟩ := hz3
  obtain ⟨hP, hD⟩ := lj_H hP hD hks hFl hP1 hD1
  subst hz3
  clear hks hzs hP1 hD1 hFl hsz hPc hDc; generalize H1 = H at hP hD hS ⊢
  refine W.widen (k := 50 + 361 * (k + 1)) (n := 13700 + 13026 * (k + 1)) (by omega) (by omega) ?_
  refine lv_istore (lv' := [(6, vi (cdTk S v1 v2)), (5, vi (i : Int)), (0, .ref b), (1, .ref ox), (2, .ref om), (3, .ref a1), (4, .ref a2)]) hx hb dL_law_1980 hl (by decide) rfl (fun ls hl => ?_)
  refine lv_aload_n hx hb dL_law_1982 rfl (lv_at hl 4 rfl) ?_
  refine lv_aload_n hx hb dL_law_1983 rfl (lv_at hl 2 rfl) ?_
  refine lv_iload hx hb dL_law_1984 (lv_at hl 1 rfl) ?_
  refine jr_iconst hx hb dL_law_1986 ?_
  refine jr_iadd hx hb dL_law_1987 ?_
  refine va_sld hx hb hX hbl hbA hS (jI_in (by omega) (by omega) (by omega)) dL_law_1988 ?_
  rw [hx1]
  refine lv_aload_n hx hb dL_law_1989 rfl (lv_at hl 2 rfl) ?_
  refine lv_iload hx hb dL_law_1990 (lv_at hl 1 rfl) ?_
  refine jr_iconst hx hb dL_law_1992 ?_
  refine jr_iadd hx hb dL_law_1993 ?_
  refine va_sld hx hb hX hbl hbA hS (jI_in (by omega) (by omega) (by omega)) dL_law_1994 ?_
  rw [hx2]
  have hPm : PP g w2 H := (hP.perm pmB).mem fun q h => List.mem_append_left _ h
  have hDm := (hD.perm pmB).left
  have hsz : ∀ q, H.size ≤ q → gb g ≤ q := fun q h => by have := hS.1; omega
  refine jk_Qi (va_runV (As := [vi v1, vi v2]) (rest := []) ⟨hx, hb, hml, hown, htl⟩ (m_X11_targetKind l g om S z w2 hMW v1 hv1 v2 hv2) (cwV 2 htl lk_L_248 rfl rfl rfl cwV_X11_targetKind ⟨Nat.le_of_ble_eq_true rfl, Nat.le_of_ble_eq_true rfl⟩) (jp_V hKK hS hAb (MW.recv hKK hMW hPm) ⟨hPm, hDm⟩) rfl rfl hl.1 rfl (lv_room (Nat.le_of_ble_eq_true rfl)) dL_law_1995 ⟨by show _ ≤ 603072; omega, by show _ ≤ 7219306; omega⟩) hS (fun q _ h => hDm.inA h) (fun q h => hDm.inA h) (fun zm H1 locs hzm hzs hks hS => ?_)
  obtain ⟨S9, v2w, hC9, hM9, hI9, hP2, hD2, hval⟩ : ∃ (S9 : SGM) (v2w : va_W), CW g ox S9 v1w ∧ MW g om S9 (cdTk S v1 v2) v2w ∧ SI S9 ∧ PP g v2w H1 ∧ va_D (jA w2) v2w ∧ ((cdTk S v1 v2) = 0 → fn 0 = (jI (ltr ((sg S v1).2.1.getD v2.toNat 0))).toInt64 ∧ zm = ltr ((sg S v1).2.1.getD v2.toNat 0)) := by
    rcases hcase with ⟨h1, h2, h3⟩ | ⟨h1, h2⟩ <;> rcases hzm with ⟨h4, h5, v2w, h6, h7, h8⟩ | ⟨h4, v2w, h6, h7, h8⟩
    · exact ⟨S, v2w, h2, by rw [h1]; exact h6, hSI, h7, h8, fun _ => ⟨h3, h5⟩⟩
    · exact absurd h1 h4
    · exact absurd h4 h1
    · exact ⟨S, v2w, h2, h6, hSI, h7, h8, fun q => absurd q h1⟩
  obtain ⟨hP, hD⟩ := lj_M hP hD hsz hks hP2 hD2
  clear hcase hks hzs hP2 hD2 hPm hDm hsz hzm; generalize H1 = H at hP hD hS ⊢
  refine lv_istore (lv' := [(7, vi zm), (6, vi (cdTk S v1 v2)), (5, vi (i : Int)), (0, .ref b), (1, .ref ox), (2, .ref om), (3, .ref a1), (4, .ref a2)]) hx hb dL_law_1998 hl (by decide) rfl (fun ls hl => ?_)
  refine lv_aload_n hx hb dL_law_2000 rfl (lv_at hl 5 rfl) ?_
  refine jk_Si (va_runV (As := []) (rest := []) ⟨hx, hb, hml, hown, htl⟩ (m_X11_thrownW l g om S9 (cdTk S v1 v2) v2w hM9) (cwV 0 htl lk_L_140 rfl rfl rfl cwV_X11_thrown ⟨Nat.le_of_ble_eq_true rfl, Nat.le_of_ble_eq_true rfl⟩) (jp_V hKK hS hAb (MW.recv hKK hM9 (hP.mem fun q h => List.mem_cons_of_mem _ (List.mem_cons_of_mem _ (List.mem_append_right _ h)))) (hP.mem fun q h => List.mem_cons_of_mem _ (List.mem_cons_of_mem _ (List.mem_append_right _ h)))) rfl rfl hl.1 rfl (lv_room (Nat.le_of_ble_eq_true rfl)) dL_law_2001 ⟨by show _ ≤ 603072; omega, by show _ ≤ 7219306; omega⟩) (fun z4 hz4 => ?_)
  subst hz4
  refine lv_iload hx hb dL_law_2004 (lv_at hl 1 rfl) ?_
  refine lv_icmp_eq (tgt := 2011) hx hb dL_law_2006 (by decide) (fun _ => ?_) (fun h9 => absurd rfl h9)
  refine lv_iload hx hb dL_law_2011 (lv_at hl 1 rfl) ?_
  have hcdR : jR (cdTk S v1 v2) := by unfold cdTk; (repeat' split) <;> exact ⟨by omega, by omega⟩
  refine lv_if_ne (tgt := 2028) hx hb dL_law_2013 (by decide) (fun h9 => ?_) (fun h9 => ?_)
  · refine lv_goto (tgt := 2202) hx hb dL_law_2028 (by decide) ?_
    refine jr_iinc (lv' := [(5, vi ((i : Int) + 5)), (7, vi zm), (6, vi (cdTk S v1 v2)), (0, .ref b), (1, .ref ox), (2, .ref om), (3, .ref a1), (4, .ref a2)]) hx hb dL_law_2202 hl (k := 2) rfl rfl (by decide) rfl (fun ls hl => ?_)
    refine lv_goto (tgt := 28) hx hb dL_law_2205 (by decide) ?_
    exact K S9 _ v1w v2w fn f2 H locs hC9 hM9 hI9 hP hD hS ls (lv_sub hl [0, 3, 4, 5, 6, 7] rfl)
  · have hc0 : (cdTk S v1 v2) = 0 := (jI_inj hcdR ⟨by omega, by omega⟩).mp h9
    obtain ⟨hLV, hZ⟩ := hval hc0
    subst hZ
    refine lv_aload_n hx hb dL_law_2016 rfl (lv_at hl 6 rfl) ?_
    refine jr_iconst hx hb dL_law_2017 ?_
    refine va_lald hx hb hKJ hP 0 0 rfl rfl (jI_in (by omega) (by omega) (by omega)) dL_law_2018 ?_
    rw [show (jI 0).toNatClampNeg = 0 from rfl, hLV]
    refine lv_iload hx hb dL_law_2019 (lv_at hl 0 rfl) ?_
    refine lv_i2l hx hb dL_law_2021 rfl ?_
    refine W.lcmp hx hb dL_law_2022 ?_
    refine lv_if_eq (tgt := 2028) hx hb dL_law_2023 (by decide) (fun _ => ?_) (fun h9 => absurd (lg_cmp_self _) h9)
    refine lv_goto (tgt := 2202) hx hb dL_law_2028 (by decide) ?_
    refine jr_iinc (lv' := [(5, vi ((i : Int) + 5)), (7, vi (ltr ((sg S v1).2.1.getD v2.toNat 0))), (6, vi (cdTk S v1 v2)), (0, .ref b), (1, .ref ox), (2, .ref om), (3, .ref a1), (4, .ref a2)]) hx hb dL_law_2202 hl (k := 2) rfl rfl (by decide) rfl (fun ls hl => ?_)
    refine lv_goto (tgt := 28) hx hb dL_law_2205 (by decide) ?_
    exact K S9 _ v1w v2w fn f2 H locs hC9 hM9 hI9 hP hD hS ls (lv_sub hl [0, 3, 4, 5, 6, 7] rfl)
