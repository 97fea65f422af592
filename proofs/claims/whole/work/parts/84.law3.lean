
theorem CW.recv {g : GT} {s : State} {H : Heap} {o : Nat} {S : SGM} {W9 : va_W} (hKK : KK g s) (h : CW g o S W9) (hP : PP g W9 H) : ∃ cell : Cell, H[o]? = some cell ∧ cell.vm.isStatics = false ∧ s.vm.findClass RX10 = some cell.cls := by
  obtain ⟨ad, fd, fk, g1, g2, g3, p1, p2, k1, k2, us, ss, lw1, lw2, hW, ho, -⟩ := h
  subst hW
  subst ho
  exact va_recv hKK.k hP (ci := 9) (q0 := 0) rfl rfl
theorem CW.n60 {g : GT} {o : Nat} {S : SGM} {W9 : va_W} (h : CW g o S W9) : nU S ≤ 40 ∧ nS S ≤ 60 := by
  obtain ⟨ad, fd, fk, g1, g2, g3, p1, p2, k1, k2, us, ss, lw1, lw2, hW, ho, -, -, -, -, ⟨hu, hs⟩, -, -, h1, h2⟩ := h
  exact ⟨by rw [nU_l hu]; exact h1, by rw [nS_l hs]; exact h2⟩
theorem lk_L_7 : GoodIn WSL (wsV RL 7 RX10 yX10_word (ws_ yX10_word cX10_word 2 (some .int))) := gd_app (List.forall_mem_cons.mpr ⟨wd_6_20, List.forall_mem_cons.mpr ⟨wd_6_21, List.forall_mem_cons.mpr ⟨wd_6_22, List.forall_mem_cons.mpr ⟨wd_1_2, fun _ h => nomatch h⟩⟩⟩⟩) (gd_ wd_6_23)
theorem cwV_X10_word : yX10_word.cls = RX10 ∧ yX10_word.cls ≠ "java/lang/invoke/MethodHandle" ∧ yX10_word.cls ≠ "java/lang/invoke/VarHandle" ∧ (parseMethodDescriptor yX10_word.desc).map (fun d => d.parameters.length) = some 1 := by decide +kernel
theorem lk_L_17 : GoodIn WSL (wsV RL 17 RX10 yX10_number (ws_ yX10_number cX10_number 2 (some .int))) := gd_app (List.forall_mem_cons.mpr ⟨wd_8_23, List.forall_mem_cons.mpr ⟨wd_9_0, List.forall_mem_cons.mpr ⟨wd_9_1, List.forall_mem_cons.mpr ⟨wd_1_2, fun _ h => nomatch h⟩⟩⟩⟩) (gd_ wd_9_2)
theorem cwV_X10_number : yX10_number.cls = RX10 ∧ yX10_number.cls ≠ "java/lang/invoke/MethodHandle" ∧ yX10_number.cls ≠ "java/lang/invoke/VarHandle" ∧ (parseMethodDescriptor yX10_number.desc).map (fun d => d.parameters.length) = some 1 := by decide +kernel
theorem lk_L_20 : GoodIn WSL (wsV RL 20 RX10 yX10_tag (ws_ yX10_tag cX10_tag 2 (some .int))) := gd_app (List.forall_mem_cons.mpr ⟨wd_9_10, List.forall_mem_cons.mpr ⟨wd_9_11, List.forall_mem_cons.mpr ⟨wd_9_12, List.forall_mem_cons.mpr ⟨wd_1_2, fun _ h => nomatch h⟩⟩⟩⟩) (gd_ wd_9_13)
theorem cwV_X10_tag : yX10_tag.cls = RX10 ∧ yX10_tag.cls ≠ "java/lang/invoke/MethodHandle" ∧ yX10_tag.cls ≠ "java/lang/invoke/VarHandle" ∧ (parseMethodDescriptor yX10_tag.desc).map (fun d => d.parameters.length) = some 1 := by decide +kernel
theorem lk_L_23 : GoodIn WSL (wsV RL 23 RX10 yX10_mark (ws_ yX10_mark cX10_mark 2 (some .int))) := gd_app (List.forall_mem_cons.mpr ⟨wd_9_21, List.forall_mem_cons.mpr ⟨wd_9_22, List.forall_mem_cons.mpr ⟨wd_9_23, List.forall_mem_cons.mpr ⟨wd_1_2, fun _ h => nomatch h⟩⟩⟩⟩) (gd_ wd_10_0)
theorem cwV_X10_mark : yX10_mark.cls = RX10 ∧ yX10_mark.cls ≠ "java/lang/invoke/MethodHandle" ∧ yX10_mark.cls ≠ "java/lang/invoke/VarHandle" ∧ (parseMethodDescriptor yX10_mark.desc).map (fun d => d.parameters.length) = some 1 := by decide +kernel
theorem lk_L_27 : GoodIn WSL (wsV RL 27 RX10 yX10_setWeights (ws_ yX10_setWeights cX10_setWeights 6 (some .int))) := gd_app (List.forall_mem_cons.mpr ⟨wd_10_20, List.forall_mem_cons.mpr ⟨wd_10_21, List.forall_mem_cons.mpr ⟨wd_10_22, List.forall_mem_cons.mpr ⟨wd_1_2, fun _ h => nomatch h⟩⟩⟩⟩) (gd_ wd_10_23)
theorem cwV_X10_setWeights : yX10_setWeights.cls = RX10 ∧ yX10_setWeights.cls ≠ "java/lang/invoke/MethodHandle" ∧ yX10_setWeights.cls ≠ "java/lang/invoke/VarHandle" ∧ (parseMethodDescriptor yX10_setWeights.desc).map (fun d => d.parameters.length) = some 4 := by decide +kernel
theorem lk_L_31 : GoodIn WSL (wsV RL 31 RX10 yX10_addAbbreviation (ws_ yX10_addAbbreviation cX10_addAbbreviation 3 (some .boolean))) := gd_app (List.forall_mem_cons.mpr ⟨wd_11_18, List.forall_mem_cons.mpr ⟨wd_11_19, List.forall_mem_cons.mpr ⟨wd_11_20, List.forall_mem_cons.mpr ⟨wd_1_2, fun _ h => nomatch h⟩⟩⟩⟩) (gd_ wd_11_21)
theorem cwV_X10_addAbbreviation : yX10_addAbbreviation.cls = RX10 ∧ yX10_addAbbreviation.cls ≠ "java/lang/invoke/MethodHandle" ∧ yX10_addAbbreviation.cls ≠ "java/lang/invoke/VarHandle" ∧ (parseMethodDescriptor yX10_addAbbreviation.desc).map (fun d => d.parameters.length) = some 1 := by decide +kernel
theorem lk_L_35 : GoodIn WSL (wsV RL 35 RX10 yX10_addTerm (ws_ yX10_addTerm cX10_addTerm 3 (some .int))) := gd_app (List.forall_mem_cons.mpr ⟨wd_12_6, List.forall_mem_cons.mpr ⟨wd_12_7, List.forall_mem_cons.mpr ⟨wd_12_8, List.forall_mem_cons.mpr ⟨wd_1_2, fun _ h => nomatch h⟩⟩⟩⟩) (gd_ wd_12_9)
theorem cwV_X10_addTerm : yX10_addTerm.cls = RX10 ∧ yX10_addTerm.cls ≠ "java/lang/invoke/MethodHandle" ∧ yX10_addTerm.cls ≠ "java/lang/invoke/VarHandle" ∧ (parseMethodDescriptor yX10_addTerm.desc).map (fun d => d.parameters.length) = some 2 := by decide +kernel
theorem lk_L_41 : GoodIn WSL (wsV RL 41 RX10 yX10_takeSource (ws_ yX10_takeSource cX10_takeSource 1 (some .int))) := gd_app (List.forall_mem_cons.mpr ⟨wd_13_8, List.forall_mem_cons.mpr ⟨wd_13_9, List.forall_mem_cons.mpr ⟨wd_13_10, List.forall_mem_cons.mpr ⟨wd_1_2, fun _ h => nomatch h⟩⟩⟩⟩) (gd_ wd_13_11)
theorem cwV_X10_takeSource : yX10_takeSource.cls = RX10 ∧ yX10_takeSource.cls ≠ "java/lang/invoke/MethodHandle" ∧ yX10_takeSource.cls ≠ "java/lang/invoke/VarHandle" ∧ (parseMethodDescriptor yX10_takeSource.desc).map (fun d => d.parameters.length) = some 0 := by decide +kernel
theorem lk_L_45 : GoodIn WSL (wsV RL 45 RX10 yX10_addUnit (ws_ yX10_addUnit cX10_addUnit 2 (some .int))) := gd_app (List.forall_mem_cons.mpr ⟨wd_14_20, List.forall_mem_cons.mpr ⟨wd_14_21, List.forall_mem_cons.mpr ⟨wd_14_22, List.forall_mem_cons.mpr ⟨wd_1_2, fun _ h => nomatch h⟩⟩⟩⟩) (gd_ wd_14_23)
theorem cwV_X10_addUnit : yX10_addUnit.cls = RX10 ∧ yX10_addUnit.cls ≠ "java/lang/invoke/MethodHandle" ∧ yX10_addUnit.cls ≠ "java/lang/invoke/VarHandle" ∧ (parseMethodDescriptor yX10_addUnit.desc).map (fun d => d.parameters.length) = some 0 := by decide +kernel
theorem lk_L_50 : GoodIn WSL (wsV RL 50 RX10 yX10_correct (ws_ yX10_correct cX10_correct 4 (some .int))) := gd_app (List.forall_mem_cons.mpr ⟨wd_19_0, List.forall_mem_cons.mpr ⟨wd_19_1, List.forall_mem_cons.mpr ⟨wd_19_2, List.forall_mem_cons.mpr ⟨wd_1_2, fun _ h => nomatch h⟩⟩⟩⟩) (gd_ wd_19_3)
theorem cwV_X10_correct : yX10_correct.cls = RX10 ∧ yX10_correct.cls ≠ "java/lang/invoke/MethodHandle" ∧ yX10_correct.cls ≠ "java/lang/invoke/VarHandle" ∧ (parseMethodDescriptor yX10_correct.desc).map (fun d => d.parameters.length) = some 1 := by decide +kernel
theorem lk_L_53 : GoodIn WSL (wsV RL 53 RX10 yX10_withdraw (ws_ yX10_withdraw cX10_withdraw 3 (some .int))) := gd_app (List.forall_mem_cons.mpr ⟨wd_20_22, List.forall_mem_cons.mpr ⟨wd_20_23, List.forall_mem_cons.mpr ⟨wd_21_0, List.forall_mem_cons.mpr ⟨wd_1_2, fun _ h => nomatch h⟩⟩⟩⟩) (gd_ wd_21_1)
theorem cwV_X10_withdraw : yX10_withdraw.cls = RX10 ∧ yX10_withdraw.cls ≠ "java/lang/invoke/MethodHandle" ∧ yX10_withdraw.cls ≠ "java/lang/invoke/VarHandle" ∧ (parseMethodDescriptor yX10_withdraw.desc).map (fun d => d.parameters.length) = some 1 := by decide +kernel
theorem lk_L_56 : GoodIn WSL (wsV RL 56 RX10 yX10_isLive (ws_ yX10_isLive cX10_isLive 2 (some .boolean))) := gd_app (List.forall_mem_cons.mpr ⟨wd_21_22, List.forall_mem_cons.mpr ⟨wd_21_23, List.forall_mem_cons.mpr ⟨wd_22_0, List.forall_mem_cons.mpr ⟨wd_1_2, fun _ h => nomatch h⟩⟩⟩⟩) (gd_ wd_22_1)
theorem cwV_X10_isLive : yX10_isLive.cls = RX10 ∧ yX10_isLive.cls ≠ "java/lang/invoke/MethodHandle" ∧ yX10_isLive.cls ≠ "java/lang/invoke/VarHandle" ∧ (parseMethodDescriptor yX10_isLive.desc).map (fun d => d.parameters.length) = some 1 := by decide +kernel
theorem lk_L_59 : GoodIn WSL (wsV RL 59 RX10 yX10_cost (ws_ yX10_cost cX10_cost 3 (some .int))) := gd_app (List.forall_mem_cons.mpr ⟨wd_22_9, List.forall_mem_cons.mpr ⟨wd_22_10, List.forall_mem_cons.mpr ⟨wd_22_11, List.forall_mem_cons.mpr ⟨wd_1_2, fun _ h => nomatch h⟩⟩⟩⟩) (gd_ wd_22_12)
theorem cwV_X10_cost : yX10_cost.cls = RX10 ∧ yX10_cost.cls ≠ "java/lang/invoke/MethodHandle" ∧ yX10_cost.cls ≠ "java/lang/invoke/VarHandle" ∧ (parseMethodDescriptor yX10_cost.desc).map (fun d => d.parameters.length) = some 1 := by decide +kernel
theorem lk_L_62 : GoodIn WSL (wsV RL 62 RX10 yX10_costFromEnds (ws_ yX10_costFromEnds cX10_costFromEnds 3 (some .int))) := gd_app (List.forall_mem_cons.mpr ⟨wd_25_1, List.forall_mem_cons.mpr ⟨wd_25_2, List.forall_mem_cons.mpr ⟨wd_25_3, List.forall_mem_cons.mpr ⟨wd_1_2, fun _ h => nomatch h⟩⟩⟩⟩) (gd_ wd_25_4)
theorem cwV_X10_costFromEnds : yX10_costFromEnds.cls = RX10 ∧ yX10_costFromEnds.cls ≠ "java/lang/invoke/MethodHandle" ∧ yX10_costFromEnds.cls ≠ "java/lang/invoke/VarHandle" ∧ (parseMethodDescriptor yX10_costFromEnds.desc).map (fun d => d.parameters.length) = some 1 := by decide +kernel
theorem lk_L_65 : GoodIn WSL (wsV RL 65 RX10 yX10_likeness (ws_ yX10_likeness cX10_likeness 3 (some .int))) := gd_app (List.forall_mem_cons.mpr ⟨wd_25_17, List.forall_mem_cons.mpr ⟨wd_25_18, List.forall_mem_cons.mpr ⟨wd_25_19, List.forall_mem_cons.mpr ⟨wd_1_2, fun _ h => nomatch h⟩⟩⟩⟩) (gd_ wd_25_20)
theorem cwV_X10_likeness : yX10_likeness.cls = RX10 ∧ yX10_likeness.cls ≠ "java/lang/invoke/MethodHandle" ∧ yX10_likeness.cls ≠ "java/lang/invoke/VarHandle" ∧ (parseMethodDescriptor yX10_likeness.desc).map (fun d => d.parameters.length) = some 1 := by decide +kernel
theorem lk_L_68 : GoodIn WSL (wsV RL 68 RX10 yX10_missing (ws_ yX10_missing cX10_missing 3 (some .int))) := gd_app (List.forall_mem_cons.mpr ⟨wd_27_0, List.forall_mem_cons.mpr ⟨wd_27_1, List.forall_mem_cons.mpr ⟨wd_27_2, List.forall_mem_cons.mpr ⟨wd_1_2, fun _ h => nomatch h⟩⟩⟩⟩) (gd_ wd_27_3)
theorem cwV_X10_missing : yX10_missing.cls = RX10 ∧ yX10_missing.cls ≠ "java/lang/invoke/MethodHandle" ∧ yX10_missing.cls ≠ "java/lang/invoke/VarHandle" ∧ (parseMethodDescriptor yX10_missing.desc).map (fun d => d.parameters.length) = some 1 := by decide +kernel
theorem lk_L_71 : GoodIn WSL (wsV RL 71 RX10 yX10_score (ws_ yX10_score cX10_score 3 (some .int))) := gd_app (List.forall_mem_cons.mpr ⟨wd_28_0, List.forall_mem_cons.mpr ⟨wd_28_1, List.forall_mem_cons.mpr ⟨wd_28_2, List.forall_mem_cons.mpr ⟨wd_1_2, fun _ h => nomatch h⟩⟩⟩⟩) (gd_ wd_28_3)
theorem cwV_X10_score : yX10_score.cls = RX10 ∧ yX10_score.cls ≠ "java/lang/invoke/MethodHandle" ∧ yX10_score.cls ≠ "java/lang/invoke/VarHandle" ∧ (parseMethodDescriptor yX10_score.desc).map (fun d => d.parameters.length) = some 1 := by decide +kernel
theorem lk_L_74 : GoodIn WSL (wsV RL 74 RX10 yX10_sharedPairs (ws_ yX10_sharedPairs cX10_sharedPairs 3 (some .int))) := gd_app (List.forall_mem_cons.mpr ⟨wd_29_1, List.forall_mem_cons.mpr ⟨wd_29_2, List.forall_mem_cons.mpr ⟨wd_29_3, List.forall_mem_cons.mpr ⟨wd_1_2, fun _ h => nomatch h⟩⟩⟩⟩) (gd_ wd_29_4)
theorem cwV_X10_sharedPairs : yX10_sharedPairs.cls = RX10 ∧ yX10_sharedPairs.cls ≠ "java/lang/invoke/MethodHandle" ∧ yX10_sharedPairs.cls ≠ "java/lang/invoke/VarHandle" ∧ (parseMethodDescriptor yX10_sharedPairs.desc).map (fun d => d.parameters.length) = some 1 := by decide +kernel
theorem lk_L_77 : GoodIn WSL (wsV RL 77 RX10 yX10_best (ws_ yX10_best cX10_best 1 (some .int))) := gd_app (List.forall_mem_cons.mpr ⟨wd_30_10, List.forall_mem_cons.mpr ⟨wd_30_11, List.forall_mem_cons.mpr ⟨wd_30_12, List.forall_mem_cons.mpr ⟨wd_1_2, fun _ h => nomatch h⟩⟩⟩⟩) (gd_ wd_30_13)
theorem cwV_X10_best : yX10_best.cls = RX10 ∧ yX10_best.cls ≠ "java/lang/invoke/MethodHandle" ∧ yX10_best.cls ≠ "java/lang/invoke/VarHandle" ∧ (parseMethodDescriptor yX10_best.desc).map (fun d => d.parameters.length) = some 0 := by decide +kernel
theorem lk_L_80 : GoodIn WSL (wsV RL 80 RX10 yX10_bestOfAll (ws_ yX10_bestOfAll cX10_bestOfAll 1 (some .int))) := gd_app (List.forall_mem_cons.mpr ⟨wd_32_4, List.forall_mem_cons.mpr ⟨wd_32_5, List.forall_mem_cons.mpr ⟨wd_32_6, List.forall_mem_cons.mpr ⟨wd_1_2, fun _ h => nomatch h⟩⟩⟩⟩) (gd_ wd_32_7)
theorem cwV_X10_bestOfAll : yX10_bestOfAll.cls = RX10 ∧ yX10_bestOfAll.cls ≠ "java/lang/invoke/MethodHandle" ∧ yX10_bestOfAll.cls ≠ "java/lang/invoke/VarHandle" ∧ (parseMethodDescriptor yX10_bestOfAll.desc).map (fun d => d.parameters.length) = some 0 := by decide +kernel
theorem lk_L_83 : GoodIn WSL (wsV RL 83 RX10 yX10_open (ws_ yX10_open cX10_open 1 (some .int))) := gd_app (List.forall_mem_cons.mpr ⟨wd_32_20, List.forall_mem_cons.mpr ⟨wd_32_21, List.forall_mem_cons.mpr ⟨wd_32_22, List.forall_mem_cons.mpr ⟨wd_1_2, fun _ h => nomatch h⟩⟩⟩⟩) (gd_ wd_32_23)
theorem cwV_X10_open : yX10_open.cls = RX10 ∧ yX10_open.cls ≠ "java/lang/invoke/MethodHandle" ∧ yX10_open.cls ≠ "java/lang/invoke/VarHandle" ∧ (parseMethodDescriptor yX10_open.desc).map (fun d => d.parameters.length) = some 0 := by decide +kernel
theorem lk_L_86 : GoodIn WSL (wsV RL 86 RX10 yX10_fill (ws_ yX10_fill cX10_fill 4 (some .int))) := gd_app (List.forall_mem_cons.mpr ⟨wd_35_16, List.forall_mem_cons.mpr ⟨wd_35_17, List.forall_mem_cons.mpr ⟨wd_35_18, List.forall_mem_cons.mpr ⟨wd_1_2, fun _ h => nomatch h⟩⟩⟩⟩) (gd_ wd_35_19)
theorem cwV_X10_fill : yX10_fill.cls = RX10 ∧ yX10_fill.cls ≠ "java/lang/invoke/MethodHandle" ∧ yX10_fill.cls ≠ "java/lang/invoke/VarHandle" ∧ (parseMethodDescriptor yX10_fill.desc).map (fun d => d.parameters.length) = some 1 := by decide +kernel
theorem lk_L_89 : GoodIn WSL (wsV RL 89 RX10 yX10_answer (ws_ yX10_answer cX10_answer 3 (some .int))) := gd_app (List.forall_mem_cons.mpr ⟨wd_40_3, List.forall_mem_cons.mpr ⟨wd_40_4, List.forall_mem_cons.mpr ⟨wd_40_5, List.forall_mem_cons.mpr ⟨wd_1_2, fun _ h => nomatch h⟩⟩⟩⟩) (gd_ wd_40_6)
theorem cwV_X10_answer : yX10_answer.cls = RX10 ∧ yX10_answer.cls ≠ "java/lang/invoke/MethodHandle" ∧ yX10_answer.cls ≠ "java/lang/invoke/VarHandle" ∧ (parseMethodDescriptor yX10_answer.desc).map (fun d => d.parameters.length) = some 1 := by decide +kernel
theorem lk_L_94 : GoodIn WSL (wsV RL 94 RX10 yX10_stateOf (ws_ yX10_stateOf cX10_stateOf 2 (some .char))) := gd_app (List.forall_mem_cons.mpr ⟨wd_41_11, List.forall_mem_cons.mpr ⟨wd_41_12, List.forall_mem_cons.mpr ⟨wd_41_13, List.forall_mem_cons.mpr ⟨wd_1_2, fun _ h => nomatch h⟩⟩⟩⟩) (gd_ wd_41_14)
theorem cwV_X10_stateOf : yX10_stateOf.cls = RX10 ∧ yX10_stateOf.cls ≠ "java/lang/invoke/MethodHandle" ∧ yX10_stateOf.cls ≠ "java/lang/invoke/VarHandle" ∧ (parseMethodDescriptor yX10_stateOf.desc).map (fun d => d.parameters.length) = some 1 := by decide +kernel
theorem lk_L_98 : GoodIn WSL (wsV RL 98 RX10 yX10_unitOf (ws_ yX10_unitOf cX10_unitOf 2 (some .int))) := gd_app (List.forall_mem_cons.mpr ⟨wd_41_23, List.forall_mem_cons.mpr ⟨wd_42_0, List.forall_mem_cons.mpr ⟨wd_42_1, List.forall_mem_cons.mpr ⟨wd_1_2, fun _ h => nomatch h⟩⟩⟩⟩) (gd_ wd_42_2)
theorem cwV_X10_unitOf : yX10_unitOf.cls = RX10 ∧ yX10_unitOf.cls ≠ "java/lang/invoke/MethodHandle" ∧ yX10_unitOf.cls ≠ "java/lang/invoke/VarHandle" ∧ (parseMethodDescriptor yX10_unitOf.desc).map (fun d => d.parameters.length) = some 1 := by decide +kernel
theorem lk_L_101 : GoodIn WSL (wsV RL 101 RX10 yX10_scoreOf (ws_ yX10_scoreOf cX10_scoreOf 2 (some .int))) := gd_app (List.forall_mem_cons.mpr ⟨wd_42_19, List.forall_mem_cons.mpr ⟨wd_42_20, List.forall_mem_cons.mpr ⟨wd_42_21, List.forall_mem_cons.mpr ⟨wd_1_2, fun _ h => nomatch h⟩⟩⟩⟩) (gd_ wd_42_22)
theorem cwV_X10_scoreOf : yX10_scoreOf.cls = RX10 ∧ yX10_scoreOf.cls ≠ "java/lang/invoke/MethodHandle" ∧ yX10_scoreOf.cls ≠ "java/lang/invoke/VarHandle" ∧ (parseMethodDescriptor yX10_scoreOf.desc).map (fun d => d.parameters.length) = some 1 := by decide +kernel
theorem lk_L_104 : GoodIn WSL (wsV RL 104 RX10 yX10_segmentLength (ws_ yX10_segmentLength cX10_segmentLength 2 (some .int))) := gd_app (List.forall_mem_cons.mpr ⟨wd_43_7, List.forall_mem_cons.mpr ⟨wd_43_8, List.forall_mem_cons.mpr ⟨wd_43_9, List.forall_mem_cons.mpr ⟨wd_1_2, fun _ h => nomatch h⟩⟩⟩⟩) (gd_ wd_43_10)
theorem cwV_X10_segmentLength : yX10_segmentLength.cls = RX10 ∧ yX10_segmentLength.cls ≠ "java/lang/invoke/MethodHandle" ∧ yX10_segmentLength.cls ≠ "java/lang/invoke/VarHandle" ∧ (parseMethodDescriptor yX10_segmentLength.desc).map (fun d => d.parameters.length) = some 1 := by decide +kernel
theorem lk_L_107 : GoodIn WSL (wsV RL 107 RX10 yX10_segmentToken (ws_ yX10_segmentToken cX10_segmentToken 4 (some .int))) := gd_app (List.forall_mem_cons.mpr ⟨wd_43_18, List.forall_mem_cons.mpr ⟨wd_43_19, List.forall_mem_cons.mpr ⟨wd_43_20, List.forall_mem_cons.mpr ⟨wd_1_2, fun _ h => nomatch h⟩⟩⟩⟩) (gd_ wd_43_21)
theorem cwV_X10_segmentToken : yX10_segmentToken.cls = RX10 ∧ yX10_segmentToken.cls ≠ "java/lang/invoke/MethodHandle" ∧ yX10_segmentToken.cls ≠ "java/lang/invoke/VarHandle" ∧ (parseMethodDescriptor yX10_segmentToken.desc).map (fun d => d.parameters.length) = some 2 := by decide +kernel
theorem lk_L_110 : GoodIn WSL (wsV RL 110 RX10 yX10_targetLength (ws_ yX10_targetLength cX10_targetLength 2 (some .int))) := gd_app (List.forall_mem_cons.mpr ⟨wd_44_8, List.forall_mem_cons.mpr ⟨wd_44_9, List.forall_mem_cons.mpr ⟨wd_44_10, List.forall_mem_cons.mpr ⟨wd_1_2, fun _ h => nomatch h⟩⟩⟩⟩) (gd_ wd_44_11)
theorem cwV_X10_targetLength : yX10_targetLength.cls = RX10 ∧ yX10_targetLength.cls ≠ "java/lang/invoke/MethodHandle" ∧ yX10_targetLength.cls ≠ "java/lang/invoke/VarHandle" ∧ (parseMethodDescriptor yX10_targetLength.desc).map (fun d => d.parameters.length) = some 1 := by decide +kernel
theorem lk_L_113 : GoodIn WSL (wsV RL 113 RX10 yX10_targetToken (ws_ yX10_targetToken cX10_targetToken 3 (some .int))) := gd_app (List.forall_mem_cons.mpr ⟨wd_44_23, List.forall_mem_cons.mpr ⟨wd_45_0, List.forall_mem_cons.mpr ⟨wd_45_1, List.forall_mem_cons.mpr ⟨wd_1_2, fun _ h => nomatch h⟩⟩⟩⟩) (gd_ wd_45_2)
theorem cwV_X10_targetToken : yX10_targetToken.cls = RX10 ∧ yX10_targetToken.cls ≠ "java/lang/invoke/MethodHandle" ∧ yX10_targetToken.cls ≠ "java/lang/invoke/VarHandle" ∧ (parseMethodDescriptor yX10_targetToken.desc).map (fun d => d.parameters.length) = some 2 := by decide +kernel
theorem lk_L_116 : GoodIn WSL (wsV RL 116 RX10 yX10_targetKind (ws_ yX10_targetKind cX10_targetKind 3 (some .char))) := gd_app (List.forall_mem_cons.mpr ⟨wd_45_18, List.forall_mem_cons.mpr ⟨wd_45_19, List.forall_mem_cons.mpr ⟨wd_45_20, List.forall_mem_cons.mpr ⟨wd_1_2, fun _ h => nomatch h⟩⟩⟩⟩) (gd_ wd_45_21)
theorem cwV_X10_targetKind : yX10_targetKind.cls = RX10 ∧ yX10_targetKind.cls ≠ "java/lang/invoke/MethodHandle" ∧ yX10_targetKind.cls ≠ "java/lang/invoke/VarHandle" ∧ (parseMethodDescriptor yX10_targetKind.desc).map (fun d => d.parameters.length) = some 2 := by decide +kernel
theorem lk_L_120 : GoodIn WSL (wsV RL 120 RX10 yX10_filledShare (ws_ yX10_filledShare cX10_filledShare 2 (some .float))) := gd_app (List.forall_mem_cons.mpr ⟨wd_47_7, List.forall_mem_cons.mpr ⟨wd_47_8, List.forall_mem_cons.mpr ⟨wd_47_9, List.forall_mem_cons.mpr ⟨wd_1_2, fun _ h => nomatch h⟩⟩⟩⟩) (gd_ wd_47_10)
theorem cwV_X10_filledShare : yX10_filledShare.cls = RX10 ∧ yX10_filledShare.cls ≠ "java/lang/invoke/MethodHandle" ∧ yX10_filledShare.cls ≠ "java/lang/invoke/VarHandle" ∧ (parseMethodDescriptor yX10_filledShare.desc).map (fun d => d.parameters.length) = some 0 := by decide +kernel
theorem lk_L_126 : GoodIn WSL (wsV RL 126 RX10 yX10_meanLikeness (ws_ yX10_meanLikeness cX10_meanLikeness 2 (some .double))) := gd_app (List.forall_mem_cons.mpr ⟨wd_48_0, List.forall_mem_cons.mpr ⟨wd_48_1, List.forall_mem_cons.mpr ⟨wd_48_2, List.forall_mem_cons.mpr ⟨wd_1_2, fun _ h => nomatch h⟩⟩⟩⟩) (gd_ wd_48_3)
theorem cwV_X10_meanLikeness : yX10_meanLikeness.cls = RX10 ∧ yX10_meanLikeness.cls ≠ "java/lang/invoke/MethodHandle" ∧ yX10_meanLikeness.cls ≠ "java/lang/invoke/VarHandle" ∧ (parseMethodDescriptor yX10_meanLikeness.desc).map (fun d => d.parameters.length) = some 0 := by decide +kernel
set_option maxHeartbeats 4000000 in
set_option maxRecDepth 100000 in
theorem m_L_word (l : Launch) (hsT : l.stackTraces = false) (g : GT) (cj cd : ClassId) (o a : Nat) (f : Nat → Int64) (S : SGM) (W9 : va_W) (hCW : CW g o S W9) (sz : Nat) (v : Int) (hv : jR v) : Met l yL_word (.codeWith yL_word cL_word 4 (some .int) [(0, 9, 12, 13), (0, 9, 15, 15)] :: WSL) (rmm 5 3 18) (jPh g cj cd [.ref o, vi v, .ref a] (fun H => H.size = sz ∧ PP g (aJ cj a f :: W9) H ∧ va_D (fun q => gb g ≤ q) (aJ cj a f :: W9))) (jQi (fun z H1 => z = (cdTok S (0 ≤ v ∧ v < 100)) ∧ ∃ (w1 : va_W) (f1 : Nat → Int64), (((cdTok S (0 ≤ v ∧ v < 100)) = 0 ∧ CW g o ((S.1 ++ [0 * 10000 + v], S.2)) w1 ∧ f1 0 = (jI ((S.1.length : Int) + 1)).toInt64) ∨ (¬ (cdTok S (0 ≤ v ∧ v < 100)) = 0 ∧ CW g o S w1)) ∧ PP g (aJ cj a f1 :: w1) H1 ∧ va_D (va_A (aJ cj a f :: W9) sz) (aJ cj a f1 :: w1)) (va_A (aJ cj a f :: W9) sz)) 3 18 (va_A (aJ cj a f :: W9) sz) := by
  refine jh_M (by decide) (Nat.le_of_ble_eq_true rfl) ?_
  intro p e s m below meth c hx hb hr hml hown htl hlk htb hKK hKJ hpre ls hl
  have hown : s.vm.findClass RL = some m.cls := hown
  obtain ⟨hsz, hP, hD0⟩ := hpre
  subst hsz
  have hD : va_D (va_A (aJ cj a f :: W9) s.heap.size) (aJ cj a f :: W9) := hD0.self
  have hA : ∀ q, s.heap.size ≤ q → (va_A (aJ cj a f :: W9) s.heap.size) q := fun q h => Or.inr h
  generalize hAe : va_A (aJ cj a f :: W9) s.heap.size = A at hD hA ⊢
  have hPW : PP g W9 s.heap := hP.mem fun q h => List.mem_cons_of_mem _ h
  have hDW : va_D (fun q => gb g ≤ q) W9 := (hD0.perm (List.perm_append_singleton _ W9).symm).left
  have hl : lv_has ls 4 [(0, .ref o), (1, vi v), (2, .ref a)] := hl
  refine lv_aload_n hx hb dL_word_0 rfl (lv_at hl 2 rfl) ?_
  refine jr_iconst hx hb dL_word_1 ?_
  refine lv_aload_n hx hb dL_word_2 rfl (lv_at hl 0 rfl) ?_
  refine lv_iload_n hx hb dL_word_3 rfl (lv_at hl 1 rfl) ?_
  refine jh_Qi (vx_runV (As := [vi v]) (rest := [vi 0, .ref a]) ⟨hx, hb, hml, hown, htl⟩ (m_X10_word l hsT g o S W9 hCW s.heap.size v hv) (cwV 1 htl lk_L_7 rfl rfl rfl cwV_X10_word ⟨Nat.le_of_ble_eq_true rfl, Nat.le_of_ble_eq_true rfl⟩) (jp_V hKK (va_S.rf (A := jN)) jNb (CW.recv hKK hCW hPW) ⟨rfl, hPW, hDW⟩) rfl rfl hl.1 rfl (lv_room (Nat.le_of_ble_eq_true rfl)) dL_word_4 ⟨Nat.le_of_ble_eq_true rfl, Nat.le_of_ble_eq_true rfl⟩) hCW hP hD hA ?_ ?_
  · intro E ce q9 H1 L w1 hE hC hP hD hS h2 h3 h4
    rcases hE with ⟨rfl, hcd⟩ | ⟨rfl, hcd⟩
    · refine vx_catch (name := eIA) hown [] (xe (0, 9, 12, 13)) [xe (0, 9, 15, 15)] (htb.trans rfl) (fun _ h => nomatch h) rfl (show (13 : Nat) ≠ 0 by decide) (htl _ wd_6_18) (va_Nw.use rfl (hKK.1.2.2.1 (eIA, eIA) (List.mem_of_getElem? (i := 0) rfl))) h2 h3 h4 ?_
      refine lv_astore_n (lv' := [(3, .ref q9), (0, .ref o), (1, vi v), (2, .ref a)]) hx hb dL_word_12 rfl hl (by decide) rfl (fun ls hl => ?_)
      refine jr_iconst hx hb dL_word_13 ?_
      exact je_Qi hx hb hr hlk rfl hS ⟨hcd.symm, w1, f, Or.inr ⟨by omega, hC⟩, hP, hD⟩ dL_word_14
    · refine vx_catch (name := eIS) hown [xe (0, 9, 12, 13)] (xe (0, 9, 15, 15)) [] (htb.trans rfl) (List.forall_mem_cons.mpr ⟨Or.inr ⟨(show (13 : Nat) ≠ 0 by decide), _, htl _ wd_6_18, hKK.1.2.2.2.2.2.1 (eIS, eIA) (List.mem_of_getElem? (i := 0) rfl)⟩, fun _ h => nomatch h⟩) rfl (show (15 : Nat) ≠ 0 by decide) (htl _ wd_6_19) (va_Nw.use rfl (hKK.1.2.2.1 (eIS, eIS) (List.mem_of_getElem? (i := 1) rfl))) h2 h3 h4 ?_
      refine lv_astore_n (lv' := [(3, .ref q9), (0, .ref o), (1, vi v), (2, .ref a)]) hx hb dL_word_15 rfl hl (by decide) rfl (fun ls hl => ?_)
      refine jr_iconst hx hb dL_word_16 ?_
      exact je_Qi hx hb hr hlk rfl hS ⟨hcd.symm, w1, f, Or.inr ⟨by omega, hC⟩, hP, hD⟩ dL_word_17
  · intro v9 H1 L w1 hv9 hC hP hD hS
    obtain ⟨z9, rfl, hcd, hz9⟩ := hv9
    subst hz9
    refine lv_i2l hx hb dL_word_7 rfl ?_
    refine va_last hx hb hKJ hP hD hS 0 0 rfl rfl (jI_in (by omega) (by omega) (by omega)) dL_word_8 (fun H locs hP hD hS => ?_)
    refine lv_goto (tgt := 18) hx hb dL_word_9 (by decide) ?_
    refine jr_iconst hx hb dL_word_18 ?_
    exact je_Qi hx hb hr hlk rfl hS ⟨hcd.symm, w1, _, Or.inl ⟨hcd, hC, if_pos rfl⟩, hP, hD⟩ dL_word_19
set_option maxHeartbeats 4000000 in
set_option maxRecDepth 100000 in
theorem m_L_number (l : Launch) (hsT : l.stackTraces = false) (g : GT) (cj cd : ClassId) (o a : Nat) (f : Nat → Int64) (S : SGM) (W9 : va_W) (hCW : CW g o S W9) (sz : Nat) (v : Int) (hv : jR v) : Met l yL_number (.codeWith yL_number cL_number 4 (some .int) [(0, 9, 12, 13), (0, 9, 15, 15)] :: WSL) (rmm 5 3 18) (jPh g cj cd [.ref o, vi v, .ref a] (fun H => H.size = sz ∧ PP g (aJ cj a f :: W9) H ∧ va_D (fun q => gb g ≤ q) (aJ cj a f :: W9))) (jQi (fun z H1 => z = (cdTok S (0 ≤ v ∧ v < 10000)) ∧ ∃ (w1 : va_W) (f1 : Nat → Int64), (((cdTok S (0 ≤ v ∧ v < 10000)) = 0 ∧ CW g o ((S.1 ++ [1 * 10000 + v], S.2)) w1 ∧ f1 0 = (jI ((S.1.length : Int) + 1)).toInt64) ∨ (¬ (cdTok S (0 ≤ v ∧ v < 10000)) = 0 ∧ CW g o S w1)) ∧ PP g (aJ cj a f1 :: w1) H1 ∧ va_D (va_A (aJ cj a f :: W9) sz) (aJ cj a f1 :: w1)) (va_A (aJ cj a f :: W9) sz)) 3 18 (va_A (aJ cj a f :: W9) sz) := by
  refine jh_M (by decide) (Nat.le_of_ble_eq_true rfl) ?_
  intro p e s m below meth c hx hb hr hml hown htl hlk htb hKK hKJ hpre ls hl
  have hown : s.vm.findClass RL = some m.cls := hown
  obtain ⟨hsz, hP, hD0⟩ := hpre
  subst hsz
  have hD : va_D (va_A (aJ cj a f :: W9) s.heap.size) (aJ cj a f :: W9) := hD0.self
  have hA : ∀ q, s.heap.size ≤ q → (va_A (aJ cj a f :: W9) s.heap.size) q := fun q h => Or.inr h
  generalize hAe : va_A (aJ cj a f :: W9) s.heap.size = A at hD hA ⊢
  have hPW : PP g W9 s.heap := hP.mem fun q h => List.mem_cons_of_mem _ h
  have hDW : va_D (fun q => gb g ≤ q) W9 := (hD0.perm (List.perm_append_singleton _ W9).symm).left
  have hl : lv_has ls 4 [(0, .ref o), (1, vi v), (2, .ref a)] := hl
  refine lv_aload_n hx hb dL_number_0 rfl (lv_at hl 2 rfl) ?_
  refine jr_iconst hx hb dL_number_1 ?_
  refine lv_aload_n hx hb dL_number_2 rfl (lv_at hl 0 rfl) ?_
  refine lv_iload_n hx hb dL_number_3 rfl (lv_at hl 1 rfl) ?_
  refine jh_Qi (vx_runV (As := [vi v]) (rest := [vi 0, .ref a]) ⟨hx, hb, hml, hown, htl⟩ (m_X10_number l hsT g o S W9 hCW s.heap.size v hv) (cwV 1 htl lk_L_17 rfl rfl rfl cwV_X10_number ⟨Nat.le_of_ble_eq_true rfl, Nat.le_of_ble_eq_true rfl⟩) (jp_V hKK (va_S.rf (A := jN)) jNb (CW.recv hKK hCW hPW) ⟨rfl, hPW, hDW⟩) rfl rfl hl.1 rfl (lv_room (Nat.le_of_ble_eq_true rfl)) dL_number_4 ⟨Nat.le_of_ble_eq_true rfl, Nat.le_of_ble_eq_true rfl⟩) hCW hP hD hA ?_ ?_
  · intro E ce q9 H1 L w1 hE hC hP hD hS h2 h3 h4
    rcases hE with ⟨rfl, hcd⟩ | ⟨rfl, hcd⟩
    · refine vx_catch (name := eIA) hown [] (xe (0, 9, 12, 13)) [xe (0, 9, 15, 15)] (htb.trans rfl) (fun _ h => nomatch h) rfl (show (13 : Nat) ≠ 0 by decide) (htl _ wd_6_18) (va_Nw.use rfl (hKK.1.2.2.1 (eIA, eIA) (List.mem_of_getElem? (i := 0) rfl))) h2 h3 h4 ?_
      refine lv_astore_n (lv' := [(3, .ref q9), (0, .ref o), (1, vi v), (2, .ref a)]) hx hb dL_number_12 rfl hl (by decide) rfl (fun ls hl => ?_)
      refine jr_iconst hx hb dL_number_13 ?_
      exact je_Qi hx hb hr hlk rfl hS ⟨hcd.symm, w1, f, Or.inr ⟨by omega, hC⟩, hP, hD⟩ dL_number_14
    · refine vx_catch (name := eIS) hown [xe (0, 9, 12, 13)] (xe (0, 9, 15, 15)) [] (htb.trans rfl) (List.forall_mem_cons.mpr ⟨Or.inr ⟨(show (13 : Nat) ≠ 0 by decide), _, htl _ wd_6_18, hKK.1.2.2.2.2.2.1 (eIS, eIA) (List.mem_of_getElem? (i := 0) rfl)⟩, fun _ h => nomatch h⟩) rfl (show (15 : Nat) ≠ 0 by decide) (htl _ wd_6_19) (va_Nw.use rfl (hKK.1.2.2.1 (eIS, eIS) (List.mem_of_getElem? (i := 1) rfl))) h2 h3 h4 ?_
      refine lv_astore_n (lv' := [(3, .ref q9), (0, .ref o), (1, vi v), (2, .ref a)]) hx hb dL_number_15 rfl hl (by decide) rfl (fun ls hl => ?_)
      refine jr_iconst hx hb dL_number_16 ?_
      exact je_Qi hx hb hr hlk rfl hS ⟨hcd.symm, w1, f, Or.inr ⟨by omega, hC⟩, hP, hD⟩ dL_number_17
  · intro v9 H1 L w1 hv9 hC hP hD hS
    obtain ⟨z9, rfl, hcd, hz9⟩ := hv9
    subst hz9
    refine lv_i2l hx hb dL_number_7 rfl ?_
    refine va_last hx hb hKJ hP hD hS 0 0 rfl rfl (jI_in (by omega) (by omega) (by omega)) dL_number_8 (fun H locs hP hD hS => ?_)
    refine lv_goto (tgt := 18) hx hb dL_number_9 (by decide) ?_
    refine jr_iconst hx hb dL_number_18 ?_
    exact je_Qi hx hb hr hlk rfl hS ⟨hcd.symm, w1, _, Or.inl ⟨hcd, hC, if_pos rfl⟩, hP, hD⟩ dL_number_19
set_option maxHeartbeats 4000000 in
set_option maxRecDepth 100000 in
theorem m_L_tag (l : Launch) (hsT : l.stackTraces = false) (g : GT) (cj cd : ClassId) (o a : Nat) (f : Nat → Int64) (S : SGM) (W9 : va_W) (hCW : CW g o S W9) (sz : Nat) (v : Int) (hv : jR v) : Met l yL_tag (.codeWith yL_tag cL_tag 4 (some .int) [(0, 9, 12, 13), (0, 9, 15, 15)] :: WSL) (rmm 5 3 18) (jPh g cj cd [.ref o, vi v, .ref a] (fun H => H.size = sz ∧ PP g (aJ cj a f :: W9) H ∧ va_D (fun q => gb g ≤ q) (aJ cj a f :: W9))) (jQi (fun z H1 => z = (cdTok S (0 ≤ v ∧ v < 10)) ∧ ∃ (w1 : va_W) (f1 : Nat → Int64), (((cdTok S (0 ≤ v ∧ v < 10)) = 0 ∧ CW g o ((S.1 ++ [2 * 10000 + v], S.2)) w1 ∧ f1 0 = (jI ((S.1.length : Int) + 1)).toInt64) ∨ (¬ (cdTok S (0 ≤ v ∧ v < 10)) = 0 ∧ CW g o S w1)) ∧ PP g (aJ cj a f1 :: w1) H1 ∧ va_D (va_A (aJ cj a f :: W9) sz) (aJ cj a f1 :: w1)) (va_A (aJ cj a f :: W9) sz)) 3 18 (va_A (aJ cj a f :: W9) sz) := by
  refine jh_M (by decide) (Nat.le_of_ble_eq_true rfl) ?_
  intro p e s m below meth c hx hb hr hml hown htl hlk htb hKK hKJ hpre ls hl
  have hown : s.vm.findClass RL = some m.cls := hown
  obtain ⟨hsz, hP, hD0⟩ := hpre
  subst hsz
  have hD : va_D (va_A (aJ cj a f :: W9) s.heap.size) (aJ cj a f :: W9) := hD0.self
  have hA : ∀ q, s.heap.size ≤ q → (va_A (aJ cj a f :: W9) s.heap.size) q := fun q h => Or.inr h
  generalize hAe : va_A (aJ cj a f :: W9) s.heap.size = A at hD hA ⊢
  have hPW : PP g W9 s.heap := hP.mem fun q h => List.mem_cons_of_mem _ h
  have hDW : va_D (fun q => gb g ≤ q) W9 := (hD0.perm (List.perm_append_singleton _ W9).symm).left
  have hl : lv_has ls 4 [(0, .ref o), (1, vi v), (2, .ref a)] := hl
  refine lv_aload_n hx hb dL_tag_0 rfl (lv_at hl 2 rfl) ?_
  refine jr_iconst hx hb dL_tag_1 ?_
  refine lv_aload_n hx hb dL_tag_2 rfl (lv_at hl 0 rfl) ?_
  refine lv_iload_n hx hb dL_tag_3 rfl (lv_at hl 1 rfl) ?_
  refine jh_Qi (vx_runV (As := [vi v]) (rest := [vi 0, .ref a]) ⟨hx, hb, hml, hown, htl⟩ (m_X10_tag l hsT g o S W9 hCW s.heap.size v hv) (cwV 1 htl lk_L_20 rfl rfl rfl cwV_X10_tag ⟨Nat.le_of_ble_eq_true rfl, Nat.le_of_ble_eq_true rfl⟩) (jp_V hKK (va_S.rf (A := jN)) jNb (CW.recv hKK hCW hPW) ⟨rfl, hPW, hDW⟩) rfl rfl hl.1 rfl (lv_room (Nat.le_of_ble_eq_true rfl)) dL_tag_4 ⟨Nat.le_of_ble_eq_true rfl, Nat.le_of_ble_eq_true rfl⟩) hCW hP hD hA ?_ ?_
  · intro E ce q9 H1 L w1 hE hC hP hD hS h2 h3 h4
    rcases hE with ⟨rfl, hcd⟩ | ⟨rfl, hcd⟩
    · refine vx_catch (name := eIA) hown [] (xe (0, 9, 12, 13)) [xe (0, 9, 15, 15)] (htb.trans rfl) (fun _ h => nomatch h) rfl (show (13 : Nat) ≠ 0 by decide) (htl _ wd_6_18) (va_Nw.use rfl (hKK.1.2.2.1 (eIA, eIA) (List.mem_of_getElem? (i := 0) rfl))) h2 h3 h4 ?_
      refine lv_astore_n (lv' := [(3, .ref q9), (0, .ref o), (1, vi v), (2, .ref a)]) hx hb dL_tag_12 rfl hl (by decide) rfl (fun ls hl => ?_)
      refine jr_iconst hx hb dL_tag_13 ?_
      exact je_Qi hx hb hr hlk rfl hS ⟨hcd.symm, w1, f, Or.inr ⟨by omega, hC⟩, hP, hD⟩ dL_tag_14
    · refine vx_catch (name := eIS) hown [xe (0, 9, 12, 13)] (xe (0, 9, 15, 15)) [] (htb.trans rfl) (List.forall_mem_cons.mpr ⟨Or.inr ⟨(show (13 : Nat) ≠ 0 by decide), _, htl _ wd_6_18, hKK.1.2.2.2.2.2.1 (eIS, eIA) (List.mem_of_getElem? (i := 0) rfl)⟩, fun _ h => nomatch h⟩) rfl (show (15 : Nat) ≠ 0 by decide) (htl _ wd_6_19) (va_Nw.use rfl (hKK.1.2.2.1 (eIS, eIS) (List.mem_of_getElem? (i := 1) rfl))) h2 h3 h4 ?_
      refine lv_astore_n (lv' := [(3, .ref q9), (0, .ref o), (1, vi v), (2, .ref a)]) hx hb dL_tag_15 rfl hl (by decide) rfl (fun ls hl => ?_)
      refine jr_iconst hx hb dL_tag_16 ?_
      exact je_Qi hx hb hr hlk rfl hS ⟨hcd.symm, w1, f, Or.inr ⟨by omega, hC⟩, hP, hD⟩ dL_tag_17
  · intro v9 H1 L w1 hv9 hC hP hD hS
    obtain ⟨z9, rfl, hcd, hz9⟩ := hv9
    subst hz9
    refine lv_i2l hx hb dL_tag_7 rfl ?_
    refine va_last hx hb hKJ hP hD hS 0 0 rfl rfl (jI_in (by omega) (by omega) (by omega)) dL_tag_8 (fun H locs hP hD hS => ?_)
    refine lv_goto (tgt := 18) hx hb dL_tag_9 (by decide) ?_
    refine jr_iconst hx hb dL_tag_18 ?_
    exact je_Qi hx hb hr hlk rfl hS ⟨hcd.symm, w1, _, Or.inl ⟨hcd, hC, if_pos rfl⟩, hP, hD⟩ dL_tag_19
set_option maxHeartbeats 4000000 in
set_option maxRecDepth 100000 in
theorem m_L_mark (l : Launch) (hsT : l.stackTraces = false) (g : GT) (cj cd : ClassId) (o a : Nat) (f : Nat → Int64) (S : SGM) (W9 : va_W) (hCW : CW g o S W9) (sz : Nat) (v : Int) (hv : 0 ≤ v ∧ v < 65536) : Met l yL_mark (.codeWith yL_mark cL_mark 4 (some .int) [(0, 9, 12, 13), (0, 9, 15, 15)] :: WSL) (rmm 5 3 18) (jPh g cj cd [.ref o, vi v, .ref a] (fun H => H.size = sz ∧ PP g (aJ cj a f :: W9) H ∧ va_D (fun q => gb g ≤ q) (aJ cj a f :: W9))) (jQi (fun z H1 => z = (cdTok S (v = 46 ∨ v = 33 ∨ v = 63 ∨ v = 44 ∨ v = 59)) ∧ ∃ (w1 : va_W) (f1 : Nat → Int64), (((cdTok S (v = 46 ∨ v = 33 ∨ v = 63 ∨ v = 44 ∨ v = 59)) = 0 ∧ CW g o ((S.1 ++ [3 * 10000 + v], S.2)) w1 ∧ f1 0 = (jI ((S.1.length : Int) + 1)).toInt64) ∨ (¬ (cdTok S (v = 46 ∨ v = 33 ∨ v = 63 ∨ v = 44 ∨ v = 59)) = 0 ∧ CW g o S w1)) ∧ PP g (aJ cj a f1 :: w1) H1 ∧ va_D (va_A (aJ cj a f :: W9) sz) (aJ cj a f1 :: w1)) (va_A (aJ cj a f :: W9) sz)) 3 18 (va_A (aJ cj a f :: W9) sz) := by
  refine jh_M (by decide) (Nat.le_of_ble_eq_true rfl) ?_
  intro p e s m below meth c hx hb hr hml hown htl hlk htb hKK hKJ hpre ls hl
  have hown : s.vm.findClass RL = some m.cls := hown
  obtain ⟨hsz, hP, hD0⟩ := hpre
  subst hsz
  have hD : va_D (va_A (aJ cj a f :: W9) s.heap.size) (aJ cj a f :: W9) := hD0.self
  have hA : ∀ q, s.heap.size ≤ q → (va_A (aJ cj a f :: W9) s.heap.size) q := fun q h => Or.inr h
  generalize hAe : va_A (aJ cj a f :: W9) s.heap.size = A at hD hA ⊢
  have hPW : PP g W9 s.heap := hP.mem fun q h => List.mem_cons_of_mem _ h
  have hDW : va_D (fun q => gb g ≤ q) W9 := (hD0.perm (List.perm_append_singleton _ W9).symm).left
  have hl : lv_has ls 4 [(0, .ref o), (1, vi v), (2, .ref a)] := hl
  refine lv_aload_n hx hb dL_mark_0 rfl (lv_at hl 2 rfl) ?_
  refine jr_iconst hx hb dL_mark_1 ?_
  refine lv_aload_n hx hb dL_mark_2 rfl (lv_at hl 0 rfl) ?_
  refine lv_iload_n hx hb dL_mark_3 rfl (lv_at hl 1 rfl) ?_
  refine jh_Qi (vx_runV (As := [vi v]) (rest := [vi 0, .ref a]) ⟨hx, hb, hml, hown, htl⟩ (m_X10_mark l hsT g o S W9 hCW s.heap.size v hv) (cwV 1 htl lk_L_23 rfl rfl rfl cwV_X10_mark ⟨Nat.le_of_ble_eq_true rfl, Nat.le_of_ble_eq_true rfl⟩) (jp_V hKK (va_S.rf (A := jN)) jNb (CW.recv hKK hCW hPW) ⟨rfl, hPW, hDW⟩) rfl rfl hl.1 rfl (lv_room (Nat.le_of_ble_eq_true rfl)) dL_mark_4 ⟨Nat.le_of_ble_eq_true rfl, Nat.le_of_ble_eq_true rfl⟩) hCW hP hD hA ?_ ?_
  · intro E ce q9 H1 L w1 hE hC hP hD hS h2 h3 h4
    rcases hE with ⟨rfl, hcd⟩ | ⟨rfl, hcd⟩
    · refine vx_catch (name := eIA) hown [] (xe (0, 9, 12, 13)) [xe (0, 9, 15, 15)] (htb.trans rfl) (fun _ h => nomatch h) rfl (show (13 : Nat) ≠ 0 by decide) (htl _ wd_6_18) (va_Nw.use rfl (hKK.1.2.2.1 (eIA, eIA) (List.mem_of_getElem? (i := 0) rfl))) h2 h3 h4 ?_
      refine lv_astore_n (lv' := [(3, .ref q9), (0, .ref o), (1, vi v), (2, .ref a)]) hx hb dL_mark_12 rfl hl (by decide) rfl (fun ls hl => ?_)
      refine jr_iconst hx hb dL_mark_13 ?_
      exact je_Qi hx hb hr hlk rfl hS ⟨hcd.symm, w1, f, Or.inr ⟨by omega, hC⟩, hP, hD⟩ dL_mark_14
    · refine vx_catch (name := eIS) hown [xe (0, 9, 12, 13)] (xe (0, 9, 15, 15)) [] (htb.trans rfl) (List.forall_mem_cons.mpr ⟨Or.inr ⟨(show (13 : Nat) ≠ 0 by decide), _, htl _ wd_6_18, hKK.1.2.2.2.2.2.1 (eIS, eIA) (List.mem_of_getElem? (i := 0) rfl)⟩, fun _ h => nomatch h⟩) rfl (show (15 : Nat) ≠ 0 by decide) (htl _ wd_6_19) (va_Nw.use rfl (hKK.1.2.2.1 (eIS, eIS) (List.mem_of_getElem? (i := 1) rfl))) h2 h3 h4 ?_
      refine lv_astore_n (lv' := [(3, .ref q9), (0, .ref o), (1, vi v), (2, .ref a)]) hx hb dL_mark_15 rfl hl (by decide) rfl (fun ls hl => ?_)
      refine jr_iconst hx hb dL_mark_16 ?_
      exact je_Qi hx hb hr hlk rfl hS ⟨hcd.symm, w1, f, Or.inr ⟨by omega, hC⟩, hP, hD⟩ dL_mark_17
  · intro v9 H1 L w1 hv9 hC hP hD hS
    obtain ⟨z9, rfl, hcd, hz9⟩ := hv9
    subst hz9
    refine lv_i2l hx hb dL_mark_7 rfl ?_
    refine va_last hx hb hKJ hP hD hS 0 0 rfl rfl (jI_in (by omega) (by omega) (by omega)) dL_mark_8 (fun H locs hP hD hS => ?_)
    refine lv_goto (tgt := 18) hx hb dL_mark_9 (by decide) ?_
    refine jr_iconst hx hb dL_mark_18 ?_
    exact je_Qi hx hb hr hlk rfl hS ⟨hcd.symm, w1, _, Or.inl ⟨hcd, hC, if_pos rfl⟩, hP, hD⟩ dL_mark_19
set_option maxHeartbeats 4000000 in
set_option maxRecDepth 100000 in
theorem m_L_setWeights (l : Launch) (hsT : l.stackTraces = false) (g : GT) (cj cd : ClassId) (o a : Nat) (f : Nat → Int64) (S : SGM) (W9 : va_W) (hCW : CW g o S W9) (sz : Nat) (va vb vc vd : Int) (hva : jR va) (hvb : jR vb) (hvc : jR vc) (hvd : jR vd) : Met l yL_setWeights (.codeWith yL_setWeights cL_setWeights 7 (some .int) [(0, 14, 17, 13)] :: WSL) (rmm 4 4 24) (jPh g cj cd [.ref o, vi va, vi vb, vi vc, vi vd, .ref a] (fun H => H.size = sz ∧ PP g (aJ cj a f :: W9) H ∧ va_D (fun q => gb g ≤ q) (aJ cj a f :: W9))) (jQi (fun z H1 => z = (cd1 ((1 ≤ va ∧ va ≤ 9) ∧ (1 ≤ vb ∧ vb ≤ 9) ∧ (1 ≤ vc ∧ vc ≤ 9) ∧ (1 ≤ vd ∧ vd ≤ 9))) ∧ ∃ (w1 : va_W) (f1 : Nat → Int64), (((cd1 ((1 ≤ va ∧ va ≤ 9) ∧ (1 ≤ vb ∧ vb ≤ 9) ∧ (1 ≤ vc ∧ vc ≤ 9) ∧ (1 ≤ vd ∧ vd ≤ 9))) = 0 ∧ CW g o (nxW S va vb vc vd) w1 ∧ f1 0 = (jI (wk S.2.2.2.1 0)).toInt64) ∨ (¬ (cd1 ((1 ≤ va ∧ va ≤ 9) ∧ (1 ≤ vb ∧ vb ≤ 9) ∧ (1 ≤ vc ∧ vc ≤ 9) ∧ (1 ≤ vd ∧ vd ≤ 9))) = 0 ∧ CW g o S w1)) ∧ PP g (aJ cj a f1 :: w1) H1 ∧ va_D (va_A (aJ cj a f :: W9) sz) (aJ cj a f1 :: w1)) (va_A (aJ cj a f :: W9) sz)) 4 24 (va_A (aJ cj a f :: W9) sz) := by
  refine jh_M (by decide) (Nat.le_of_ble_eq_true rfl) ?_
  intro p e s m below meth c hx hb hr hml hown htl hlk htb hKK hKJ hpre ls hl
  have hown : s.vm.findClass RL = some m.cls := hown
  obtain ⟨hsz, hP, hD0⟩ := hpre
  subst hsz
  have hD : va_D (va_A (aJ cj a f :: W9) s.heap.size) (aJ cj a f :: W9) := hD0.self
  have hA : ∀ q, s.heap.size ≤ q → (va_A (aJ cj a f :: W9) s.heap.size) q := fun q h => Or.inr h
  generalize hAe : va_A (aJ cj a f :: W9) s.heap.size = A at hD hA ⊢
  have hPW : PP g W9 s.heap := hP.mem fun q h => List.mem_cons_of_mem _ h
  have hDW : va_D (fun q => gb g ≤ q) W9 := (hD0.perm (List.perm_append_singleton _ W9).symm).left
  have hl : lv_has ls 7 [(0, .ref o), (1, vi va), (2, vi vb), (3, vi vc), (4, vi vd), (5, .ref a)] := hl
  refine lv_aload hx hb dL_setWeights_0 (lv_at hl 5 rfl) ?_
  refine jr_iconst hx hb dL_setWeights_2 ?_
  refine lv_aload_n hx hb dL_setWeights_3 rfl (lv_at hl 0 rfl) ?_
  refine lv_iload_n hx hb dL_setWeights_4 rfl (lv_at hl 1 rfl) ?_
  refine lv_iload_n hx hb dL_setWeights_5 rfl (lv_at hl 2 rfl) ?_
  refine lv_iload_n hx hb dL_setWeights_6 rfl (lv_at hl 3 rfl) ?_
  refine lv_iload hx hb dL_setWeights_7 (lv_at hl 4 rfl) ?_
  refine jh_Qi (vx_runV (As := [vi va, vi vb, vi vc, vi vd]) (rest := [vi 0, .ref a]) ⟨hx, hb, hml, hown, htl⟩ (m_X10_setWeights l hsT g o S W9 hCW s.heap.size va vb vc vd hva hvb hvc hvd) (cwV 4 htl lk_L_27 rfl rfl rfl cwV_X10_setWeights ⟨Nat.le_of_ble_eq_true rfl, Nat.le_of_ble_eq_true rfl⟩) (jp_V hKK (va_S.rf (A := jN)) jNb (CW.recv hKK hCW hPW) ⟨rfl, hPW, hDW⟩) rfl rfl hl.1 rfl (lv_room (Nat.le_of_ble_eq_true rfl)) dL_setWeights_9 ⟨Nat.le_of_ble_eq_true rfl, Nat.le_of_ble_eq_true rfl⟩) hCW hP hD hA ?_ ?_
  · intro E ce q9 H1 L w1 hE hC hP hD hS h2 h3 h4
    rcases hE with ⟨rfl, hcd⟩
    · refine vx_catch (name := eIA) hown [] (xe (0, 14, 17, 13)) [] (htb.trans rfl) (fun _ h => nomatch h) rfl (show (13 : Nat) ≠ 0 by decide) (htl _ wd_6_18) (va_Nw.use rfl (hKK.1.2.2.1 (eIA, eIA) (List.mem_of_getElem? (i := 0) rfl))) h2 h3 h4 ?_
      refine lv_astore (lv' := [(6, .ref q9), (0, .ref o), (1, vi va), (2, vi vb), (3, vi vc), (4, vi vd), (5, .ref a)]) hx hb dL_setWeights_17 hl (by decide) rfl (fun ls hl => ?_)
      refine jr_iconst hx hb dL_setWeights_19 ?_
      exact je_Qi hx hb hr hlk rfl hS ⟨hcd.symm, w1, f, Or.inr ⟨by omega, hC⟩, hP, hD⟩ dL_setWeights_20
  · intro v9 H1 L w1 hv9 hC hP hD hS
    obtain ⟨z9, rfl, hcd, hz9⟩ := hv9
    subst hz9
    refine lv_i2l hx hb dL_setWeights_12 rfl ?_
    refine va_last hx hb hKJ hP hD hS 0 0 rfl rfl (jI_in (by omega) (by omega) (by omega)) dL_setWeights_13 (fun H locs hP hD hS => ?_)
    refine lv_goto (tgt := 21) hx hb dL_setWeights_14 (by decide) ?_
    refine jr_iconst hx hb dL_setWeights_21 ?_
    exact je_Qi hx hb hr hlk rfl hS ⟨hcd.symm, w1, _, Or.inl ⟨hcd, hC, if_pos rfl⟩, hP, hD⟩ dL_setWeights_22
set_option maxHeartbeats 4000000 in
set_option maxRecDepth 100000 in
theorem m_L_addAbbreviation (l : Launch) (hsT : l.stackTraces = false) (g : GT) (cj cd : ClassId) (o a : Nat) (f : Nat → Int64) (S : SGM) (W9 : va_W) (hCW : CW g o S W9) (sz : Nat) (v : Int) (hv : jR v) : Met l yL_addAbbreviation (.codeWith yL_addAbbreviation cL_addAbbreviation 4 (some .int) [(0, 16, 19, 13)] :: WSL) (rmm 4 1 6) (jPh g cj cd [.ref o, vi v, .ref a] (fun H => H.size = sz ∧ PP g (aJ cj a f :: W9) H ∧ va_D (fun q => gb g ≤ q) (aJ cj a f :: W9))) (jQi (fun z H1 => z = (cd1 (0 ≤ v ∧ v < 100)) ∧ ∃ (w1 : va_W) (f1 : Nat → Int64), (((cd1 (0 ≤ v ∧ v < 100)) = 0 ∧ CW g o (nxAb S v) w1 ∧ f1 0 = (if jI (if S.2.2.1 v.toNat = 0 then 1 else 0) = 0 then (0 : Int64) else 1)) ∨ (¬ (cd1 (0 ≤ v ∧ v < 100)) = 0 ∧ CW g o S w1)) ∧ PP g (aJ cj a f1 :: w1) H1 ∧ va_D (va_A (aJ cj a f :: W9) sz) (aJ cj a f1 :: w1)) (va_A (aJ cj a f :: W9) sz)) 1 6 (va_A (aJ cj a f :: W9) sz) := by
  refine jh_M (by decide) (Nat.le_of_ble_eq_true rfl) ?_
  intro p e s m below meth c hx hb hr hml hown htl hlk htb hKK hKJ hpre ls hl
  have hown : s.vm.findClass RL = some m.cls := hown
  obtain ⟨hsz, hP, hD0⟩ := hpre
  subst hsz
  have hD : va_D (va_A (aJ cj a f :: W9) s.heap.size) (aJ cj a f :: W9) := hD0.self
  have hA : ∀ q, s.heap.size ≤ q → (va_A (aJ cj a f :: W9) s.heap.size) q := fun q h => Or.inr h
  generalize hAe : va_A (aJ cj a f :: W9) s.heap.size = A at hD hA ⊢
  have hPW : PP g W9 s.heap := hP.mem fun q h => List.mem_cons_of_mem _ h
  have hDW : va_D (fun q => gb g ≤ q) W9 := (hD0.perm (List.perm_append_singleton _ W9).symm).left
  have hl : lv_has ls 4 [(0, .ref o), (1, vi v), (2, .ref a)] := hl
  refine lv_aload_n hx hb dL_addAbbreviation_0 rfl (lv_at hl 2 rfl) ?_
  refine jr_iconst hx hb dL_addAbbreviation_1 ?_
  refine lv_aload_n hx hb dL_addAbbreviation_2 rfl (lv_at hl 0 rfl) ?_
  refine lv_iload_n hx hb dL_addAbbreviation_3 rfl (lv_at hl 1 rfl) ?_
  refine jh_Qi (vx_runV (As := [vi v]) (rest := [vi 0, .ref a]) ⟨hx, hb, hml, hown, htl⟩ (m_X10_addAbbreviation l hsT g o S W9 hCW s.heap.size v hv) (cwV 1 htl lk_L_31 rfl rfl rfl cwV_X10_addAbbreviation ⟨Nat.le_of_ble_eq_true rfl, Nat.le_of_ble_eq_true rfl⟩) (jp_V hKK (va_S.rf (A := jN)) jNb (CW.recv hKK hCW hPW) ⟨rfl, hPW, hDW⟩) rfl rfl hl.1 rfl (lv_room (Nat.le_of_ble_eq_true rfl)) dL_addAbbreviation_4 ⟨Nat.le_of_ble_eq_true rfl, Nat.le_of_ble_eq_true rfl⟩) hCW hP hD hA ?_ ?_
  · intro E ce q9 H1 L w1 hE hC hP hD hS h2 h3 h4
    rcases hE with ⟨rfl, hcd⟩
    · refine vx_catch (name := eIA) hown [] (xe (0, 16, 19, 13)) [] (htb.trans rfl) (fun _ h => nomatch h) rfl (show (13 : Nat) ≠ 0 by decide) (htl _ wd_6_18) (va_Nw.use rfl (hKK.1.2.2.1 (eIA, eIA) (List.mem_of_getElem? (i := 0) rfl))) h2 h3 h4 ?_
      refine lv_astore_n (lv' := [(3, .ref q9), (0, .ref o), (1, vi v), (2, .ref a)]) hx hb dL_addAbbreviation_19 rfl hl (by decide) rfl (fun ls hl => ?_)
      refine jr_iconst hx hb dL_addAbbreviation_20 ?_
      exact je_Qi hx hb hr hlk rfl hS ⟨hcd.symm, w1, f, Or.inr ⟨by omega, hC⟩, hP, hD⟩ dL_addAbbreviation_21
  · intro v9 H1 L w1 hv9 hC hP hD hS
    obtain ⟨z9, rfl, hcd, hz9⟩ := hv9
    subst hz9
    refine lv_if_eq (tgt := 14) hx hb dL_addAbbreviation_7 (by decide) (fun hz8 => ?_) (fun hz8 => ?_)
    · refine lv_lconst (v := (0 : Int64)) hx hb dL_addAbbreviation_14 rfl ?_
      refine va_last hx hb hKJ hP hD hS 0 0 rfl rfl (jI_in (by omega) (by omega) (by omega)) dL_addAbbreviation_15 (fun H locs hP hD hS => ?_)
      refine lv_goto (tgt := 22) hx hb dL_addAbbreviation_16 (by decide) ?_
      refine jr_iconst hx hb dL_addAbbreviation_22 ?_
      exact je_Qi hx hb hr hlk rfl hS ⟨hcd.symm, w1, _, Or.inl ⟨hcd, hC, (if_pos rfl).trans (if_pos hz8).symm⟩, hP, hD⟩ dL_addAbbreviation_23
    · refine lv_lconst (v := (1 : Int64)) hx hb dL_addAbbreviation_10 rfl ?_
      refine lv_goto (tgt := 15) hx hb dL_addAbbreviation_11 (by decide) ?_
      refine va_last hx hb hKJ hP hD hS 0 0 rfl rfl (jI_in (by omega) (by omega) (by omega)) dL_addAbbreviation_15 (fun H locs hP hD hS => ?_)
      refine lv_goto (tgt := 22) hx hb dL_addAbbreviation_16 (by decide) ?_
      refine jr_iconst hx hb dL_addAbbreviation_22 ?_
      exact je_Qi hx hb hr hlk rfl hS ⟨hcd.symm, w1, _, Or.inl ⟨hcd, hC, (if_pos rfl).trans (if_neg hz8).symm⟩, hP, hD⟩ dL_addAbbreviation_23
set_option maxHeartbeats 4000000 in
set_option maxRecDepth 100000 in
theorem m_L_addTerm (l : Launch) (hsT : l.stackTraces = false) (g : GT) (cj cd : ClassId) (o a : Nat) (f : Nat → Int64) (S : SGM) (W9 : va_W) (hCW : CW g o S W9) (sz : Nat) (va vb : Int) (hva : jR va) (hvb : jR vb) : Met l yL_addTerm (.codeWith yL_addTerm cL_addTerm 5 (some .int) [(0, 10, 13, 13), (0, 10, 17, 39), (0, 10, 21, 15)] :: WSL) (rmm 4 3 18) (jPh g cj cd [.ref o, vi va, vi vb, .ref a] (fun H => H.size = sz ∧ PP g (aJ cj a f :: W9) H ∧ va_D (fun q => gb g ≤ q) (aJ cj a f :: W9))) (jQi (fun z H1 => z = (cdTerm S va vb) ∧ ∃ (w1 : va_W) (f1 : Nat → Int64), (((cdTerm S va vb) = 0 ∧ CW g o (nxT S va vb) w1 ∧ f1 0 = (jI (((S.2.2.2.2.1.1 + 1 : Nat) : Int))).toInt64) ∨ (¬ (cdTerm S va vb) = 0 ∧ CW g o S w1)) ∧ PP g (aJ cj a f1 :: w1) H1 ∧ va_D (va_A (aJ cj a f :: W9) sz) (aJ cj a f1 :: w1)) (va_A (aJ cj a f :: W9) sz)) 3 18 (va_A (aJ cj a f :: W9) sz) := by
  refine jh_M (by decide) (Nat.le_of_ble_eq_true rfl) ?_
  intro p e s m below meth c hx hb hr hml hown htl hlk htb hKK hKJ hpre ls hl
  have hown : s.vm.findClass RL = some m.cls := hown
  obtain ⟨hsz, hP, hD0⟩ := hpre
  subst hsz
  have hD : va_D (va_A (aJ cj a f :: W9) s.heap.size) (aJ cj a f :: W9) := hD0.self
  have hA : ∀ q, s.heap.size ≤ q → (va_A (aJ cj a f :: W9) s.heap.size) q := fun q h => Or.inr h
  generalize hAe : va_A (aJ cj a f :: W9) s.heap.size = A at hD hA ⊢
  have hPW : PP g W9 s.heap := hP.mem fun q h => List.mem_cons_of_mem _ h
  have hDW : va_D (fun q => gb g ≤ q) W9 := (hD0.perm (List.perm_append_singleton _ W9).symm).left
  have hl : lv_has ls 5 [(0, .ref o), (1, vi va), (2, vi vb), (3, .ref a)] := hl
  refine lv_aload_n hx hb dL_addTerm_0 rfl (lv_at hl 3 rfl) ?_
  refine jr_iconst hx hb dL_addTerm_1 ?_
  refine lv_aload_n hx hb dL_addTerm_2 rfl (lv_at hl 0 rfl) ?_
  refine lv_iload_n hx hb dL_addTerm_3 rfl (lv_at hl 1 rfl) ?_
  refine lv_iload_n hx hb dL_addTerm_4 rfl (lv_at hl 2 rfl) ?_
  refine jh_Qi (vx_runV (As := [vi va, vi vb]) (rest := [vi 0, .ref a]) ⟨hx, hb, hml, hown, htl⟩ (m_X10_addTerm l hsT g o S W9 hCW s.heap.size va vb hva hvb) (cwV 2 htl lk_L_35 rfl rfl rfl cwV_X10_addTerm ⟨Nat.le_of_ble_eq_true rfl, Nat.le_of_ble_eq_true rfl⟩) (jp_V hKK (va_S.rf (A := jN)) jNb (CW.recv hKK hCW hPW) ⟨rfl, hPW, hDW⟩) rfl rfl hl.1 rfl (lv_room (Nat.le_of_ble_eq_true rfl)) dL_addTerm_5 ⟨Nat.le_of_ble_eq_true rfl, Nat.le_of_ble_eq_true rfl⟩) hCW hP hD hA ?_ ?_
  · intro E ce q9 H1 L w1 hE hC hP hD hS h2 h3 h4
    rcases hE with ⟨rfl, hcd⟩ | ⟨rfl, hcd⟩ | ⟨rfl, hcd⟩
    · refine vx_catch (name := eIA) hown [] (xe (0, 10, 13, 13)) [xe (0, 10, 17, 39), xe (0, 10, 21, 15)] (htb.trans rfl) (fun _ h => nomatch h) rfl (show (13 : Nat) ≠ 0 by decide) (htl _ wd_6_18) (va_Nw.use rfl (hKK.1.2.2.1 (eIA, eIA) (List.mem_of_getElem? (i := 0) rfl))) h2 h3 h4 ?_
      refine lv_astore (lv' := [(4, .ref q9), (0, .ref o), (1, vi va), (2, vi vb), (3, .ref a)]) hx hb dL_addTerm_13 hl (by decide) rfl (fun ls hl => ?_)
      refine jr_iconst hx hb dL_addTerm_15 ?_
      exact je_Qi hx hb hr hlk rfl hS ⟨hcd.symm, w1, f, Or.inr ⟨by omega, hC⟩, hP, hD⟩ dL_addTerm_16
    · refine vx_catch (name := eUO) hown [xe (0, 10, 13, 13)] (xe (0, 10, 17, 39)) [xe (0, 10, 21, 15)] (htb.trans rfl) (List.forall_mem_cons.mpr ⟨Or.inr ⟨(show (13 : Nat) ≠ 0 by decide), _, htl _ wd_6_18, hKK.1.2.2.2.2.2.1 (eUO, eIA) (List.mem_of_getElem? (i := 1) rfl)⟩, fun _ h => nomatch h⟩) rfl (show (39 : Nat) ≠ 0 by decide) (htl _ wd_12_5) (va_Nw.use rfl (hKK.1.2.2.1 (eUO, eUO) (List.mem_of_getElem? (i := 4) rfl))) h2 h3 h4 ?_
      refine lv_astore (lv' := [(4, .ref q9), (0, .ref o), (1, vi va), (2, vi vb), (3, .ref a)]) hx hb dL_addTerm_17 hl (by decide) rfl (fun ls hl => ?_)
      refine jr_iconst hx hb dL_addTerm_19 ?_
      exact je_Qi hx hb hr hlk rfl hS ⟨hcd.symm, w1, f, Or.inr ⟨by omega, hC⟩, hP, hD⟩ dL_addTerm_20
    · refine vx_catch (name := eIS) hown [xe (0, 10, 13, 13), xe (0, 10, 17, 39)] (xe (0, 10, 21, 15)) [] (htb.trans rfl) (List.forall_mem_cons.mpr ⟨Or.inr ⟨(show (13 : Nat) ≠ 0 by decide), _, htl _ wd_6_18, hKK.1.2.2.2.2.2.1 (eIS, eIA) (List.mem_of_getElem? (i := 0) rfl)⟩, List.forall_mem_cons.mpr ⟨Or.inr ⟨(show (39 : Nat) ≠ 0 by decide), _, htl _ wd_12_5, hKK.1.2.2.2.2.2.1 (eIS, eUO) (List.mem_of_getElem? (i := 2) rfl)⟩, fun _ h => nomatch h⟩⟩) rfl (show (15 : Nat) ≠ 0 by decide) (htl _ wd_6_19) (va_Nw.use rfl (hKK.1.2.2.1 (eIS, eIS) (List.mem_of_getElem? (i := 1) rfl))) h2 h3 h4 ?_
      refine lv_astore (lv' := [(4, .ref q9), (0, .ref o), (1, vi va), (2, vi vb), (3, .ref a)]) hx hb dL_addTerm_21 hl (by decide) rfl (fun ls hl => ?_)
      refine jr_iconst hx hb dL_addTerm_23 ?_
      exact je_Qi hx hb hr hlk rfl hS ⟨hcd.symm, w1, f, Or.inr ⟨by omega, hC⟩, hP, hD⟩ dL_addTerm_24
  · intro v9 H1 L w1 hv9 hC hP hD hS
    obtain ⟨z9, rfl, hcd, hz9⟩ := hv9
    subst hz9
    refine lv_i2l hx hb dL_addTerm_8 rfl ?_
    refine va_last hx hb hKJ hP hD hS 0 0 rfl rfl (jI_in (by omega) (by omega) (by omega)) dL_addTerm_9 (fun H locs hP hD hS => ?_)
    refine lv_goto (tgt := 25) hx hb dL_addTerm_10 (by decide) ?_
    refine jr_iconst hx hb dL_addTerm_25 ?_
    exact je_Qi hx hb hr hlk rfl hS ⟨hcd.symm, w1, _, Or.inl ⟨hcd, hC, if_pos rfl⟩, hP, hD⟩ dL_addTerm_26
set_option maxHeartbeats 4000000 in
set_option maxRecDepth 100000 in
theorem m_L_takeSource (l : Launch) (hsT : l.stackTraces = false) (g : GT) (cj cd : ClassId) (o a : Nat) (f : Nat → Int64) (S : SGM) (W9 : va_W) (hCW : CW g o S W9) (sz : Nat) : Met l yL_takeSource (.codeWith yL_takeSource cL_takeSource 3 (some .int) [(0, 8, 11, 15)] :: WSL) (rmm 6 1 6) (jPh g cj cd [.ref o, .ref a] (fun H => H.size = sz ∧ PP g (aJ cj a f :: W9) H ∧ va_D (fun q => gb g ≤ q) (aJ cj a f :: W9))) (jQi (fun z H1 => z = (cd1 (¬ S.1.length = 0)) ∧ ∃ (w1 : va_W) (f1 : Nat → Int64), (((cd1 (¬ S.1.length = 0)) = 0 ∧ CW g o (nxTake S) w1 ∧ f1 0 = (jI ((S.1.length : Int))).toInt64) ∨ (¬ (cd1 (¬ S.1.length = 0)) = 0 ∧ CW g o S w1)) ∧ PP g (aJ cj a f1 :: w1) H1 ∧ va_D (va_A (aJ cj a f :: W9) sz) (aJ cj a f1 :: w1)) (va_A (aJ cj a f :: W9) sz)) 1 6 (va_A (aJ cj a f :: W9) sz) := by
  refine jh_M (by decide) (Nat.le_of_ble_eq_true rfl) ?_
  intro p e s m below meth c hx hb hr hml hown htl hlk htb hKK hKJ hpre ls hl
  have hown : s.vm.findClass RL = some m.cls := hown
  obtain ⟨hsz, hP, hD0⟩ := hpre
  subst hsz
  have hD : va_D (va_A (aJ cj a f :: W9) s.heap.size) (aJ cj a f :: W9) := hD0.self
  have hA : ∀ q, s.heap.size ≤ q → (va_A (aJ cj a f :: W9) s.heap.size) q := fun q h => Or.inr h
  generalize hAe : va_A (aJ cj a f :: W9) s.heap.size = A at hD hA ⊢
  have hPW : PP g W9 s.heap := hP.mem fun q h => List.mem_cons_of_mem _ h
  have hDW : va_D (fun q => gb g ≤ q) W9 := (hD0.perm (List.perm_append_singleton _ W9).symm).left
  have hl : lv_has ls 3 [(0, .ref o), (1, .ref a)] := hl
  refine lv_aload_n hx hb dL_takeSource_0 rfl (lv_at hl 1 rfl) ?_
  refine jr_iconst hx hb dL_takeSource_1 ?_
  refine lv_aload_n hx hb dL_takeSource_2 rfl (lv_at hl 0 rfl) ?_
  refine jh_Qi (vx_runV (As := []) (rest := [vi 0, .ref a]) ⟨hx, hb, hml, hown, htl⟩ (m_X10_takeSource l hsT g o S W9 hCW s.heap.size) (cwV 0 htl lk_L_41 rfl rfl rfl cwV_X10_takeSource ⟨Nat.le_of_ble_eq_true rfl, Nat.le_of_ble_eq_true rfl⟩) (jp_V hKK (va_S.rf (A := jN)) jNb (CW.recv hKK hCW hPW) ⟨rfl, hPW, hDW⟩) rfl rfl hl.1 rfl (lv_room (Nat.le_of_ble_eq_true rfl)) dL_takeSource_3 ⟨Nat.le_of_ble_eq_true rfl, Nat.le_of_ble_eq_true rfl⟩) hCW hP hD hA ?_ ?_
  · intro E ce q9 H1 L w1 hE hC hP hD hS h2 h3 h4
    rcases hE with ⟨rfl, hcd⟩
    · refine vx_catch (name := eIS) hown [] (xe (0, 8, 11, 15)) [] (htb.trans rfl) (fun _ h => nomatch h) rfl (show (15 : Nat) ≠ 0 by decide) (htl _ wd_6_19) (va_Nw.use rfl (hKK.1.2.2.1 (eIS, eIS) (List.mem_of_getElem? (i := 1) rfl))) h2 h3 h4 ?_
      refine lv_astore_n (lv' := [(2, .ref q9), (0, .ref o), (1, .ref a)]) hx hb dL_takeSource_11 rfl hl (by decide) rfl (fun ls hl => ?_)
      refine jr_iconst hx hb dL_takeSource_12 ?_
      exact je_Qi hx hb hr hlk rfl hS ⟨hcd.symm, w1, f, Or.inr ⟨by omega, hC⟩, hP, hD⟩ dL_takeSource_13
  · intro v9 H1 L w1 hv9 hC hP hD hS
    obtain ⟨z9, rfl, hcd, hz9⟩ := hv9
    subst hz9
    refine lv_i2l hx hb dL_takeSource_6 rfl ?_
    refine va_last hx hb hKJ hP hD hS 0 0 rfl rfl (jI_in (by omega) (by omega) (by omega)) dL_takeSource_7 (fun H locs hP hD hS => ?_)
    refine lv_goto (tgt := 14) hx hb dL_takeSource_8 (by decide) ?_
    refine jr_iconst hx hb dL_takeSource_14 ?_
    exact je_Qi hx hb hr hlk rfl hS ⟨hcd.symm, w1, _, Or.inl ⟨hcd, hC, if_pos rfl⟩, hP, hD⟩ dL_takeSource_15
set_option maxHeartbeats 4000000 in
set_option maxRecDepth 100000 in
theorem m_L_addUnit (l : Launch) (hsT : l.stackTraces = false) (g : GT) (cj cd : ClassId) (o a : Nat) (f : Nat → Int64) (S : SGM) (W9 : va_W) (hCW : CW g o S W9) (sz : Nat) : Met l yL_addUnit (.codeWith yL_addUnit cL_addUnit 3 (some .int) [(0, 8, 11, 48), (0, 8, 14, 15)] :: WSL) (rmm 9 9 233) (jPh g cj cd [.ref o, .ref a] (fun H => H.size = sz ∧ PP g (aJ cj a f :: W9) H ∧ va_D (fun q => gb g ≤ q) (aJ cj a f :: W9))) (jQi (fun z H1 => z = (cdAdd S) ∧ ∃ (w1 : va_W) (f1 : Nat → Int64), (((cdAdd S) = 0 ∧ CW g o (nxAdd S) w1 ∧ f1 0 = (jI ((nU S : Int))).toInt64) ∨ (¬ (cdAdd S) = 0 ∧ CW g o S w1)) ∧ PP g (aJ cj a f1 :: w1) H1 ∧ va_D (va_A (aJ cj a f :: W9) sz) (aJ cj a f1 :: w1)) (va_A (aJ cj a f :: W9) sz)) 9 233 (va_A (aJ cj a f :: W9) sz) := by
  refine jh_M (by decide) (Nat.le_of_ble_eq_true rfl) ?_
  intro p e s m below meth c hx hb hr hml hown htl hlk htb hKK hKJ hpre ls hl
  have hown : s.vm.findClass RL = some m.cls := hown
  obtain ⟨hsz, hP, hD0⟩ := hpre
  subst hsz
  have hD : va_D (va_A (aJ cj a f :: W9) s.heap.size) (aJ cj a f :: W9) := hD0.self
  have hA : ∀ q, s.heap.size ≤ q → (va_A (aJ cj a f :: W9) s.heap.size) q := fun q h => Or.inr h
  generalize hAe : va_A (aJ cj a f :: W9) s.heap.size = A at hD hA ⊢
  have hPW : PP g W9 s.heap := hP.mem fun q h => List.mem_cons_of_mem _ h
  have hDW : va_D (fun q => gb g ≤ q) W9 := (hD0.perm (List.perm_append_singleton _ W9).symm).left
  have hl : lv_has ls 3 [(0, .ref o), (1, .ref a)] := hl
  refine lv_aload_n hx hb dL_addUnit_0 rfl (lv_at hl 1 rfl) ?_
  refine jr_iconst hx hb dL_addUnit_1 ?_
  refine lv_aload_n hx hb dL_addUnit_2 rfl (lv_at hl 0 rfl) ?_
  refine jh_Qi (vx_runV (As := []) (rest := [vi 0, .ref a]) ⟨hx, hb, hml, hown, htl⟩ (m_X10_addUnit l hsT g o S W9 hCW s.heap.size) (cwV 0 htl lk_L_45 rfl rfl rfl cwV_X10_addUnit ⟨Nat.le_of_ble_eq_true rfl, Nat.le_of_ble_eq_true rfl⟩) (jp_V hKK (va_S.rf (A := jN)) jNb (CW.recv hKK hCW hPW) ⟨rfl, hPW, hDW⟩) rfl rfl hl.1 rfl (lv_room (Nat.le_of_ble_eq_true rfl)) dL_addUnit_3 ⟨Nat.le_of_ble_eq_true rfl, Nat.le_of_ble_eq_true rfl⟩) hCW hP hD hA ?_ ?_
  · intro E ce q9 H1 L w1 hE hC hP hD hS h2 h3 h4
    rcases hE with ⟨rfl, hcd⟩ | ⟨rfl, hcd⟩
    · refine vx_catch (name := eNS) hown [] (xe (0, 8, 11, 48)) [xe (0, 8, 14, 15)] (htb.trans rfl) (fun _ h => nomatch h) rfl (show (48 : Nat) ≠ 0 by decide) (htl _ wd_14_19) (va_Nw.use rfl (hKK.1.2.2.1 (eNS, eNS) (List.mem_of_getElem? (i := 5) rfl))) h2 h3 h4 ?_
      refine lv_astore_n (lv' := [(2, .ref q9), (0, .ref o), (1, .ref a)]) hx hb dL_addUnit_11 rfl hl (by decide) rfl (fun ls hl => ?_)
      refine jr_iconst hx hb dL_addUnit_12 ?_
      exact je_Qi hx hb hr hlk rfl hS ⟨hcd.symm, w1, f, Or.inr ⟨by omega, hC⟩, hP, hD⟩ dL_addUnit_13
    · refine vx_catch (name := eIS) hown [xe (0, 8, 11, 48)] (xe (0, 8, 14, 15)) [] (htb.trans rfl) (List.forall_mem_cons.mpr ⟨Or.inr ⟨(show (48 : Nat) ≠ 0 by decide), _, htl _ wd_14_19, hKK.1.2.2.2.2.2.1 (eIS, eNS) (List.mem_of_getElem? (i := 3) rfl)⟩, fun _ h => nomatch h⟩) rfl (show (15 : Nat) ≠ 0 by decide) (htl _ wd_6_19) (va_Nw.use rfl (hKK.1.2.2.1 (eIS, eIS) (List.mem_of_getElem? (i := 1) rfl))) h2 h3 h4 ?_
      refine lv_astore_n (lv' := [(2, .ref q9), (0, .ref o), (1, .ref a)]) hx hb dL_addUnit_14 rfl hl (by decide) rfl (fun ls hl => ?_)
      refine jr_iconst hx hb dL_addUnit_15 ?_
      exact je_Qi hx hb hr hlk rfl hS ⟨hcd.symm, w1, f, Or.inr ⟨by omega, hC⟩, hP, hD⟩ dL_addUnit_16
  · intro v9 H1 L w1 hv9 hC hP hD hS
    obtain ⟨z9, rfl, hcd, hz9⟩ := hv9
    subst hz9
    refine lv_i2l hx hb dL_addUnit_6 rfl ?_
    refine va_last hx hb hKJ hP hD hS 0 0 rfl rfl (jI_in (by omega) (by omega) (by omega)) dL_addUnit_7 (fun H locs hP hD hS => ?_)
    refine lv_goto (tgt := 17) hx hb dL_addUnit_8 (by decide) ?_
    refine jr_iconst hx hb dL_addUnit_17 ?_
    exact je_Qi hx hb hr hlk rfl hS ⟨hcd.symm, w1, _, Or.inl ⟨hcd, hC, if_pos rfl⟩, hP, hD⟩ dL_addUnit_18
set_option maxHeartbeats 4000000 in
set_option maxRecDepth 100000 in
theorem m_L_correct (l : Launch) (hsT : l.stackTraces = false) (g : GT) (cj cd : ClassId) (o a : Nat) (f : Nat → Int64) (S : SGM) (W9 : va_W) (hCW : CW g o S W9) (sz : Nat) (v : Int) (hv : jR v) : Met l yL_correct (.codeWith yL_correct cL_correct 4 (some .int) [(0, 9, 12, 48), (0, 9, 15, 39), (0, 9, 18, 15)] :: WSL) (rmm 9 3 18) (jPh g cj cd [.ref o, vi v, .ref a] (fun H => H.size = sz ∧ PP g (aJ cj a f :: W9) H ∧ va_D (fun q => gb g ≤ q) (aJ cj a f :: W9))) (jQi (fun z H1 => z = (cdCor S v) ∧ ∃ (w1 : va_W) (f1 : Nat → Int64), (((cdCor S v) = 0 ∧ CW g o (nxCor S v) w1 ∧ f1 0 = (jI (((ug S v).2.1.length : Int))).toInt64) ∨ (¬ (cdCor S v) = 0 ∧ CW g o S w1)) ∧ PP g (aJ cj a f1 :: w1) H1 ∧ va_D (va_A (aJ cj a f :: W9) sz) (aJ cj a f1 :: w1)) (va_A (aJ cj a f :: W9) sz)) 3 18 (va_A (aJ cj a f :: W9) sz) := by
  refine jh_M (by decide) (Nat.le_of_ble_eq_true rfl) ?_
  intro p e s m below meth c hx hb hr hml hown htl hlk htb hKK hKJ hpre ls hl
  have hown : s.vm.findClass RL = some m.cls := hown
  obtain ⟨hsz, hP, hD0⟩ := hpre
  subst hsz
  have hD : va_D (va_A (aJ cj a f :: W9) s.heap.size) (aJ cj a f :: W9) := hD0.self
  have hA : ∀ q, s.heap.size ≤ q → (va_A (aJ cj a f :: W9) s.heap.size) q := fun q h => Or.inr h
  generalize hAe : va_A (aJ cj a f :: W9) s.heap.size = A at hD hA ⊢
  have hPW : PP g W9 s.heap := hP.mem fun q h => List.mem_cons_of_mem _ h
  have hDW : va_D (fun q => gb g ≤ q) W9 := (hD0.perm (List.perm_append_singleton _ W9).symm).left
  have hl : lv_has ls 4 [(0, .ref o), (1, vi v), (2, .ref a)] := hl
  refine lv_aload_n hx hb dL_correct_0 rfl (lv_at hl 2 rfl) ?_
  refine jr_iconst hx hb dL_correct_1 ?_
  refine lv_aload_n hx hb dL_correct_2 rfl (lv_at hl 0 rfl) ?_
  refine lv_iload_n hx hb dL_correct_3 rfl (lv_at hl 1 rfl) ?_
  refine jh_Qi (vx_runV (As := [vi v]) (rest := [vi 0, .ref a]) ⟨hx, hb, hml, hown, htl⟩ (m_X10_correct l hsT g o S W9 hCW s.heap.size v hv) (cwV 1 htl lk_L_50 rfl rfl rfl cwV_X10_correct ⟨Nat.le_of_ble_eq_true rfl, Nat.le_of_ble_eq_true rfl⟩) (jp_V hKK (va_S.rf (A := jN)) jNb (CW.recv hKK hCW hPW) ⟨rfl, hPW, hDW⟩) rfl rfl hl.1 rfl (lv_room (Nat.le_of_ble_eq_true rfl)) dL_correct_4 ⟨Nat.le_of_ble_eq_true rfl, Nat.le_of_ble_eq_true rfl⟩) hCW hP hD hA ?_ ?_
  · intro E ce q9 H1 L w1 hE hC hP hD hS h2 h3 h4
    rcases hE with ⟨rfl, hcd⟩ | ⟨rfl, hcd⟩ | ⟨rfl, hcd⟩
    · refine vx_catch (name := eNS) hown [] (xe (0, 9, 12, 48)) [xe (0, 9, 15, 39), xe (0, 9, 18, 15)] (htb.trans rfl) (fun _ h => nomatch h) rfl (show (48 : Nat) ≠ 0 by decide) (htl _ wd_14_19) (va_Nw.use rfl (hKK.1.2.2.1 (eNS, eNS) (List.mem_of_getElem? (i := 5) rfl))) h2 h3 h4 ?_
      refine lv_astore_n (lv' := [(3, .ref q9), (0, .ref o), (1, vi v), (2, .ref a)]) hx hb dL_correct_12 rfl hl (by decide) rfl (fun ls hl => ?_)
      refine jr_iconst hx hb dL_correct_13 ?_
      exact je_Qi hx hb hr hlk rfl hS ⟨hcd.symm, w1, f, Or.inr ⟨by omega, hC⟩, hP, hD⟩ dL_correct_14
    · refine vx_catch (name := eUO) hown [xe (0, 9, 12, 48)] (xe (0, 9, 15, 39)) [xe (0, 9, 18, 15)] (htb.trans rfl) (List.forall_mem_cons.mpr ⟨Or.inr ⟨(show (48 : Nat) ≠ 0 by decide), _, htl _ wd_14_19, hKK.1.2.2.2.2.2.1 (eUO, eNS) (List.mem_of_getElem? (i := 4) rfl)⟩, fun _ h => nomatch h⟩) rfl (show (39 : Nat) ≠ 0 by decide) (htl _ wd_12_5) (va_Nw.use rfl (hKK.1.2.2.1 (eUO, eUO) (List.mem_of_getElem? (i := 4) rfl))) h2 h3 h4 ?_
      refine lv_astore_n (lv' := [(3, .ref q9), (0, .ref o), (1, vi v), (2, .ref a)]) hx hb dL_correct_15 rfl hl (by decide) rfl (fun ls hl => ?_)
      refine jr_iconst hx hb dL_correct_16 ?_
      exact je_Qi hx hb hr hlk rfl hS ⟨hcd.symm, w1, f, Or.inr ⟨by omega, hC⟩, hP, hD⟩ dL_correct_17
    · refine vx_catch (name := eIS) hown [xe (0, 9, 12, 48), xe (0, 9, 15, 39)] (xe (0, 9, 18, 15)) [] (htb.trans rfl) (List.forall_mem_cons.mpr ⟨Or.inr ⟨(show (48 : Nat) ≠ 0 by decide), _, htl _ wd_14_19, hKK.1.2.2.2.2.2.1 (eIS, eNS) (List.mem_of_getElem? (i := 3) rfl)⟩, List.forall_mem_cons.mpr ⟨Or.inr ⟨(show (39 : Nat) ≠ 0 by decide), _, htl _ wd_12_5, hKK.1.2.2.2.2.2.1 (eIS, eUO) (List.mem_of_getElem? (i := 2) rfl)⟩, fun _ h => nomatch h⟩⟩) rfl (show (15 : Nat) ≠ 0 by decide) (htl _ wd_6_19) (va_Nw.use rfl (hKK.1.2.2.1 (eIS, eIS) (List.mem_of_getElem? (i := 1) rfl))) h2 h3 h4 ?_
      refine lv_astore_n (lv' := [(3, .ref q9), (0, .ref o), (1, vi v), (2, .ref a)]) hx hb dL_correct_18 rfl hl (by decide) rfl (fun ls hl => ?_)
      refine jr_iconst hx hb dL_correct_19 ?_
      exact je_Qi hx hb hr hlk rfl hS ⟨hcd.symm, w1, f, Or.inr ⟨by omega, hC⟩, hP, hD⟩ dL_correct_20
  · intro v9 H1 L w1 hv9 hC hP hD hS
    obtain ⟨z9, rfl, hcd, hz9⟩ := hv9
    subst hz9
    refine lv_i2l hx hb dL_correct_7 rfl ?_
    refine va_last hx hb hKJ hP hD hS 0 0 rfl rfl (jI_in (by omega) (by omega) (by omega)) dL_correct_8 (fun H locs hP hD hS => ?_)
    refine lv_goto (tgt := 21) hx hb dL_correct_9 (by decide) ?_
    refine jr_iconst hx hb dL_correct_21 ?_
    exact je_Qi hx hb hr hlk rfl hS ⟨hcd.symm, w1, _, Or.inl ⟨hcd, hC, if_pos rfl⟩, hP, hD⟩ dL_correct_22
set_option maxHeartbeats 4000000 in
set_option maxRecDepth 100000 in
theorem m_L_withdraw (l : Launch) (hsT : l.stackTraces = false) (g : GT) (cj cd : ClassId) (o a : Nat) (f : Nat → Int64) (S : SGM) (W9 : va_W) (hCW : CW g o S W9) (sz : Nat) (v : Int) (hv : jR v) : Met l yL_withdraw (.codeWith yL_withdraw cL_withdraw 4 (some .int) [(0, 9, 12, 48), (0, 9, 15, 39)] :: WSL) (rmm 9 2 12) (jPh g cj cd [.ref o, vi v, .ref a] (fun H => H.size = sz ∧ PP g (aJ cj a f :: W9) H ∧ va_D (fun q => gb g ≤ q) (aJ cj a f :: W9))) (jQi (fun z H1 => z = (cdUL S v) ∧ ∃ (w1 : va_W) (f1 : Nat → Int64), (((cdUL S v) = 0 ∧ CW g o (nxWd S v) w1 ∧ f1 0 = (jI (clv (uS (nxWd S v)) (nU (nxWd S v)))).toInt64) ∨ (¬ (cdUL S v) = 0 ∧ CW g o S w1)) ∧ PP g (aJ cj a f1 :: w1) H1 ∧ va_D (va_A (aJ cj a f :: W9) sz) (aJ cj a f1 :: w1)) (va_A (aJ cj a f :: W9) sz)) 2 12 (va_A (aJ cj a f :: W9) sz) := by
  refine jh_M (by decide) (Nat.le_of_ble_eq_true rfl) ?_
  intro p e s m below meth c hx hb hr hml hown htl hlk htb hKK hKJ hpre ls hl
  have hown : s.vm.findClass RL = some m.cls := hown
  obtain ⟨hsz, hP, hD0⟩ := hpre
  subst hsz
  have hD : va_D (va_A (aJ cj a f :: W9) s.heap.size) (aJ cj a f :: W9) := hD0.self
  have hA : ∀ q, s.heap.size ≤ q → (va_A (aJ cj a f :: W9) s.heap.size) q := fun q h => Or.inr h
  generalize hAe : va_A (aJ cj a f :: W9) s.heap.size = A at hD hA ⊢
  have hPW : PP g W9 s.heap := hP.mem fun q h => List.mem_cons_of_mem _ h
  have hDW : va_D (fun q => gb g ≤ q) W9 := (hD0.perm (List.perm_append_singleton _ W9).symm).left
  have hl : lv_has ls 4 [(0, .ref o), (1, vi v), (2, .ref a)] := hl
  refine lv_aload_n hx hb dL_withdraw_0 rfl (lv_at hl 2 rfl) ?_
  refine jr_iconst hx hb dL_withdraw_1 ?_
  refine lv_aload_n hx hb dL_withdraw_2 rfl (lv_at hl 0 rfl) ?_
  refine lv_iload_n hx hb dL_withdraw_3 rfl (lv_at hl 1 rfl) ?_
  refine jh_Qi (vx_runV (As := [vi v]) (rest := [vi 0, .ref a]) ⟨hx, hb, hml, hown, htl⟩ (m_X10_withdraw l hsT g o S W9 hCW s.heap.size v hv) (cwV 1 htl lk_L_53 rfl rfl rfl cwV_X10_withdraw ⟨Nat.le_of_ble_eq_true rfl, Nat.le_of_ble_eq_true rfl⟩) (jp_V hKK (va_S.rf (A := jN)) jNb (CW.recv hKK hCW hPW) ⟨rfl, hPW, hDW⟩) rfl rfl hl.1 rfl (lv_room (Nat.le_of_ble_eq_true rfl)) dL_withdraw_4 ⟨Nat.le_of_ble_eq_true rfl, Nat.le_of_ble_eq_true rfl⟩) hCW hP hD hA ?_ ?_
  · intro E ce q9 H1 L w1 hE hC hP hD hS h2 h3 h4
    rcases hE with ⟨rfl, hcd⟩ | ⟨rfl, hcd⟩
    · refine vx_catch (name := eNS) hown [] (xe (0, 9, 12, 48)) [xe (0, 9, 15, 39)] (htb.trans rfl) (fun _ h => nomatch h) rfl (show (48 : Nat) ≠ 0 by decide) (htl _ wd_14_19) (va_Nw.use rfl (hKK.1.2.2.1 (eNS, eNS) (List.mem_of_getElem? (i := 5) rfl))) h2 h3 h4 ?_
      refine lv_astore_n (lv' := [(3, .ref q9), (0, .ref o), (1, vi v), (2, .ref a)]) hx hb dL_withdraw_12 rfl hl (by decide) rfl (fun ls hl => ?_)
      refine jr_iconst hx hb dL_withdraw_13 ?_
      exact je_Qi hx hb hr hlk rfl hS ⟨hcd.symm, w1, f, Or.inr ⟨by omega, hC⟩, hP, hD⟩ dL_withdraw_14
    · refine vx_catch (name := eUO) hown [xe (0, 9, 12, 48)] (xe (0, 9, 15, 39)) [] (htb.trans rfl) (List.forall_mem_cons.mpr ⟨Or.inr ⟨(show (48 : Nat) ≠ 0 by decide), _, htl _ wd_14_19, hKK.1.2.2.2.2.2.1 (eUO, eNS) (List.mem_of_getElem? (i := 4) rfl)⟩, fun _ h => nomatch h⟩) rfl (show (39 : Nat) ≠ 0 by decide) (htl _ wd_12_5) (va_Nw.use rfl (hKK.1.2.2.1 (eUO, eUO) (List.mem_of_getElem? (i := 4) rfl))) h2 h3 h4 ?_
      refine lv_astore_n (lv' := [(3, .ref q9), (0, .ref o), (1, vi v), (2, .ref a)]) hx hb dL_withdraw_15 rfl hl (by decide) rfl (fun ls hl => ?_)
      refine jr_iconst hx hb dL_withdraw_16 ?_
      exact je_Qi hx hb hr hlk rfl hS ⟨hcd.symm, w1, f, Or.inr ⟨by omega, hC⟩, hP, hD⟩ dL_withdraw_17
  · intro v9 H1 L w1 hv9 hC hP hD hS
    obtain ⟨z9, rfl, hcd, hz9⟩ := hv9
    subst hz9
    refine lv_i2l hx hb dL_withdraw_7 rfl ?_
    refine va_last hx hb hKJ hP hD hS 0 0 rfl rfl (jI_in (by omega) (by omega) (by omega)) dL_withdraw_8 (fun H locs hP hD hS => ?_)
    refine lv_goto (tgt := 18) hx hb dL_withdraw_9 (by decide) ?_
    refine jr_iconst hx hb dL_withdraw_18 ?_
    exact je_Qi hx hb hr hlk rfl hS ⟨hcd.symm, w1, _, Or.inl ⟨hcd, hC, if_pos rfl⟩, hP, hD⟩ dL_withdraw_19
set_option maxHeartbeats 4000000 in
set_option maxRecDepth 100000 in
theorem m_L_isLive (l : Launch) (hsT : l.stackTraces = false) (g : GT) (cj cd : ClassId) (o a : Nat) (f : Nat → Int64) (S : SGM) (W9 : va_W) (hCW : CW g o S W9) (sz : Nat) (v : Int) (hv : jR v) : Met l yL_isLive (.codeWith yL_isLive cL_isLive 4 (some .int) [(0, 16, 19, 48)] :: WSL) (rmm 7 1 6) (jPh g cj cd [.ref o, vi v, .ref a] (fun H => H.size = sz ∧ PP g (aJ cj a f :: W9) H ∧ va_D (fun q => gb g ≤ q) (aJ cj a f :: W9))) (jQi (fun z H1 => z = (cdU S v) ∧ ∃ (w1 : va_W) (f1 : Nat → Int64), (((cdU S v) = 0 ∧ CW g o S w1 ∧ f1 0 = (if jI ((ug S v).2.2) = 0 then (0 : Int64) else 1)) ∨ (¬ (cdU S v) = 0 ∧ CW g o S w1)) ∧ PP g (aJ cj a f1 :: w1) H1 ∧ va_D (va_A (aJ cj a f :: W9) sz) (aJ cj a f1 :: w1)) (va_A (aJ cj a f :: W9) sz)) 1 6 (va_A (aJ cj a f :: W9) sz) := by
  refine jh_M (by decide) (Nat.le_of_ble_eq_true rfl) ?_
  intro p e s m below meth c hx hb hr hml hown htl hlk htb hKK hKJ hpre ls hl
  have hown : s.vm.findClass RL = some m.cls := hown
  obtain ⟨hsz, hP, hD0⟩ := hpre
  subst hsz
  have hD : va_D (va_A (aJ cj a f :: W9) s.heap.size) (aJ cj a f :: W9) := hD0.self
  have hA : ∀ q, s.heap.size ≤ q → (va_A (aJ cj a f :: W9) s.heap.size) q := fun q h => Or.inr h
  generalize hAe : va_A (aJ cj a f :: W9) s.heap.size = A at hD hA ⊢
  have hPW : PP g W9 s.heap := hP.mem fun q h => List.mem_cons_of_mem _ h
  have hDW : va_D (fun q => gb g ≤ q) W9 := (hD0.perm (List.perm_append_singleton _ W9).symm).left
  have hl : lv_has ls 4 [(0, .ref o), (1, vi v), (2, .ref a)] := hl
  refine lv_aload_n hx hb dL_isLive_0 rfl (lv_at hl 2 rfl) ?_
  refine jr_iconst hx hb dL_isLive_1 ?_
  refine lv_aload_n hx hb dL_isLive_2 rfl (lv_at hl 0 rfl) ?_
  refine lv_iload_n hx hb dL_isLive_3 rfl (lv_at hl 1 rfl) ?_
  refine jh_Si (vx_runV (As := [vi v]) (rest := [vi 0, .ref a]) ⟨hx, hb, hml, hown, htl⟩ (m_X10_isLive l hsT g o S W9 hCW v hv) (cwV 1 htl lk_L_56 rfl rfl rfl cwV_X10_isLive ⟨Nat.le_of_ble_eq_true rfl, Nat.le_of_ble_eq_true rfl⟩) (jp_V hKK (va_S.rf (A := jN)) jNb (CW.recv hKK hCW hPW) hPW) rfl rfl hl.1 rfl (lv_room (Nat.le_of_ble_eq_true rfl)) dL_isLive_4 ⟨Nat.le_of_ble_eq_true rfl, Nat.le_of_ble_eq_true rfl⟩) hCW hP hD ?_ ?_
  · intro E ce q9 H1 L w1 hE hC hP hD hS h2 h3 h4
    rcases hE with ⟨rfl, hcd⟩
    · refine vx_catch (name := eNS) hown [] (xe (0, 16, 19, 48)) [] (htb.trans rfl) (fun _ h => nomatch h) rfl (show (48 : Nat) ≠ 0 by decide) (htl _ wd_14_19) (va_Nw.use rfl (hKK.1.2.2.1 (eNS, eNS) (List.mem_of_getElem? (i := 5) rfl))) h2 h3 h4 ?_
      refine lv_astore_n (lv' := [(3, .ref q9), (0, .ref o), (1, vi v), (2, .ref a)]) hx hb dL_isLive_19 rfl hl (by decide) rfl (fun ls hl => ?_)
      refine jr_iconst hx hb dL_isLive_20 ?_
      exact je_Qi hx hb hr hlk rfl hS ⟨hcd.symm, w1, f, Or.inr ⟨by omega, hC⟩, hP, hD⟩ dL_isLive_21
  · intro v9 H1 L w1 hv9 hC hP hD hS
    obtain ⟨z9, rfl, hcd, hz9⟩ := hv9
    subst hz9
    refine lv_if_eq (tgt := 14) hx hb dL_isLive_7 (by decide) (fun hz8 => ?_) (fun hz8 => ?_)
    · refine lv_lconst (v := (0 : Int64)) hx hb dL_isLive_14 rfl ?_
      refine va_last hx hb hKJ hP hD hS 0 0 rfl rfl (jI_in (by omega) (by omega) (by omega)) dL_isLive_15 (fun H locs hP hD hS => ?_)
      refine lv_goto (tgt := 22) hx hb dL_isLive_16 (by decide) ?_
      refine jr_iconst hx hb dL_isLive_22 ?_
      exact je_Qi hx hb hr hlk rfl hS ⟨hcd.symm, w1, _, Or.inl ⟨hcd, hC, (if_pos rfl).trans (if_pos hz8).symm⟩, hP, hD⟩ dL_isLive_23
    · refine lv_lconst (v := (1 : Int64)) hx hb dL_isLive_10 rfl ?_
      refine lv_goto (tgt := 15) hx hb dL_isLive_11 (by decide) ?_
      refine va_last hx hb hKJ hP hD hS 0 0 rfl rfl (jI_in (by omega) (by omega) (by omega)) dL_isLive_15 (fun H locs hP hD hS => ?_)
      refine lv_goto (tgt := 22) hx hb dL_isLive_16 (by decide) ?_
      refine jr_iconst hx hb dL_isLive_22 ?_
      exact je_Qi hx hb hr hlk rfl hS ⟨hcd.symm, w1, _, Or.inl ⟨hcd, hC, (if_pos rfl).trans (if_neg hz8).symm⟩, hP, hD⟩ dL_isLive_23
set_option maxHeartbeats 4000000 in
set_option maxRecDepth 100000 in
theorem m_L_cost (l : Launch) (hsT : l.stackTraces = false) (g : GT) (cj cd : ClassId) (o a : Nat) (f : Nat → Int64) (S : SGM) (W9 : va_W) (hCW : CW g o S W9) (sz : Nat) (v : Int) (hv : jR v) : Met l yL_cost (.codeWith yL_cost cL_cost 4 (some .int) [(0, 9, 12, 48), (0, 9, 15, 15)] :: WSL) (rmm 9 2 12) (jPh g cj cd [.ref o, vi v, .ref a] (fun H => H.size = sz ∧ PP g (aJ cj a f :: W9) H ∧ va_D (fun q => gb g ≤ q) (aJ cj a f :: W9))) (jQi (fun z H1 => z = (cdUD S v) ∧ ∃ (w1 : va_W) (f1 : Nat → Int64), (((cdUD S v) = 0 ∧ CW g o (S) w1 ∧ f1 0 = (jI (D S.2.2.2.1 S.1 (ug S v).1 S.1.length (ug S v).1.length)).toInt64) ∨ (¬ (cdUD S v) = 0 ∧ CW g o S w1)) ∧ PP g (aJ cj a f1 :: w1) H1 ∧ va_D (va_A (aJ cj a f :: W9) sz) (aJ cj a f1 :: w1)) (va_A (aJ cj a f :: W9) sz)) 2 12 (va_A (aJ cj a f :: W9) sz) := by
  refine jh_M (by decide) (Nat.le_of_ble_eq_true rfl) ?_
  intro p e s m below meth c hx hb hr hml hown htl hlk htb hKK hKJ hpre ls hl
  have hown : s.vm.findClass RL = some m.cls := hown
  obtain ⟨hsz, hP, hD0⟩ := hpre
  subst hsz
  have hD : va_D (va_A (aJ cj a f :: W9) s.heap.size) (aJ cj a f :: W9) := hD0.self
  have hA : ∀ q, s.heap.size ≤ q → (va_A (aJ cj a f :: W9) s.heap.size) q := fun q h => Or.inr h
  generalize hAe : va_A (aJ cj a f :: W9) s.heap.size = A at hD hA ⊢
  have hPW : PP g W9 s.heap := hP.mem fun q h => List.mem_cons_of_mem _ h
  have hDW : va_D (fun q => gb g ≤ q) W9 := (hD0.perm (List.perm_append_singleton _ W9).symm).left
  have hl : lv_has ls 4 [(0, .ref o), (1, vi v), (2, .ref a)] := hl
  refine lv_aload_n hx hb dL_cost_0 rfl (lv_at hl 2 rfl) ?_
  refine jr_iconst hx hb dL_cost_1 ?_
  refine lv_aload_n hx hb dL_cost_2 rfl (lv_at hl 0 rfl) ?_
  refine lv_iload_n hx hb dL_cost_3 rfl (lv_at hl 1 rfl) ?_
  refine jh_Qi (vx_runV (As := [vi v]) (rest := [vi 0, .ref a]) ⟨hx, hb, hml, hown, htl⟩ (m_X10_cost l hsT g o S W9 hCW s.heap.size v hv) (cwV 1 htl lk_L_59 rfl rfl rfl cwV_X10_cost ⟨Nat.le_of_ble_eq_true rfl, Nat.le_of_ble_eq_true rfl⟩) (jp_V hKK (va_S.rf (A := jN)) jNb (CW.recv hKK hCW hPW) ⟨rfl, hPW, hDW⟩) rfl rfl hl.1 rfl (lv_room (Nat.le_of_ble_eq_true rfl)) dL_cost_4 ⟨Nat.le_of_ble_eq_true rfl, Nat.le_of_ble_eq_true rfl⟩) hCW hP hD hA ?_ ?_
  · intro E ce q9 H1 L w1 hE hC hP hD hS h2 h3 h4
    rcases hE with ⟨rfl, hcd⟩ | ⟨rfl, hcd⟩
    · refine vx_catch (name := eNS) hown [] (xe (0, 9, 12, 48)) [xe (0, 9, 15, 15)] (htb.trans rfl) (fun _ h => nomatch h) rfl (show (48 : Nat) ≠ 0 by decide) (htl _ wd_14_19) (va_Nw.use rfl (hKK.1.2.2.1 (eNS, eNS) (List.mem_of_getElem? (i := 5) rfl))) h2 h3 h4 ?_
      refine lv_astore_n (lv' := [(3, .ref q9), (0, .ref o), (1, vi v), (2, .ref a)]) hx hb dL_cost_12 rfl hl (by decide) rfl (fun ls hl => ?_)
      refine jr_iconst hx hb dL_cost_13 ?_
      exact je_Qi hx hb hr hlk rfl hS ⟨hcd.symm, w1, f, Or.inr ⟨by omega, hC⟩, hP, hD⟩ dL_cost_14
    · refine vx_catch (name := eIS) hown [xe (0, 9, 12, 48)] (xe (0, 9, 15, 15)) [] (htb.trans rfl) (List.forall_mem_cons.mpr ⟨Or.inr ⟨(show (48 : Nat) ≠ 0 by decide), _, htl _ wd_14_19, hKK.1.2.2.2.2.2.1 (eIS, eNS) (List.mem_of_getElem? (i := 3) rfl)⟩, fun _ h => nomatch h⟩) rfl (show (15 : Nat) ≠ 0 by decide) (htl _ wd_6_19) (va_Nw.use rfl (hKK.1.2.2.1 (eIS, eIS) (List.mem_of_getElem? (i := 1) rfl))) h2 h3 h4 ?_
      refine lv_astore_n (lv' := [(3, .ref q9), (0, .ref o), (1, vi v), (2, .ref a)]) hx hb dL_cost_15 rfl hl (by decide) rfl (fun ls hl => ?_)
      refine jr_iconst hx hb dL_cost_16 ?_
      exact je_Qi hx hb hr hlk rfl hS ⟨hcd.symm, w1, f, Or.inr ⟨by omega, hC⟩, hP, hD⟩ dL_cost_17
  · intro v9 H1 L w1 hv9 hC hP hD hS
    obtain ⟨z9, rfl, hcd, hz9⟩ := hv9
    subst hz9
    refine lv_i2l hx hb dL_cost_7 rfl ?_
    refine va_last hx hb hKJ hP hD hS 0 0 rfl rfl (jI_in (by omega) (by omega) (by omega)) dL_cost_8 (fun H locs hP hD hS => ?_)
    refine lv_goto (tgt := 18) hx hb dL_cost_9 (by decide) ?_
    refine jr_iconst hx hb dL_cost_18 ?_
    exact je_Qi hx hb hr hlk rfl hS ⟨hcd.symm, w1, _, Or.inl ⟨hcd, hC, if_pos rfl⟩, hP, hD⟩ dL_cost_19
set_option maxHeartbeats 4000000 in
set_option maxRecDepth 100000 in
theorem m_L_costFromEnds (l : Launch) (hsT : l.stackTraces = false) (g : GT) (cj cd : ClassId) (o a : Nat) (f : Nat → Int64) (S : SGM) (W9 : va_W) (hCW : CW g o S W9) (sz : Nat) (v : Int) (hv : jR v) : Met l yL_costFromEnds (.codeWith yL_costFromEnds cL_costFromEnds 4 (some .int) [(0, 9, 12, 48), (0, 9, 15, 15)] :: WSL) (rmm 9 2 12) (jPh g cj cd [.ref o, vi v, .ref a] (fun H => H.size = sz ∧ PP g (aJ cj a f :: W9) H ∧ va_D (fun q => gb g ≤ q) (aJ cj a f :: W9))) (jQi (fun z H1 => z = (cdUD S v) ∧ ∃ (w1 : va_W) (f1 : Nat → Int64), (((cdUD S v) = 0 ∧ CW g o (S) w1 ∧ f1 0 = (jI (ed S.2.2.2.1 S.1 (ug S v).1)).toInt64) ∨ (¬ (cdUD S v) = 0 ∧ CW g o S w1)) ∧ PP g (aJ cj a f1 :: w1) H1 ∧ va_D (va_A (aJ cj a f :: W9) sz) (aJ cj a f1 :: w1)) (va_A (aJ cj a f :: W9) sz)) 2 12 (va_A (aJ cj a f :: W9) sz) := by
  refine jh_M (by decide) (Nat.le_of_ble_eq_true rfl) ?_
  intro p e s m below meth c hx hb hr hml hown htl hlk htb hKK hKJ hpre ls hl
  have hown : s.vm.findClass RL = some m.cls := hown
  obtain ⟨hsz, hP, hD0⟩ := hpre
  subst hsz
  have hD : va_D (va_A (aJ cj a f :: W9) s.heap.size) (aJ cj a f :: W9) := hD0.self
  have hA : ∀ q, s.heap.size ≤ q → (va_A (aJ cj a f :: W9) s.heap.size) q := fun q h => Or.inr h
  generalize hAe : va_A (aJ cj a f :: W9) s.heap.size = A at hD hA ⊢
  have hPW : PP g W9 s.heap := hP.mem fun q h => List.mem_cons_of_mem _ h
  have hDW : va_D (fun q => gb g ≤ q) W9 := (hD0.perm (List.perm_append_singleton _ W9).symm).left
  have hl : lv_has ls 4 [(0, .ref o), (1, vi v), (2, .ref a)] := hl
  refine lv_aload_n hx hb dL_costFromEnds_0 rfl (lv_at hl 2 rfl) ?_
  refine jr_iconst hx hb dL_costFromEnds_1 ?_
  refine lv_aload_n hx hb dL_costFromEnds_2 rfl (lv_at hl 0 rfl) ?_
  refine lv_iload_n hx hb dL_costFromEnds_3 rfl (lv_at hl 1 rfl) ?_
  refine jh_Qi (vx_runV (As := [vi v]) (rest := [vi 0, .ref a]) ⟨hx, hb, hml, hown, htl⟩ (m_X10_costFromEnds l hsT g o S W9 hCW s.heap.size v hv) (cwV 1 htl lk_L_62 rfl rfl rfl cwV_X10_costFromEnds ⟨Nat.le_of_ble_eq_true rfl, Nat.le_of_ble_eq_true rfl⟩) (jp_V hKK (va_S.rf (A := jN)) jNb (CW.recv hKK hCW hPW) ⟨rfl, hPW, hDW⟩) rfl rfl hl.1 rfl (lv_room (Nat.le_of_ble_eq_true rfl)) dL_costFromEnds_4 ⟨Nat.le_of_ble_eq_true rfl, Nat.le_of_ble_eq_true rfl⟩) hCW hP hD hA ?_ ?_
  · intro E ce q9 H1 L w1 hE hC hP hD hS h2 h3 h4
    rcases hE with ⟨rfl, hcd⟩ | ⟨rfl, hcd⟩
    · refine vx_catch (name := eNS) hown [] (xe (0, 9, 12, 48)) [xe (0, 9, 15, 15)] (htb.trans rfl) (fun _ h => nomatch h) rfl (show (48 : Nat) ≠ 0 by decide) (htl _ wd_14_19) (va_Nw.use rfl (hKK.1.2.2.1 (eNS, eNS) (List.mem_of_getElem? (i := 5) rfl))) h2 h3 h4 ?_
      refine lv_astore_n (lv' := [(3, .ref q9), (0, .ref o), (1, vi v), (2, .ref a)]) hx hb dL_costFromEnds_12 rfl hl (by decide) rfl (fun ls hl => ?_)
      refine jr_iconst hx hb dL_costFromEnds_13 ?_
      exact je_Qi hx hb hr hlk rfl hS ⟨hcd.symm, w1, f, Or.inr ⟨by omega, hC⟩, hP, hD⟩ dL_costFromEnds_14
    · refine vx_catch (name := eIS) hown [xe (0, 9, 12, 48)] (xe (0, 9, 15, 15)) [] (htb.trans rfl) (List.forall_mem_cons.mpr ⟨Or.inr ⟨(show (48 : Nat) ≠ 0 by decide), _, htl _ wd_14_19, hKK.1.2.2.2.2.2.1 (eIS, eNS) (List.mem_of_getElem? (i := 3) rfl)⟩, fun _ h => nomatch h⟩) rfl (show (15 : Nat) ≠ 0 by decide) (htl _ wd_6_19) (va_Nw.use rfl (hKK.1.2.2.1 (eIS, eIS) (List.mem_of_getElem? (i := 1) rfl))) h2 h3 h4 ?_
      refine lv_astore_n (lv' := [(3, .ref q9), (0, .ref o), (1, vi v), (2, .ref a)]) hx hb dL_costFromEnds_15 rfl hl (by decide) rfl (fun ls hl => ?_)
      refine jr_iconst hx hb dL_costFromEnds_16 ?_
      exact je_Qi hx hb hr hlk rfl hS ⟨hcd.symm, w1, f, Or.inr ⟨by omega, hC⟩, hP, hD⟩ dL_costFromEnds_17
  · intro v9 H1 L w1 hv9 hC hP hD hS
    obtain ⟨z9, rfl, hcd, hz9⟩ := hv9
    subst hz9
    refine lv_i2l hx hb dL_costFromEnds_7 rfl ?_
    refine va_last hx hb hKJ hP hD hS 0 0 rfl rfl (jI_in (by omega) (by omega) (by omega)) dL_costFromEnds_8 (fun H locs hP hD hS => ?_)
    refine lv_goto (tgt := 18) hx hb dL_costFromEnds_9 (by decide) ?_
    refine jr_iconst hx hb dL_costFromEnds_18 ?_
    exact je_Qi hx hb hr hlk rfl hS ⟨hcd.symm, w1, _, Or.inl ⟨hcd, hC, if_pos rfl⟩, hP, hD⟩ dL_costFromEnds_19
set_option maxHeartbeats 4000000 in
set_option maxRecDepth 100000 in
theorem m_L_likeness (l : Launch) (hsT : l.stackTraces = false) (g : GT) (cj cd : ClassId) (o a : Nat) (f : Nat → Int64) (S : SGM) (W9 : va_W) (hCW : CW g o S W9) (sz : Nat) (v : Int) (hv : jR v) : Met l yL_likeness (.codeWith yL_likeness cL_likeness 4 (some .int) [(0, 9, 12, 48), (0, 9, 15, 15)] :: WSL) (rmm 9 2 12) (jPh g cj cd [.ref o, vi v, .ref a] (fun H => H.size = sz ∧ PP g (aJ cj a f :: W9) H ∧ va_D (fun q => gb g ≤ q) (aJ cj a f :: W9))) (jQi (fun z H1 => z = (cdUD S v) ∧ ∃ (w1 : va_W) (f1 : Nat → Int64), (((cdUD S v) = 0 ∧ CW g o (S) w1 ∧ f1 0 = (jI (lk S.2.2.2.1 S.1 (ug S v).1)).toInt64) ∨ (¬ (cdUD S v) = 0 ∧ CW g o S w1)) ∧ PP g (aJ cj a f1 :: w1) H1 ∧ va_D (va_A (aJ cj a f :: W9) sz) (aJ cj a f1 :: w1)) (va_A (aJ cj a f :: W9) sz)) 2 12 (va_A (aJ cj a f :: W9) sz) := by
  refine jh_M (by decide) (Nat.le_of_ble_eq_true rfl) ?_
  intro p e s m below meth c hx hb hr hml hown htl hlk htb hKK hKJ hpre ls hl
  have hown : s.vm.findClass RL = some m.cls := hown
  obtain ⟨hsz, hP, hD0⟩ := hpre
  subst hsz
  have hD : va_D (va_A (aJ cj a f :: W9) s.heap.size) (aJ cj a f :: W9) := hD0.self
  have hA : ∀ q, s.heap.size ≤ q → (va_A (aJ cj a f :: W9) s.heap.size) q := fun q h => Or.inr h
  generalize hAe : va_A (aJ cj a f :: W9) s.heap.size = A at hD hA ⊢
  have hPW : PP g W9 s.heap := hP.mem fun q h => List.mem_cons_of_mem _ h
  have hDW : va_D (fun q => gb g ≤ q) W9 := (hD0.perm (List.perm_append_singleton _ W9).symm).left
  have hl : lv_has ls 4 [(0, .ref o), (1, vi v), (2, .ref a)] := hl
  refine lv_aload_n hx hb dL_likeness_0 rfl (lv_at hl 2 rfl) ?_
  refine jr_iconst hx hb dL_likeness_1 ?_
  refine lv_aload_n hx hb dL_likeness_2 rfl (lv_at hl 0 rfl) ?_
  refine lv_iload_n hx hb dL_likeness_3 rfl (lv_at hl 1 rfl) ?_
  refine jh_Qi (vx_runV (As := [vi v]) (rest := [vi 0, .ref a]) ⟨hx, hb, hml, hown, htl⟩ (m_X10_likeness l hsT g o S W9 hCW s.heap.size v hv) (cwV 1 htl lk_L_65 rfl rfl rfl cwV_X10_likeness ⟨Nat.le_of_ble_eq_true rfl, Nat.le_of_ble_eq_true rfl⟩) (jp_V hKK (va_S.rf (A := jN)) jNb (CW.recv hKK hCW hPW) ⟨rfl, hPW, hDW⟩) rfl rfl hl.1 rfl (lv_room (Nat.le_of_ble_eq_true rfl)) dL_likeness_4 ⟨Nat.le_of_ble_eq_true rfl, Nat.le_of_ble_eq_true rfl⟩) hCW hP hD hA ?_ ?_
  · intro E ce q9 H1 L w1 hE hC hP hD hS h2 h3 h4
    rcases hE with ⟨rfl, hcd⟩ | ⟨rfl, hcd⟩
    · refine vx_catch (name := eNS) hown [] (xe (0, 9, 12, 48)) [xe (0, 9, 15, 15)] (htb.trans rfl) (fun _ h => nomatch h) rfl (show (48 : Nat) ≠ 0 by decide) (htl _ wd_14_19) (va_Nw.use rfl (hKK.1.2.2.1 (eNS, eNS) (List.mem_of_getElem? (i := 5) rfl))) h2 h3 h4 ?_
      refine lv_astore_n (lv' := [(3, .ref q9), (0, .ref o), (1, vi v), (2, .ref a)]) hx hb dL_likeness_12 rfl hl (by decide) rfl (fun ls hl => ?_)
      refine jr_iconst hx hb dL_likeness_13 ?_
      exact je_Qi hx hb hr hlk rfl hS ⟨hcd.symm, w1, f, Or.inr ⟨by omega, hC⟩, hP, hD⟩ dL_likeness_14
    · refine vx_catch (name := eIS) hown [xe (0, 9, 12, 48)] (xe (0, 9, 15, 15)) [] (htb.trans rfl) (List.forall_mem_cons.mpr ⟨Or.inr ⟨(show (48 : Nat) ≠ 0 by decide), _, htl _ wd_14_19, hKK.1.2.2.2.2.2.1 (eIS, eNS) (List.mem_of_getElem? (i := 3) rfl)⟩, fun _ h => nomatch h⟩) rfl (show (15 : Nat) ≠ 0 by decide) (htl _ wd_6_19) (va_Nw.use rfl (hKK.1.2.2.1 (eIS, eIS) (List.mem_of_getElem? (i := 1) rfl))) h2 h3 h4 ?_
      refine lv_astore_n (lv' := [(3, .ref q9), (0, .ref o), (1, vi v), (2, .ref a)]) hx hb dL_likeness_15 rfl hl (by decide) rfl (fun ls hl => ?_)
      refine jr_iconst hx hb dL_likeness_16 ?_
      exact je_Qi hx hb hr hlk rfl hS ⟨hcd.symm, w1, f, Or.inr ⟨by omega, hC⟩, hP, hD⟩ dL_likeness_17
  · intro v9 H1 L w1 hv9 hC hP hD hS
    obtain ⟨z9, rfl, hcd, hz9⟩ := hv9
    subst hz9
    refine lv_i2l hx hb dL_likeness_7 rfl ?_
    refine va_last hx hb hKJ hP hD hS 0 0 rfl rfl (jI_in (by omega) (by omega) (by omega)) dL_likeness_8 (fun H locs hP hD hS => ?_)
    refine lv_goto (tgt := 18) hx hb dL_likeness_9 (by decide) ?_
    refine jr_iconst hx hb dL_likeness_18 ?_
    exact je_Qi hx hb hr hlk rfl hS ⟨hcd.symm, w1, _, Or.inl ⟨hcd, hC, if_pos rfl⟩, hP, hD⟩ dL_likeness_19
set_option maxHeartbeats 4000000 in
set_option maxRecDepth 100000 in
theorem m_L_missing (l : Launch) (hsT : l.stackTraces = false) (g : GT) (cj cd : ClassId) (o a : Nat) (f : Nat → Int64) (S : SGM) (W9 : va_W) (hCW : CW g o S W9) (sz : Nat) (v : Int) (hv : jR v) : Met l yL_missing (.codeWith yL_missing cL_missing 4 (some .int) [(0, 9, 12, 48), (0, 9, 15, 15)] :: WSL) (rmm 9 2 12) (jPh g cj cd [.ref o, vi v, .ref a] (fun H => H.size = sz ∧ PP g (aJ cj a f :: W9) H ∧ va_D (fun q => gb g ≤ q) (aJ cj a f :: W9))) (jQi (fun z H1 => z = (cdUD S v) ∧ ∃ (w1 : va_W) (f1 : Nat → Int64), (((cdUD S v) = 0 ∧ CW g o S w1 ∧ f1 0 = (jI (ms S.2.2.2.2.1 S.1 (ug S v).2.1)).toInt64) ∨ (¬ (cdUD S v) = 0 ∧ CW g o S w1)) ∧ PP g (aJ cj a f1 :: w1) H1 ∧ va_D (va_A (aJ cj a f :: W9) sz) (aJ cj a f1 :: w1)) (va_A (aJ cj a f :: W9) sz)) 2 12 (va_A (aJ cj a f :: W9) sz) := by
  refine jh_M (by decide) (Nat.le_of_ble_eq_true rfl) ?_
  intro p e s m below meth c hx hb hr hml hown htl hlk htb hKK hKJ hpre ls hl
  have hown : s.vm.findClass RL = some m.cls := hown
  obtain ⟨hsz, hP, hD0⟩ := hpre
  subst hsz
  have hD : va_D (va_A (aJ cj a f :: W9) s.heap.size) (aJ cj a f :: W9) := hD0.self
  have hA : ∀ q, s.heap.size ≤ q → (va_A (aJ cj a f :: W9) s.heap.size) q := fun q h => Or.inr h
  generalize hAe : va_A (aJ cj a f :: W9) s.heap.size = A at hD hA ⊢
  have hPW : PP g W9 s.heap := hP.mem fun q h => List.mem_cons_of_mem _ h
  have hDW : va_D (fun q => gb g ≤ q) W9 := (hD0.perm (List.perm_append_singleton _ W9).symm).left
  have hl : lv_has ls 4 [(0, .ref o), (1, vi v), (2, .ref a)] := hl
  refine lv_aload_n hx hb dL_missing_0 rfl (lv_at hl 2 rfl) ?_
  refine jr_iconst hx hb dL_missing_1 ?_
  refine lv_aload_n hx hb dL_missing_2 rfl (lv_at hl 0 rfl) ?_
  refine lv_iload_n hx hb dL_missing_3 rfl (lv_at hl 1 rfl) ?_
  refine jh_Si (vx_runV (As := [vi v]) (rest := [vi 0, .ref a]) ⟨hx, hb, hml, hown, htl⟩ (m_X10_missing l hsT g o S W9 hCW v hv) (cwV 1 htl lk_L_68 rfl rfl rfl cwV_X10_missing ⟨Nat.le_of_ble_eq_true rfl, Nat.le_of_ble_eq_true rfl⟩) (jp_V hKK (va_S.rf (A := jN)) jNb (CW.recv hKK hCW hPW) hPW) rfl rfl hl.1 rfl (lv_room (Nat.le_of_ble_eq_true rfl)) dL_missing_4 ⟨Nat.le_of_ble_eq_true rfl, Nat.le_of_ble_eq_true rfl⟩) hCW hP hD ?_ ?_
  · intro E ce q9 H1 L w1 hE hC hP hD hS h2 h3 h4
    rcases hE with ⟨rfl, hcd⟩ | ⟨rfl, hcd⟩
    · refine vx_catch (name := eNS) hown [] (xe (0, 9, 12, 48)) [xe (0, 9, 15, 15)] (htb.trans rfl) (fun _ h => nomatch h) rfl (show (48 : Nat) ≠ 0 by decide) (htl _ wd_14_19) (va_Nw.use rfl (hKK.1.2.2.1 (eNS, eNS) (List.mem_of_getElem? (i := 5) rfl))) h2 h3 h4 ?_
      refine lv_astore_n (lv' := [(3, .ref q9), (0, .ref o), (1, vi v), (2, .ref a)]) hx hb dL_missing_12 rfl hl (by decide) rfl (fun ls hl => ?_)
      refine jr_iconst hx hb dL_missing_13 ?_
      exact je_Qi hx hb hr hlk rfl hS ⟨hcd.symm, w1, f, Or.inr ⟨by omega, hC⟩, hP, hD⟩ dL_missing_14
    · refine vx_catch (name := eIS) hown [xe (0, 9, 12, 48)] (xe (0, 9, 15, 15)) [] (htb.trans rfl) (List.forall_mem_cons.mpr ⟨Or.inr ⟨(show (48 : Nat) ≠ 0 by decide), _, htl _ wd_14_19, hKK.1.2.2.2.2.2.1 (eIS, eNS) (List.mem_of_getElem? (i := 3) rfl)⟩, fun _ h => nomatch h⟩) rfl (show (15 : Nat) ≠ 0 by decide) (htl _ wd_6_19) (va_Nw.use rfl (hKK.1.2.2.1 (eIS, eIS) (List.mem_of_getElem? (i := 1) rfl))) h2 h3 h4 ?_
      refine lv_astore_n (lv' := [(3, .ref q9), (0, .ref o), (1, vi v), (2, .ref a)]) hx hb dL_missing_15 rfl hl (by decide) rfl (fun ls hl => ?_)
      refine jr_iconst hx hb dL_missing_16 ?_
      exact je_Qi hx hb hr hlk rfl hS ⟨hcd.symm, w1, f, Or.inr ⟨by omega, hC⟩, hP, hD⟩ dL_missing_17
  · intro v9 H1 L w1 hv9 hC hP hD hS
    obtain ⟨z9, rfl, hcd, hz9⟩ := hv9
    subst hz9
    refine lv_i2l hx hb dL_missing_7 rfl ?_
    refine va_last hx hb hKJ hP hD hS 0 0 rfl rfl (jI_in (by omega) (by omega) (by omega)) dL_missing_8 (fun H locs hP hD hS => ?_)
    refine lv_goto (tgt := 18) hx hb dL_missing_9 (by decide) ?_
    refine jr_iconst hx hb dL_missing_18 ?_
    exact je_Qi hx hb hr hlk rfl hS ⟨hcd.symm, w1, _, Or.inl ⟨hcd, hC, if_pos rfl⟩, hP, hD⟩ dL_missing_19
set_option maxHeartbeats 4000000 in
set_option maxRecDepth 100000 in
theorem m_L_score (l : Launch) (hsT : l.stackTraces = false) (g : GT) (cj cd : ClassId) (o a : Nat) (f : Nat → Int64) (S : SGM) (W9 : va_W) (hCW : CW g o S W9) (sz : Nat) (v : Int) (hv : jR v) : Met l yL_score (.codeWith yL_score cL_score 4 (some .int) [(0, 9, 12, 48), (0, 9, 15, 15)] :: WSL) (rmm 9 2 12) (jPh g cj cd [.ref o, vi v, .ref a] (fun H => H.size = sz ∧ PP g (aJ cj a f :: W9) H ∧ va_D (fun q => gb g ≤ q) (aJ cj a f :: W9))) (jQi (fun z H1 => z = (cdUD S v) ∧ ∃ (w1 : va_W) (f1 : Nat → Int64), (((cdUD S v) = 0 ∧ CW g o (S) w1 ∧ f1 0 = (jI (rate S.2.2.2.1 S.2.2.2.2.1 S.1 (ug S v))).toInt64) ∨ (¬ (cdUD S v) = 0 ∧ CW g o S w1)) ∧ PP g (aJ cj a f1 :: w1) H1 ∧ va_D (va_A (aJ cj a f :: W9) sz) (aJ cj a f1 :: w1)) (va_A (aJ cj a f :: W9) sz)) 2 12 (va_A (aJ cj a f :: W9) sz) := by
  refine jh_M (by decide) (Nat.le_of_ble_eq_true rfl) ?_
  intro p e s m below meth c hx hb hr hml hown htl hlk htb hKK hKJ hpre ls hl
  have hown : s.vm.findClass RL = some m.cls := hown
  obtain ⟨hsz, hP, hD0⟩ := hpre
  subst hsz
  have hD : va_D (va_A (aJ cj a f :: W9) s.heap.size) (aJ cj a f :: W9) := hD0.self
  have hA : ∀ q, s.heap.size ≤ q → (va_A (aJ cj a f :: W9) s.heap.size) q := fun q h => Or.inr h
  generalize hAe : va_A (aJ cj a f :: W9) s.heap.size = A at hD hA ⊢
  have hPW : PP g W9 s.heap := hP.mem fun q h => List.mem_cons_of_mem _ h
  have hDW : va_D (fun q => gb g ≤ q) W9 := (hD0.perm (List.perm_append_singleton _ W9).symm).left
  have hl : lv_has ls 4 [(0, .ref o), (1, vi v), (2, .ref a)] := hl
  refine lv_aload_n hx hb dL_score_0 rfl (lv_at hl 2 rfl) ?_
  refine jr_iconst hx hb dL_score_1 ?_
  refine lv_aload_n hx hb dL_score_2 rfl (lv_at hl 0 rfl) ?_
  refine lv_iload_n hx hb dL_score_3 rfl (lv_at hl 1 rfl) ?_
  refine jh_Qi (vx_runV (As := [vi v]) (rest := [vi 0, .ref a]) ⟨hx, hb, hml, hown, htl⟩ (m_X10_score l hsT g o S W9 hCW s.heap.size v hv) (cwV 1 htl lk_L_71 rfl rfl rfl cwV_X10_score ⟨Nat.le_of_ble_eq_true rfl, Nat.le_of_ble_eq_true rfl⟩) (jp_V hKK (va_S.rf (A := jN)) jNb (CW.recv hKK hCW hPW) ⟨rfl, hPW, hDW⟩) rfl rfl hl.1 rfl (lv_room (Nat.le_of_ble_eq_true rfl)) dL_score_4 ⟨Nat.le_of_ble_eq_true rfl, Nat.le_of_ble_eq_true rfl⟩) hCW hP hD hA ?_ ?_
  · intro E ce q9 H1 L w1 hE hC hP hD hS h2 h3 h4
    rcases hE with ⟨rfl, hcd⟩ | ⟨rfl, hcd⟩
    · refine vx_catch (name := eNS) hown [] (xe (0, 9, 12, 48)) [xe (0, 9, 15, 15)] (htb.trans rfl) (fun _ h => nomatch h) rfl (show (48 : Nat) ≠ 0 by decide) (htl _ wd_14_19) (va_Nw.use rfl (hKK.1.2.2.1 (eNS, eNS) (List.mem_of_getElem? (i := 5) rfl))) h2 h3 h4 ?_
      refine lv_astore_n (lv' := [(3, .ref q9), (0, .ref o), (1, vi v), (2, .ref a)]) hx hb dL_score_12 rfl hl (by decide) rfl (fun ls hl => ?_)
      refine jr_iconst hx hb dL_score_13 ?_
      exact je_Qi hx hb hr hlk rfl hS ⟨hcd.symm, w1, f, Or.inr ⟨by omega, hC⟩, hP, hD⟩ dL_score_14
    · refine vx_catch (name := eIS) hown [xe (0, 9, 12, 48)] (xe (0, 9, 15, 15)) [] (htb.trans rfl) (List.forall_mem_cons.mpr ⟨Or.inr ⟨(show (48 : Nat) ≠ 0 by decide), _, htl _ wd_14_19, hKK.1.2.2.2.2.2.1 (eIS, eNS) (List.mem_of_getElem? (i := 3) rfl)⟩, fun _ h => nomatch h⟩) rfl (show (15 : Nat) ≠ 0 by decide) (htl _ wd_6_19) (va_Nw.use rfl (hKK.1.2.2.1 (eIS, eIS) (List.mem_of_getElem? (i := 1) rfl))) h2 h3 h4 ?_
      refine lv_astore_n (lv' := [(3, .ref q9), (0, .ref o), (1, vi v), (2, .ref a)]) hx hb dL_score_15 rfl hl (by decide) rfl (fun ls hl => ?_)
      refine jr_iconst hx hb dL_score_16 ?_
      exact je_Qi hx hb hr hlk rfl hS ⟨hcd.symm, w1, f, Or.inr ⟨by omega, hC⟩, hP, hD⟩ dL_score_17
  · intro v9 H1 L w1 hv9 hC hP hD hS
    obtain ⟨z9, rfl, hcd, hz9⟩ := hv9
    subst hz9
    refine lv_i2l hx hb dL_score_7 rfl ?_
    refine va_last hx hb hKJ hP hD hS 0 0 rfl rfl (jI_in (by omega) (by omega) (by omega)) dL_score_8 (fun H locs hP hD hS => ?_)
    refine lv_goto (tgt := 18) hx hb dL_score_9 (by decide) ?_
    refine jr_iconst hx hb dL_score_18 ?_
    exact je_Qi hx hb hr hlk rfl hS ⟨hcd.symm, w1, _, Or.inl ⟨hcd, hC, if_pos rfl⟩, hP, hD⟩ dL_score_19
set_option maxHeartbeats 4000000 in
set_option maxRecDepth 100000 in
theorem m_L_sharedPairs (l : Launch) (hsT : l.stackTraces = false) (g : GT) (cj cd : ClassId) (o a : Nat) (f : Nat → Int64) (S : SGM) (W9 : va_W) (hCW : CW g o S W9) (sz : Nat) (v : Int) (hv : jR v) : Met l yL_sharedPairs (.codeWith yL_sharedPairs cL_sharedPairs 4 (some .int) [(0, 9, 12, 48), (0, 9, 15, 15)] :: WSL) (rmm 9 2 12) (jPh g cj cd [.ref o, vi v, .ref a] (fun H => H.size = sz ∧ PP g (aJ cj a f :: W9) H ∧ va_D (fun q => gb g ≤ q) (aJ cj a f :: W9))) (jQi (fun z H1 => z = (cdUD S v) ∧ ∃ (w1 : va_W) (f1 : Nat → Int64), (((cdUD S v) = 0 ∧ CW g o (S) w1 ∧ f1 0 = (jI (shA (pl S.1) (pl (ug S v).1) ((pl S.1).length - 1))).toInt64) ∨ (¬ (cdUD S v) = 0 ∧ CW g o S w1)) ∧ PP g (aJ cj a f1 :: w1) H1 ∧ va_D (va_A (aJ cj a f :: W9) sz) (aJ cj a f1 :: w1)) (va_A (aJ cj a f :: W9) sz)) 2 12 (va_A (aJ cj a f :: W9) sz) := by
  refine jh_M (by decide) (Nat.le_of_ble_eq_true rfl) ?_
  intro p e s m below meth c hx hb hr hml hown htl hlk htb hKK hKJ hpre ls hl
  have hown : s.vm.findClass RL = some m.cls := hown
  obtain ⟨hsz, hP, hD0⟩ := hpre
  subst hsz
  have hD : va_D (va_A (aJ cj a f :: W9) s.heap.size) (aJ cj a f :: W9) := hD0.self
  have hA : ∀ q, s.heap.size ≤ q → (va_A (aJ cj a f :: W9) s.heap.size) q := fun q h => Or.inr h
  generalize hAe : va_A (aJ cj a f :: W9) s.heap.size = A at hD hA ⊢
  have hPW : PP g W9 s.heap := hP.mem fun q h => List.mem_cons_of_mem _ h
  have hDW : va_D (fun q => gb g ≤ q) W9 := (hD0.perm (List.perm_append_singleton _ W9).symm).left
  have hl : lv_has ls 4 [(0, .ref o), (1, vi v), (2, .ref a)] := hl
  refine lv_aload_n hx hb dL_sharedPairs_0 rfl (lv_at hl 2 rfl) ?_
  refine jr_iconst hx hb dL_sharedPairs_1 ?_
  refine lv_aload_n hx hb dL_sharedPairs_2 rfl (lv_at hl 0 rfl) ?_
  refine lv_iload_n hx hb dL_sharedPairs_3 rfl (lv_at hl 1 rfl) ?_
  refine jh_Qi (vx_runV (As := [vi v]) (rest := [vi 0, .ref a]) ⟨hx, hb, hml, hown, htl⟩ (m_X10_sharedPairs l hsT g o S W9 hCW s.heap.size v hv) (cwV 1 htl lk_L_74 rfl rfl rfl cwV_X10_sharedPairs ⟨Nat.le_of_ble_eq_true rfl, Nat.le_of_ble_eq_true rfl⟩) (jp_V hKK (va_S.rf (A := jN)) jNb (CW.recv hKK hCW hPW) ⟨rfl, hPW, hDW⟩) rfl rfl hl.1 rfl (lv_room (Nat.le_of_ble_eq_true rfl)) dL_sharedPairs_4 ⟨Nat.le_of_ble_eq_true rfl, Nat.le_of_ble_eq_true rfl⟩) hCW hP hD hA ?_ ?_
  · intro E ce q9 H1 L w1 hE hC hP hD hS h2 h3 h4
    rcases hE with ⟨rfl, hcd⟩ | ⟨rfl, hcd⟩
    · refine vx_catch (name := eNS) hown [] (xe (0, 9, 12, 48)) [xe (0, 9, 15, 15)] (htb.trans rfl) (fun _ h => nomatch h) rfl (show (48 : Nat) ≠ 0 by decide) (htl _ wd_14_19) (va_Nw.use rfl (hKK.1.2.2.1 (eNS, eNS) (List.mem_of_getElem? (i := 5) rfl))) h2 h3 h4 ?_
      refine lv_astore_n (lv' := [(3, .ref q9), (0, .ref o), (1, vi v), (2, .ref a)]) hx hb dL_sharedPairs_12 rfl hl (by decide) rfl (fun ls hl => ?_)
      refine jr_iconst hx hb dL_sharedPairs_13 ?_
      exact je_Qi hx hb hr hlk rfl hS ⟨hcd.symm, w1, f, Or.inr ⟨by omega, hC⟩, hP, hD⟩ dL_sharedPairs_14
    · refine vx_catch (name := eIS) hown [xe (0, 9, 12, 48)] (xe (0, 9, 15, 15)) [] (htb.trans rfl) (List.forall_mem_cons.mpr ⟨Or.inr ⟨(show (48 : Nat) ≠ 0 by decide), _, htl _ wd_14_19, hKK.1.2.2.2.2.2.1 (eIS, eNS) (List.mem_of_getElem? (i := 3) rfl)⟩, fun _ h => nomatch h⟩) rfl (show (15 : Nat) ≠ 0 by decide) (htl _ wd_6_19) (va_Nw.use rfl (hKK.1.2.2.1 (eIS, eIS) (List.mem_of_getElem? (i := 1) rfl))) h2 h3 h4 ?_
      refine lv_astore_n (lv' := [(3, .ref q9), (0, .ref o), (1, vi v), (2, .ref a)]) hx hb dL_sharedPairs_15 rfl hl (by decide) rfl (fun ls hl => ?_)
      refine jr_iconst hx hb dL_sharedPairs_16 ?_
      exact je_Qi hx hb hr hlk rfl hS ⟨hcd.symm, w1, f, Or.inr ⟨by omega, hC⟩, hP, hD⟩ dL_sharedPairs_17
  · intro v9 H1 L w1 hv9 hC hP hD hS
    obtain ⟨z9, rfl, hcd, hz9⟩ := hv9
    subst hz9
    refine lv_i2l hx hb dL_sharedPairs_7 rfl ?_
    refine va_last hx hb hKJ hP hD hS 0 0 rfl rfl (jI_in (by omega) (by omega) (by omega)) dL_sharedPairs_8 (fun H locs hP hD hS => ?_)
    refine lv_goto (tgt := 18) hx hb dL_sharedPairs_9 (by decide) ?_
    refine jr_iconst hx hb dL_sharedPairs_18 ?_
    exact je_Qi hx hb hr hlk rfl hS ⟨hcd.symm, w1, _, Or.inl ⟨hcd, hC, if_pos rfl⟩, hP, hD⟩ dL_sharedPairs_19
set_option maxHeartbeats 4000000 in
set_option maxRecDepth 100000 in
theorem m_L_best (l : Launch) (hsT : l.stackTraces = false) (g : GT) (cj cd : ClassId) (o a : Nat) (f : Nat → Int64) (S : SGM) (W9 : va_W) (hCW : CW g o S W9) (sz : Nat) : Met l yL_best (.codeWith yL_best cL_best 3 (some .int) [(0, 8, 11, 15), (0, 8, 14, 48)] :: WSL) (rmm 9 2 12) (jPh g cj cd [.ref o, .ref a] (fun H => H.size = sz ∧ PP g (aJ cj a f :: W9) H ∧ va_D (fun q => gb g ≤ q) (aJ cj a f :: W9))) (jQi (fun z H1 => z = (cdBest S) ∧ ∃ (w1 : va_W) (f1 : Nat → Int64), (((cdBest S) = 0 ∧ CW g o (S) w1 ∧ f1 0 = (jI (bsU S S.1)).toInt64) ∨ (¬ (cdBest S) = 0 ∧ CW g o S w1)) ∧ PP g (aJ cj a f1 :: w1) H1 ∧ va_D (va_A (aJ cj a f :: W9) sz) (aJ cj a f1 :: w1)) (va_A (aJ cj a f :: W9) sz)) 2 12 (va_A (aJ cj a f :: W9) sz) := by
  refine jh_M (by decide) (Nat.le_of_ble_eq_true rfl) ?_
  intro p e s m below meth c hx hb hr hml hown htl hlk htb hKK hKJ hpre ls hl
  have hown : s.vm.findClass RL = some m.cls := hown
  obtain ⟨hsz, hP, hD0⟩ := hpre
  subst hsz
  have hD : va_D (va_A (aJ cj a f :: W9) s.heap.size) (aJ cj a f :: W9) := hD0.self
  have hA : ∀ q, s.heap.size ≤ q → (va_A (aJ cj a f :: W9) s.heap.size) q := fun q h => Or.inr h
  generalize hAe : va_A (aJ cj a f :: W9) s.heap.size = A at hD hA ⊢
  have hPW : PP g W9 s.heap := hP.mem fun q h => List.mem_cons_of_mem _ h
  have hDW : va_D (fun q => gb g ≤ q) W9 := (hD0.perm (List.perm_append_singleton _ W9).symm).left
  have hl : lv_has ls 3 [(0, .ref o), (1, .ref a)] := hl
  refine lv_aload_n hx hb dL_best_0 rfl (lv_at hl 1 rfl) ?_
  refine jr_iconst hx hb dL_best_1 ?_
  refine lv_aload_n hx hb dL_best_2 rfl (lv_at hl 0 rfl) ?_
  refine jh_Qw (vx_runV (As := []) (rest := [vi 0, .ref a]) ⟨hx, hb, hml, hown, htl⟩ (m_X10_best l hsT g o S W9 hCW s.heap.size) (cwV 0 htl lk_L_77 rfl rfl rfl cwV_X10_best ⟨Nat.le_of_ble_eq_true rfl, Nat.le_of_ble_eq_true rfl⟩) (jp_V hKK (va_S.rf (A := jN)) jNb (CW.recv hKK hCW hPW) ⟨rfl, hPW, hDW⟩) rfl rfl hl.1 rfl (lv_room (Nat.le_of_ble_eq_true rfl)) dL_best_3 ⟨Nat.le_of_ble_eq_true rfl, Nat.le_of_ble_eq_true rfl⟩) hP hD hA ?_ ?_
  · intro E ce q9 H1 L w1 hE hC hP hD hS h2 h3 h4
    rcases hE with ⟨rfl, hcd⟩ | ⟨rfl, hcd⟩
    · refine vx_catch (name := eIS) hown [] (xe (0, 8, 11, 15)) [xe (0, 8, 14, 48)] (htb.trans rfl) (fun _ h => nomatch h) rfl (show (15 : Nat) ≠ 0 by decide) (htl _ wd_6_19) (va_Nw.use rfl (hKK.1.2.2.1 (eIS, eIS) (List.mem_of_getElem? (i := 1) rfl))) h2 h3 h4 ?_
      refine lv_astore_n (lv' := [(2, .ref q9), (0, .ref o), (1, .ref a)]) hx hb dL_best_11 rfl hl (by decide) rfl (fun ls hl => ?_)
      refine jr_iconst hx hb dL_best_12 ?_
      exact je_Qi hx hb hr hlk rfl hS ⟨hcd.symm, w1, f, Or.inr ⟨by omega, hC⟩, hP, hD⟩ dL_best_13
    · refine vx_catch (name := eNS) hown [xe (0, 8, 11, 15)] (xe (0, 8, 14, 48)) [] (htb.trans rfl) (List.forall_mem_cons.mpr ⟨Or.inr ⟨(show (15 : Nat) ≠ 0 by decide), _, htl _ wd_6_19, hKK.1.2.2.2.2.2.1 (eNS, eIS) (List.mem_of_getElem? (i := 5) rfl)⟩, fun _ h => nomatch h⟩) rfl (show (48 : Nat) ≠ 0 by decide) (htl _ wd_14_19) (va_Nw.use rfl (hKK.1.2.2.1 (eNS, eNS) (List.mem_of_getElem? (i := 5) rfl))) h2 h3 h4 ?_
      refine lv_astore_n (lv' := [(2, .ref q9), (0, .ref o), (1, .ref a)]) hx hb dL_best_14 rfl hl (by decide) rfl (fun ls hl => ?_)
      refine jr_iconst hx hb dL_best_15 ?_
      exact je_Qi hx hb hr hlk rfl hS ⟨hcd.symm, w1, f, Or.inr ⟨by omega, hC⟩, hP, hD⟩ dL_best_16
  · intro v9 H1 L w1 hv9 hC hP hD hS
    obtain ⟨z9, rfl, hcd, hz9⟩ := hv9
    subst hz9
    refine lv_i2l hx hb dL_best_6 rfl ?_
    refine va_last hx hb hKJ hP hD hS 0 0 rfl rfl (jI_in (by omega) (by omega) (by omega)) dL_best_7 (fun H locs hP hD hS => ?_)
    refine lv_goto (tgt := 17) hx hb dL_best_8 (by decide) ?_
    refine jr_iconst hx hb dL_best_17 ?_
    exact je_Qi hx hb hr hlk rfl hS ⟨hcd.symm, w1, _, Or.inl ⟨hcd, hC, if_pos rfl⟩, hP, hD⟩ dL_best_18
set_option maxHeartbeats 4000000 in
set_option maxRecDepth 100000 in
theorem m_L_bestOfAll (l : Launch) (hsT : l.stackTraces = false) (g : GT) (cj cd : ClassId) (o a : Nat) (f : Nat → Int64) (S : SGM) (W9 : va_W) (hCW : CW g o S W9) (sz : Nat) : Met l yL_bestOfAll (.codeWith yL_bestOfAll cL_bestOfAll 3 (some .int) [(0, 8, 11, 15), (0, 8, 14, 48)] :: WSL) (rmm 9 2 12) (jPh g cj cd [.ref o, .ref a] (fun H => H.size = sz ∧ PP g (aJ cj a f :: W9) H ∧ va_D (fun q => gb g ≤ q) (aJ cj a f :: W9))) (jQi (fun z H1 => z = (cdBest S) ∧ ∃ (w1 : va_W) (f1 : Nat → Int64), (((cdBest S) = 0 ∧ CW g o (S) w1 ∧ f1 0 = (jI (bsU S S.1)).toInt64) ∨ (¬ (cdBest S) = 0 ∧ CW g o S w1)) ∧ PP g (aJ cj a f1 :: w1) H1 ∧ va_D (va_A (aJ cj a f :: W9) sz) (aJ cj a f1 :: w1)) (va_A (aJ cj a f :: W9) sz)) 2 12 (va_A (aJ cj a f :: W9) sz) := by
  refine jh_M (by decide) (Nat.le_of_ble_eq_true rfl) ?_
  intro p e s m below meth c hx hb hr hml hown htl hlk htb hKK hKJ hpre ls hl
  have hown : s.vm.findClass RL = some m.cls := hown
  obtain ⟨hsz, hP, hD0⟩ := hpre
  subst hsz
  have hD : va_D (va_A (aJ cj a f :: W9) s.heap.size) (aJ cj a f :: W9) := hD0.self
  have hA : ∀ q, s.heap.size ≤ q → (va_A (aJ cj a f :: W9) s.heap.size) q := fun q h => Or.inr h
  generalize hAe : va_A (aJ cj a f :: W9) s.heap.size = A at hD hA ⊢
  have hPW : PP g W9 s.heap := hP.mem fun q h => List.mem_cons_of_mem _ h
  have hDW : va_D (fun q => gb g ≤ q) W9 := (hD0.perm (List.perm_append_singleton _ W9).symm).left
  have hl : lv_has ls 3 [(0, .ref o), (1, .ref a)] := hl
  refine lv_aload_n hx hb dL_bestOfAll_0 rfl (lv_at hl 1 rfl) ?_
  refine jr_iconst hx hb dL_bestOfAll_1 ?_
  refine lv_aload_n hx hb dL_bestOfAll_2 rfl (lv_at hl 0 rfl) ?_
  refine jh_Qw (vx_runV (As := []) (rest := [vi 0, .ref a]) ⟨hx, hb, hml, hown, htl⟩ (m_X10_bestOfAll l hsT g o S W9 hCW s.heap.size) (cwV 0 htl lk_L_80 rfl rfl rfl cwV_X10_bestOfAll ⟨Nat.le_of_ble_eq_true rfl, Nat.le_of_ble_eq_true rfl⟩) (jp_V hKK (va_S.rf (A := jN)) jNb (CW.recv hKK hCW hPW) ⟨rfl, hPW, hDW⟩) rfl rfl hl.1 rfl (lv_room (Nat.le_of_ble_eq_true rfl)) dL_bestOfAll_3 ⟨Nat.le_of_ble_eq_true rfl, Nat.le_of_ble_eq_true rfl⟩) hP hD hA ?_ ?_
  · intro E ce q9 H1 L w1 hE hC hP hD hS h2 h3 h4
    rcases hE with ⟨rfl, hcd⟩ | ⟨rfl, hcd⟩
    · refine vx_catch (name := eIS) hown [] (xe (0, 8, 11, 15)) [xe (0, 8, 14, 48)] (htb.trans rfl) (fun _ h => nomatch h) rfl (show (15 : Nat) ≠ 0 by decide) (htl _ wd_6_19) (va_Nw.use rfl (hKK.1.2.2.1 (eIS, eIS) (List.mem_of_getElem? (i := 1) rfl))) h2 h3 h4 ?_
      refine lv_astore_n (lv' := [(2, .ref q9), (0, .ref o), (1, .ref a)]) hx hb dL_bestOfAll_11 rfl hl (by decide) rfl (fun ls hl => ?_)
      refine jr_iconst hx hb dL_bestOfAll_12 ?_
      exact je_Qi hx hb hr hlk rfl hS ⟨hcd.symm, w1, f, Or.inr ⟨by omega, hC⟩, hP, hD⟩ dL_bestOfAll_13
    · refine vx_catch (name := eNS) hown [xe (0, 8, 11, 15)] (xe (0, 8, 14, 48)) [] (htb.trans rfl) (List.forall_mem_cons.mpr ⟨Or.inr ⟨(show (15 : Nat) ≠ 0 by decide), _, htl _ wd_6_19, hKK.1.2.2.2.2.2.1 (eNS, eIS) (List.mem_of_getElem? (i := 5) rfl)⟩, fun _ h => nomatch h⟩) rfl (show (48 : Nat) ≠ 0 by decide) (htl _ wd_14_19) (va_Nw.use rfl (hKK.1.2.2.1 (eNS, eNS) (List.mem_of_getElem? (i := 5) rfl))) h2 h3 h4 ?_
      refine lv_astore_n (lv' := [(2, .ref q9), (0, .ref o), (1, .ref a)]) hx hb dL_bestOfAll_14 rfl hl (by decide) rfl (fun ls hl => ?_)
      refine jr_iconst hx hb dL_bestOfAll_15 ?_
      exact je_Qi hx hb hr hlk rfl hS ⟨hcd.symm, w1, f, Or.inr ⟨by omega, hC⟩, hP, hD⟩ dL_bestOfAll_16
  · intro v9 H1 L w1 hv9 hC hP hD hS
    obtain ⟨z9, rfl, hcd, hz9⟩ := hv9
    subst hz9
    refine lv_i2l hx hb dL_bestOfAll_6 rfl ?_
    refine va_last hx hb hKJ hP hD hS 0 0 rfl rfl (jI_in (by omega) (by omega) (by omega)) dL_bestOfAll_7 (fun H locs hP hD hS => ?_)
    refine lv_goto (tgt := 17) hx hb dL_bestOfAll_8 (by decide) ?_
    refine jr_iconst hx hb dL_bestOfAll_17 ?_
    exact je_Qi hx hb hr hlk rfl hS ⟨hcd.symm, w1, _, Or.inl ⟨hcd, hC, if_pos rfl⟩, hP, hD⟩ dL_bestOfAll_18
set_option maxHeartbeats 4000000 in
set_option maxRecDepth 100000 in
theorem m_L_open (l : Launch) (hsT : l.stackTraces = false) (g : GT) (cj cd : ClassId) (o a : Nat) (f : Nat → Int64) (S : SGM) (W9 : va_W) (hCW : CW g o S W9) (sz : Nat) : Met l yL_open (.codeWith yL_open cL_open 3 (some .int) [(0, 8, 11, 15)] :: WSL) (rmm 10 361 13026) (jPh g cj cd [.ref o, .ref a] (fun H => H.size = sz ∧ PP g (aJ cj a f :: W9) H ∧ va_D (fun q => gb g ≤ q) (aJ cj a f :: W9))) (jQi (fun z H1 => z = (cd1 (¬ S.1.length = 0)) ∧ ∃ (w1 : va_W) (f1 : Nat → Int64), (((cd1 (¬ S.1.length = 0)) = 0 ∧ CW g o (nxOpen S) w1 ∧ f1 0 = (jI (((ctP S.2.2.1 S.1 S.1.length).1.length : Int))).toInt64) ∨ (¬ (cd1 (¬ S.1.length = 0)) = 0 ∧ CW g o S w1)) ∧ PP g (aJ cj a f1 :: w1) H1 ∧ va_D (va_A (aJ cj a f :: W9) sz) (aJ cj a f1 :: w1)) (va_A (aJ cj a f :: W9) sz)) 361 13026 (va_A (aJ cj a f :: W9) sz) := by
  refine jh_M (by decide) (Nat.le_of_ble_eq_true rfl) ?_
  intro p e s m below meth c hx hb hr hml hown htl hlk htb hKK hKJ hpre ls hl
  have hown : s.vm.findClass RL = some m.cls := hown
  obtain ⟨hsz, hP, hD0⟩ := hpre
  subst hsz
  have hD : va_D (va_A (aJ cj a f :: W9) s.heap.size) (aJ cj a f :: W9) := hD0.self
  have hA : ∀ q, s.heap.size ≤ q → (va_A (aJ cj a f :: W9) s.heap.size) q := fun q h => Or.inr h
  generalize hAe : va_A (aJ cj a f :: W9) s.heap.size = A at hD hA ⊢
  have hPW : PP g W9 s.heap := hP.mem fun q h => List.mem_cons_of_mem _ h
  have hDW : va_D (fun q => gb g ≤ q) W9 := (hD0.perm (List.perm_append_singleton _ W9).symm).left
  have hl : lv_has ls 3 [(0, .ref o), (1, .ref a)] := hl
  refine lv_aload_n hx hb dL_open_0 rfl (lv_at hl 1 rfl) ?_
  refine jr_iconst hx hb dL_open_1 ?_
  refine lv_aload_n hx hb dL_open_2 rfl (lv_at hl 0 rfl) ?_
  refine jh_Qi (vx_runV (As := []) (rest := [vi 0, .ref a]) ⟨hx, hb, hml, hown, htl⟩ (m_X10_open l hsT g o S W9 hCW s.heap.size) (cwV 0 htl lk_L_83 rfl rfl rfl cwV_X10_open ⟨Nat.le_of_ble_eq_true rfl, Nat.le_of_ble_eq_true rfl⟩) (jp_V hKK (va_S.rf (A := jN)) jNb (CW.recv hKK hCW hPW) ⟨rfl, hPW, hDW⟩) rfl rfl hl.1 rfl (lv_room (Nat.le_of_ble_eq_true rfl)) dL_open_3 ⟨Nat.le_of_ble_eq_true rfl, Nat.le_of_ble_eq_true rfl⟩) hCW hP hD hA ?_ ?_
  · intro E ce q9 H1 L w1 hE hC hP hD hS h2 h3 h4
    rcases hE with ⟨rfl, hcd⟩
    · refine vx_catch (name := eIS) hown [] (xe (0, 8, 11, 15)) [] (htb.trans rfl) (fun _ h => nomatch h) rfl (show (15 : Nat) ≠ 0 by decide) (htl _ wd_6_19) (va_Nw.use rfl (hKK.1.2.2.1 (eIS, eIS) (List.mem_of_getElem? (i := 1) rfl))) h2 h3 h4 ?_
      refine lv_astore_n (lv' := [(2, .ref q9), (0, .ref o), (1, .ref a)]) hx hb dL_open_11 rfl hl (by decide) rfl (fun ls hl => ?_)
      refine jr_iconst hx hb dL_open_12 ?_
      exact je_Qi hx hb hr hlk rfl hS ⟨hcd.symm, w1, f, Or.inr ⟨by omega, hC⟩, hP, hD⟩ dL_open_13
  · intro v9 H1 L w1 hv9 hC hP hD hS
    obtain ⟨z9, rfl, hcd, hz9⟩ := hv9
    subst hz9
    refine lv_i2l hx hb dL_open_6 rfl ?_
    refine va_last hx hb hKJ hP hD hS 0 0 rfl rfl (jI_in (by omega) (by omega) (by omega)) dL_open_7 (fun H locs hP hD hS => ?_)
    refine lv_goto (tgt := 14) hx hb dL_open_8 (by decide) ?_
    refine jr_iconst hx hb dL_open_14 ?_
    exact je_Qi hx hb hr hlk rfl hS ⟨hcd.symm, w1, _, Or.inl ⟨hcd, hC, if_pos rfl⟩, hP, hD⟩ dL_open_15
set_option maxHeartbeats 4000000 in
set_option maxRecDepth 100000 in
theorem m_L_fill (l : Launch) (hsT : l.stackTraces = false) (g : GT) (cj cd : ClassId) (o a : Nat) (f : Nat → Int64) (S : SGM) (W9 : va_W) (hCW : CW g o S W9) (sz : Nat) (v : Int) (hv : jR v) : Met l yL_fill (.codeWith yL_fill cL_fill 4 (some .int) [(0, 9, 12, 13)] :: WSL) (rmm 12 1 6) (jPh g cj cd [.ref o, vi v, .ref a] (fun H => H.size = sz ∧ PP g (aJ cj a f :: W9) H ∧ va_D (fun q => gb g ≤ q) (aJ cj a f :: W9))) (jQi (fun z H1 => z = (cd1 (1 ≤ v ∧ v ≤ 100)) ∧ ∃ (w1 : va_W) (f1 : Nat → Int64), (((cd1 (1 ≤ v ∧ v ≤ 100)) = 0 ∧ CW g o ((flP v S (nS S)).1) w1 ∧ f1 0 = (jI ((flP v S (nS S)).2)).toInt64) ∨ (¬ (cd1 (1 ≤ v ∧ v ≤ 100)) = 0 ∧ CW g o S w1)) ∧ PP g (aJ cj a f1 :: w1) H1 ∧ va_D (va_A (aJ cj a f :: W9) sz) (aJ cj a f1 :: w1)) (va_A (aJ cj a f :: W9) sz)) 1 6 (va_A (aJ cj a f :: W9) sz) := by
  refine jh_M (by decide) (Nat.le_of_ble_eq_true rfl) ?_
  intro p e s m below meth c hx hb hr hml hown htl hlk htb hKK hKJ hpre ls hl
  have hown : s.vm.findClass RL = some m.cls := hown
  obtain ⟨hsz, hP, hD0⟩ := hpre
  subst hsz
  have hD : va_D (va_A (aJ cj a f :: W9) s.heap.size) (aJ cj a f :: W9) := hD0.self
  have hA : ∀ q, s.heap.size ≤ q → (va_A (aJ cj a f :: W9) s.heap.size) q := fun q h => Or.inr h
  generalize hAe : va_A (aJ cj a f :: W9) s.heap.size = A at hD hA ⊢
  have hPW : PP g W9 s.heap := hP.mem fun q h => List.mem_cons_of_mem _ h
  have hDW : va_D (fun q => gb g ≤ q) W9 := (hD0.perm (List.perm_append_singleton _ W9).symm).left
  have hl : lv_has ls 4 [(0, .ref o), (1, vi v), (2, .ref a)] := hl
  refine lv_aload_n hx hb dL_fill_0 rfl (lv_at hl 2 rfl) ?_
  refine jr_iconst hx hb dL_fill_1 ?_
  refine lv_aload_n hx hb dL_fill_2 rfl (lv_at hl 0 rfl) ?_
  refine lv_iload_n hx hb dL_fill_3 rfl (lv_at hl 1 rfl) ?_
  refine jh_Qi (vx_runV (As := [vi v]) (rest := [vi 0, .ref a]) ⟨hx, hb, hml, hown, htl⟩ (m_X10_fill l hsT g o S W9 hCW s.heap.size v hv) (cwV 1 htl lk_L_86 rfl rfl rfl cwV_X10_fill ⟨Nat.le_of_ble_eq_true rfl, Nat.le_of_ble_eq_true rfl⟩) (jp_V hKK (va_S.rf (A := jN)) jNb (CW.recv hKK hCW hPW) ⟨rfl, hPW, hDW⟩) rfl rfl hl.1 rfl (lv_room (Nat.le_of_ble_eq_true rfl)) dL_fill_4 ⟨Nat.le_of_ble_eq_true rfl, Nat.le_of_ble_eq_true rfl⟩) hCW hP hD hA ?_ ?_
  · intro E ce q9 H1 L w1 hE hC hP hD hS h2 h3 h4
    rcases hE with ⟨rfl, hcd⟩
    · refine vx_catch (name := eIA) hown [] (xe (0, 9, 12, 13)) [] (htb.trans rfl) (fun _ h => nomatch h) rfl (show (13 : Nat) ≠ 0 by decide) (htl _ wd_6_18) (va_Nw.use rfl (hKK.1.2.2.1 (eIA, eIA) (List.mem_of_getElem? (i := 0) rfl))) h2 h3 h4 ?_
      refine lv_astore_n (lv' := [(3, .ref q9), (0, .ref o), (1, vi v), (2, .ref a)]) hx hb dL_fill_12 rfl hl (by decide) rfl (fun ls hl => ?_)
      refine jr_iconst hx hb dL_fill_13 ?_
      exact je_Qi hx hb hr hlk rfl hS ⟨hcd.symm, w1, f, Or.inr ⟨by omega, hC⟩, hP, hD⟩ dL_fill_14
  · intro v9 H1 L w1 hv9 hC hP hD hS
    obtain ⟨z9, rfl, hcd, hz9⟩ := hv9
    subst hz9
    refine lv_i2l hx hb dL_fill_7 rfl ?_
    refine va_last hx hb hKJ hP hD hS 0 0 rfl rfl (jI_in (by omega) (by omega) (by omega)) dL_fill_8 (fun H locs hP hD hS => ?_)
    refine lv_goto (tgt := 15) hx hb dL_fill_9 (by decide) ?_
    refine jr_iconst hx hb dL_fill_15 ?_
    exact je_Qi hx hb hr hlk rfl hS ⟨hcd.symm, w1, _, Or.inl ⟨hcd, hC, if_pos rfl⟩, hP, hD⟩ dL_fill_16
set_option maxHeartbeats 4000000 in
set_option maxRecDepth 100000 in
theorem m_L_answer (l : Launch) (hsT : l.stackTraces = false) (g : GT) (cj cd : ClassId) (o a : Nat) (f : Nat → Int64) (S : SGM) (W9 : va_W) (hCW : CW g o S W9) (sz : Nat) (v : Int) (hv : jR v) : Met l yL_answer (.codeWith yL_answer cL_answer 4 (some .int) [(0, 9, 12, 92), (0, 9, 15, 15)] :: WSL) (rmm 10 9 233) (jPh g cj cd [.ref o, vi v, .ref a] (fun H => H.size = sz ∧ PP g (aJ cj a f :: W9) H ∧ va_D (fun q => gb g ≤ q) (aJ cj a f :: W9))) (jQi (fun z H1 => z = (cdAns S v) ∧ ∃ (w1 : va_W) (f1 : Nat → Int64), (((cdAns S v) = 0 ∧ CW g o (nxAns S v) w1 ∧ f1 0 = (jI (vlAns S v)).toInt64) ∨ (¬ (cdAns S v) = 0 ∧ CW g o S w1)) ∧ PP g (aJ cj a f1 :: w1) H1 ∧ va_D (va_A (aJ cj a f :: W9) sz) (aJ cj a f1 :: w1)) (va_A (aJ cj a f :: W9) sz)) 9 233 (va_A (aJ cj a f :: W9) sz) := by
  refine jh_M (by decide) (Nat.le_of_ble_eq_true rfl) ?_
  intro p e s m below meth c hx hb hr hml hown htl hlk htb hKK hKJ hpre ls hl
  have hown : s.vm.findClass RL = some m.cls := hown
  obtain ⟨hsz, hP, hD0⟩ := hpre
  subst hsz
  have hD : va_D (va_A (aJ cj a f :: W9) s.heap.size) (aJ cj a f :: W9) := hD0.self
  have hA : ∀ q, s.heap.size ≤ q → (va_A (aJ cj a f :: W9) s.heap.size) q := fun q h => Or.inr h
  generalize hAe : va_A (aJ cj a f :: W9) s.heap.size = A at hD hA ⊢
  have hPW : PP g W9 s.heap := hP.mem fun q h => List.mem_cons_of_mem _ h
  have hDW : va_D (fun q => gb g ≤ q) W9 := (hD0.perm (List.perm_append_singleton _ W9).symm).left
  have hl : lv_has ls 4 [(0, .ref o), (1, vi v), (2, .ref a)] := hl
  refine lv_aload_n hx hb dL_answer_0 rfl (lv_at hl 2 rfl) ?_
  refine jr_iconst hx hb dL_answer_1 ?_
  refine lv_aload_n hx hb dL_answer_2 rfl (lv_at hl 0 rfl) ?_
  refine lv_iload_n hx hb dL_answer_3 rfl (lv_at hl 1 rfl) ?_
  refine jh_Qi (vx_runV (As := [vi v]) (rest := [vi 0, .ref a]) ⟨hx, hb, hml, hown, htl⟩ (m_X10_answer l hsT g o S W9 hCW s.heap.size v hv) (cwV 1 htl lk_L_89 rfl rfl rfl cwV_X10_answer ⟨Nat.le_of_ble_eq_true rfl, Nat.le_of_ble_eq_true rfl⟩) (jp_V hKK (va_S.rf (A := jN)) jNb (CW.recv hKK hCW hPW) ⟨rfl, hPW, hDW⟩) rfl rfl hl.1 rfl (lv_room (Nat.le_of_ble_eq_true rfl)) dL_answer_4 ⟨Nat.le_of_ble_eq_true rfl, Nat.le_of_ble_eq_true rfl⟩) hCW hP hD hA ?_ ?_
  · intro E ce q9 H1 L w1 hE hC hP hD hS h2 h3 h4
    rcases hE with ⟨rfl, hcd⟩ | ⟨rfl, hcd⟩
    · refine vx_catch (name := eIO) hown [] (xe (0, 9, 12, 92)) [xe (0, 9, 15, 15)] (htb.trans rfl) (fun _ h => nomatch h) rfl (show (92 : Nat) ≠ 0 by decide) (htl _ wd_40_2) (va_Nw.use rfl (hKK.1.2.2.1 (eIO, eIO) (List.mem_of_getElem? (i := 2) rfl))) h2 h3 h4 ?_
      refine lv_astore_n (lv' := [(3, .ref q9), (0, .ref o), (1, vi v), (2, .ref a)]) hx hb dL_answer_12 rfl hl (by decide) rfl (fun ls hl => ?_)
      refine jr_iconst hx hb dL_answer_13 ?_
      exact je_Qi hx hb hr hlk rfl hS ⟨hcd.symm, w1, f, Or.inr ⟨by omega, hC⟩, hP, hD⟩ dL_answer_14
    · refine vx_catch (name := eIS) hown [xe (0, 9, 12, 92)] (xe (0, 9, 15, 15)) [] (htb.trans rfl) (List.forall_mem_cons.mpr ⟨Or.inr ⟨(show (92 : Nat) ≠ 0 by decide), _, htl _ wd_40_2, hKK.1.2.2.2.2.2.1 (eIS, eIO) (List.mem_of_getElem? (i := 6) rfl)⟩, fun _ h => nomatch h⟩) rfl (show (15 : Nat) ≠ 0 by decide) (htl _ wd_6_19) (va_Nw.use rfl (hKK.1.2.2.1 (eIS, eIS) (List.mem_of_getElem? (i := 1) rfl))) h2 h3 h4 ?_
      refine lv_astore_n (lv' := [(3, .ref q9), (0, .ref o), (1, vi v), (2, .ref a)]) hx hb dL_answer_15 rfl hl (by decide) rfl (fun ls hl => ?_)
      refine jr_iconst hx hb dL_answer_16 ?_
      exact je_Qi hx hb hr hlk rfl hS ⟨hcd.symm, w1, f, Or.inr ⟨by omega, hC⟩, hP, hD⟩ dL_answer_17
  · intro v9 H1 L w1 hv9 hC hP hD hS
    obtain ⟨z9, rfl, hcd, hz9⟩ := hv9
    subst hz9
    refine lv_i2l hx hb dL_answer_7 rfl ?_
    refine va_last hx hb hKJ hP hD hS 0 0 rfl rfl (jI_in (by omega) (by omega) (by omega)) dL_answer_8 (fun H locs hP hD hS => ?_)
    refine lv_goto (tgt := 18) hx hb dL_answer_9 (by decide) ?_
    refine jr_iconst hx hb dL_answer_18 ?_
    exact je_Qi hx hb hr hlk rfl hS ⟨hcd.symm, w1, _, Or.inl ⟨hcd, hC, if_pos rfl⟩, hP, hD⟩ dL_answer_19
set_option maxHeartbeats 4000000 in
set_option maxRecDepth 100000 in
theorem m_L_stateOf (l : Launch) (hsT : l.stackTraces = false) (g : GT) (cj cd : ClassId) (o a : Nat) (f : Nat → Int64) (S : SGM) (W9 : va_W) (hCW : CW g o S W9) (sz : Nat) (v : Int) (hv : jR v) : Met l yL_stateOf (.codeWith yL_stateOf cL_stateOf 4 (some .int) [(0, 9, 12, 92)] :: WSL) (rmm 8 1 6) (jPh g cj cd [.ref o, vi v, .ref a] (fun H => H.size = sz ∧ PP g (aJ cj a f :: W9) H ∧ va_D (fun q => gb g ≤ q) (aJ cj a f :: W9))) (jQi (fun z H1 => z = (cdS S v) ∧ ∃ (w1 : va_W) (f1 : Nat → Int64), (((cdS S v) = 0 ∧ CW g o S w1 ∧ f1 0 = (jI ((sg S v).2.2.1)).toInt64) ∨ (¬ (cdS S v) = 0 ∧ CW g o S w1)) ∧ PP g (aJ cj a f1 :: w1) H1 ∧ va_D (va_A (aJ cj a f :: W9) sz) (aJ cj a f1 :: w1)) (va_A (aJ cj a f :: W9) sz)) 1 6 (va_A (aJ cj a f :: W9) sz) := by
  refine jh_M (by decide) (Nat.le_of_ble_eq_true rfl) ?_
  intro p e s m below meth c hx hb hr hml hown htl hlk htb hKK hKJ hpre ls hl
  have hown : s.vm.findClass RL = some m.cls := hown
  obtain ⟨hsz, hP, hD0⟩ := hpre
  subst hsz
  have hD : va_D (va_A (aJ cj a f :: W9) s.heap.size) (aJ cj a f :: W9) := hD0.self
  have hA : ∀ q, s.heap.size ≤ q → (va_A (aJ cj a f :: W9) s.heap.size) q := fun q h => Or.inr h
  generalize hAe : va_A (aJ cj a f :: W9) s.heap.size = A at hD hA ⊢
  have hPW : PP g W9 s.heap := hP.mem fun q h => List.mem_cons_of_mem _ h
  have hDW : va_D (fun q => gb g ≤ q) W9 := (hD0.perm (List.perm_append_singleton _ W9).symm).left
  have hl : lv_has ls 4 [(0, .ref o), (1, vi v), (2, .ref a)] := hl
  refine lv_aload_n hx hb dL_stateOf_0 rfl (lv_at hl 2 rfl) ?_
  refine jr_iconst hx hb dL_stateOf_1 ?_
  refine lv_aload_n hx hb dL_stateOf_2 rfl (lv_at hl 0 rfl) ?_
  refine lv_iload_n hx hb dL_stateOf_3 rfl (lv_at hl 1 rfl) ?_
  refine jh_Si (vx_runV (As := [vi v]) (rest := [vi 0, .ref a]) ⟨hx, hb, hml, hown, htl⟩ (m_X10_stateOf l hsT g o S W9 hCW v hv) (cwV 1 htl lk_L_94 rfl rfl rfl cwV_X10_stateOf ⟨Nat.le_of_ble_eq_true rfl, Nat.le_of_ble_eq_true rfl⟩) (jp_V hKK (va_S.rf (A := jN)) jNb (CW.recv hKK hCW hPW) hPW) rfl rfl hl.1 rfl (lv_room (Nat.le_of_ble_eq_true rfl)) dL_stateOf_4 ⟨Nat.le_of_ble_eq_true rfl, Nat.le_of_ble_eq_true rfl⟩) hCW hP hD ?_ ?_
  · intro E ce q9 H1 L w1 hE hC hP hD hS h2 h3 h4
    rcases hE with ⟨rfl, hcd⟩
    · refine vx_catch (name := eIO) hown [] (xe (0, 9, 12, 92)) [] (htb.trans rfl) (fun _ h => nomatch h) rfl (show (92 : Nat) ≠ 0 by decide) (htl _ wd_40_2) (va_Nw.use rfl (hKK.1.2.2.1 (eIO, eIO) (List.mem_of_getElem? (i := 2) rfl))) h2 h3 h4 ?_
      refine lv_astore_n (lv' := [(3, .ref q9), (0, .ref o), (1, vi v), (2, .ref a)]) hx hb dL_stateOf_12 rfl hl (by decide) rfl (fun ls hl => ?_)
      refine jr_iconst hx hb dL_stateOf_13 ?_
      exact je_Qi hx hb hr hlk rfl hS ⟨hcd.symm, w1, f, Or.inr ⟨by omega, hC⟩, hP, hD⟩ dL_stateOf_14
  · intro v9 H1 L w1 hv9 hC hP hD hS
    obtain ⟨z9, rfl, hcd, hz9⟩ := hv9
    subst hz9
    refine lv_i2l hx hb dL_stateOf_7 rfl ?_
    refine va_last hx hb hKJ hP hD hS 0 0 rfl rfl (jI_in (by omega) (by omega) (by omega)) dL_stateOf_8 (fun H locs hP hD hS => ?_)
    refine lv_goto (tgt := 15) hx hb dL_stateOf_9 (by decide) ?_
    refine jr_iconst hx hb dL_stateOf_15 ?_
    exact je_Qi hx hb hr hlk rfl hS ⟨hcd.symm, w1, _, Or.inl ⟨hcd, hC, if_pos rfl⟩, hP, hD⟩ dL_stateOf_16
set_option maxHeartbeats 4000000 in
set_option maxRecDepth 100000 in
theorem m_L_unitOf (l : Launch) (hsT : l.stackTraces = false) (g : GT) (cj cd : ClassId) (o a : Nat) (f : Nat → Int64) (S : SGM) (W9 : va_W) (hCW : CW g o S W9) (sz : Nat) (v : Int) (hv : jR v) : Met l yL_unitOf (.codeWith yL_unitOf cL_unitOf 4 (some .int) [(0, 9, 12, 92), (0, 9, 15, 48)] :: WSL) (rmm 9 2 12) (jPh g cj cd [.ref o, vi v, .ref a] (fun H => H.size = sz ∧ PP g (aJ cj a f :: W9) H ∧ va_D (fun q => gb g ≤ q) (aJ cj a f :: W9))) (jQi (fun z H1 => z = (cdSF S v) ∧ ∃ (w1 : va_W) (f1 : Nat → Int64), (((cdSF S v) = 0 ∧ CW g o S w1 ∧ f1 0 = (jI ((sg S v).2.2.2.1)).toInt64) ∨ (¬ (cdSF S v) = 0 ∧ CW g o S w1)) ∧ PP g (aJ cj a f1 :: w1) H1 ∧ va_D (va_A (aJ cj a f :: W9) sz) (aJ cj a f1 :: w1)) (va_A (aJ cj a f :: W9) sz)) 2 12 (va_A (aJ cj a f :: W9) sz) := by
  refine jh_M (by decide) (Nat.le_of_ble_eq_true rfl) ?_
  intro p e s m below meth c hx hb hr hml hown htl hlk htb hKK hKJ hpre ls hl
  have hown : s.vm.findClass RL = some m.cls := hown
  obtain ⟨hsz, hP, hD0⟩ := hpre
  subst hsz
  have hD : va_D (va_A (aJ cj a f :: W9) s.heap.size) (aJ cj a f :: W9) := hD0.self
  have hA : ∀ q, s.heap.size ≤ q → (va_A (aJ cj a f :: W9) s.heap.size) q := fun q h => Or.inr h
  generalize hAe : va_A (aJ cj a f :: W9) s.heap.size = A at hD hA ⊢
  have hPW : PP g W9 s.heap := hP.mem fun q h => List.mem_cons_of_mem _ h
  have hDW : va_D (fun q => gb g ≤ q) W9 := (hD0.perm (List.perm_append_singleton _ W9).symm).left
  have hl : lv_has ls 4 [(0, .ref o), (1, vi v), (2, .ref a)] := hl
  refine lv_aload_n hx hb dL_unitOf_0 rfl (lv_at hl 2 rfl) ?_
  refine jr_iconst hx hb dL_unitOf_1 ?_
  refine lv_aload_n hx hb dL_unitOf_2 rfl (lv_at hl 0 rfl) ?_
  refine lv_iload_n hx hb dL_unitOf_3 rfl (lv_at hl 1 rfl) ?_
  refine jh_Si (vx_runV (As := [vi v]) (rest := [vi 0, .ref a]) ⟨hx, hb, hml, hown, htl⟩ (m_X10_unitOf l hsT g o S W9 hCW v hv) (cwV 1 htl lk_L_98 rfl rfl rfl cwV_X10_unitOf ⟨Nat.le_of_ble_eq_true rfl, Nat.le_of_ble_eq_true rfl⟩) (jp_V hKK (va_S.rf (A := jN)) jNb (CW.recv hKK hCW hPW) hPW) rfl rfl hl.1 rfl (lv_room (Nat.le_of_ble_eq_true rfl)) dL_unitOf_4 ⟨Nat.le_of_ble_eq_true rfl, Nat.le_of_ble_eq_true rfl⟩) hCW hP hD ?_ ?_
  · intro E ce q9 H1 L w1 hE hC hP hD hS h2 h3 h4
    rcases hE with ⟨rfl, hcd⟩ | ⟨rfl, hcd⟩
    · refine vx_catch (name := eIO) hown [] (xe (0, 9, 12, 92)) [xe (0, 9, 15, 48)] (htb.trans rfl) (fun _ h => nomatch h) rfl (show (92 : Nat) ≠ 0 by decide) (htl _ wd_40_2) (va_Nw.use rfl (hKK.1.2.2.1 (eIO, eIO) (List.mem_of_getElem? (i := 2) rfl))) h2 h3 h4 ?_
      refine lv_astore_n (lv' := [(3, .ref q9), (0, .ref o), (1, vi v), (2, .ref a)]) hx hb dL_unitOf_12 rfl hl (by decide) rfl (fun ls hl => ?_)
      refine jr_iconst hx hb dL_unitOf_13 ?_
      exact je_Qi hx hb hr hlk rfl hS ⟨hcd.symm, w1, f, Or.inr ⟨by omega, hC⟩, hP, hD⟩ dL_unitOf_14
    · refine vx_catch (name := eNS) hown [xe (0, 9, 12, 92)] (xe (0, 9, 15, 48)) [] (htb.trans rfl) (List.forall_mem_cons.mpr ⟨Or.inr ⟨(show (92 : Nat) ≠ 0 by decide), _, htl _ wd_40_2, hKK.1.2.2.2.2.2.1 (eNS, eIO) (List.mem_of_getElem? (i := 7) rfl)⟩, fun _ h => nomatch h⟩) rfl (show (48 : Nat) ≠ 0 by decide) (htl _ wd_14_19) (va_Nw.use rfl (hKK.1.2.2.1 (eNS, eNS) (List.mem_of_getElem? (i := 5) rfl))) h2 h3 h4 ?_
      refine lv_astore_n (lv' := [(3, .ref q9), (0, .ref o), (1, vi v), (2, .ref a)]) hx hb dL_unitOf_15 rfl hl (by decide) rfl (fun ls hl => ?_)
      refine jr_iconst hx hb dL_unitOf_16 ?_
      exact je_Qi hx hb hr hlk rfl hS ⟨hcd.symm, w1, f, Or.inr ⟨by omega, hC⟩, hP, hD⟩ dL_unitOf_17
  · intro v9 H1 L w1 hv9 hC hP hD hS
    obtain ⟨z9, rfl, hcd, hz9⟩ := hv9
    subst hz9
    refine lv_i2l hx hb dL_unitOf_7 rfl ?_
    refine va_last hx hb hKJ hP hD hS 0 0 rfl rfl (jI_in (by omega) (by omega) (by omega)) dL_unitOf_8 (fun H locs hP hD hS => ?_)
    refine lv_goto (tgt := 18) hx hb dL_unitOf_9 (by decide) ?_
    refine jr_iconst hx hb dL_unitOf_18 ?_
    exact je_Qi hx hb hr hlk rfl hS ⟨hcd.symm, w1, _, Or.inl ⟨hcd, hC, if_pos rfl⟩, hP, hD⟩ dL_unitOf_19
set_option maxHeartbeats 4000000 in
set_option maxRecDepth 100000 in
theorem m_L_scoreOf (l : Launch) (hsT : l.stackTraces = false) (g : GT) (cj cd : ClassId) (o a : Nat) (f : Nat → Int64) (S : SGM) (W9 : va_W) (hCW : CW g o S W9) (sz : Nat) (v : Int) (hv : jR v) : Met l yL_scoreOf (.codeWith yL_scoreOf cL_scoreOf 4 (some .int) [(0, 9, 12, 92), (0, 9, 15, 48)] :: WSL) (rmm 9 2 12) (jPh g cj cd [.ref o, vi v, .ref a] (fun H => H.size = sz ∧ PP g (aJ cj a f :: W9) H ∧ va_D (fun q => gb g ≤ q) (aJ cj a f :: W9))) (jQi (fun z H1 => z = (cdSF S v) ∧ ∃ (w1 : va_W) (f1 : Nat → Int64), (((cdSF S v) = 0 ∧ CW g o S w1 ∧ f1 0 = (jI ((sg S v).2.2.2.2)).toInt64) ∨ (¬ (cdSF S v) = 0 ∧ CW g o S w1)) ∧ PP g (aJ cj a f1 :: w1) H1 ∧ va_D (va_A (aJ cj a f :: W9) sz) (aJ cj a f1 :: w1)) (va_A (aJ cj a f :: W9) sz)) 2 12 (va_A (aJ cj a f :: W9) sz) := by
  refine jh_M (by decide) (Nat.le_of_ble_eq_true rfl) ?_
  intro p e s m below meth c hx hb hr hml hown htl hlk htb hKK hKJ hpre ls hl
  have hown : s.vm.findClass RL = some m.cls := hown
  obtain ⟨hsz, hP, hD0⟩ := hpre
  subst hsz
  have hD : va_D (va_A (aJ cj a f :: W9) s.heap.size) (aJ cj a f :: W9) := hD0.self
  have hA : ∀ q, s.heap.size ≤ q → (va_A (aJ cj a f :: W9) s.heap.size) q := fun q h => Or.inr h
  generalize hAe : va_A (aJ cj a f :: W9) s.heap.size = A at hD hA ⊢
  have hPW : PP g W9 s.heap := hP.mem fun q h => List.mem_cons_of_mem _ h
  have hDW : va_D (fun q => gb g ≤ q) W9 := (hD0.perm (List.perm_append_singleton _ W9).symm).left
  have hl : lv_has ls 4 [(0, .ref o), (1, vi v), (2, .ref a)] := hl
  refine lv_aload_n hx hb dL_scoreOf_0 rfl (lv_at hl 2 rfl) ?_
  refine jr_iconst hx hb dL_scoreOf_1 ?_
  refine lv_aload_n hx hb dL_scoreOf_2 rfl (lv_at hl 0 rfl) ?_
  refine lv_iload_n hx hb dL_scoreOf_3 rfl (lv_at hl 1 rfl) ?_
  refine jh_Si (vx_runV (As := [vi v]) (rest := [vi 0, .ref a]) ⟨hx, hb, hml, hown, htl⟩ (m_X10_scoreOf l hsT g o S W9 hCW v hv) (cwV 1 htl lk_L_101 rfl rfl rfl cwV_X10_scoreOf ⟨Nat.le_of_ble_eq_true rfl, Nat.le_of_ble_eq_true rfl⟩) (jp_V hKK (va_S.rf (A := jN)) jNb (CW.recv hKK hCW hPW) hPW) rfl rfl hl.1 rfl (lv_room (Nat.le_of_ble_eq_true rfl)) dL_scoreOf_4 ⟨Nat.le_of_ble_eq_true rfl, Nat.le_of_ble_eq_true rfl⟩) hCW hP hD ?_ ?_
  · intro E ce q9 H1 L w1 hE hC hP hD hS h2 h3 h4
    rcases hE with ⟨rfl, hcd⟩ | ⟨rfl, hcd⟩
    · refine vx_catch (name := eIO) hown [] (xe (0, 9, 12, 92)) [xe (0, 9, 15, 48)] (htb.trans rfl) (fun _ h => nomatch h) rfl (show (92 : Nat) ≠ 0 by decide) (htl _ wd_40_2) (va_Nw.use rfl (hKK.1.2.2.1 (eIO, eIO) (List.mem_of_getElem? (i := 2) rfl))) h2 h3 h4 ?_
      refine lv_astore_n (lv' := [(3, .ref q9), (0, .ref o), (1, vi v), (2, .ref a)]) hx hb dL_scoreOf_12 rfl hl (by decide) rfl (fun ls hl => ?_)
      refine jr_iconst hx hb dL_scoreOf_13 ?_
      exact je_Qi hx hb hr hlk rfl hS ⟨hcd.symm, w1, f, Or.inr ⟨by omega, hC⟩, hP, hD⟩ dL_scoreOf_14
    · refine vx_catch (name := eNS) hown [xe (0, 9, 12, 92)] (xe (0, 9, 15, 48)) [] (htb.trans rfl) (List.forall_mem_cons.mpr ⟨Or.inr ⟨(show (92 : Nat) ≠ 0 by decide), _, htl _ wd_40_2, hKK.1.2.2.2.2.2.1 (eNS, eIO) (List.mem_of_getElem? (i := 7) rfl)⟩, fun _ h => nomatch h⟩) rfl (show (48 : Nat) ≠ 0 by decide) (htl _ wd_14_19) (va_Nw.use rfl (hKK.1.2.2.1 (eNS, eNS) (List.mem_of_getElem? (i := 5) rfl))) h2 h3 h4 ?_
      refine lv_astore_n (lv' := [(3, .ref q9), (0, .ref o), (1, vi v), (2, .ref a)]) hx hb dL_scoreOf_15 rfl hl (by decide) rfl (fun ls hl => ?_)
      refine jr_iconst hx hb dL_scoreOf_16 ?_
      exact je_Qi hx hb hr hlk rfl hS ⟨hcd.symm, w1, f, Or.inr ⟨by omega, hC⟩, hP, hD⟩ dL_scoreOf_17
  · intro v9 H1 L w1 hv9 hC hP hD hS
    obtain ⟨z9, rfl, hcd, hz9⟩ := hv9
    subst hz9
    refine lv_i2l hx hb dL_scoreOf_7 rfl ?_
    refine va_last hx hb hKJ hP hD hS 0 0 rfl rfl (jI_in (by omega) (by omega) (by omega)) dL_scoreOf_8 (fun H locs hP hD hS => ?_)
    refine lv_goto (tgt := 18) hx hb dL_scoreOf_9 (by decide) ?_
    refine jr_iconst hx hb dL_scoreOf_18 ?_
    exact je_Qi hx hb hr hlk rfl hS ⟨hcd.symm, w1, _, Or.inl ⟨hcd, hC, if_pos rfl⟩, hP, hD⟩ dL_scoreOf_19
set_option maxHeartbeats 4000000 in
set_option maxRecDepth 100000 in
theorem m_L_segmentLength (l : Launch) (hsT : l.stackTraces = false) (g : GT) (cj cd : ClassId) (o a : Nat) (f : Nat → Int64) (S : SGM) (W9 : va_W) (hCW : CW g o S W9) (sz : Nat) (v : Int) (hv : jR v) : Met l yL_segmentLength (.codeWith yL_segmentLength cL_segmentLength 4 (some .int) [(0, 9, 12, 92)] :: WSL) (rmm 8 1 6) (jPh g cj cd [.ref o, vi v, .ref a] (fun H => H.size = sz ∧ PP g (aJ cj a f :: W9) H ∧ va_D (fun q => gb g ≤ q) (aJ cj a f :: W9))) (jQi (fun z H1 => z = (cdS S v) ∧ ∃ (w1 : va_W) (f1 : Nat → Int64), (((cdS S v) = 0 ∧ CW g o S w1 ∧ f1 0 = (jI (((sg S v).1.length : Int))).toInt64) ∨ (¬ (cdS S v) = 0 ∧ CW g o S w1)) ∧ PP g (aJ cj a f1 :: w1) H1 ∧ va_D (va_A (aJ cj a f :: W9) sz) (aJ cj a f1 :: w1)) (va_A (aJ cj a f :: W9) sz)) 1 6 (va_A (aJ cj a f :: W9) sz) := by
  refine jh_M (by decide) (Nat.le_of_ble_eq_true rfl) ?_
  intro p e s m below meth c hx hb hr hml hown htl hlk htb hKK hKJ hpre ls hl
  have hown : s.vm.findClass RL = some m.cls := hown
  obtain ⟨hsz, hP, hD0⟩ := hpre
  subst hsz
  have hD : va_D (va_A (aJ cj a f :: W9) s.heap.size) (aJ cj a f :: W9) := hD0.self
  have hA : ∀ q, s.heap.size ≤ q → (va_A (aJ cj a f :: W9) s.heap.size) q := fun q h => Or.inr h
  generalize hAe : va_A (aJ cj a f :: W9) s.heap.size = A at hD hA ⊢
  have hPW : PP g W9 s.heap := hP.mem fun q h => List.mem_cons_of_mem _ h
  have hDW : va_D (fun q => gb g ≤ q) W9 := (hD0.perm (List.perm_append_singleton _ W9).symm).left
  have hl : lv_has ls 4 [(0, .ref o), (1, vi v), (2, .ref a)] := hl
  refine lv_aload_n hx hb dL_segmentLength_0 rfl (lv_at hl 2 rfl) ?_
  refine jr_iconst hx hb dL_segmentLength_1 ?_
  refine lv_aload_n hx hb dL_segmentLength_2 rfl (lv_at hl 0 rfl) ?_
  refine lv_iload_n hx hb dL_segmentLength_3 rfl (lv_at hl 1 rfl) ?_
  refine jh_Si (vx_runV (As := [vi v]) (rest := [vi 0, .ref a]) ⟨hx, hb, hml, hown, htl⟩ (m_X10_segmentLength l hsT g o S W9 hCW v hv) (cwV 1 htl lk_L_104 rfl rfl rfl cwV_X10_segmentLength ⟨Nat.le_of_ble_eq_true rfl, Nat.le_of_ble_eq_true rfl⟩) (jp_V hKK (va_S.rf (A := jN)) jNb (CW.recv hKK hCW hPW) hPW) rfl rfl hl.1 rfl (lv_room (Nat.le_of_ble_eq_true rfl)) dL_segmentLength_4 ⟨Nat.le_of_ble_eq_true rfl, Nat.le_of_ble_eq_true rfl⟩) hCW hP hD ?_ ?_
  · intro E ce q9 H1 L w1 hE hC hP hD hS h2 h3 h4
    rcases hE with ⟨rfl, hcd⟩
    · refine vx_catch (name := eIO) hown [] (xe (0, 9, 12, 92)) [] (htb.trans rfl) (fun _ h => nomatch h) rfl (show (92 : Nat) ≠ 0 by decide) (htl _ wd_40_2) (va_Nw.use rfl (hKK.1.2.2.1 (eIO, eIO) (List.mem_of_getElem? (i := 2) rfl))) h2 h3 h4 ?_
      refine lv_astore_n (lv' := [(3, .ref q9), (0, .ref o), (1, vi v), (2, .ref a)]) hx hb dL_segmentLength_12 rfl hl (by decide) rfl (fun ls hl => ?_)
      refine jr_iconst hx hb dL_segmentLength_13 ?_
      exact je_Qi hx hb hr hlk rfl hS ⟨hcd.symm, w1, f, Or.inr ⟨by omega, hC⟩, hP, hD⟩ dL_segmentLength_14
  · intro v9 H1 L w1 hv9 hC hP hD hS
    obtain ⟨z9, rfl, hcd, hz9⟩ := hv9
    subst hz9
    refine lv_i2l hx hb dL_segmentLength_7 rfl ?_
    refine va_last hx hb hKJ hP hD hS 0 0 rfl rfl (jI_in (by omega) (by omega) (by omega)) dL_segmentLength_8 (fun H locs hP hD hS => ?_)
    refine lv_goto (tgt := 15) hx hb dL_segmentLength_9 (by decide) ?_
    refine jr_iconst hx hb dL_segmentLength_15 ?_
    exact je_Qi hx hb hr hlk rfl hS ⟨hcd.symm, w1, _, Or.inl ⟨hcd, hC, if_pos rfl⟩, hP, hD⟩ dL_segmentLength_16
set_option maxHeartbeats 4000000 in
set_option maxRecDepth 100000 in
theorem m_L_segmentToken (l : Launch) (hsT : l.stackTraces = false) (g : GT) (cj cd : ClassId) (o a : Nat) (f : Nat → Int64) (S : SGM) (W9 : va_W) (hCW : CW g o S W9) (sz : Nat) (v : Int) (hv : jR v) (k : Int) (hk : jR k) : Met l yL_segmentToken (.codeWith yL_segmentToken cL_segmentToken 5 (some .int) [(0, 10, 13, 92)] :: WSL) (rmm 8 2 12) (jPh g cj cd [.ref o, vi v, vi k, .ref a] (fun H => H.size = sz ∧ PP g (aJ cj a f :: W9) H ∧ va_D (fun q => gb g ≤ q) (aJ cj a f :: W9))) (jQi (fun z H1 => z = (cdSk S v k) ∧ ∃ (w1 : va_W) (f1 : Nat → Int64), (((cdSk S v k) = 0 ∧ CW g o S w1 ∧ f1 0 = (jI (vl (tAt (sg S v).1 k))).toInt64) ∨ (¬ (cdSk S v k) = 0 ∧ CW g o S w1)) ∧ PP g (aJ cj a f1 :: w1) H1 ∧ va_D (va_A (aJ cj a f :: W9) sz) (aJ cj a f1 :: w1)) (va_A (aJ cj a f :: W9) sz)) 2 12 (va_A (aJ cj a f :: W9) sz) := by
  refine jh_M (by decide) (Nat.le_of_ble_eq_true rfl) ?_
  intro p e s m below meth c hx hb hr hml hown htl hlk htb hKK hKJ hpre ls hl
  have hown : s.vm.findClass RL = some m.cls := hown
  obtain ⟨hsz, hP, hD0⟩ := hpre
  subst hsz
  have hD : va_D (va_A (aJ cj a f :: W9) s.heap.size) (aJ cj a f :: W9) := hD0.self
  have hA : ∀ q, s.heap.size ≤ q → (va_A (aJ cj a f :: W9) s.heap.size) q := fun q h => Or.inr h
  generalize hAe : va_A (aJ cj a f :: W9) s.heap.size = A at hD hA ⊢
  have hPW : PP g W9 s.heap := hP.mem fun q h => List.mem_cons_of_mem _ h
  have hDW : va_D (fun q => gb g ≤ q) W9 := (hD0.perm (List.perm_append_singleton _ W9).symm).left
  have hl : lv_has ls 5 [(0, .ref o), (1, vi v), (2, vi k), (3, .ref a)] := hl
  refine lv_aload_n hx hb dL_segmentToken_0 rfl (lv_at hl 3 rfl) ?_
  refine jr_iconst hx hb dL_segmentToken_1 ?_
  refine lv_aload_n hx hb dL_segmentToken_2 rfl (lv_at hl 0 rfl) ?_
  refine lv_iload_n hx hb dL_segmentToken_3 rfl (lv_at hl 1 rfl) ?_
  refine lv_iload_n hx hb dL_segmentToken_4 rfl (lv_at hl 2 rfl) ?_
  refine jh_Si (vx_runV (As := [vi v, vi k]) (rest := [vi 0, .ref a]) ⟨hx, hb, hml, hown, htl⟩ (m_X10_segmentToken l hsT g o S W9 hCW v hv k hk) (cwV 2 htl lk_L_107 rfl rfl rfl cwV_X10_segmentToken ⟨Nat.le_of_ble_eq_true rfl, Nat.le_of_ble_eq_true rfl⟩) (jp_V hKK (va_S.rf (A := jN)) jNb (CW.recv hKK hCW hPW) hPW) rfl rfl hl.1 rfl (lv_room (Nat.le_of_ble_eq_true rfl)) dL_segmentToken_5 ⟨Nat.le_of_ble_eq_true rfl, Nat.le_of_ble_eq_true rfl⟩) hCW hP hD ?_ ?_
  · intro E ce q9 H1 L w1 hE hC hP hD hS h2 h3 h4
    rcases hE with ⟨rfl, hcd⟩
    · refine vx_catch (name := eIO) hown [] (xe (0, 10, 13, 92)) [] (htb.trans rfl) (fun _ h => nomatch h) rfl (show (92 : Nat) ≠ 0 by decide) (htl _ wd_40_2) (va_Nw.use rfl (hKK.1.2.2.1 (eIO, eIO) (List.mem_of_getElem? (i := 2) rfl))) h2 h3 h4 ?_
      refine lv_astore (lv' := [(4, .ref q9), (0, .ref o), (1, vi v), (2, vi k), (3, .ref a)]) hx hb dL_segmentToken_13 hl (by decide) rfl (fun ls hl => ?_)
      refine jr_iconst hx hb dL_segmentToken_15 ?_
      exact je_Qi hx hb hr hlk rfl hS ⟨hcd.symm, w1, f, Or.inr ⟨by omega, hC⟩, hP, hD⟩ dL_segmentToken_16
  · intro v9 H1 L w1 hv9 hC hP hD hS
    obtain ⟨z9, rfl, hcd, hz9⟩ := hv9
    subst hz9
    refine lv_i2l hx hb dL_segmentToken_8 rfl ?_
    refine va_last hx hb hKJ hP hD hS 0 0 rfl rfl (jI_in (by omega) (by omega) (by omega)) dL_segmentToken_9 (fun H locs hP hD hS => ?_)
    refine lv_goto (tgt := 17) hx hb dL_segmentToken_10 (by decide) ?_
    refine jr_iconst hx hb dL_segmentToken_17 ?_
    exact je_Qi hx hb hr hlk rfl hS ⟨hcd.symm, w1, _, Or.inl ⟨hcd, hC, if_pos rfl⟩, hP, hD⟩ dL_segmentToken_18
set_option maxHeartbeats 4000000 in
set_option maxRecDepth 100000 in
theorem m_L_targetLength (l : Launch) (hsT : l.stackTraces = false) (g : GT) (cj cd : ClassId) (o a : Nat) (f : Nat → Int64) (S : SGM) (W9 : va_W) (hCW : CW g o S W9) (sz : Nat) (v : Int) (hv : jR v) : Met l yL_targetLength (.codeWith yL_targetLength cL_targetLength 4 (some .int) [(0, 9, 12, 92), (0, 9, 15, 48)] :: WSL) (rmm 9 2 12) (jPh g cj cd [.ref o, vi v, .ref a] (fun H => H.size = sz ∧ PP g (aJ cj a f :: W9) H ∧ va_D (fun q => gb g ≤ q) (aJ cj a f :: W9))) (jQi (fun z H1 => z = (cdST S v) ∧ ∃ (w1 : va_W) (f1 : Nat → Int64), (((cdST S v) = 0 ∧ CW g o S w1 ∧ f1 0 = (jI (((sg S v).2.1.length : Int))).toInt64) ∨ (¬ (cdST S v) = 0 ∧ CW g o S w1)) ∧ PP g (aJ cj a f1 :: w1) H1 ∧ va_D (va_A (aJ cj a f :: W9) sz) (aJ cj a f1 :: w1)) (va_A (aJ cj a f :: W9) sz)) 2 12 (va_A (aJ cj a f :: W9) sz) := by
  refine jh_M (by decide) (Nat.le_of_ble_eq_true rfl) ?_
  intro p e s m below meth c hx hb hr hml hown htl hlk htb hKK hKJ hpre ls hl
  have hown : s.vm.findClass RL = some m.cls := hown
  obtain ⟨hsz, hP, hD0⟩ := hpre
  subst hsz
  have hD : va_D (va_A (aJ cj a f :: W9) s.heap.size) (aJ cj a f :: W9) := hD0.self
  have hA : ∀ q, s.heap.size ≤ q → (va_A (aJ cj a f :: W9) s.heap.size) q := fun q h => Or.inr h
  generalize hAe : va_A (aJ cj a f :: W9) s.heap.size = A at hD hA ⊢
  have hPW : PP g W9 s.heap := hP.mem fun q h => List.mem_cons_of_mem _ h
  have hDW : va_D (fun q => gb g ≤ q) W9 := (hD0.perm (List.perm_append_singleton _ W9).symm).left
  have hl : lv_has ls 4 [(0, .ref o), (1, vi v), (2, .ref a)] := hl
  refine lv_aload_n hx hb dL_targetLength_0 rfl (lv_at hl 2 rfl) ?_
  refine jr_iconst hx hb dL_targetLength_1 ?_
  refine lv_aload_n hx hb dL_targetLength_2 rfl (lv_at hl 0 rfl) ?_
  refine lv_iload_n hx hb dL_targetLength_3 rfl (lv_at hl 1 rfl) ?_
  refine jh_Si (vx_runV (As := [vi v]) (rest := [vi 0, .ref a]) ⟨hx, hb, hml, hown, htl⟩ (m_X10_targetLength l hsT g o S W9 hCW v hv) (cwV 1 htl lk_L_110 rfl rfl rfl cwV_X10_targetLength ⟨Nat.le_of_ble_eq_true rfl, Nat.le_of_ble_eq_true rfl⟩) (jp_V hKK (va_S.rf (A := jN)) jNb (CW.recv hKK hCW hPW) hPW) rfl rfl hl.1 rfl (lv_room (Nat.le_of_ble_eq_true rfl)) dL_targetLength_4 ⟨Nat.le_of_ble_eq_true rfl, Nat.le_of_ble_eq_true rfl⟩) hCW hP hD ?_ ?_
  · intro E ce q9 H1 L w1 hE hC hP hD hS h2 h3 h4
    rcases hE with ⟨rfl, hcd⟩ | ⟨rfl, hcd⟩
    · refine vx_catch (name := eIO) hown [] (xe (0, 9, 12, 92)) [xe (0, 9, 15, 48)] (htb.trans rfl) (fun _ h => nomatch h) rfl (show (92 : Nat) ≠ 0 by decide) (htl _ wd_40_2) (va_Nw.use rfl (hKK.1.2.2.1 (eIO, eIO) (List.mem_of_getElem? (i := 2) rfl))) h2 h3 h4 ?_
      refine lv_astore_n (lv' := [(3, .ref q9), (0, .ref o), (1, vi v), (2, .ref a)]) hx hb dL_targetLength_12 rfl hl (by decide) rfl (fun ls hl => ?_)
      refine jr_iconst hx hb dL_targetLength_13 ?_
      exact je_Qi hx hb hr hlk rfl hS ⟨hcd.symm, w1, f, Or.inr ⟨by omega, hC⟩, hP, hD⟩ dL_targetLength_14
    · refine vx_catch (name := eNS) hown [xe (0, 9, 12, 92)] (xe (0, 9, 15, 48)) [] (htb.trans rfl) (List.forall_mem_cons.mpr ⟨Or.inr ⟨(show (92 : Nat) ≠ 0 by decide), _, htl _ wd_40_2, hKK.1.2.2.2.2.2.1 (eNS, eIO) (List.mem_of_getElem? (i := 7) rfl)⟩, fun _ h => nomatch h⟩) rfl (show (48 : Nat) ≠ 0 by decide) (htl _ wd_14_19) (va_Nw.use rfl (hKK.1.2.2.1 (eNS, eNS) (List.mem_of_getElem? (i := 5) rfl))) h2 h3 h4 ?_
      refine lv_astore_n (lv' := [(3, .ref q9), (0, .ref o), (1, vi v), (2, .ref a)]) hx hb dL_targetLength_15 rfl hl (by decide) rfl (fun ls hl => ?_)
      refine jr_iconst hx hb dL_targetLength_16 ?_
      exact je_Qi hx hb hr hlk rfl hS ⟨hcd.symm, w1, f, Or.inr ⟨by omega, hC⟩, hP, hD⟩ dL_targetLength_17
  · intro v9 H1 L w1 hv9 hC hP hD hS
    obtain ⟨z9, rfl, hcd, hz9⟩ := hv9
    subst hz9
    refine lv_i2l hx hb dL_targetLength_7 rfl ?_
    refine va_last hx hb hKJ hP hD hS 0 0 rfl rfl (jI_in (by omega) (by omega) (by omega)) dL_targetLength_8 (fun H locs hP hD hS => ?_)
    refine lv_goto (tgt := 18) hx hb dL_targetLength_9 (by decide) ?_
    refine jr_iconst hx hb dL_targetLength_18 ?_
    exact je_Qi hx hb hr hlk rfl hS ⟨hcd.symm, w1, _, Or.inl ⟨hcd, hC, if_pos rfl⟩, hP, hD⟩ dL_targetLength_19
set_option maxHeartbeats 4000000 in
set_option maxRecDepth 100000 in
theorem m_L_targetToken (l : Launch) (hsT : l.stackTraces = false) (g : GT) (cj cd : ClassId) (o a : Nat) (f : Nat → Int64) (S : SGM) (W9 : va_W) (hCW : CW g o S W9) (sz : Nat) (v : Int) (hv : jR v) (k : Int) (hk : jR k) : Met l yL_targetToken (.codeWith yL_targetToken cL_targetToken 5 (some .int) [(0, 10, 13, 92), (0, 10, 17, 48)] :: WSL) (rmm 10 3 18) (jPh g cj cd [.ref o, vi v, vi k, .ref a] (fun H => H.size = sz ∧ PP g (aJ cj a f :: W9) H ∧ va_D (fun q => gb g ≤ q) (aJ cj a f :: W9))) (jQi (fun z H1 => z = (cdTk S v k) ∧ ∃ (w1 : va_W) (f1 : Nat → Int64), (((cdTk S v k) = 0 ∧ CW g o S w1 ∧ f1 0 = (jI (vl ((sg S v).2.1.getD k.toNat 0))).toInt64) ∨ (¬ (cdTk S v k) = 0 ∧ CW g o S w1)) ∧ PP g (aJ cj a f1 :: w1) H1 ∧ va_D (va_A (aJ cj a f :: W9) sz) (aJ cj a f1 :: w1)) (va_A (aJ cj a f :: W9) sz)) 3 18 (va_A (aJ cj a f :: W9) sz) := by
  refine jh_M (by decide) (Nat.le_of_ble_eq_true rfl) ?_
  intro p e s m below meth c hx hb hr hml hown htl hlk htb hKK hKJ hpre ls hl
  have hown : s.vm.findClass RL = some m.cls := hown
  obtain ⟨hsz, hP, hD0⟩ := hpre
  subst hsz
  have hD : va_D (va_A (aJ cj a f :: W9) s.heap.size) (aJ cj a f :: W9) := hD0.self
  have hA : ∀ q, s.heap.size ≤ q → (va_A (aJ cj a f :: W9) s.heap.size) q := fun q h => Or.inr h
  generalize hAe : va_A (aJ cj a f :: W9) s.heap.size = A at hD hA ⊢
  have hPW : PP g W9 s.heap := hP.mem fun q h => List.mem_cons_of_mem _ h
  have hDW : va_D (fun q => gb g ≤ q) W9 := (hD0.perm (List.perm_append_singleton _ W9).symm).left
  have hl : lv_has ls 5 [(0, .ref o), (1, vi v), (2, vi k), (3, .ref a)] := hl
  refine lv_aload_n hx hb dL_targetToken_0 rfl (lv_at hl 3 rfl) ?_
  refine jr_iconst hx hb dL_targetToken_1 ?_
  refine lv_aload_n hx hb dL_targetToken_2 rfl (lv_at hl 0 rfl) ?_
  refine lv_iload_n hx hb dL_targetToken_3 rfl (lv_at hl 1 rfl) ?_
  refine lv_iload_n hx hb dL_targetToken_4 rfl (lv_at hl 2 rfl) ?_
  refine jh_Si (vx_runV (As := [vi v, vi k]) (rest := [vi 0, .ref a]) ⟨hx, hb, hml, hown, htl⟩ (m_X10_targetToken l hsT g o S W9 hCW v hv k hk) (cwV 2 htl lk_L_113 rfl rfl rfl cwV_X10_targetToken ⟨Nat.le_of_ble_eq_true rfl, Nat.le_of_ble_eq_true rfl⟩) (jp_V hKK (va_S.rf (A := jN)) jNb (CW.recv hKK hCW hPW) hPW) rfl rfl hl.1 rfl (lv_room (Nat.le_of_ble_eq_true rfl)) dL_targetToken_5 ⟨Nat.le_of_ble_eq_true rfl, Nat.le_of_ble_eq_true rfl⟩) hCW hP hD ?_ ?_
  · intro E ce q9 H1 L w1 hE hC hP hD hS h2 h3 h4
    rcases hE with ⟨rfl, hcd⟩ | ⟨rfl, hcd⟩
    · refine vx_catch (name := eIO) hown [] (xe (0, 10, 13, 92)) [xe (0, 10, 17, 48)] (htb.trans rfl) (fun _ h => nomatch h) rfl (show (92 : Nat) ≠ 0 by decide) (htl _ wd_40_2) (va_Nw.use rfl (hKK.1.2.2.1 (eIO, eIO) (List.mem_of_getElem? (i := 2) rfl))) h2 h3 h4 ?_
      refine lv_astore (lv' := [(4, .ref q9), (0, .ref o), (1, vi v), (2, vi k), (3, .ref a)]) hx hb dL_targetToken_13 hl (by decide) rfl (fun ls hl => ?_)
      refine jr_iconst hx hb dL_targetToken_15 ?_
      exact je_Qi hx hb hr hlk rfl hS ⟨hcd.symm, w1, f, Or.inr ⟨by omega, hC⟩, hP, hD⟩ dL_targetToken_16
    · refine vx_catch (name := eNS) hown [xe (0, 10, 13, 92)] (xe (0, 10, 17, 48)) [] (htb.trans rfl) (List.forall_mem_cons.mpr ⟨Or.inr ⟨(show (92 : Nat) ≠ 0 by decide), _, htl _ wd_40_2, hKK.1.2.2.2.2.2.1 (eNS, eIO) (List.mem_of_getElem? (i := 7) rfl)⟩, fun _ h => nomatch h⟩) rfl (show (48 : Nat) ≠ 0 by decide) (htl _ wd_14_19) (va_Nw.use rfl (hKK.1.2.2.1 (eNS, eNS) (List.mem_of_getElem? (i := 5) rfl))) h2 h3 h4 ?_
      refine lv_astore (lv' := [(4, .ref q9), (0, .ref o), (1, vi v), (2, vi k), (3, .ref a)]) hx hb dL_targetToken_17 hl (by decide) rfl (fun ls hl => ?_)
      refine jr_iconst hx hb dL_targetToken_19 ?_
      exact je_Qi hx hb hr hlk rfl hS ⟨hcd.symm, w1, f, Or.inr ⟨by omega, hC⟩, hP, hD⟩ dL_targetToken_20
  · intro v9 H1 L w1 hv9 hC hP hD hS
    obtain ⟨z9, rfl, hcd, hz9⟩ := hv9
    subst hz9
    refine lv_i2l hx hb dL_targetToken_8 rfl ?_
    refine va_last hx hb hKJ hP hD hS 0 0 rfl rfl (jI_in (by omega) (by omega) (by omega)) dL_targetToken_9 (fun H locs hP hD hS => ?_)
    refine lv_goto (tgt := 21) hx hb dL_targetToken_10 (by decide) ?_
    refine jr_iconst hx hb dL_targetToken_21 ?_
    exact je_Qi hx hb hr hlk rfl hS ⟨hcd.symm, w1, _, Or.inl ⟨hcd, hC, if_pos rfl⟩, hP, hD⟩ dL_targetToken_22
set_option maxHeartbeats 4000000 in
set_option maxRecDepth 100000 in
theorem m_L_targetKind (l : Launch) (hsT : l.stackTraces = false) (g : GT) (cj cd : ClassId) (o a : Nat) (f : Nat → Int64) (S : SGM) (W9 : va_W) (hCW : CW g o S W9) (sz : Nat) (v : Int) (hv : jR v) (k : Int) (hk : jR k) : Met l yL_targetKind (.codeWith yL_targetKind cL_targetKind 5 (some .int) [(0, 10, 13, 92), (0, 10, 17, 48)] :: WSL) (rmm 10 3 18) (jPh g cj cd [.ref o, vi v, vi k, .ref a] (fun H => H.size = sz ∧ PP g (aJ cj a f :: W9) H ∧ va_D (fun q => gb g ≤ q) (aJ cj a f :: W9))) (jQi (fun z H1 => z = (cdTk S v k) ∧ ∃ (w1 : va_W) (f1 : Nat → Int64), (((cdTk S v k) = 0 ∧ CW g o S w1 ∧ f1 0 = (jI (ltr ((sg S v).2.1.getD k.toNat 0))).toInt64) ∨ (¬ (cdTk S v k) = 0 ∧ CW g o S w1)) ∧ PP g (aJ cj a f1 :: w1) H1 ∧ va_D (va_A (aJ cj a f :: W9) sz) (aJ cj a f1 :: w1)) (va_A (aJ cj a f :: W9) sz)) 3 18 (va_A (aJ cj a f :: W9) sz) := by
  refine jh_M (by decide) (Nat.le_of_ble_eq_true rfl) ?_
  intro p e s m below meth c hx hb hr hml hown htl hlk htb hKK hKJ hpre ls hl
  have hown : s.vm.findClass RL = some m.cls := hown
  obtain ⟨hsz, hP, hD0⟩ := hpre
  subst hsz
  have hD : va_D (va_A (aJ cj a f :: W9) s.heap.size) (aJ cj a f :: W9) := hD0.self
  have hA : ∀ q, s.heap.size ≤ q → (va_A (aJ cj a f :: W9) s.heap.size) q := fun q h => Or.inr h
  generalize hAe : va_A (aJ cj a f :: W9) s.heap.size = A at hD hA ⊢
  have hPW : PP g W9 s.heap := hP.mem fun q h => List.mem_cons_of_mem _ h
  have hDW : va_D (fun q => gb g ≤ q) W9 := (hD0.perm (List.perm_append_singleton _ W9).symm).left
  have hl : lv_has ls 5 [(0, .ref o), (1, vi v), (2, vi k), (3, .ref a)] := hl
  refine lv_aload_n hx hb dL_targetKind_0 rfl (lv_at hl 3 rfl) ?_
  refine jr_iconst hx hb dL_targetKind_1 ?_
  refine lv_aload_n hx hb dL_targetKind_2 rfl (lv_at hl 0 rfl) ?_
  refine lv_iload_n hx hb dL_targetKind_3 rfl (lv_at hl 1 rfl) ?_
  refine lv_iload_n hx hb dL_targetKind_4 rfl (lv_at hl 2 rfl) ?_
  refine jh_Si (vx_runV (As := [vi v, vi k]) (rest := [vi 0, .ref a]) ⟨hx, hb, hml, hown, htl⟩ (m_X10_targetKind l hsT g o S W9 hCW v hv k hk) (cwV 2 htl lk_L_116 rfl rfl rfl cwV_X10_targetKind ⟨Nat.le_of_ble_eq_true rfl, Nat.le_of_ble_eq_true rfl⟩) (jp_V hKK (va_S.rf (A := jN)) jNb (CW.recv hKK hCW hPW) hPW) rfl rfl hl.1 rfl (lv_room (Nat.le_of_ble_eq_true rfl)) dL_targetKind_5 ⟨Nat.le_of_ble_eq_true rfl, Nat.le_of_ble_eq_true rfl⟩) hCW hP hD ?_ ?_
  · intro E ce q9 H1 L w1 hE hC hP hD hS h2 h3 h4
    rcases hE with ⟨rfl, hcd⟩ | ⟨rfl, hcd⟩
    · refine vx_catch (name := eIO) hown [] (xe (0, 10, 13, 92)) [xe (0, 10, 17, 48)] (htb.trans rfl) (fun _ h => nomatch h) rfl (show (92 : Nat) ≠ 0 by decide) (htl _ wd_40_2) (va_Nw.use rfl (hKK.1.2.2.1 (eIO, eIO) (List.mem_of_getElem? (i := 2) rfl))) h2 h3 h4 ?_
      refine lv_astore (lv' := [(4, .ref q9), (0, .ref o), (1, vi v), (2, vi k), (3, .ref a)]) hx hb dL_targetKind_13 hl (by decide) rfl (fun ls hl => ?_)
      refine jr_iconst hx hb dL_targetKind_15 ?_
      exact je_Qi hx hb hr hlk rfl hS ⟨hcd.symm, w1, f, Or.inr ⟨by omega, hC⟩, hP, hD⟩ dL_targetKind_16
    · refine vx_catch (name := eNS) hown [xe (0, 10, 13, 92)] (xe (0, 10, 17, 48)) [] (htb.trans rfl) (List.forall_mem_cons.mpr ⟨Or.inr ⟨(show (92 : Nat) ≠ 0 by decide), _, htl _ wd_40_2, hKK.1.2.2.2.2.2.1 (eNS, eIO) (List.mem_of_getElem? (i := 7) rfl)⟩, fun _ h => nomatch h⟩) rfl (show (48 : Nat) ≠ 0 by decide) (htl _ wd_14_19) (va_Nw.use rfl (hKK.1.2.2.1 (eNS, eNS) (List.mem_of_getElem? (i := 5) rfl))) h2 h3 h4 ?_
      refine lv_astore (lv' := [(4, .ref q9), (0, .ref o), (1, vi v), (2, vi k), (3, .ref a)]) hx hb dL_targetKind_17 hl (by decide) rfl (fun ls hl => ?_)
      refine jr_iconst hx hb dL_targetKind_19 ?_
      exact je_Qi hx hb hr hlk rfl hS ⟨hcd.symm, w1, f, Or.inr ⟨by omega, hC⟩, hP, hD⟩ dL_targetKind_20
  · intro v9 H1 L w1 hv9 hC hP hD hS
    obtain ⟨z9, rfl, hcd, hz9⟩ := hv9
    subst hz9
    refine lv_i2l hx hb dL_targetKind_8 rfl ?_
    refine va_last hx hb hKJ hP hD hS 0 0 rfl rfl (jI_in (by omega) (by omega) (by omega)) dL_targetKind_9 (fun H locs hP hD hS => ?_)
    refine lv_goto (tgt := 21) hx hb dL_targetKind_10 (by decide) ?_
    refine jr_iconst hx hb dL_targetKind_21 ?_
    exact je_Qi hx hb hr hlk rfl hS ⟨hcd.symm, w1, _, Or.inl ⟨hcd, hC, if_pos rfl⟩, hP, hD⟩ dL_targetKind_22
set_option maxHeartbeats 4000000 in
set_option maxRecDepth 100000 in
theorem m_L_filledShare (l : Launch) (hsT : l.stackTraces = false) (g : GT) (cj cd : ClassId) (o a : Nat) (f : Nat → UInt64) (S : SGM) (W9 : va_W) (hCW : CW g o S W9) (sz : Nat) : Met l yL_filledShare (.codeWith yL_filledShare cL_filledShare 3 (some .int) [(0, 8, 11, 124)] :: WSL) (rmm 7 1 6) (jPh g cj cd [.ref o, .ref a] (fun H => H.size = sz ∧ PP g (aD1 cd a f :: W9) H ∧ va_D (fun q => gb g ≤ q) (aD1 cd a f :: W9))) (jQi (fun z H1 => z = (cd1 (¬ nS S = 0)) ∧ ∃ (w1 : va_W) (f1 : Nat → UInt64), (((cd1 (¬ nS S = 0)) = 0 ∧ CW g o S w1 ∧ f1 0 = FP.f2d (shr (cne (sS S) (nS S)) (nS S : Int))) ∨ (¬ (cd1 (¬ nS S = 0)) = 0 ∧ CW g o S w1)) ∧ PP g (aD1 cd a f1 :: w1) H1 ∧ va_D (va_A (aD1 cd a f :: W9) sz) (aD1 cd a f1 :: w1)) (va_A (aD1 cd a f :: W9) sz)) 1 6 (va_A (aD1 cd a f :: W9) sz) := by
  refine jh_M (by decide) (Nat.le_of_ble_eq_true rfl) ?_
  intro p e s m below meth c hx hb hr hml hown htl hlk htb hKK hKJ hpre ls hl
  have hown : s.vm.findClass RL = some m.cls := hown
  obtain ⟨hsz, hP, hD0⟩ := hpre
  subst hsz
  have hD : va_D (va_A (aD1 cd a f :: W9) s.heap.size) (aD1 cd a f :: W9) := hD0.self
  have hA : ∀ q, s.heap.size ≤ q → (va_A (aD1 cd a f :: W9) s.heap.size) q := fun q h => Or.inr h
  generalize hAe : va_A (aD1 cd a f :: W9) s.heap.size = A at hD hA ⊢
  have hPW : PP g W9 s.heap := hP.mem fun q h => List.mem_cons_of_mem _ h
  have hDW : va_D (fun q => gb g ≤ q) W9 := (hD0.perm (List.perm_append_singleton _ W9).symm).left
  have hl : lv_has ls 3 [(0, .ref o), (1, .ref a)] := hl
  refine lv_aload_n hx hb dL_filledShare_0 rfl (lv_at hl 1 rfl) ?_
  refine jr_iconst hx hb dL_filledShare_1 ?_
  refine lv_aload_n hx hb dL_filledShare_2 rfl (lv_at hl 0 rfl) ?_
  refine jh_Sf (vx_runV (As := []) (rest := [vi 0, .ref a]) ⟨hx, hb, hml, hown, htl⟩ (m_X10_filledShare l hsT g o S W9 hCW ) (cwV 0 htl lk_L_120 rfl rfl rfl cwV_X10_filledShare ⟨Nat.le_of_ble_eq_true rfl, Nat.le_of_ble_eq_true rfl⟩) (jp_V hKK (va_S.rf (A := jN)) jNb (CW.recv hKK hCW hPW) hPW) rfl rfl hl.1 rfl (lv_room (Nat.le_of_ble_eq_true rfl)) dL_filledShare_3 ⟨Nat.le_of_ble_eq_true rfl, Nat.le_of_ble_eq_true rfl⟩) hCW hP hD ?_ ?_
  · intro E ce q9 H1 L w1 hE hC hP hD hS h2 h3 h4
    rcases hE with ⟨rfl, hcd⟩
    · refine vx_catch (name := eAE) hown [] (xe (0, 8, 11, 124)) [] (htb.trans rfl) (fun _ h => nomatch h) rfl (show (124 : Nat) ≠ 0 by decide) (htl _ wd_47_6) (va_Nw.use rfl (hKK.1.2.2.1 (eAE, eAE) (List.mem_of_getElem? (i := 3) rfl))) h2 h3 h4 ?_
      refine lv_astore_n (lv' := [(2, .ref q9), (0, .ref o), (1, .ref a)]) hx hb dL_filledShare_11 rfl hl (by decide) rfl (fun ls hl => ?_)
      refine jr_iconst hx hb dL_filledShare_12 ?_
      exact je_Qi hx hb hr hlk rfl hS ⟨hcd.symm, w1, f, Or.inr ⟨by omega, hC⟩, hP, hD⟩ dL_filledShare_13
  · intro v9 H1 L w1 hv9 hC hP hD hS
    obtain ⟨z9, rfl, hcd, hz9⟩ := hv9
    subst hz9
    have h60 := (CW.n60 hCW).2
    have hcb := cne_b (sS S) (nS S)
    have hnz : ¬ nS S = 0 := fun q => by unfold cd1 at hcd; rw [if_pos (fun h => h q)] at hcd; exact absurd hcd (by decide)
    refine lv_f2d hx hb dL_filledShare_6 (shr_ok ⟨by omega, by omega⟩ ⟨by omega, by omega⟩).2 ?_
    refine va_dast hx hb hKJ hP hD hS 0 1 rfl rfl (jI_in (by omega) (by omega) (by omega)) dL_filledShare_7 (fun H locs hP hD hS => ?_)
    refine lv_goto (tgt := 14) hx hb dL_filledShare_8 (by decide) ?_
    refine jr_iconst hx hb dL_filledShare_14 ?_
    exact je_Qi hx hb hr hlk rfl hS ⟨hcd.symm, w1, _, Or.inl ⟨hcd, hC, if_pos rfl⟩, hP, hD⟩ dL_filledShare_15
set_option maxHeartbeats 4000000 in
set_option maxRecDepth 100000 in
theorem m_L_meanLikeness (l : Launch) (hsT : l.stackTraces = false) (g : GT) (cj cd : ClassId) (o a : Nat) (f : Nat → UInt64) (S : SGM) (W9 : va_W) (hCW : CW g o S W9) (sz : Nat) : Met l yL_meanLikeness (.codeWith yL_meanLikeness cL_meanLikeness 3 (some .int) [(0, 7, 10, 15), (0, 7, 13, 124)] :: WSL) (rmm 10 2 12) (jPh g cj cd [.ref o, .ref a] (fun H => H.size = sz ∧ PP g (aD1 cd a f :: W9) H ∧ va_D (fun q => gb g ≤ q) (aD1 cd a f :: W9))) (jQi (fun z H1 => z = (cdMean S) ∧ ∃ (w1 : va_W) (f1 : Nat → UInt64), (((cdMean S) = 0 ∧ CW g o (S) w1 ∧ f1 0 = mnl (slv S.2.2.2.1 S.1 (uS S) (nU S)) (clv (uS S) (nU S))) ∨ (¬ (cdMean S) = 0 ∧ CW g o S w1)) ∧ PP g (aD1 cd a f1 :: w1) H1 ∧ va_D (va_A (aD1 cd a f :: W9) sz) (aD1 cd a f1 :: w1)) (va_A (aD1 cd a f :: W9) sz)) 2 12 (va_A (aD1 cd a f :: W9) sz) := by
  refine jh_M (by decide) (Nat.le_of_ble_eq_true rfl) ?_
  intro p e s m below meth c hx hb hr hml hown htl hlk htb hKK hKJ hpre ls hl
  have hown : s.vm.findClass RL = some m.cls := hown
  obtain ⟨hsz, hP, hD0⟩ := hpre
  subst hsz
  have hD : va_D (va_A (aD1 cd a f :: W9) s.heap.size) (aD1 cd a f :: W9) := hD0.self
  have hA : ∀ q, s.heap.size ≤ q → (va_A (aD1 cd a f :: W9) s.heap.size) q := fun q h => Or.inr h
  generalize hAe : va_A (aD1 cd a f :: W9) s.heap.size = A at hD hA ⊢
  have hPW : PP g W9 s.heap := hP.mem fun q h => List.mem_cons_of_mem _ h
  have hDW : va_D (fun q => gb g ≤ q) W9 := (hD0.perm (List.perm_append_singleton _ W9).symm).left
  have hl : lv_has ls 3 [(0, .ref o), (1, .ref a)] := hl
  refine lv_aload_n hx hb dL_meanLikeness_0 rfl (lv_at hl 1 rfl) ?_
  refine jr_iconst hx hb dL_meanLikeness_1 ?_
  refine lv_aload_n hx hb dL_meanLikeness_2 rfl (lv_at hl 0 rfl) ?_
  refine jh_Qd (vx_runV (As := []) (rest := [vi 0, .ref a]) ⟨hx, hb, hml, hown, htl⟩ (m_X10_meanLikeness l hsT g o S W9 hCW s.heap.size) (cwV 0 htl lk_L_126 rfl rfl rfl cwV_X10_meanLikeness ⟨Nat.le_of_ble_eq_true rfl, Nat.le_of_ble_eq_true rfl⟩) (jp_V hKK (va_S.rf (A := jN)) jNb (CW.recv hKK hCW hPW) ⟨rfl, hPW, hDW⟩) rfl rfl hl.1 rfl (lv_room (Nat.le_of_ble_eq_true rfl)) dL_meanLikeness_3 ⟨Nat.le_of_ble_eq_true rfl, Nat.le_of_ble_eq_true rfl⟩) hCW hP hD hA ?_ ?_
  · intro E ce q9 H1 L w1 hE hC hP hD hS h2 h3 h4
    rcases hE with ⟨rfl, hcd⟩ | ⟨rfl, hcd⟩
    · refine vx_catch (name := eIS) hown [] (xe (0, 7, 10, 15)) [xe (0, 7, 13, 124)] (htb.trans rfl) (fun _ h => nomatch h) rfl (show (15 : Nat) ≠ 0 by decide) (htl _ wd_6_19) (va_Nw.use rfl (hKK.1.2.2.1 (eIS, eIS) (List.mem_of_getElem? (i := 1) rfl))) h2 h3 h4 ?_
      refine lv_astore_n (lv' := [(2, .ref q9), (0, .ref o), (1, .ref a)]) hx hb dL_meanLikeness_10 rfl hl (by decide) rfl (fun ls hl => ?_)
      refine jr_iconst hx hb dL_meanLikeness_11 ?_
      exact je_Qi hx hb hr hlk rfl hS ⟨hcd.symm, w1, f, Or.inr ⟨by omega, hC⟩, hP, hD⟩ dL_meanLikeness_12
    · refine vx_catch (name := eAE) hown [xe (0, 7, 10, 15)] (xe (0, 7, 13, 124)) [] (htb.trans rfl) (List.forall_mem_cons.mpr ⟨Or.inr ⟨(show (15 : Nat) ≠ 0 by decide), _, htl _ wd_6_19, hKK.1.2.2.2.2.2.1 (eAE, eIS) (List.mem_of_getElem? (i := 8) rfl)⟩, fun _ h => nomatch h⟩) rfl (show (124 : Nat) ≠ 0 by decide) (htl _ wd_47_6) (va_Nw.use rfl (hKK.1.2.2.1 (eAE, eAE) (List.mem_of_getElem? (i := 3) rfl))) h2 h3 h4 ?_
      refine lv_astore_n (lv' := [(2, .ref q9), (0, .ref o), (1, .ref a)]) hx hb dL_meanLikeness_13 rfl hl (by decide) rfl (fun ls hl => ?_)
      refine jr_iconst hx hb dL_meanLikeness_14 ?_
      exact je_Qi hx hb hr hlk rfl hS ⟨hcd.symm, w1, f, Or.inr ⟨by omega, hC⟩, hP, hD⟩ dL_meanLikeness_15
  · intro v9 H1 L w1 hv9 hC hP hD hS
    obtain ⟨z9, rfl, hcd, hz9⟩ := hv9
    subst hz9
    refine va_dast hx hb hKJ hP hD hS 0 1 rfl rfl (jI_in (by omega) (by omega) (by omega)) dL_meanLikeness_6 (fun H locs hP hD hS => ?_)
    refine lv_goto (tgt := 16) hx hb dL_meanLikeness_7 (by decide) ?_
    refine jr_iconst hx hb dL_meanLikeness_16 ?_
    exact je_Qi hx hb hr hlk rfl hS ⟨hcd.symm, w1, _, Or.inl ⟨hcd, hC, if_pos rfl⟩, hP, hD⟩ dL_meanLikeness_17
