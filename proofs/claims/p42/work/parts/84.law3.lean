
theorem lk_L_83 : GoodIn WSL (wsV RL 83 RX10 yX10_cost (ws_ yX10_cost cX10_cost 3 (some .int))) := gd_app (List.forall_mem_cons.mpr ⟨wd_27_7, List.forall_mem_cons.mpr ⟨wd_27_8, List.forall_mem_cons.mpr ⟨wd_27_9, List.forall_mem_cons.mpr ⟨wd_1_2, fun _ h => nomatch h⟩⟩⟩⟩) (gd_ wd_27_10)
theorem cwV_X10_cost : yX10_cost.cls = RX10 ∧ yX10_cost.cls ≠ "java/lang/invoke/MethodHandle" ∧ yX10_cost.cls ≠ "java/lang/invoke/VarHandle" ∧ (parseMethodDescriptor yX10_cost.desc).map (fun d => d.parameters.length) = some 1 := by decide +kernel
theorem lk_L_136 : GoodIn WSL (va_wsS RL 136 yL_asked (ws_ yL_asked cL_asked 4 (some .int))) := gd_app (List.forall_mem_cons.mpr ⟨wd_27_4, List.forall_mem_cons.mpr ⟨wd_27_5, List.forall_mem_cons.mpr ⟨wd_8_17, fun _ h => nomatch h⟩⟩⟩) (gd_ wd_27_6)
theorem cwS_L_asked : yL_asked.cls ≠ "java/lang/invoke/MethodHandle" ∧ yL_asked.cls ≠ "java/lang/invoke/VarHandle" ∧ (parseMethodDescriptor yL_asked.desc).map (fun d => d.parameters.length) = some 4 := by decide +kernel
theorem lk_L_86 : GoodIn WSL (wsV RL 86 RX10 yX10_costFromEnds (ws_ yX10_costFromEnds cX10_costFromEnds 3 (some .int))) := gd_app (List.forall_mem_cons.mpr ⟨wd_27_17, List.forall_mem_cons.mpr ⟨wd_27_18, List.forall_mem_cons.mpr ⟨wd_27_19, List.forall_mem_cons.mpr ⟨wd_1_2, fun _ h => nomatch h⟩⟩⟩⟩) (gd_ wd_27_20)
theorem cwV_X10_costFromEnds : yX10_costFromEnds.cls = RX10 ∧ yX10_costFromEnds.cls ≠ "java/lang/invoke/MethodHandle" ∧ yX10_costFromEnds.cls ≠ "java/lang/invoke/VarHandle" ∧ (parseMethodDescriptor yX10_costFromEnds.desc).map (fun d => d.parameters.length) = some 1 := by decide +kernel
theorem lk_L_89 : GoodIn WSL (wsV RL 89 RX10 yX10_likeness (ws_ yX10_likeness cX10_likeness 3 (some .int))) := gd_app (List.forall_mem_cons.mpr ⟨wd_28_1, List.forall_mem_cons.mpr ⟨wd_28_2, List.forall_mem_cons.mpr ⟨wd_28_3, List.forall_mem_cons.mpr ⟨wd_1_2, fun _ h => nomatch h⟩⟩⟩⟩) (gd_ wd_28_4)
theorem cwV_X10_likeness : yX10_likeness.cls = RX10 ∧ yX10_likeness.cls ≠ "java/lang/invoke/MethodHandle" ∧ yX10_likeness.cls ≠ "java/lang/invoke/VarHandle" ∧ (parseMethodDescriptor yX10_likeness.desc).map (fun d => d.parameters.length) = some 1 := by decide +kernel
theorem lk_L_92 : GoodIn WSL (wsV RL 92 RX10 yX10_missing (ws_ yX10_missing cX10_missing 3 (some .int))) := gd_app (List.forall_mem_cons.mpr ⟨wd_28_6, List.forall_mem_cons.mpr ⟨wd_28_7, List.forall_mem_cons.mpr ⟨wd_28_8, List.forall_mem_cons.mpr ⟨wd_1_2, fun _ h => nomatch h⟩⟩⟩⟩) (gd_ wd_28_9)
theorem cwV_X10_missing : yX10_missing.cls = RX10 ∧ yX10_missing.cls ≠ "java/lang/invoke/MethodHandle" ∧ yX10_missing.cls ≠ "java/lang/invoke/VarHandle" ∧ (parseMethodDescriptor yX10_missing.desc).map (fun d => d.parameters.length) = some 1 := by decide +kernel
theorem lk_L_95 : GoodIn WSL (wsV RL 95 RX10 yX10_score (ws_ yX10_score cX10_score 3 (some .int))) := gd_app (List.forall_mem_cons.mpr ⟨wd_28_11, List.forall_mem_cons.mpr ⟨wd_28_12, List.forall_mem_cons.mpr ⟨wd_28_13, List.forall_mem_cons.mpr ⟨wd_1_2, fun _ h => nomatch h⟩⟩⟩⟩) (gd_ wd_28_14)
theorem cwV_X10_score : yX10_score.cls = RX10 ∧ yX10_score.cls ≠ "java/lang/invoke/MethodHandle" ∧ yX10_score.cls ≠ "java/lang/invoke/VarHandle" ∧ (parseMethodDescriptor yX10_score.desc).map (fun d => d.parameters.length) = some 1 := by decide +kernel
theorem lk_L_98 : GoodIn WSL (wsV RL 98 RX10 yX10_sharedPairs (ws_ yX10_sharedPairs cX10_sharedPairs 3 (some .int))) := gd_app (List.forall_mem_cons.mpr ⟨wd_28_15, List.forall_mem_cons.mpr ⟨wd_28_16, List.forall_mem_cons.mpr ⟨wd_28_17, List.forall_mem_cons.mpr ⟨wd_1_2, fun _ h => nomatch h⟩⟩⟩⟩) (gd_ wd_28_18)
theorem cwV_X10_sharedPairs : yX10_sharedPairs.cls = RX10 ∧ yX10_sharedPairs.cls ≠ "java/lang/invoke/MethodHandle" ∧ yX10_sharedPairs.cls ≠ "java/lang/invoke/VarHandle" ∧ (parseMethodDescriptor yX10_sharedPairs.desc).map (fun d => d.parameters.length) = some 1 := by decide +kernel
theorem lk_L_101 : GoodIn WSL (wsV RL 101 RX10 yX10_best (ws_ yX10_best cX10_best 1 (some .int))) := gd_app (List.forall_mem_cons.mpr ⟨wd_29_11, List.forall_mem_cons.mpr ⟨wd_29_12, List.forall_mem_cons.mpr ⟨wd_29_13, List.forall_mem_cons.mpr ⟨wd_1_2, fun _ h => nomatch h⟩⟩⟩⟩) (gd_ wd_29_14)
theorem cwV_X10_best : yX10_best.cls = RX10 ∧ yX10_best.cls ≠ "java/lang/invoke/MethodHandle" ∧ yX10_best.cls ≠ "java/lang/invoke/VarHandle" ∧ (parseMethodDescriptor yX10_best.desc).map (fun d => d.parameters.length) = some 0 := by decide +kernel
theorem lk_L_104 : GoodIn WSL (wsV RL 104 RX10 yX10_bestOfAll (ws_ yX10_bestOfAll cX10_bestOfAll 1 (some .int))) := gd_app (List.forall_mem_cons.mpr ⟨wd_29_18, List.forall_mem_cons.mpr ⟨wd_29_19, List.forall_mem_cons.mpr ⟨wd_29_20, List.forall_mem_cons.mpr ⟨wd_1_2, fun _ h => nomatch h⟩⟩⟩⟩) (gd_ wd_29_21)
theorem cwV_X10_bestOfAll : yX10_bestOfAll.cls = RX10 ∧ yX10_bestOfAll.cls ≠ "java/lang/invoke/MethodHandle" ∧ yX10_bestOfAll.cls ≠ "java/lang/invoke/VarHandle" ∧ (parseMethodDescriptor yX10_bestOfAll.desc).map (fun d => d.parameters.length) = some 0 := by decide +kernel
theorem lk_L_107 : GoodIn WSL (wsV RL 107 RX10 yX10_isLive (ws_ yX10_isLive cX10_isLive 2 (some .boolean))) := gd_app (List.forall_mem_cons.mpr ⟨wd_30_2, List.forall_mem_cons.mpr ⟨wd_30_3, List.forall_mem_cons.mpr ⟨wd_30_4, List.forall_mem_cons.mpr ⟨wd_1_2, fun _ h => nomatch h⟩⟩⟩⟩) (gd_ wd_30_5)
theorem cwV_X10_isLive : yX10_isLive.cls = RX10 ∧ yX10_isLive.cls ≠ "java/lang/invoke/MethodHandle" ∧ yX10_isLive.cls ≠ "java/lang/invoke/VarHandle" ∧ (parseMethodDescriptor yX10_isLive.desc).map (fun d => d.parameters.length) = some 1 := by decide +kernel
theorem lk_L_39 : GoodIn WSL (va_wsS RL 39 yL_told (ws_ yL_told cL_told 1 (some .int))) := gd_app (List.forall_mem_cons.mpr ⟨wd_11_6, List.forall_mem_cons.mpr ⟨wd_11_7, List.forall_mem_cons.mpr ⟨wd_8_17, fun _ h => nomatch h⟩⟩⟩) (gd_ wd_11_8)
theorem cwS_L_told : yL_told.cls ≠ "java/lang/invoke/MethodHandle" ∧ yL_told.cls ≠ "java/lang/invoke/VarHandle" ∧ (parseMethodDescriptor yL_told.desc).map (fun d => d.parameters.length) = some 1 := by decide +kernel
theorem lk_L_110 : GoodIn WSL (wsV RL 110 RX10 yX10_stateOf (ws_ yX10_stateOf cX10_stateOf 2 (some .char))) := gd_app (List.forall_mem_cons.mpr ⟨wd_30_6, List.forall_mem_cons.mpr ⟨wd_30_7, List.forall_mem_cons.mpr ⟨wd_30_8, List.forall_mem_cons.mpr ⟨wd_1_2, fun _ h => nomatch h⟩⟩⟩⟩) (gd_ wd_30_9)
theorem cwV_X10_stateOf : yX10_stateOf.cls = RX10 ∧ yX10_stateOf.cls ≠ "java/lang/invoke/MethodHandle" ∧ yX10_stateOf.cls ≠ "java/lang/invoke/VarHandle" ∧ (parseMethodDescriptor yX10_stateOf.desc).map (fun d => d.parameters.length) = some 1 := by decide +kernel
theorem lk_L_114 : GoodIn WSL (wsV RL 114 RX10 yX10_unitOf (ws_ yX10_unitOf cX10_unitOf 2 (some .int))) := gd_app (List.forall_mem_cons.mpr ⟨wd_30_11, List.forall_mem_cons.mpr ⟨wd_30_12, List.forall_mem_cons.mpr ⟨wd_30_13, List.forall_mem_cons.mpr ⟨wd_1_2, fun _ h => nomatch h⟩⟩⟩⟩) (gd_ wd_30_14)
theorem cwV_X10_unitOf : yX10_unitOf.cls = RX10 ∧ yX10_unitOf.cls ≠ "java/lang/invoke/MethodHandle" ∧ yX10_unitOf.cls ≠ "java/lang/invoke/VarHandle" ∧ (parseMethodDescriptor yX10_unitOf.desc).map (fun d => d.parameters.length) = some 1 := by decide +kernel
theorem lk_L_117 : GoodIn WSL (wsV RL 117 RX10 yX10_scoreOf (ws_ yX10_scoreOf cX10_scoreOf 2 (some .int))) := gd_app (List.forall_mem_cons.mpr ⟨wd_30_20, List.forall_mem_cons.mpr ⟨wd_30_21, List.forall_mem_cons.mpr ⟨wd_30_22, List.forall_mem_cons.mpr ⟨wd_1_2, fun _ h => nomatch h⟩⟩⟩⟩) (gd_ wd_30_23)
theorem cwV_X10_scoreOf : yX10_scoreOf.cls = RX10 ∧ yX10_scoreOf.cls ≠ "java/lang/invoke/MethodHandle" ∧ yX10_scoreOf.cls ≠ "java/lang/invoke/VarHandle" ∧ (parseMethodDescriptor yX10_scoreOf.desc).map (fun d => d.parameters.length) = some 1 := by decide +kernel
theorem lk_L_120 : GoodIn WSL (wsV RL 120 RX10 yX10_segmentLength (ws_ yX10_segmentLength cX10_segmentLength 2 (some .int))) := gd_app (List.forall_mem_cons.mpr ⟨wd_31_1, List.forall_mem_cons.mpr ⟨wd_31_2, List.forall_mem_cons.mpr ⟨wd_31_3, List.forall_mem_cons.mpr ⟨wd_1_2, fun _ h => nomatch h⟩⟩⟩⟩) (gd_ wd_31_4)
theorem cwV_X10_segmentLength : yX10_segmentLength.cls = RX10 ∧ yX10_segmentLength.cls ≠ "java/lang/invoke/MethodHandle" ∧ yX10_segmentLength.cls ≠ "java/lang/invoke/VarHandle" ∧ (parseMethodDescriptor yX10_segmentLength.desc).map (fun d => d.parameters.length) = some 1 := by decide +kernel
theorem lk_L_123 : GoodIn WSL (wsV RL 123 RX10 yX10_segmentToken (ws_ yX10_segmentToken cX10_segmentToken 4 (some .int))) := gd_app (List.forall_mem_cons.mpr ⟨wd_31_5, List.forall_mem_cons.mpr ⟨wd_31_6, List.forall_mem_cons.mpr ⟨wd_31_7, List.forall_mem_cons.mpr ⟨wd_1_2, fun _ h => nomatch h⟩⟩⟩⟩) (gd_ wd_31_8)
theorem cwV_X10_segmentToken : yX10_segmentToken.cls = RX10 ∧ yX10_segmentToken.cls ≠ "java/lang/invoke/MethodHandle" ∧ yX10_segmentToken.cls ≠ "java/lang/invoke/VarHandle" ∧ (parseMethodDescriptor yX10_segmentToken.desc).map (fun d => d.parameters.length) = some 2 := by decide +kernel
theorem lk_L_126 : GoodIn WSL (wsV RL 126 RX10 yX10_targetLength (ws_ yX10_targetLength cX10_targetLength 2 (some .int))) := gd_app (List.forall_mem_cons.mpr ⟨wd_31_12, List.forall_mem_cons.mpr ⟨wd_31_13, List.forall_mem_cons.mpr ⟨wd_31_14, List.forall_mem_cons.mpr ⟨wd_1_2, fun _ h => nomatch h⟩⟩⟩⟩) (gd_ wd_31_15)
theorem cwV_X10_targetLength : yX10_targetLength.cls = RX10 ∧ yX10_targetLength.cls ≠ "java/lang/invoke/MethodHandle" ∧ yX10_targetLength.cls ≠ "java/lang/invoke/VarHandle" ∧ (parseMethodDescriptor yX10_targetLength.desc).map (fun d => d.parameters.length) = some 1 := by decide +kernel
theorem lk_L_129 : GoodIn WSL (wsV RL 129 RX10 yX10_targetToken (ws_ yX10_targetToken cX10_targetToken 3 (some .int))) := gd_app (List.forall_mem_cons.mpr ⟨wd_31_20, List.forall_mem_cons.mpr ⟨wd_31_21, List.forall_mem_cons.mpr ⟨wd_31_22, List.forall_mem_cons.mpr ⟨wd_1_2, fun _ h => nomatch h⟩⟩⟩⟩) (gd_ wd_31_23)
theorem cwV_X10_targetToken : yX10_targetToken.cls = RX10 ∧ yX10_targetToken.cls ≠ "java/lang/invoke/MethodHandle" ∧ yX10_targetToken.cls ≠ "java/lang/invoke/VarHandle" ∧ (parseMethodDescriptor yX10_targetToken.desc).map (fun d => d.parameters.length) = some 2 := by decide +kernel
theorem lk_L_132 : GoodIn WSL (wsV RL 132 RX10 yX10_targetKind (ws_ yX10_targetKind cX10_targetKind 3 (some .char))) := gd_app (List.forall_mem_cons.mpr ⟨wd_32_4, List.forall_mem_cons.mpr ⟨wd_32_5, List.forall_mem_cons.mpr ⟨wd_32_6, List.forall_mem_cons.mpr ⟨wd_1_2, fun _ h => nomatch h⟩⟩⟩⟩) (gd_ wd_32_7)
theorem cwV_X10_targetKind : yX10_targetKind.cls = RX10 ∧ yX10_targetKind.cls ≠ "java/lang/invoke/MethodHandle" ∧ yX10_targetKind.cls ≠ "java/lang/invoke/VarHandle" ∧ (parseMethodDescriptor yX10_targetKind.desc).map (fun d => d.parameters.length) = some 2 := by decide +kernel
set_option maxHeartbeats 4000000 in
set_option maxRecDepth 100000 in
theorem m_L_asked_cost (l : Launch) (hsT : l.stackTraces = false) (g : GT) (o : Nat) (S : SGM) (W9 : va_W) (hCW : CW g o S W9) (sz : Nat) (v : Int) (hv : jR v) (x2 : Int) : vx_Met l yL_asked (ws_ yL_asked cL_asked 4 (some .int)) (rmm 9 2 12) (jPc g [.ref o, vi 0, vi v, vi x2] (fun H => H.size = sz ∧ PP g W9 H ∧ va_D (fun q => gb g ≤ q) W9)) (jQi (fun z H1 => ((cdUD S v) = 0 ∧ z = D S.2.2.2.1 S.1 (ug S v).1 S.1.length (ug S v).1.length) ∧ ∃ w1 : va_W, CW g o (S) w1 ∧ PP g w1 H1 ∧ va_D (va_A W9 sz) w1) (va_A W9 sz)) (jXw (fun E => (E = eNS ∧ (cdUD S v) = 1) ∨ (E = eIS ∧ (cdUD S v) = 2)) (fun H1 => ∃ w1 : va_W, CW g o S w1 ∧ PP g w1 H1 ∧ va_D (va_A W9 sz) w1) (va_A W9 sz)) 2 12 (va_A W9 sz) := by
  refine jb_X (by decide) (Nat.le_of_ble_eq_true rfl) ?_
  intro p e s m below meth c hx hb hr hml hown htl hlk htab hKK hpre ls hl
  have hown : s.vm.findClass RL = some m.cls := hown
  obtain ⟨hsz, hP, hD0⟩ := hpre
  subst hsz
  have hD : va_D (va_A W9 s.heap.size) W9 := hD0.self
  have hl : lv_has ls 4 [(0, .ref o), (1, vi 0), (2, vi v), (3, vi x2)] := hl
  refine lv_iload_n hx hb dL_asked_0 rfl (lv_at hl 1 rfl) ?_
  refine lv_tableIn (tgt := 80) hx hb dL_asked_1 (by decide) (by decide) rfl rfl ?_
  refine lv_aload_n hx hb dL_asked_80 rfl (lv_at hl 0 rfl) ?_
  refine lv_iload_n hx hb dL_asked_81 rfl (lv_at hl 2 rfl) ?_
  refine jc_Qi (vx_runV (As := [vi v]) (rest := []) ⟨hx, hb, hml, hown, htl⟩ (m_X10_cost l hsT g o S W9 hCW s.heap.size v hv) (cwV 1 htl lk_L_83 rfl rfl rfl cwV_X10_cost ⟨Nat.le_of_ble_eq_true rfl, Nat.le_of_ble_eq_true rfl⟩) (jp_V hKK (va_S.rf (A := jN)) jNb (CW.recv hKK hCW hP) ⟨rfl, hP, hD0⟩) rfl rfl hl.1 rfl (lv_room (Nat.le_of_ble_eq_true rfl)) dL_asked_82 ⟨Nat.le_of_ble_eq_true rfl, Nat.le_of_ble_eq_true rfl⟩) hCW hP hD (jc_kx_out htab hlk (by omega) (by omega)) ?_
  intro z H L w1 hz hC hP hD hS
  refine vx_ret ?_
  refine W.widen (k := 2) (n := 12) (by omega) (by omega) ?_
  exact je_Qi hx hb hr hlk rfl hS ⟨hz, w1, hC, hP, hD⟩ dL_asked_85
set_option maxHeartbeats 4000000 in
set_option maxRecDepth 100000 in
theorem m_L_ask_cost (l : Launch) (hsT : l.stackTraces = false) (g : GT) (o : Nat) (S : SGM) (W9 : va_W) (hCW : CW g o S W9) (sz : Nat) (v : Int) (hv : jR v) (x2 : Int) : Met l yL_ask (.codeWith yL_ask cL_ask 5 (some .int) [(0, 7, 8, 73), (0, 7, 14, 77), (0, 7, 20, 81)] :: WSL) (rmm 10 2 12) (jPc g [.ref o, vi 0, vi v, vi x2] (fun H => H.size = sz ∧ PP g W9 H ∧ va_D (fun q => gb g ≤ q) W9)) (jQi (fun z H1 => z = rs (cdUD S v) (D S.2.2.2.1 S.1 (ug S v).1 S.1.length (ug S v).1.length) (-2005) (-2003) 0 ∧ ∃ w1 : va_W, CW g o (S) w1 ∧ PP g w1 H1 ∧ va_D (va_A W9 sz) w1) (va_A W9 sz)) 2 12 (va_A W9 sz) := by
  refine jc_M (by decide) (Nat.le_of_ble_eq_true rfl) ?_
  intro p e s m below meth c hx hb hr hml hown htl hlk htb hKK hpre ls hl
  have hown : s.vm.findClass RL = some m.cls := hown
  obtain ⟨hsz, hP, hD0⟩ := hpre
  subst hsz
  have hl : lv_has ls 5 [(0, .ref o), (1, vi 0), (2, vi v), (3, vi x2)] := hl
  refine lv_aload_n hx hb dL_ask_0 rfl (lv_at hl 0 rfl) ?_
  refine lv_iload_n hx hb dL_ask_1 rfl (lv_at hl 1 rfl) ?_
  refine lv_iload_n hx hb dL_ask_2 rfl (lv_at hl 2 rfl) ?_
  refine lv_iload_n hx hb dL_ask_3 rfl (lv_at hl 3 rfl) ?_
  refine jc_Qw (NP := fun z => ((cdUD S v) = 0 ∧ z = D S.2.2.2.1 S.1 (ug S v).1 S.1.length (ug S v).1.length)) (vx_runS (As := [.ref o, vi 0, vi v, vi x2]) (rest := []) ⟨hx, hb, hml, hown, htl⟩ (m_L_asked_cost l hsT g o S W9 hCW s.heap.size v hv x2) (va_cwS 4 htl lk_L_136 rfl rfl rfl cwS_L_asked ⟨Nat.le_of_ble_eq_true rfl, Nat.le_of_ble_eq_true rfl⟩) (jp_S hKK (va_S.rf (A := jN)) jNb ⟨rfl, hP, hD0⟩) rfl rfl hl.1 rfl (lv_room (Nat.le_of_ble_eq_true rfl)) dL_ask_4 ⟨Nat.le_of_ble_eq_true rfl, Nat.le_of_ble_eq_true rfl⟩) ?_ ?_
  · intro E ce q9 H1 L w1 hE hC hP hD hS h2 h3 h4
    rcases hE with ⟨rfl, hcd⟩ | ⟨rfl, hcd⟩
    · refine vx_catch (name := eNS) hown [xe (0, 7, 8, 73), xe (0, 7, 14, 77)] (xe (0, 7, 20, 81)) [] (htb.trans rfl) (List.forall_mem_cons.mpr ⟨Or.inr ⟨(show (73 : Nat) ≠ 0 by decide), _, htl _ wd_8_19, hKK.1.2.2.2.2.2.1 (eNS, eIO) (List.mem_of_getElem? (i := 6) rfl)⟩, List.forall_mem_cons.mpr ⟨Or.inr ⟨(show (77 : Nat) ≠ 0 by decide), _, htl _ wd_8_21, hKK.1.2.2.2.2.2.1 (eNS, eIS) (List.mem_of_getElem? (i := 8) rfl)⟩, fun _ h => nomatch h⟩⟩) rfl (show (81 : Nat) ≠ 0 by decide) (htl _ wd_8_23) (va_Nw.use rfl (hKK.1.2.2.1 (eNS, eNS) (List.mem_of_getElem? (i := 5) rfl))) h2 h3 h4 ?_
      refine lv_astore (lv' := [(4, .ref q9), (0, .ref o), (1, vi 0), (2, vi v), (3, vi x2)]) hx hb dL_ask_20 hl (by decide) rfl (fun ls hl => ?_)
      refine jr_sipush hx hb dL_ask_22 (by decide) ?_
      refine W.widen (k := 2) (n := 12) (by omega) (by omega) ?_
      exact je_Qi hx hb hr hlk rfl hS ⟨(rs_1 hcd).symm, w1, hC, hP, hD⟩ dL_ask_25
    · refine vx_catch (name := eIS) hown [xe (0, 7, 8, 73)] (xe (0, 7, 14, 77)) [xe (0, 7, 20, 81)] (htb.trans rfl) (List.forall_mem_cons.mpr ⟨Or.inr ⟨(show (73 : Nat) ≠ 0 by decide), _, htl _ wd_8_19, hKK.1.2.2.2.2.2.1 (eIS, eIO) (List.mem_of_getElem? (i := 1) rfl)⟩, fun _ h => nomatch h⟩) rfl (show (77 : Nat) ≠ 0 by decide) (htl _ wd_8_21) (va_Nw.use rfl (hKK.1.2.2.1 (eIS, eIS) (List.mem_of_getElem? (i := 1) rfl))) h2 h3 h4 ?_
      refine lv_astore (lv' := [(4, .ref q9), (0, .ref o), (1, vi 0), (2, vi v), (3, vi x2)]) hx hb dL_ask_14 hl (by decide) rfl (fun ls hl => ?_)
      refine jr_sipush hx hb dL_ask_16 (by decide) ?_
      refine W.widen (k := 2) (n := 12) (by omega) (by omega) ?_
      exact je_Qi hx hb hr hlk rfl hS ⟨(rs_2 hcd).symm, w1, hC, hP, hD⟩ dL_ask_19
  · intro z9 H1 L w1 hz9 hC hP hD hS
    obtain ⟨hcd, hz9⟩ := hz9
    refine W.widen (k := 2) (n := 12) (by omega) (by omega) ?_
    exact je_Qi hx hb hr hlk rfl hS ⟨hz9.trans (rs_0 hcd).symm, w1, hC, hP, hD⟩ dL_ask_7
set_option maxHeartbeats 4000000 in
set_option maxRecDepth 100000 in
theorem m_L_asked_costFromEnds (l : Launch) (hsT : l.stackTraces = false) (g : GT) (o : Nat) (S : SGM) (W9 : va_W) (hCW : CW g o S W9) (sz : Nat) (v : Int) (hv : jR v) (x2 : Int) : vx_Met l yL_asked (ws_ yL_asked cL_asked 4 (some .int)) (rmm 9 2 12) (jPc g [.ref o, vi 1, vi v, vi x2] (fun H => H.size = sz ∧ PP g W9 H ∧ va_D (fun q => gb g ≤ q) W9)) (jQi (fun z H1 => ((cdUD S v) = 0 ∧ z = ed S.2.2.2.1 S.1 (ug S v).1) ∧ ∃ w1 : va_W, CW g o (S) w1 ∧ PP g w1 H1 ∧ va_D (va_A W9 sz) w1) (va_A W9 sz)) (jXw (fun E => (E = eNS ∧ (cdUD S v) = 1) ∨ (E = eIS ∧ (cdUD S v) = 2)) (fun H1 => ∃ w1 : va_W, CW g o S w1 ∧ PP g w1 H1 ∧ va_D (va_A W9 sz) w1) (va_A W9 sz)) 2 12 (va_A W9 sz) := by
  refine jb_X (by decide) (Nat.le_of_ble_eq_true rfl) ?_
  intro p e s m below meth c hx hb hr hml hown htl hlk htab hKK hpre ls hl
  have hown : s.vm.findClass RL = some m.cls := hown
  obtain ⟨hsz, hP, hD0⟩ := hpre
  subst hsz
  have hD : va_D (va_A W9 s.heap.size) W9 := hD0.self
  have hl : lv_has ls 4 [(0, .ref o), (1, vi 1), (2, vi v), (3, vi x2)] := hl
  refine lv_iload_n hx hb dL_asked_0 rfl (lv_at hl 1 rfl) ?_
  refine lv_tableIn (tgt := 86) hx hb dL_asked_1 (by decide) (by decide) rfl rfl ?_
  refine lv_aload_n hx hb dL_asked_86 rfl (lv_at hl 0 rfl) ?_
  refine lv_iload_n hx hb dL_asked_87 rfl (lv_at hl 2 rfl) ?_
  refine jc_Qi (vx_runV (As := [vi v]) (rest := []) ⟨hx, hb, hml, hown, htl⟩ (m_X10_costFromEnds l hsT g o S W9 hCW s.heap.size v hv) (cwV 1 htl lk_L_86 rfl rfl rfl cwV_X10_costFromEnds ⟨Nat.le_of_ble_eq_true rfl, Nat.le_of_ble_eq_true rfl⟩) (jp_V hKK (va_S.rf (A := jN)) jNb (CW.recv hKK hCW hP) ⟨rfl, hP, hD0⟩) rfl rfl hl.1 rfl (lv_room (Nat.le_of_ble_eq_true rfl)) dL_asked_88 ⟨Nat.le_of_ble_eq_true rfl, Nat.le_of_ble_eq_true rfl⟩) hCW hP hD (jc_kx_out htab hlk (by omega) (by omega)) ?_
  intro z H L w1 hz hC hP hD hS
  refine vx_ret ?_
  refine W.widen (k := 2) (n := 12) (by omega) (by omega) ?_
  exact je_Qi hx hb hr hlk rfl hS ⟨hz, w1, hC, hP, hD⟩ dL_asked_91
set_option maxHeartbeats 4000000 in
set_option maxRecDepth 100000 in
theorem m_L_ask_costFromEnds (l : Launch) (hsT : l.stackTraces = false) (g : GT) (o : Nat) (S : SGM) (W9 : va_W) (hCW : CW g o S W9) (sz : Nat) (v : Int) (hv : jR v) (x2 : Int) : Met l yL_ask (.codeWith yL_ask cL_ask 5 (some .int) [(0, 7, 8, 73), (0, 7, 14, 77), (0, 7, 20, 81)] :: WSL) (rmm 10 2 12) (jPc g [.ref o, vi 1, vi v, vi x2] (fun H => H.size = sz ∧ PP g W9 H ∧ va_D (fun q => gb g ≤ q) W9)) (jQi (fun z H1 => z = rs (cdUD S v) (ed S.2.2.2.1 S.1 (ug S v).1) (-2005) (-2003) 0 ∧ ∃ w1 : va_W, CW g o (S) w1 ∧ PP g w1 H1 ∧ va_D (va_A W9 sz) w1) (va_A W9 sz)) 2 12 (va_A W9 sz) := by
  refine jc_M (by decide) (Nat.le_of_ble_eq_true rfl) ?_
  intro p e s m below meth c hx hb hr hml hown htl hlk htb hKK hpre ls hl
  have hown : s.vm.findClass RL = some m.cls := hown
  obtain ⟨hsz, hP, hD0⟩ := hpre
  subst hsz
  have hl : lv_has ls 5 [(0, .ref o), (1, vi 1), (2, vi v), (3, vi x2)] := hl
  refine lv_aload_n hx hb dL_ask_0 rfl (lv_at hl 0 rfl) ?_
  refine lv_iload_n hx hb dL_ask_1 rfl (lv_at hl 1 rfl) ?_
  refine lv_iload_n hx hb dL_ask_2 rfl (lv_at hl 2 rfl) ?_
  refine lv_iload_n hx hb dL_ask_3 rfl (lv_at hl 3 rfl) ?_
  refine jc_Qw (NP := fun z => ((cdUD S v) = 0 ∧ z = ed S.2.2.2.1 S.1 (ug S v).1)) (vx_runS (As := [.ref o, vi 1, vi v, vi x2]) (rest := []) ⟨hx, hb, hml, hown, htl⟩ (m_L_asked_costFromEnds l hsT g o S W9 hCW s.heap.size v hv x2) (va_cwS 4 htl lk_L_136 rfl rfl rfl cwS_L_asked ⟨Nat.le_of_ble_eq_true rfl, Nat.le_of_ble_eq_true rfl⟩) (jp_S hKK (va_S.rf (A := jN)) jNb ⟨rfl, hP, hD0⟩) rfl rfl hl.1 rfl (lv_room (Nat.le_of_ble_eq_true rfl)) dL_ask_4 ⟨Nat.le_of_ble_eq_true rfl, Nat.le_of_ble_eq_true rfl⟩) ?_ ?_
  · intro E ce q9 H1 L w1 hE hC hP hD hS h2 h3 h4
    rcases hE with ⟨rfl, hcd⟩ | ⟨rfl, hcd⟩
    · refine vx_catch (name := eNS) hown [xe (0, 7, 8, 73), xe (0, 7, 14, 77)] (xe (0, 7, 20, 81)) [] (htb.trans rfl) (List.forall_mem_cons.mpr ⟨Or.inr ⟨(show (73 : Nat) ≠ 0 by decide), _, htl _ wd_8_19, hKK.1.2.2.2.2.2.1 (eNS, eIO) (List.mem_of_getElem? (i := 6) rfl)⟩, List.forall_mem_cons.mpr ⟨Or.inr ⟨(show (77 : Nat) ≠ 0 by decide), _, htl _ wd_8_21, hKK.1.2.2.2.2.2.1 (eNS, eIS) (List.mem_of_getElem? (i := 8) rfl)⟩, fun _ h => nomatch h⟩⟩) rfl (show (81 : Nat) ≠ 0 by decide) (htl _ wd_8_23) (va_Nw.use rfl (hKK.1.2.2.1 (eNS, eNS) (List.mem_of_getElem? (i := 5) rfl))) h2 h3 h4 ?_
      refine lv_astore (lv' := [(4, .ref q9), (0, .ref o), (1, vi 1), (2, vi v), (3, vi x2)]) hx hb dL_ask_20 hl (by decide) rfl (fun ls hl => ?_)
      refine jr_sipush hx hb dL_ask_22 (by decide) ?_
      refine W.widen (k := 2) (n := 12) (by omega) (by omega) ?_
      exact je_Qi hx hb hr hlk rfl hS ⟨(rs_1 hcd).symm, w1, hC, hP, hD⟩ dL_ask_25
    · refine vx_catch (name := eIS) hown [xe (0, 7, 8, 73)] (xe (0, 7, 14, 77)) [xe (0, 7, 20, 81)] (htb.trans rfl) (List.forall_mem_cons.mpr ⟨Or.inr ⟨(show (73 : Nat) ≠ 0 by decide), _, htl _ wd_8_19, hKK.1.2.2.2.2.2.1 (eIS, eIO) (List.mem_of_getElem? (i := 1) rfl)⟩, fun _ h => nomatch h⟩) rfl (show (77 : Nat) ≠ 0 by decide) (htl _ wd_8_21) (va_Nw.use rfl (hKK.1.2.2.1 (eIS, eIS) (List.mem_of_getElem? (i := 1) rfl))) h2 h3 h4 ?_
      refine lv_astore (lv' := [(4, .ref q9), (0, .ref o), (1, vi 1), (2, vi v), (3, vi x2)]) hx hb dL_ask_14 hl (by decide) rfl (fun ls hl => ?_)
      refine jr_sipush hx hb dL_ask_16 (by decide) ?_
      refine W.widen (k := 2) (n := 12) (by omega) (by omega) ?_
      exact je_Qi hx hb hr hlk rfl hS ⟨(rs_2 hcd).symm, w1, hC, hP, hD⟩ dL_ask_19
  · intro z9 H1 L w1 hz9 hC hP hD hS
    obtain ⟨hcd, hz9⟩ := hz9
    refine W.widen (k := 2) (n := 12) (by omega) (by omega) ?_
    exact je_Qi hx hb hr hlk rfl hS ⟨hz9.trans (rs_0 hcd).symm, w1, hC, hP, hD⟩ dL_ask_7
set_option maxHeartbeats 4000000 in
set_option maxRecDepth 100000 in
theorem m_L_asked_likeness (l : Launch) (hsT : l.stackTraces = false) (g : GT) (o : Nat) (S : SGM) (W9 : va_W) (hCW : CW g o S W9) (sz : Nat) (v : Int) (hv : jR v) (x2 : Int) : vx_Met l yL_asked (ws_ yL_asked cL_asked 4 (some .int)) (rmm 9 2 12) (jPc g [.ref o, vi 2, vi v, vi x2] (fun H => H.size = sz ∧ PP g W9 H ∧ va_D (fun q => gb g ≤ q) W9)) (jQi (fun z H1 => ((cdUD S v) = 0 ∧ z = lk S.2.2.2.1 S.1 (ug S v).1) ∧ ∃ w1 : va_W, CW g o (S) w1 ∧ PP g w1 H1 ∧ va_D (va_A W9 sz) w1) (va_A W9 sz)) (jXw (fun E => (E = eNS ∧ (cdUD S v) = 1) ∨ (E = eIS ∧ (cdUD S v) = 2)) (fun H1 => ∃ w1 : va_W, CW g o S w1 ∧ PP g w1 H1 ∧ va_D (va_A W9 sz) w1) (va_A W9 sz)) 2 12 (va_A W9 sz) := by
  refine jb_X (by decide) (Nat.le_of_ble_eq_true rfl) ?_
  intro p e s m below meth c hx hb hr hml hown htl hlk htab hKK hpre ls hl
  have hown : s.vm.findClass RL = some m.cls := hown
  obtain ⟨hsz, hP, hD0⟩ := hpre
  subst hsz
  have hD : va_D (va_A W9 s.heap.size) W9 := hD0.self
  have hl : lv_has ls 4 [(0, .ref o), (1, vi 2), (2, vi v), (3, vi x2)] := hl
  refine lv_iload_n hx hb dL_asked_0 rfl (lv_at hl 1 rfl) ?_
  refine lv_tableIn (tgt := 92) hx hb dL_asked_1 (by decide) (by decide) rfl rfl ?_
  refine lv_aload_n hx hb dL_asked_92 rfl (lv_at hl 0 rfl) ?_
  refine lv_iload_n hx hb dL_asked_93 rfl (lv_at hl 2 rfl) ?_
  refine jc_Qi (vx_runV (As := [vi v]) (rest := []) ⟨hx, hb, hml, hown, htl⟩ (m_X10_likeness l hsT g o S W9 hCW s.heap.size v hv) (cwV 1 htl lk_L_89 rfl rfl rfl cwV_X10_likeness ⟨Nat.le_of_ble_eq_true rfl, Nat.le_of_ble_eq_true rfl⟩) (jp_V hKK (va_S.rf (A := jN)) jNb (CW.recv hKK hCW hP) ⟨rfl, hP, hD0⟩) rfl rfl hl.1 rfl (lv_room (Nat.le_of_ble_eq_true rfl)) dL_asked_94 ⟨Nat.le_of_ble_eq_true rfl, Nat.le_of_ble_eq_true rfl⟩) hCW hP hD (jc_kx_out htab hlk (by omega) (by omega)) ?_
  intro z H L w1 hz hC hP hD hS
  refine vx_ret ?_
  refine W.widen (k := 2) (n := 12) (by omega) (by omega) ?_
  exact je_Qi hx hb hr hlk rfl hS ⟨hz, w1, hC, hP, hD⟩ dL_asked_97
set_option maxHeartbeats 4000000 in
set_option maxRecDepth 100000 in
theorem m_L_ask_likeness (l : Launch) (hsT : l.stackTraces = false) (g : GT) (o : Nat) (S : SGM) (W9 : va_W) (hCW : CW g o S W9) (sz : Nat) (v : Int) (hv : jR v) (x2 : Int) : Met l yL_ask (.codeWith yL_ask cL_ask 5 (some .int) [(0, 7, 8, 73), (0, 7, 14, 77), (0, 7, 20, 81)] :: WSL) (rmm 10 2 12) (jPc g [.ref o, vi 2, vi v, vi x2] (fun H => H.size = sz ∧ PP g W9 H ∧ va_D (fun q => gb g ≤ q) W9)) (jQi (fun z H1 => z = rs (cdUD S v) (lk S.2.2.2.1 S.1 (ug S v).1) (-2005) (-2003) 0 ∧ ∃ w1 : va_W, CW g o (S) w1 ∧ PP g w1 H1 ∧ va_D (va_A W9 sz) w1) (va_A W9 sz)) 2 12 (va_A W9 sz) := by
  refine jc_M (by decide) (Nat.le_of_ble_eq_true rfl) ?_
  intro p e s m below meth c hx hb hr hml hown htl hlk htb hKK hpre ls hl
  have hown : s.vm.findClass RL = some m.cls := hown
  obtain ⟨hsz, hP, hD0⟩ := hpre
  subst hsz
  have hl : lv_has ls 5 [(0, .ref o), (1, vi 2), (2, vi v), (3, vi x2)] := hl
  refine lv_aload_n hx hb dL_ask_0 rfl (lv_at hl 0 rfl) ?_
  refine lv_iload_n hx hb dL_ask_1 rfl (lv_at hl 1 rfl) ?_
  refine lv_iload_n hx hb dL_ask_2 rfl (lv_at hl 2 rfl) ?_
  refine lv_iload_n hx hb dL_ask_3 rfl (lv_at hl 3 rfl) ?_
  refine jc_Qw (NP := fun z => ((cdUD S v) = 0 ∧ z = lk S.2.2.2.1 S.1 (ug S v).1)) (vx_runS (As := [.ref o, vi 2, vi v, vi x2]) (rest := []) ⟨hx, hb, hml, hown, htl⟩ (m_L_asked_likeness l hsT g o S W9 hCW s.heap.size v hv x2) (va_cwS 4 htl lk_L_136 rfl rfl rfl cwS_L_asked ⟨Nat.le_of_ble_eq_true rfl, Nat.le_of_ble_eq_true rfl⟩) (jp_S hKK (va_S.rf (A := jN)) jNb ⟨rfl, hP, hD0⟩) rfl rfl hl.1 rfl (lv_room (Nat.le_of_ble_eq_true rfl)) dL_ask_4 ⟨Nat.le_of_ble_eq_true rfl, Nat.le_of_ble_eq_true rfl⟩) ?_ ?_
  · intro E ce q9 H1 L w1 hE hC hP hD hS h2 h3 h4
    rcases hE with ⟨rfl, hcd⟩ | ⟨rfl, hcd⟩
    · refine vx_catch (name := eNS) hown [xe (0, 7, 8, 73), xe (0, 7, 14, 77)] (xe (0, 7, 20, 81)) [] (htb.trans rfl) (List.forall_mem_cons.mpr ⟨Or.inr ⟨(show (73 : Nat) ≠ 0 by decide), _, htl _ wd_8_19, hKK.1.2.2.2.2.2.1 (eNS, eIO) (List.mem_of_getElem? (i := 6) rfl)⟩, List.forall_mem_cons.mpr ⟨Or.inr ⟨(show (77 : Nat) ≠ 0 by decide), _, htl _ wd_8_21, hKK.1.2.2.2.2.2.1 (eNS, eIS) (List.mem_of_getElem? (i := 8) rfl)⟩, fun _ h => nomatch h⟩⟩) rfl (show (81 : Nat) ≠ 0 by decide) (htl _ wd_8_23) (va_Nw.use rfl (hKK.1.2.2.1 (eNS, eNS) (List.mem_of_getElem? (i := 5) rfl))) h2 h3 h4 ?_
      refine lv_astore (lv' := [(4, .ref q9), (0, .ref o), (1, vi 2), (2, vi v), (3, vi x2)]) hx hb dL_ask_20 hl (by decide) rfl (fun ls hl => ?_)
      refine jr_sipush hx hb dL_ask_22 (by decide) ?_
      refine W.widen (k := 2) (n := 12) (by omega) (by omega) ?_
      exact je_Qi hx hb hr hlk rfl hS ⟨(rs_1 hcd).symm, w1, hC, hP, hD⟩ dL_ask_25
    · refine vx_catch (name := eIS) hown [xe (0, 7, 8, 73)] (xe (0, 7, 14, 77)) [xe (0, 7, 20, 81)] (htb.trans rfl) (List.forall_mem_cons.mpr ⟨Or.inr ⟨(show (73 : Nat) ≠ 0 by decide), _, htl _ wd_8_19, hKK.1.2.2.2.2.2.1 (eIS, eIO) (List.mem_of_getElem? (i := 1) rfl)⟩, fun _ h => nomatch h⟩) rfl (show (77 : Nat) ≠ 0 by decide) (htl _ wd_8_21) (va_Nw.use rfl (hKK.1.2.2.1 (eIS, eIS) (List.mem_of_getElem? (i := 1) rfl))) h2 h3 h4 ?_
      refine lv_astore (lv' := [(4, .ref q9), (0, .ref o), (1, vi 2), (2, vi v), (3, vi x2)]) hx hb dL_ask_14 hl (by decide) rfl (fun ls hl => ?_)
      refine jr_sipush hx hb dL_ask_16 (by decide) ?_
      refine W.widen (k := 2) (n := 12) (by omega) (by omega) ?_
      exact je_Qi hx hb hr hlk rfl hS ⟨(rs_2 hcd).symm, w1, hC, hP, hD⟩ dL_ask_19
  · intro z9 H1 L w1 hz9 hC hP hD hS
    obtain ⟨hcd, hz9⟩ := hz9
    refine W.widen (k := 2) (n := 12) (by omega) (by omega) ?_
    exact je_Qi hx hb hr hlk rfl hS ⟨hz9.trans (rs_0 hcd).symm, w1, hC, hP, hD⟩ dL_ask_7
set_option maxHeartbeats 4000000 in
set_option maxRecDepth 100000 in
theorem m_L_asked_missing (l : Launch) (hsT : l.stackTraces = false) (g : GT) (o : Nat) (S : SGM) (W9 : va_W) (hCW : CW g o S W9) (sz : Nat) (v : Int) (hv : jR v) (x2 : Int) : vx_Met l yL_asked (ws_ yL_asked cL_asked 4 (some .int)) (rmm 9 2 12) (jPc g [.ref o, vi 3, vi v, vi x2] (fun H => H.size = sz ∧ PP g W9 H ∧ va_D (fun q => gb g ≤ q) W9)) (jQi (fun z H1 => ((cdUD S v) = 0 ∧ z = ms S.2.2.2.2.1 S.1 (ug S v).2.1) ∧ ∃ w1 : va_W, CW g o S w1 ∧ PP g w1 H1 ∧ va_D (va_A W9 sz) w1) (va_A W9 sz)) (jXw (fun E => (E = eNS ∧ (cdUD S v) = 1) ∨ (E = eIS ∧ (cdUD S v) = 2)) (fun H1 => ∃ w1 : va_W, CW g o S w1 ∧ PP g w1 H1 ∧ va_D (va_A W9 sz) w1) (va_A W9 sz)) 2 12 (va_A W9 sz) := by
  refine jb_X (by decide) (Nat.le_of_ble_eq_true rfl) ?_
  intro p e s m below meth c hx hb hr hml hown htl hlk htab hKK hpre ls hl
  have hown : s.vm.findClass RL = some m.cls := hown
  obtain ⟨hsz, hP, hD0⟩ := hpre
  subst hsz
  have hD : va_D (va_A W9 s.heap.size) W9 := hD0.self
  have hl : lv_has ls 4 [(0, .ref o), (1, vi 3), (2, vi v), (3, vi x2)] := hl
  refine lv_iload_n hx hb dL_asked_0 rfl (lv_at hl 1 rfl) ?_
  refine lv_tableIn (tgt := 98) hx hb dL_asked_1 (by decide) (by decide) rfl rfl ?_
  refine lv_aload_n hx hb dL_asked_98 rfl (lv_at hl 0 rfl) ?_
  refine lv_iload_n hx hb dL_asked_99 rfl (lv_at hl 2 rfl) ?_
  refine jc_Si (vx_runV (As := [vi v]) (rest := []) ⟨hx, hb, hml, hown, htl⟩ (m_X10_missing l hsT g o S W9 hCW v hv) (cwV 1 htl lk_L_92 rfl rfl rfl cwV_X10_missing ⟨Nat.le_of_ble_eq_true rfl, Nat.le_of_ble_eq_true rfl⟩) (jp_V hKK (va_S.rf (A := jN)) jNb (CW.recv hKK hCW hP) hP) rfl rfl hl.1 rfl (lv_room (Nat.le_of_ble_eq_true rfl)) dL_asked_100 ⟨Nat.le_of_ble_eq_true rfl, Nat.le_of_ble_eq_true rfl⟩) hCW hP hD (jc_kx_out htab hlk (by omega) (by omega)) ?_
  intro z H L w1 hz hC hP hD hS
  refine vx_ret ?_
  refine W.widen (k := 2) (n := 12) (by omega) (by omega) ?_
  exact je_Qi hx hb hr hlk rfl hS ⟨hz, w1, hC, hP, hD⟩ dL_asked_103
set_option maxHeartbeats 4000000 in
set_option maxRecDepth 100000 in
theorem m_L_ask_missing (l : Launch) (hsT : l.stackTraces = false) (g : GT) (o : Nat) (S : SGM) (W9 : va_W) (hCW : CW g o S W9) (sz : Nat) (v : Int) (hv : jR v) (x2 : Int) : Met l yL_ask (.codeWith yL_ask cL_ask 5 (some .int) [(0, 7, 8, 73), (0, 7, 14, 77), (0, 7, 20, 81)] :: WSL) (rmm 10 2 12) (jPc g [.ref o, vi 3, vi v, vi x2] (fun H => H.size = sz ∧ PP g W9 H ∧ va_D (fun q => gb g ≤ q) W9)) (jQi (fun z H1 => z = rs (cdUD S v) (ms S.2.2.2.2.1 S.1 (ug S v).2.1) (-2005) (-2003) 0 ∧ ∃ w1 : va_W, CW g o S w1 ∧ PP g w1 H1 ∧ va_D (va_A W9 sz) w1) (va_A W9 sz)) 2 12 (va_A W9 sz) := by
  refine jc_M (by decide) (Nat.le_of_ble_eq_true rfl) ?_
  intro p e s m below meth c hx hb hr hml hown htl hlk htb hKK hpre ls hl
  have hown : s.vm.findClass RL = some m.cls := hown
  obtain ⟨hsz, hP, hD0⟩ := hpre
  subst hsz
  have hl : lv_has ls 5 [(0, .ref o), (1, vi 3), (2, vi v), (3, vi x2)] := hl
  refine lv_aload_n hx hb dL_ask_0 rfl (lv_at hl 0 rfl) ?_
  refine lv_iload_n hx hb dL_ask_1 rfl (lv_at hl 1 rfl) ?_
  refine lv_iload_n hx hb dL_ask_2 rfl (lv_at hl 2 rfl) ?_
  refine lv_iload_n hx hb dL_ask_3 rfl (lv_at hl 3 rfl) ?_
  refine jc_Qw (NP := fun z => ((cdUD S v) = 0 ∧ z = ms S.2.2.2.2.1 S.1 (ug S v).2.1)) (vx_runS (As := [.ref o, vi 3, vi v, vi x2]) (rest := []) ⟨hx, hb, hml, hown, htl⟩ (m_L_asked_missing l hsT g o S W9 hCW s.heap.size v hv x2) (va_cwS 4 htl lk_L_136 rfl rfl rfl cwS_L_asked ⟨Nat.le_of_ble_eq_true rfl, Nat.le_of_ble_eq_true rfl⟩) (jp_S hKK (va_S.rf (A := jN)) jNb ⟨rfl, hP, hD0⟩) rfl rfl hl.1 rfl (lv_room (Nat.le_of_ble_eq_true rfl)) dL_ask_4 ⟨Nat.le_of_ble_eq_true rfl, Nat.le_of_ble_eq_true rfl⟩) ?_ ?_
  · intro E ce q9 H1 L w1 hE hC hP hD hS h2 h3 h4
    rcases hE with ⟨rfl, hcd⟩ | ⟨rfl, hcd⟩
    · refine vx_catch (name := eNS) hown [xe (0, 7, 8, 73), xe (0, 7, 14, 77)] (xe (0, 7, 20, 81)) [] (htb.trans rfl) (List.forall_mem_cons.mpr ⟨Or.inr ⟨(show (73 : Nat) ≠ 0 by decide), _, htl _ wd_8_19, hKK.1.2.2.2.2.2.1 (eNS, eIO) (List.mem_of_getElem? (i := 6) rfl)⟩, List.forall_mem_cons.mpr ⟨Or.inr ⟨(show (77 : Nat) ≠ 0 by decide), _, htl _ wd_8_21, hKK.1.2.2.2.2.2.1 (eNS, eIS) (List.mem_of_getElem? (i := 8) rfl)⟩, fun _ h => nomatch h⟩⟩) rfl (show (81 : Nat) ≠ 0 by decide) (htl _ wd_8_23) (va_Nw.use rfl (hKK.1.2.2.1 (eNS, eNS) (List.mem_of_getElem? (i := 5) rfl))) h2 h3 h4 ?_
      refine lv_astore (lv' := [(4, .ref q9), (0, .ref o), (1, vi 3), (2, vi v), (3, vi x2)]) hx hb dL_ask_20 hl (by decide) rfl (fun ls hl => ?_)
      refine jr_sipush hx hb dL_ask_22 (by decide) ?_
      refine W.widen (k := 2) (n := 12) (by omega) (by omega) ?_
      exact je_Qi hx hb hr hlk rfl hS ⟨(rs_1 hcd).symm, w1, hC, hP, hD⟩ dL_ask_25
    · refine vx_catch (name := eIS) hown [xe (0, 7, 8, 73)] (xe (0, 7, 14, 77)) [xe (0, 7, 20, 81)] (htb.trans rfl) (List.forall_mem_cons.mpr ⟨Or.inr ⟨(show (73 : Nat) ≠ 0 by decide), _, htl _ wd_8_19, hKK.1.2.2.2.2.2.1 (eIS, eIO) (List.mem_of_getElem? (i := 1) rfl)⟩, fun _ h => nomatch h⟩) rfl (show (77 : Nat) ≠ 0 by decide) (htl _ wd_8_21) (va_Nw.use rfl (hKK.1.2.2.1 (eIS, eIS) (List.mem_of_getElem? (i := 1) rfl))) h2 h3 h4 ?_
      refine lv_astore (lv' := [(4, .ref q9), (0, .ref o), (1, vi 3), (2, vi v), (3, vi x2)]) hx hb dL_ask_14 hl (by decide) rfl (fun ls hl => ?_)
      refine jr_sipush hx hb dL_ask_16 (by decide) ?_
      refine W.widen (k := 2) (n := 12) (by omega) (by omega) ?_
      exact je_Qi hx hb hr hlk rfl hS ⟨(rs_2 hcd).symm, w1, hC, hP, hD⟩ dL_ask_19
  · intro z9 H1 L w1 hz9 hC hP hD hS
    obtain ⟨hcd, hz9⟩ := hz9
    refine W.widen (k := 2) (n := 12) (by omega) (by omega) ?_
    exact je_Qi hx hb hr hlk rfl hS ⟨hz9.trans (rs_0 hcd).symm, w1, hC, hP, hD⟩ dL_ask_7
set_option maxHeartbeats 4000000 in
set_option maxRecDepth 100000 in
theorem m_L_asked_score (l : Launch) (hsT : l.stackTraces = false) (g : GT) (o : Nat) (S : SGM) (W9 : va_W) (hCW : CW g o S W9) (sz : Nat) (v : Int) (hv : jR v) (x2 : Int) : vx_Met l yL_asked (ws_ yL_asked cL_asked 4 (some .int)) (rmm 9 2 12) (jPc g [.ref o, vi 4, vi v, vi x2] (fun H => H.size = sz ∧ PP g W9 H ∧ va_D (fun q => gb g ≤ q) W9)) (jQi (fun z H1 => ((cdUD S v) = 0 ∧ z = rate S.2.2.2.1 S.2.2.2.2.1 S.1 (ug S v)) ∧ ∃ w1 : va_W, CW g o (S) w1 ∧ PP g w1 H1 ∧ va_D (va_A W9 sz) w1) (va_A W9 sz)) (jXw (fun E => (E = eNS ∧ (cdUD S v) = 1) ∨ (E = eIS ∧ (cdUD S v) = 2)) (fun H1 => ∃ w1 : va_W, CW g o S w1 ∧ PP g w1 H1 ∧ va_D (va_A W9 sz) w1) (va_A W9 sz)) 2 12 (va_A W9 sz) := by
  refine jb_X (by decide) (Nat.le_of_ble_eq_true rfl) ?_
  intro p e s m below meth c hx hb hr hml hown htl hlk htab hKK hpre ls hl
  have hown : s.vm.findClass RL = some m.cls := hown
  obtain ⟨hsz, hP, hD0⟩ := hpre
  subst hsz
  have hD : va_D (va_A W9 s.heap.size) W9 := hD0.self
  have hl : lv_has ls 4 [(0, .ref o), (1, vi 4), (2, vi v), (3, vi x2)] := hl
  refine lv_iload_n hx hb dL_asked_0 rfl (lv_at hl 1 rfl) ?_
  refine lv_tableIn (tgt := 104) hx hb dL_asked_1 (by decide) (by decide) rfl rfl ?_
  refine lv_aload_n hx hb dL_asked_104 rfl (lv_at hl 0 rfl) ?_
  refine lv_iload_n hx hb dL_asked_105 rfl (lv_at hl 2 rfl) ?_
  refine jc_Qi (vx_runV (As := [vi v]) (rest := []) ⟨hx, hb, hml, hown, htl⟩ (m_X10_score l hsT g o S W9 hCW s.heap.size v hv) (cwV 1 htl lk_L_95 rfl rfl rfl cwV_X10_score ⟨Nat.le_of_ble_eq_true rfl, Nat.le_of_ble_eq_true rfl⟩) (jp_V hKK (va_S.rf (A := jN)) jNb (CW.recv hKK hCW hP) ⟨rfl, hP, hD0⟩) rfl rfl hl.1 rfl (lv_room (Nat.le_of_ble_eq_true rfl)) dL_asked_106 ⟨Nat.le_of_ble_eq_true rfl, Nat.le_of_ble_eq_true rfl⟩) hCW hP hD (jc_kx_out htab hlk (by omega) (by omega)) ?_
  intro z H L w1 hz hC hP hD hS
  refine vx_ret ?_
  refine W.widen (k := 2) (n := 12) (by omega) (by omega) ?_
  exact je_Qi hx hb hr hlk rfl hS ⟨hz, w1, hC, hP, hD⟩ dL_asked_109
set_option maxHeartbeats 4000000 in
set_option maxRecDepth 100000 in
theorem m_L_ask_score (l : Launch) (hsT : l.stackTraces = false) (g : GT) (o : Nat) (S : SGM) (W9 : va_W) (hCW : CW g o S W9) (sz : Nat) (v : Int) (hv : jR v) (x2 : Int) : Met l yL_ask (.codeWith yL_ask cL_ask 5 (some .int) [(0, 7, 8, 73), (0, 7, 14, 77), (0, 7, 20, 81)] :: WSL) (rmm 10 2 12) (jPc g [.ref o, vi 4, vi v, vi x2] (fun H => H.size = sz ∧ PP g W9 H ∧ va_D (fun q => gb g ≤ q) W9)) (jQi (fun z H1 => z = rs (cdUD S v) (rate S.2.2.2.1 S.2.2.2.2.1 S.1 (ug S v)) (-2005) (-2003) 0 ∧ ∃ w1 : va_W, CW g o (S) w1 ∧ PP g w1 H1 ∧ va_D (va_A W9 sz) w1) (va_A W9 sz)) 2 12 (va_A W9 sz) := by
  refine jc_M (by decide) (Nat.le_of_ble_eq_true rfl) ?_
  intro p e s m below meth c hx hb hr hml hown htl hlk htb hKK hpre ls hl
  have hown : s.vm.findClass RL = some m.cls := hown
  obtain ⟨hsz, hP, hD0⟩ := hpre
  subst hsz
  have hl : lv_has ls 5 [(0, .ref o), (1, vi 4), (2, vi v), (3, vi x2)] := hl
  refine lv_aload_n hx hb dL_ask_0 rfl (lv_at hl 0 rfl) ?_
  refine lv_iload_n hx hb dL_ask_1 rfl (lv_at hl 1 rfl) ?_
  refine lv_iload_n hx hb dL_ask_2 rfl (lv_at hl 2 rfl) ?_
  refine lv_iload_n hx hb dL_ask_3 rfl (lv_at hl 3 rfl) ?_
  refine jc_Qw (NP := fun z => ((cdUD S v) = 0 ∧ z = rate S.2.2.2.1 S.2.2.2.2.1 S.1 (ug S v))) (vx_runS (As := [.ref o, vi 4, vi v, vi x2]) (rest := []) ⟨hx, hb, hml, hown, htl⟩ (m_L_asked_score l hsT g o S W9 hCW s.heap.size v hv x2) (va_cwS 4 htl lk_L_136 rfl rfl rfl cwS_L_asked ⟨Nat.le_of_ble_eq_true rfl, Nat.le_of_ble_eq_true rfl⟩) (jp_S hKK (va_S.rf (A := jN)) jNb ⟨rfl, hP, hD0⟩) rfl rfl hl.1 rfl (lv_room (Nat.le_of_ble_eq_true rfl)) dL_ask_4 ⟨Nat.le_of_ble_eq_true rfl, Nat.le_of_ble_eq_true rfl⟩) ?_ ?_
  · intro E ce q9 H1 L w1 hE hC hP hD hS h2 h3 h4
    rcases hE with ⟨rfl, hcd⟩ | ⟨rfl, hcd⟩
    · refine vx_catch (name := eNS) hown [xe (0, 7, 8, 73), xe (0, 7, 14, 77)] (xe (0, 7, 20, 81)) [] (htb.trans rfl) (List.forall_mem_cons.mpr ⟨Or.inr ⟨(show (73 : Nat) ≠ 0 by decide), _, htl _ wd_8_19, hKK.1.2.2.2.2.2.1 (eNS, eIO) (List.mem_of_getElem? (i := 6) rfl)⟩, List.forall_mem_cons.mpr ⟨Or.inr ⟨(show (77 : Nat) ≠ 0 by decide), _, htl _ wd_8_21, hKK.1.2.2.2.2.2.1 (eNS, eIS) (List.mem_of_getElem? (i := 8) rfl)⟩, fun _ h => nomatch h⟩⟩) rfl (show (81 : Nat) ≠ 0 by decide) (htl _ wd_8_23) (va_Nw.use rfl (hKK.1.2.2.1 (eNS, eNS) (List.mem_of_getElem? (i := 5) rfl))) h2 h3 h4 ?_
      refine lv_astore (lv' := [(4, .ref q9), (0, .ref o), (1, vi 4), (2, vi v), (3, vi x2)]) hx hb dL_ask_20 hl (by decide) rfl (fun ls hl => ?_)
      refine jr_sipush hx hb dL_ask_22 (by decide) ?_
      refine W.widen (k := 2) (n := 12) (by omega) (by omega) ?_
      exact je_Qi hx hb hr hlk rfl hS ⟨(rs_1 hcd).symm, w1, hC, hP, hD⟩ dL_ask_25
    · refine vx_catch (name := eIS) hown [xe (0, 7, 8, 73)] (xe (0, 7, 14, 77)) [xe (0, 7, 20, 81)] (htb.trans rfl) (List.forall_mem_cons.mpr ⟨Or.inr ⟨(show (73 : Nat) ≠ 0 by decide), _, htl _ wd_8_19, hKK.1.2.2.2.2.2.1 (eIS, eIO) (List.mem_of_getElem? (i := 1) rfl)⟩, fun _ h => nomatch h⟩) rfl (show (77 : Nat) ≠ 0 by decide) (htl _ wd_8_21) (va_Nw.use rfl (hKK.1.2.2.1 (eIS, eIS) (List.mem_of_getElem? (i := 1) rfl))) h2 h3 h4 ?_
      refine lv_astore (lv' := [(4, .ref q9), (0, .ref o), (1, vi 4), (2, vi v), (3, vi x2)]) hx hb dL_ask_14 hl (by decide) rfl (fun ls hl => ?_)
      refine jr_sipush hx hb dL_ask_16 (by decide) ?_
      refine W.widen (k := 2) (n := 12) (by omega) (by omega) ?_
      exact je_Qi hx hb hr hlk rfl hS ⟨(rs_2 hcd).symm, w1, hC, hP, hD⟩ dL_ask_19
  · intro z9 H1 L w1 hz9 hC hP hD hS
    obtain ⟨hcd, hz9⟩ := hz9
    refine W.widen (k := 2) (n := 12) (by omega) (by omega) ?_
    exact je_Qi hx hb hr hlk rfl hS ⟨hz9.trans (rs_0 hcd).symm, w1, hC, hP, hD⟩ dL_ask_7
set_option maxHeartbeats 4000000 in
set_option maxRecDepth 100000 in
theorem m_L_asked_sharedPairs (l : Launch) (hsT : l.stackTraces = false) (g : GT) (o : Nat) (S : SGM) (W9 : va_W) (hCW : CW g o S W9) (sz : Nat) (v : Int) (hv : jR v) (x2 : Int) : vx_Met l yL_asked (ws_ yL_asked cL_asked 4 (some .int)) (rmm 9 2 12) (jPc g [.ref o, vi 5, vi v, vi x2] (fun H => H.size = sz ∧ PP g W9 H ∧ va_D (fun q => gb g ≤ q) W9)) (jQi (fun z H1 => ((cdUD S v) = 0 ∧ z = shA (pl S.1) (pl (ug S v).1) ((pl S.1).length - 1)) ∧ ∃ w1 : va_W, CW g o (S) w1 ∧ PP g w1 H1 ∧ va_D (va_A W9 sz) w1) (va_A W9 sz)) (jXw (fun E => (E = eNS ∧ (cdUD S v) = 1) ∨ (E = eIS ∧ (cdUD S v) = 2)) (fun H1 => ∃ w1 : va_W, CW g o S w1 ∧ PP g w1 H1 ∧ va_D (va_A W9 sz) w1) (va_A W9 sz)) 2 12 (va_A W9 sz) := by
  refine jb_X (by decide) (Nat.le_of_ble_eq_true rfl) ?_
  intro p e s m below meth c hx hb hr hml hown htl hlk htab hKK hpre ls hl
  have hown : s.vm.findClass RL = some m.cls := hown
  obtain ⟨hsz, hP, hD0⟩ := hpre
  subst hsz
  have hD : va_D (va_A W9 s.heap.size) W9 := hD0.self
  have hl : lv_has ls 4 [(0, .ref o), (1, vi 5), (2, vi v), (3, vi x2)] := hl
  refine lv_iload_n hx hb dL_asked_0 rfl (lv_at hl 1 rfl) ?_
  refine lv_tableIn (tgt := 110) hx hb dL_asked_1 (by decide) (by decide) rfl rfl ?_
  refine lv_aload_n hx hb dL_asked_110 rfl (lv_at hl 0 rfl) ?_
  refine lv_iload_n hx hb dL_asked_111 rfl (lv_at hl 2 rfl) ?_
  refine jc_Qi (vx_runV (As := [vi v]) (rest := []) ⟨hx, hb, hml, hown, htl⟩ (m_X10_sharedPairs l hsT g o S W9 hCW s.heap.size v hv) (cwV 1 htl lk_L_98 rfl rfl rfl cwV_X10_sharedPairs ⟨Nat.le_of_ble_eq_true rfl, Nat.le_of_ble_eq_true rfl⟩) (jp_V hKK (va_S.rf (A := jN)) jNb (CW.recv hKK hCW hP) ⟨rfl, hP, hD0⟩) rfl rfl hl.1 rfl (lv_room (Nat.le_of_ble_eq_true rfl)) dL_asked_112 ⟨Nat.le_of_ble_eq_true rfl, Nat.le_of_ble_eq_true rfl⟩) hCW hP hD (jc_kx_out htab hlk (by omega) (by omega)) ?_
  intro z H L w1 hz hC hP hD hS
  refine vx_ret ?_
  refine W.widen (k := 2) (n := 12) (by omega) (by omega) ?_
  exact je_Qi hx hb hr hlk rfl hS ⟨hz, w1, hC, hP, hD⟩ dL_asked_115
set_option maxHeartbeats 4000000 in
set_option maxRecDepth 100000 in
theorem m_L_ask_sharedPairs (l : Launch) (hsT : l.stackTraces = false) (g : GT) (o : Nat) (S : SGM) (W9 : va_W) (hCW : CW g o S W9) (sz : Nat) (v : Int) (hv : jR v) (x2 : Int) : Met l yL_ask (.codeWith yL_ask cL_ask 5 (some .int) [(0, 7, 8, 73), (0, 7, 14, 77), (0, 7, 20, 81)] :: WSL) (rmm 10 2 12) (jPc g [.ref o, vi 5, vi v, vi x2] (fun H => H.size = sz ∧ PP g W9 H ∧ va_D (fun q => gb g ≤ q) W9)) (jQi (fun z H1 => z = rs (cdUD S v) (shA (pl S.1) (pl (ug S v).1) ((pl S.1).length - 1)) (-2005) (-2003) 0 ∧ ∃ w1 : va_W, CW g o (S) w1 ∧ PP g w1 H1 ∧ va_D (va_A W9 sz) w1) (va_A W9 sz)) 2 12 (va_A W9 sz) := by
  refine jc_M (by decide) (Nat.le_of_ble_eq_true rfl) ?_
  intro p e s m below meth c hx hb hr hml hown htl hlk htb hKK hpre ls hl
  have hown : s.vm.findClass RL = some m.cls := hown
  obtain ⟨hsz, hP, hD0⟩ := hpre
  subst hsz
  have hl : lv_has ls 5 [(0, .ref o), (1, vi 5), (2, vi v), (3, vi x2)] := hl
  refine lv_aload_n hx hb dL_ask_0 rfl (lv_at hl 0 rfl) ?_
  refine lv_iload_n hx hb dL_ask_1 rfl (lv_at hl 1 rfl) ?_
  refine lv_iload_n hx hb dL_ask_2 rfl (lv_at hl 2 rfl) ?_
  refine lv_iload_n hx hb dL_ask_3 rfl (lv_at hl 3 rfl) ?_
  refine jc_Qw (NP := fun z => ((cdUD S v) = 0 ∧ z = shA (pl S.1) (pl (ug S v).1) ((pl S.1).length - 1))) (vx_runS (As := [.ref o, vi 5, vi v, vi x2]) (rest := []) ⟨hx, hb, hml, hown, htl⟩ (m_L_asked_sharedPairs l hsT g o S W9 hCW s.heap.size v hv x2) (va_cwS 4 htl lk_L_136 rfl rfl rfl cwS_L_asked ⟨Nat.le_of_ble_eq_true rfl, Nat.le_of_ble_eq_true rfl⟩) (jp_S hKK (va_S.rf (A := jN)) jNb ⟨rfl, hP, hD0⟩) rfl rfl hl.1 rfl (lv_room (Nat.le_of_ble_eq_true rfl)) dL_ask_4 ⟨Nat.le_of_ble_eq_true rfl, Nat.le_of_ble_eq_true rfl⟩) ?_ ?_
  · intro E ce q9 H1 L w1 hE hC hP hD hS h2 h3 h4
    rcases hE with ⟨rfl, hcd⟩ | ⟨rfl, hcd⟩
    · refine vx_catch (name := eNS) hown [xe (0, 7, 8, 73), xe (0, 7, 14, 77)] (xe (0, 7, 20, 81)) [] (htb.trans rfl) (List.forall_mem_cons.mpr ⟨Or.inr ⟨(show (73 : Nat) ≠ 0 by decide), _, htl _ wd_8_19, hKK.1.2.2.2.2.2.1 (eNS, eIO) (List.mem_of_getElem? (i := 6) rfl)⟩, List.forall_mem_cons.mpr ⟨Or.inr ⟨(show (77 : Nat) ≠ 0 by decide), _, htl _ wd_8_21, hKK.1.2.2.2.2.2.1 (eNS, eIS) (List.mem_of_getElem? (i := 8) rfl)⟩, fun _ h => nomatch h⟩⟩) rfl (show (81 : Nat) ≠ 0 by decide) (htl _ wd_8_23) (va_Nw.use rfl (hKK.1.2.2.1 (eNS, eNS) (List.mem_of_getElem? (i := 5) rfl))) h2 h3 h4 ?_
      refine lv_astore (lv' := [(4, .ref q9), (0, .ref o), (1, vi 5), (2, vi v), (3, vi x2)]) hx hb dL_ask_20 hl (by decide) rfl (fun ls hl => ?_)
      refine jr_sipush hx hb dL_ask_22 (by decide) ?_
      refine W.widen (k := 2) (n := 12) (by omega) (by omega) ?_
      exact je_Qi hx hb hr hlk rfl hS ⟨(rs_1 hcd).symm, w1, hC, hP, hD⟩ dL_ask_25
    · refine vx_catch (name := eIS) hown [xe (0, 7, 8, 73)] (xe (0, 7, 14, 77)) [xe (0, 7, 20, 81)] (htb.trans rfl) (List.forall_mem_cons.mpr ⟨Or.inr ⟨(show (73 : Nat) ≠ 0 by decide), _, htl _ wd_8_19, hKK.1.2.2.2.2.2.1 (eIS, eIO) (List.mem_of_getElem? (i := 1) rfl)⟩, fun _ h => nomatch h⟩) rfl (show (77 : Nat) ≠ 0 by decide) (htl _ wd_8_21) (va_Nw.use rfl (hKK.1.2.2.1 (eIS, eIS) (List.mem_of_getElem? (i := 1) rfl))) h2 h3 h4 ?_
      refine lv_astore (lv' := [(4, .ref q9), (0, .ref o), (1, vi 5), (2, vi v), (3, vi x2)]) hx hb dL_ask_14 hl (by decide) rfl (fun ls hl => ?_)
      refine jr_sipush hx hb dL_ask_16 (by decide) ?_
      refine W.widen (k := 2) (n := 12) (by omega) (by omega) ?_
      exact je_Qi hx hb hr hlk rfl hS ⟨(rs_2 hcd).symm, w1, hC, hP, hD⟩ dL_ask_19
  · intro z9 H1 L w1 hz9 hC hP hD hS
    obtain ⟨hcd, hz9⟩ := hz9
    refine W.widen (k := 2) (n := 12) (by omega) (by omega) ?_
    exact je_Qi hx hb hr hlk rfl hS ⟨hz9.trans (rs_0 hcd).symm, w1, hC, hP, hD⟩ dL_ask_7
set_option maxHeartbeats 4000000 in
set_option maxRecDepth 100000 in
theorem m_L_asked_best (l : Launch) (hsT : l.stackTraces = false) (g : GT) (o : Nat) (S : SGM) (W9 : va_W) (hCW : CW g o S W9) (sz : Nat) (x1 : Int) (x2 : Int) : vx_Met l yL_asked (ws_ yL_asked cL_asked 4 (some .int)) (rmm 9 2 12) (jPc g [.ref o, vi 6, vi x1, vi x2] (fun H => H.size = sz ∧ PP g W9 H ∧ va_D (fun q => gb g ≤ q) W9)) (jQi (fun z H1 => ((cdBest S) = 0 ∧ z = bsU S S.1) ∧ ∃ w1 : va_W, CW g o (S) w1 ∧ PP g w1 H1 ∧ va_D (va_A W9 sz) w1) (va_A W9 sz)) (jXw (fun E => (E = eIS ∧ (cdBest S) = 1) ∨ (E = eNS ∧ (cdBest S) = 2)) (fun H1 => ∃ w1 : va_W, CW g o S w1 ∧ PP g w1 H1 ∧ va_D (va_A W9 sz) w1) (va_A W9 sz)) 2 12 (va_A W9 sz) := by
  refine jb_X (by decide) (Nat.le_of_ble_eq_true rfl) ?_
  intro p e s m below meth c hx hb hr hml hown htl hlk htab hKK hpre ls hl
  have hown : s.vm.findClass RL = some m.cls := hown
  obtain ⟨hsz, hP, hD0⟩ := hpre
  subst hsz
  have hD : va_D (va_A W9 s.heap.size) W9 := hD0.self
  have hl : lv_has ls 4 [(0, .ref o), (1, vi 6), (2, vi x1), (3, vi x2)] := hl
  refine lv_iload_n hx hb dL_asked_0 rfl (lv_at hl 1 rfl) ?_
  refine lv_tableIn (tgt := 116) hx hb dL_asked_1 (by decide) (by decide) rfl rfl ?_
  refine lv_aload_n hx hb dL_asked_116 rfl (lv_at hl 0 rfl) ?_
  refine jc_Qw (vx_runV (As := []) (rest := []) ⟨hx, hb, hml, hown, htl⟩ (m_X10_best l hsT g o S W9 hCW s.heap.size) (cwV 0 htl lk_L_101 rfl rfl rfl cwV_X10_best ⟨Nat.le_of_ble_eq_true rfl, Nat.le_of_ble_eq_true rfl⟩) (jp_V hKK (va_S.rf (A := jN)) jNb (CW.recv hKK hCW hP) ⟨rfl, hP, hD0⟩) rfl rfl hl.1 rfl (lv_room (Nat.le_of_ble_eq_true rfl)) dL_asked_117 ⟨Nat.le_of_ble_eq_true rfl, Nat.le_of_ble_eq_true rfl⟩) (jc_kx_out htab hlk (by omega) (by omega)) ?_
  intro z H L w1 hz hC hP hD hS
  refine vx_ret ?_
  refine W.widen (k := 2) (n := 12) (by omega) (by omega) ?_
  exact je_Qi hx hb hr hlk rfl hS ⟨hz, w1, hC, hP, hD⟩ dL_asked_120
set_option maxHeartbeats 4000000 in
set_option maxRecDepth 100000 in
theorem m_L_ask_best (l : Launch) (hsT : l.stackTraces = false) (g : GT) (o : Nat) (S : SGM) (W9 : va_W) (hCW : CW g o S W9) (sz : Nat) (x1 : Int) (x2 : Int) : Met l yL_ask (.codeWith yL_ask cL_ask 5 (some .int) [(0, 7, 8, 73), (0, 7, 14, 77), (0, 7, 20, 81)] :: WSL) (rmm 10 2 12) (jPc g [.ref o, vi 6, vi x1, vi x2] (fun H => H.size = sz ∧ PP g W9 H ∧ va_D (fun q => gb g ≤ q) W9)) (jQi (fun z H1 => z = rs (cdBest S) (bsU S S.1) (-2003) (-2005) 0 ∧ ∃ w1 : va_W, CW g o (S) w1 ∧ PP g w1 H1 ∧ va_D (va_A W9 sz) w1) (va_A W9 sz)) 2 12 (va_A W9 sz) := by
  refine jc_M (by decide) (Nat.le_of_ble_eq_true rfl) ?_
  intro p e s m below meth c hx hb hr hml hown htl hlk htb hKK hpre ls hl
  have hown : s.vm.findClass RL = some m.cls := hown
  obtain ⟨hsz, hP, hD0⟩ := hpre
  subst hsz
  have hl : lv_has ls 5 [(0, .ref o), (1, vi 6), (2, vi x1), (3, vi x2)] := hl
  refine lv_aload_n hx hb dL_ask_0 rfl (lv_at hl 0 rfl) ?_
  refine lv_iload_n hx hb dL_ask_1 rfl (lv_at hl 1 rfl) ?_
  refine lv_iload_n hx hb dL_ask_2 rfl (lv_at hl 2 rfl) ?_
  refine lv_iload_n hx hb dL_ask_3 rfl (lv_at hl 3 rfl) ?_
  refine jc_Qw (NP := fun z => ((cdBest S) = 0 ∧ z = bsU S S.1)) (vx_runS (As := [.ref o, vi 6, vi x1, vi x2]) (rest := []) ⟨hx, hb, hml, hown, htl⟩ (m_L_asked_best l hsT g o S W9 hCW s.heap.size x1 x2) (va_cwS 4 htl lk_L_136 rfl rfl rfl cwS_L_asked ⟨Nat.le_of_ble_eq_true rfl, Nat.le_of_ble_eq_true rfl⟩) (jp_S hKK (va_S.rf (A := jN)) jNb ⟨rfl, hP, hD0⟩) rfl rfl hl.1 rfl (lv_room (Nat.le_of_ble_eq_true rfl)) dL_ask_4 ⟨Nat.le_of_ble_eq_true rfl, Nat.le_of_ble_eq_true rfl⟩) ?_ ?_
  · intro E ce q9 H1 L w1 hE hC hP hD hS h2 h3 h4
    rcases hE with ⟨rfl, hcd⟩ | ⟨rfl, hcd⟩
    · refine vx_catch (name := eIS) hown [xe (0, 7, 8, 73)] (xe (0, 7, 14, 77)) [xe (0, 7, 20, 81)] (htb.trans rfl) (List.forall_mem_cons.mpr ⟨Or.inr ⟨(show (73 : Nat) ≠ 0 by decide), _, htl _ wd_8_19, hKK.1.2.2.2.2.2.1 (eIS, eIO) (List.mem_of_getElem? (i := 1) rfl)⟩, fun _ h => nomatch h⟩) rfl (show (77 : Nat) ≠ 0 by decide) (htl _ wd_8_21) (va_Nw.use rfl (hKK.1.2.2.1 (eIS, eIS) (List.mem_of_getElem? (i := 1) rfl))) h2 h3 h4 ?_
      refine lv_astore (lv' := [(4, .ref q9), (0, .ref o), (1, vi 6), (2, vi x1), (3, vi x2)]) hx hb dL_ask_14 hl (by decide) rfl (fun ls hl => ?_)
      refine jr_sipush hx hb dL_ask_16 (by decide) ?_
      refine W.widen (k := 2) (n := 12) (by omega) (by omega) ?_
      exact je_Qi hx hb hr hlk rfl hS ⟨(rs_1 hcd).symm, w1, hC, hP, hD⟩ dL_ask_19
    · refine vx_catch (name := eNS) hown [xe (0, 7, 8, 73), xe (0, 7, 14, 77)] (xe (0, 7, 20, 81)) [] (htb.trans rfl) (List.forall_mem_cons.mpr ⟨Or.inr ⟨(show (73 : Nat) ≠ 0 by decide), _, htl _ wd_8_19, hKK.1.2.2.2.2.2.1 (eNS, eIO) (List.mem_of_getElem? (i := 6) rfl)⟩, List.forall_mem_cons.mpr ⟨Or.inr ⟨(show (77 : Nat) ≠ 0 by decide), _, htl _ wd_8_21, hKK.1.2.2.2.2.2.1 (eNS, eIS) (List.mem_of_getElem? (i := 8) rfl)⟩, fun _ h => nomatch h⟩⟩) rfl (show (81 : Nat) ≠ 0 by decide) (htl _ wd_8_23) (va_Nw.use rfl (hKK.1.2.2.1 (eNS, eNS) (List.mem_of_getElem? (i := 5) rfl))) h2 h3 h4 ?_
      refine lv_astore (lv' := [(4, .ref q9), (0, .ref o), (1, vi 6), (2, vi x1), (3, vi x2)]) hx hb dL_ask_20 hl (by decide) rfl (fun ls hl => ?_)
      refine jr_sipush hx hb dL_ask_22 (by decide) ?_
      refine W.widen (k := 2) (n := 12) (by omega) (by omega) ?_
      exact je_Qi hx hb hr hlk rfl hS ⟨(rs_2 hcd).symm, w1, hC, hP, hD⟩ dL_ask_25
  · intro z9 H1 L w1 hz9 hC hP hD hS
    obtain ⟨hcd, hz9⟩ := hz9
    refine W.widen (k := 2) (n := 12) (by omega) (by omega) ?_
    exact je_Qi hx hb hr hlk rfl hS ⟨hz9.trans (rs_0 hcd).symm, w1, hC, hP, hD⟩ dL_ask_7
set_option maxHeartbeats 4000000 in
set_option maxRecDepth 100000 in
theorem m_L_asked_bestOfAll (l : Launch) (hsT : l.stackTraces = false) (g : GT) (o : Nat) (S : SGM) (W9 : va_W) (hCW : CW g o S W9) (sz : Nat) (x1 : Int) (x2 : Int) : vx_Met l yL_asked (ws_ yL_asked cL_asked 4 (some .int)) (rmm 9 2 12) (jPc g [.ref o, vi 7, vi x1, vi x2] (fun H => H.size = sz ∧ PP g W9 H ∧ va_D (fun q => gb g ≤ q) W9)) (jQi (fun z H1 => ((cdBest S) = 0 ∧ z = bsU S S.1) ∧ ∃ w1 : va_W, CW g o (S) w1 ∧ PP g w1 H1 ∧ va_D (va_A W9 sz) w1) (va_A W9 sz)) (jXw (fun E => (E = eIS ∧ (cdBest S) = 1) ∨ (E = eNS ∧ (cdBest S) = 2)) (fun H1 => ∃ w1 : va_W, CW g o S w1 ∧ PP g w1 H1 ∧ va_D (va_A W9 sz) w1) (va_A W9 sz)) 2 12 (va_A W9 sz) := by
  refine jb_X (by decide) (Nat.le_of_ble_eq_true rfl) ?_
  intro p e s m below meth c hx hb hr hml hown htl hlk htab hKK hpre ls hl
  have hown : s.vm.findClass RL = some m.cls := hown
  obtain ⟨hsz, hP, hD0⟩ := hpre
  subst hsz
  have hD : va_D (va_A W9 s.heap.size) W9 := hD0.self
  have hl : lv_has ls 4 [(0, .ref o), (1, vi 7), (2, vi x1), (3, vi x2)] := hl
  refine lv_iload_n hx hb dL_asked_0 rfl (lv_at hl 1 rfl) ?_
  refine lv_tableIn (tgt := 121) hx hb dL_asked_1 (by decide) (by decide) rfl rfl ?_
  refine lv_aload_n hx hb dL_asked_121 rfl (lv_at hl 0 rfl) ?_
  refine jc_Qw (vx_runV (As := []) (rest := []) ⟨hx, hb, hml, hown, htl⟩ (m_X10_bestOfAll l hsT g o S W9 hCW s.heap.size) (cwV 0 htl lk_L_104 rfl rfl rfl cwV_X10_bestOfAll ⟨Nat.le_of_ble_eq_true rfl, Nat.le_of_ble_eq_true rfl⟩) (jp_V hKK (va_S.rf (A := jN)) jNb (CW.recv hKK hCW hP) ⟨rfl, hP, hD0⟩) rfl rfl hl.1 rfl (lv_room (Nat.le_of_ble_eq_true rfl)) dL_asked_122 ⟨Nat.le_of_ble_eq_true rfl, Nat.le_of_ble_eq_true rfl⟩) (jc_kx_out htab hlk (by omega) (by omega)) ?_
  intro z H L w1 hz hC hP hD hS
  refine vx_ret ?_
  refine W.widen (k := 2) (n := 12) (by omega) (by omega) ?_
  exact je_Qi hx hb hr hlk rfl hS ⟨hz, w1, hC, hP, hD⟩ dL_asked_125
set_option maxHeartbeats 4000000 in
set_option maxRecDepth 100000 in
theorem m_L_ask_bestOfAll (l : Launch) (hsT : l.stackTraces = false) (g : GT) (o : Nat) (S : SGM) (W9 : va_W) (hCW : CW g o S W9) (sz : Nat) (x1 : Int) (x2 : Int) : Met l yL_ask (.codeWith yL_ask cL_ask 5 (some .int) [(0, 7, 8, 73), (0, 7, 14, 77), (0, 7, 20, 81)] :: WSL) (rmm 10 2 12) (jPc g [.ref o, vi 7, vi x1, vi x2] (fun H => H.size = sz ∧ PP g W9 H ∧ va_D (fun q => gb g ≤ q) W9)) (jQi (fun z H1 => z = rs (cdBest S) (bsU S S.1) (-2003) (-2005) 0 ∧ ∃ w1 : va_W, CW g o (S) w1 ∧ PP g w1 H1 ∧ va_D (va_A W9 sz) w1) (va_A W9 sz)) 2 12 (va_A W9 sz) := by
  refine jc_M (by decide) (Nat.le_of_ble_eq_true rfl) ?_
  intro p e s m below meth c hx hb hr hml hown htl hlk htb hKK hpre ls hl
  have hown : s.vm.findClass RL = some m.cls := hown
  obtain ⟨hsz, hP, hD0⟩ := hpre
  subst hsz
  have hl : lv_has ls 5 [(0, .ref o), (1, vi 7), (2, vi x1), (3, vi x2)] := hl
  refine lv_aload_n hx hb dL_ask_0 rfl (lv_at hl 0 rfl) ?_
  refine lv_iload_n hx hb dL_ask_1 rfl (lv_at hl 1 rfl) ?_
  refine lv_iload_n hx hb dL_ask_2 rfl (lv_at hl 2 rfl) ?_
  refine lv_iload_n hx hb dL_ask_3 rfl (lv_at hl 3 rfl) ?_
  refine jc_Qw (NP := fun z => ((cdBest S) = 0 ∧ z = bsU S S.1)) (vx_runS (As := [.ref o, vi 7, vi x1, vi x2]) (rest := []) ⟨hx, hb, hml, hown, htl⟩ (m_L_asked_bestOfAll l hsT g o S W9 hCW s.heap.size x1 x2) (va_cwS 4 htl lk_L_136 rfl rfl rfl cwS_L_asked ⟨Nat.le_of_ble_eq_true rfl, Nat.le_of_ble_eq_true rfl⟩) (jp_S hKK (va_S.rf (A := jN)) jNb ⟨rfl, hP, hD0⟩) rfl rfl hl.1 rfl (lv_room (Nat.le_of_ble_eq_true rfl)) dL_ask_4 ⟨Nat.le_of_ble_eq_true rfl, Nat.le_of_ble_eq_true rfl⟩) ?_ ?_
  · intro E ce q9 H1 L w1 hE hC hP hD hS h2 h3 h4
    rcases hE with ⟨rfl, hcd⟩ | ⟨rfl, hcd⟩
    · refine vx_catch (name := eIS) hown [xe (0, 7, 8, 73)] (xe (0, 7, 14, 77)) [xe (0, 7, 20, 81)] (htb.trans rfl) (List.forall_mem_cons.mpr ⟨Or.inr ⟨(show (73 : Nat) ≠ 0 by decide), _, htl _ wd_8_19, hKK.1.2.2.2.2.2.1 (eIS, eIO) (List.mem_of_getElem? (i := 1) rfl)⟩, fun _ h => nomatch h⟩) rfl (show (77 : Nat) ≠ 0 by decide) (htl _ wd_8_21) (va_Nw.use rfl (hKK.1.2.2.1 (eIS, eIS) (List.mem_of_getElem? (i := 1) rfl))) h2 h3 h4 ?_
      refine lv_astore (lv' := [(4, .ref q9), (0, .ref o), (1, vi 7), (2, vi x1), (3, vi x2)]) hx hb dL_ask_14 hl (by decide) rfl (fun ls hl => ?_)
      refine jr_sipush hx hb dL_ask_16 (by decide) ?_
      refine W.widen (k := 2) (n := 12) (by omega) (by omega) ?_
      exact je_Qi hx hb hr hlk rfl hS ⟨(rs_1 hcd).symm, w1, hC, hP, hD⟩ dL_ask_19
    · refine vx_catch (name := eNS) hown [xe (0, 7, 8, 73), xe (0, 7, 14, 77)] (xe (0, 7, 20, 81)) [] (htb.trans rfl) (List.forall_mem_cons.mpr ⟨Or.inr ⟨(show (73 : Nat) ≠ 0 by decide), _, htl _ wd_8_19, hKK.1.2.2.2.2.2.1 (eNS, eIO) (List.mem_of_getElem? (i := 6) rfl)⟩, List.forall_mem_cons.mpr ⟨Or.inr ⟨(show (77 : Nat) ≠ 0 by decide), _, htl _ wd_8_21, hKK.1.2.2.2.2.2.1 (eNS, eIS) (List.mem_of_getElem? (i := 8) rfl)⟩, fun _ h => nomatch h⟩⟩) rfl (show (81 : Nat) ≠ 0 by decide) (htl _ wd_8_23) (va_Nw.use rfl (hKK.1.2.2.1 (eNS, eNS) (List.mem_of_getElem? (i := 5) rfl))) h2 h3 h4 ?_
      refine lv_astore (lv' := [(4, .ref q9), (0, .ref o), (1, vi 7), (2, vi x1), (3, vi x2)]) hx hb dL_ask_20 hl (by decide) rfl (fun ls hl => ?_)
      refine jr_sipush hx hb dL_ask_22 (by decide) ?_
      refine W.widen (k := 2) (n := 12) (by omega) (by omega) ?_
      exact je_Qi hx hb hr hlk rfl hS ⟨(rs_2 hcd).symm, w1, hC, hP, hD⟩ dL_ask_25
  · intro z9 H1 L w1 hz9 hC hP hD hS
    obtain ⟨hcd, hz9⟩ := hz9
    refine W.widen (k := 2) (n := 12) (by omega) (by omega) ?_
    exact je_Qi hx hb hr hlk rfl hS ⟨hz9.trans (rs_0 hcd).symm, w1, hC, hP, hD⟩ dL_ask_7
set_option maxHeartbeats 4000000 in
set_option maxRecDepth 100000 in
theorem m_L_asked_isLive (l : Launch) (hsT : l.stackTraces = false) (g : GT) (o : Nat) (S : SGM) (W9 : va_W) (hCW : CW g o S W9) (sz : Nat) (v : Int) (hv : jR v) (x2 : Int) : vx_Met l yL_asked (ws_ yL_asked cL_asked 4 (some .int)) (rmm 7 1 6) (jPc g [.ref o, vi 8, vi v, vi x2] (fun H => H.size = sz ∧ PP g W9 H ∧ va_D (fun q => gb g ≤ q) W9)) (jQi (fun z H1 => ((cdU S v) = 0 ∧ z = (ug S v).2.2) ∧ ∃ w1 : va_W, CW g o S w1 ∧ PP g w1 H1 ∧ va_D (va_A W9 sz) w1) (va_A W9 sz)) (jXw (fun E => (E = eNS ∧ (cdU S v) = 1)) (fun H1 => ∃ w1 : va_W, CW g o S w1 ∧ PP g w1 H1 ∧ va_D (va_A W9 sz) w1) (va_A W9 sz)) 1 6 (va_A W9 sz) := by
  refine jb_X (by decide) (Nat.le_of_ble_eq_true rfl) ?_
  intro p e s m below meth c hx hb hr hml hown htl hlk htab hKK hpre ls hl
  have hown : s.vm.findClass RL = some m.cls := hown
  obtain ⟨hsz, hP, hD0⟩ := hpre
  subst hsz
  have hD : va_D (va_A W9 s.heap.size) W9 := hD0.self
  have hl : lv_has ls 4 [(0, .ref o), (1, vi 8), (2, vi v), (3, vi x2)] := hl
  refine lv_iload_n hx hb dL_asked_0 rfl (lv_at hl 1 rfl) ?_
  refine lv_tableIn (tgt := 126) hx hb dL_asked_1 (by decide) (by decide) rfl rfl ?_
  refine lv_aload_n hx hb dL_asked_126 rfl (lv_at hl 0 rfl) ?_
  refine lv_iload_n hx hb dL_asked_127 rfl (lv_at hl 2 rfl) ?_
  refine jc_Si (vx_runV (As := [vi v]) (rest := []) ⟨hx, hb, hml, hown, htl⟩ (m_X10_isLive l hsT g o S W9 hCW v hv) (cwV 1 htl lk_L_107 rfl rfl rfl cwV_X10_isLive ⟨Nat.le_of_ble_eq_true rfl, Nat.le_of_ble_eq_true rfl⟩) (jp_V hKK (va_S.rf (A := jN)) jNb (CW.recv hKK hCW hP) hP) rfl rfl hl.1 rfl (lv_room (Nat.le_of_ble_eq_true rfl)) dL_asked_128 ⟨Nat.le_of_ble_eq_true rfl, Nat.le_of_ble_eq_true rfl⟩) hCW hP hD (jc_kx_out htab hlk (by omega) (by omega)) ?_
  intro z H L w1 hz hC hP hD hS
  refine jk_Si (va_runS (As := [vi z]) (rest := []) ⟨hx, hb, hml, hown, htl⟩ (m_L_told l g z (by rw [hz.2]; exact CW.live hC v)) (va_cwS 1 htl lk_L_39 rfl rfl rfl cwS_L_told ⟨Nat.le_of_ble_eq_true rfl, Nat.le_of_ble_eq_true rfl⟩) (jp_S hKK hS (fun q h => h.elim (fun ⟨k, e, h⟩ => hD0.2 k _ h) (fun h => Nat.le_trans hKK.2.1 h)) trivial) rfl rfl hl.1 rfl (lv_room (Nat.le_of_ble_eq_true rfl)) dL_asked_131 ⟨Nat.le_of_ble_eq_true rfl, Nat.le_of_ble_eq_true rfl⟩) (fun z9 hz9 => ?_)
  subst hz9
  refine vx_ret ?_
  refine W.widen (k := 1) (n := 6) (by omega) (by omega) ?_
  exact je_Qi hx hb hr hlk rfl hS ⟨hz, w1, hC, hP, hD⟩ dL_asked_134
set_option maxHeartbeats 4000000 in
set_option maxRecDepth 100000 in
theorem m_L_ask_isLive (l : Launch) (hsT : l.stackTraces = false) (g : GT) (o : Nat) (S : SGM) (W9 : va_W) (hCW : CW g o S W9) (sz : Nat) (v : Int) (hv : jR v) (x2 : Int) : Met l yL_ask (.codeWith yL_ask cL_ask 5 (some .int) [(0, 7, 8, 73), (0, 7, 14, 77), (0, 7, 20, 81)] :: WSL) (rmm 8 1 6) (jPc g [.ref o, vi 8, vi v, vi x2] (fun H => H.size = sz ∧ PP g W9 H ∧ va_D (fun q => gb g ≤ q) W9)) (jQi (fun z H1 => z = rs (cdU S v) ((ug S v).2.2) (-2005) 0 0 ∧ ∃ w1 : va_W, CW g o S w1 ∧ PP g w1 H1 ∧ va_D (va_A W9 sz) w1) (va_A W9 sz)) 1 6 (va_A W9 sz) := by
  refine jc_M (by decide) (Nat.le_of_ble_eq_true rfl) ?_
  intro p e s m below meth c hx hb hr hml hown htl hlk htb hKK hpre ls hl
  have hown : s.vm.findClass RL = some m.cls := hown
  obtain ⟨hsz, hP, hD0⟩ := hpre
  subst hsz
  have hl : lv_has ls 5 [(0, .ref o), (1, vi 8), (2, vi v), (3, vi x2)] := hl
  refine lv_aload_n hx hb dL_ask_0 rfl (lv_at hl 0 rfl) ?_
  refine lv_iload_n hx hb dL_ask_1 rfl (lv_at hl 1 rfl) ?_
  refine lv_iload_n hx hb dL_ask_2 rfl (lv_at hl 2 rfl) ?_
  refine lv_iload_n hx hb dL_ask_3 rfl (lv_at hl 3 rfl) ?_
  refine jc_Qw (NP := fun z => ((cdU S v) = 0 ∧ z = (ug S v).2.2)) (vx_runS (As := [.ref o, vi 8, vi v, vi x2]) (rest := []) ⟨hx, hb, hml, hown, htl⟩ (m_L_asked_isLive l hsT g o S W9 hCW s.heap.size v hv x2) (va_cwS 4 htl lk_L_136 rfl rfl rfl cwS_L_asked ⟨Nat.le_of_ble_eq_true rfl, Nat.le_of_ble_eq_true rfl⟩) (jp_S hKK (va_S.rf (A := jN)) jNb ⟨rfl, hP, hD0⟩) rfl rfl hl.1 rfl (lv_room (Nat.le_of_ble_eq_true rfl)) dL_ask_4 ⟨Nat.le_of_ble_eq_true rfl, Nat.le_of_ble_eq_true rfl⟩) ?_ ?_
  · intro E ce q9 H1 L w1 hE hC hP hD hS h2 h3 h4
    rcases hE with ⟨rfl, hcd⟩
    · refine vx_catch (name := eNS) hown [xe (0, 7, 8, 73), xe (0, 7, 14, 77)] (xe (0, 7, 20, 81)) [] (htb.trans rfl) (List.forall_mem_cons.mpr ⟨Or.inr ⟨(show (73 : Nat) ≠ 0 by decide), _, htl _ wd_8_19, hKK.1.2.2.2.2.2.1 (eNS, eIO) (List.mem_of_getElem? (i := 6) rfl)⟩, List.forall_mem_cons.mpr ⟨Or.inr ⟨(show (77 : Nat) ≠ 0 by decide), _, htl _ wd_8_21, hKK.1.2.2.2.2.2.1 (eNS, eIS) (List.mem_of_getElem? (i := 8) rfl)⟩, fun _ h => nomatch h⟩⟩) rfl (show (81 : Nat) ≠ 0 by decide) (htl _ wd_8_23) (va_Nw.use rfl (hKK.1.2.2.1 (eNS, eNS) (List.mem_of_getElem? (i := 5) rfl))) h2 h3 h4 ?_
      refine lv_astore (lv' := [(4, .ref q9), (0, .ref o), (1, vi 8), (2, vi v), (3, vi x2)]) hx hb dL_ask_20 hl (by decide) rfl (fun ls hl => ?_)
      refine jr_sipush hx hb dL_ask_22 (by decide) ?_
      refine W.widen (k := 1) (n := 6) (by omega) (by omega) ?_
      exact je_Qi hx hb hr hlk rfl hS ⟨(rs_1 hcd).symm, w1, hC, hP, hD⟩ dL_ask_25
  · intro z9 H1 L w1 hz9 hC hP hD hS
    obtain ⟨hcd, hz9⟩ := hz9
    refine W.widen (k := 1) (n := 6) (by omega) (by omega) ?_
    exact je_Qi hx hb hr hlk rfl hS ⟨hz9.trans (rs_0 hcd).symm, w1, hC, hP, hD⟩ dL_ask_7
set_option maxHeartbeats 4000000 in
set_option maxRecDepth 100000 in
theorem m_L_asked_stateOf (l : Launch) (hsT : l.stackTraces = false) (g : GT) (o : Nat) (S : SGM) (W9 : va_W) (hCW : CW g o S W9) (sz : Nat) (v : Int) (hv : jR v) (x2 : Int) : vx_Met l yL_asked (ws_ yL_asked cL_asked 4 (some .int)) (rmm 8 1 6) (jPc g [.ref o, vi 9, vi v, vi x2] (fun H => H.size = sz ∧ PP g W9 H ∧ va_D (fun q => gb g ≤ q) W9)) (jQi (fun z H1 => ((cdS S v) = 0 ∧ z = (sg S v).2.2.1) ∧ ∃ w1 : va_W, CW g o S w1 ∧ PP g w1 H1 ∧ va_D (va_A W9 sz) w1) (va_A W9 sz)) (jXw (fun E => (E = eIO ∧ (cdS S v) = 1)) (fun H1 => ∃ w1 : va_W, CW g o S w1 ∧ PP g w1 H1 ∧ va_D (va_A W9 sz) w1) (va_A W9 sz)) 1 6 (va_A W9 sz) := by
  refine jb_X (by decide) (Nat.le_of_ble_eq_true rfl) ?_
  intro p e s m below meth c hx hb hr hml hown htl hlk htab hKK hpre ls hl
  have hown : s.vm.findClass RL = some m.cls := hown
  obtain ⟨hsz, hP, hD0⟩ := hpre
  subst hsz
  have hD : va_D (va_A W9 s.heap.size) W9 := hD0.self
  have hl : lv_has ls 4 [(0, .ref o), (1, vi 9), (2, vi v), (3, vi x2)] := hl
  refine lv_iload_n hx hb dL_asked_0 rfl (lv_at hl 1 rfl) ?_
  refine lv_tableIn (tgt := 135) hx hb dL_asked_1 (by decide) (by decide) rfl rfl ?_
  refine lv_aload_n hx hb dL_asked_135 rfl (lv_at hl 0 rfl) ?_
  refine lv_iload_n hx hb dL_asked_136 rfl (lv_at hl 2 rfl) ?_
  refine jc_Si (vx_runV (As := [vi v]) (rest := []) ⟨hx, hb, hml, hown, htl⟩ (m_X10_stateOf l hsT g o S W9 hCW v hv) (cwV 1 htl lk_L_110 rfl rfl rfl cwV_X10_stateOf ⟨Nat.le_of_ble_eq_true rfl, Nat.le_of_ble_eq_true rfl⟩) (jp_V hKK (va_S.rf (A := jN)) jNb (CW.recv hKK hCW hP) hP) rfl rfl hl.1 rfl (lv_room (Nat.le_of_ble_eq_true rfl)) dL_asked_137 ⟨Nat.le_of_ble_eq_true rfl, Nat.le_of_ble_eq_true rfl⟩) hCW hP hD (jc_kx_out htab hlk (by omega) (by omega)) ?_
  intro z H L w1 hz hC hP hD hS
  refine vx_ret ?_
  refine W.widen (k := 1) (n := 6) (by omega) (by omega) ?_
  exact je_Qi hx hb hr hlk rfl hS ⟨hz, w1, hC, hP, hD⟩ dL_asked_140
set_option maxHeartbeats 4000000 in
set_option maxRecDepth 100000 in
theorem m_L_ask_stateOf (l : Launch) (hsT : l.stackTraces = false) (g : GT) (o : Nat) (S : SGM) (W9 : va_W) (hCW : CW g o S W9) (sz : Nat) (v : Int) (hv : jR v) (x2 : Int) : Met l yL_ask (.codeWith yL_ask cL_ask 5 (some .int) [(0, 7, 8, 73), (0, 7, 14, 77), (0, 7, 20, 81)] :: WSL) (rmm 9 1 6) (jPc g [.ref o, vi 9, vi v, vi x2] (fun H => H.size = sz ∧ PP g W9 H ∧ va_D (fun q => gb g ≤ q) W9)) (jQi (fun z H1 => z = rs (cdS S v) ((sg S v).2.2.1) (-2001) 0 0 ∧ ∃ w1 : va_W, CW g o S w1 ∧ PP g w1 H1 ∧ va_D (va_A W9 sz) w1) (va_A W9 sz)) 1 6 (va_A W9 sz) := by
  refine jc_M (by decide) (Nat.le_of_ble_eq_true rfl) ?_
  intro p e s m below meth c hx hb hr hml hown htl hlk htb hKK hpre ls hl
  have hown : s.vm.findClass RL = some m.cls := hown
  obtain ⟨hsz, hP, hD0⟩ := hpre
  subst hsz
  have hl : lv_has ls 5 [(0, .ref o), (1, vi 9), (2, vi v), (3, vi x2)] := hl
  refine lv_aload_n hx hb dL_ask_0 rfl (lv_at hl 0 rfl) ?_
  refine lv_iload_n hx hb dL_ask_1 rfl (lv_at hl 1 rfl) ?_
  refine lv_iload_n hx hb dL_ask_2 rfl (lv_at hl 2 rfl) ?_
  refine lv_iload_n hx hb dL_ask_3 rfl (lv_at hl 3 rfl) ?_
  refine jc_Qw (NP := fun z => ((cdS S v) = 0 ∧ z = (sg S v).2.2.1)) (vx_runS (As := [.ref o, vi 9, vi v, vi x2]) (rest := []) ⟨hx, hb, hml, hown, htl⟩ (m_L_asked_stateOf l hsT g o S W9 hCW s.heap.size v hv x2) (va_cwS 4 htl lk_L_136 rfl rfl rfl cwS_L_asked ⟨Nat.le_of_ble_eq_true rfl, Nat.le_of_ble_eq_true rfl⟩) (jp_S hKK (va_S.rf (A := jN)) jNb ⟨rfl, hP, hD0⟩) rfl rfl hl.1 rfl (lv_room (Nat.le_of_ble_eq_true rfl)) dL_ask_4 ⟨Nat.le_of_ble_eq_true rfl, Nat.le_of_ble_eq_true rfl⟩) ?_ ?_
  · intro E ce q9 H1 L w1 hE hC hP hD hS h2 h3 h4
    rcases hE with ⟨rfl, hcd⟩
    · refine vx_catch (name := eIO) hown [] (xe (0, 7, 8, 73)) [xe (0, 7, 14, 77), xe (0, 7, 20, 81)] (htb.trans rfl) (fun _ h => nomatch h) rfl (show (73 : Nat) ≠ 0 by decide) (htl _ wd_8_19) (va_Nw.use rfl (hKK.1.2.2.1 (eIO, eIO) (List.mem_of_getElem? (i := 2) rfl))) h2 h3 h4 ?_
      refine lv_astore (lv' := [(4, .ref q9), (0, .ref o), (1, vi 9), (2, vi v), (3, vi x2)]) hx hb dL_ask_8 hl (by decide) rfl (fun ls hl => ?_)
      refine jr_sipush hx hb dL_ask_10 (by decide) ?_
      refine W.widen (k := 1) (n := 6) (by omega) (by omega) ?_
      exact je_Qi hx hb hr hlk rfl hS ⟨(rs_1 hcd).symm, w1, hC, hP, hD⟩ dL_ask_13
  · intro z9 H1 L w1 hz9 hC hP hD hS
    obtain ⟨hcd, hz9⟩ := hz9
    refine W.widen (k := 1) (n := 6) (by omega) (by omega) ?_
    exact je_Qi hx hb hr hlk rfl hS ⟨hz9.trans (rs_0 hcd).symm, w1, hC, hP, hD⟩ dL_ask_7
set_option maxHeartbeats 4000000 in
set_option maxRecDepth 100000 in
theorem m_L_asked_unitOf (l : Launch) (hsT : l.stackTraces = false) (g : GT) (o : Nat) (S : SGM) (W9 : va_W) (hCW : CW g o S W9) (sz : Nat) (v : Int) (hv : jR v) (x2 : Int) : vx_Met l yL_asked (ws_ yL_asked cL_asked 4 (some .int)) (rmm 9 2 12) (jPc g [.ref o, vi 10, vi v, vi x2] (fun H => H.size = sz ∧ PP g W9 H ∧ va_D (fun q => gb g ≤ q) W9)) (jQi (fun z H1 => ((cdSF S v) = 0 ∧ z = (sg S v).2.2.2.1) ∧ ∃ w1 : va_W, CW g o S w1 ∧ PP g w1 H1 ∧ va_D (va_A W9 sz) w1) (va_A W9 sz)) (jXw (fun E => (E = eIO ∧ (cdSF S v) = 1) ∨ (E = eNS ∧ (cdSF S v) = 2)) (fun H1 => ∃ w1 : va_W, CW g o S w1 ∧ PP g w1 H1 ∧ va_D (va_A W9 sz) w1) (va_A W9 sz)) 2 12 (va_A W9 sz) := by
  refine jb_X (by decide) (Nat.le_of_ble_eq_true rfl) ?_
  intro p e s m below meth c hx hb hr hml hown htl hlk htab hKK hpre ls hl
  have hown : s.vm.findClass RL = some m.cls := hown
  obtain ⟨hsz, hP, hD0⟩ := hpre
  subst hsz
  have hD : va_D (va_A W9 s.heap.size) W9 := hD0.self
  have hl : lv_has ls 4 [(0, .ref o), (1, vi 10), (2, vi v), (3, vi x2)] := hl
  refine lv_iload_n hx hb dL_asked_0 rfl (lv_at hl 1 rfl) ?_
  refine lv_tableIn (tgt := 141) hx hb dL_asked_1 (by decide) (by decide) rfl rfl ?_
  refine lv_aload_n hx hb dL_asked_141 rfl (lv_at hl 0 rfl) ?_
  refine lv_iload_n hx hb dL_asked_142 rfl (lv_at hl 2 rfl) ?_
  refine jc_Si (vx_runV (As := [vi v]) (rest := []) ⟨hx, hb, hml, hown, htl⟩ (m_X10_unitOf l hsT g o S W9 hCW v hv) (cwV 1 htl lk_L_114 rfl rfl rfl cwV_X10_unitOf ⟨Nat.le_of_ble_eq_true rfl, Nat.le_of_ble_eq_true rfl⟩) (jp_V hKK (va_S.rf (A := jN)) jNb (CW.recv hKK hCW hP) hP) rfl rfl hl.1 rfl (lv_room (Nat.le_of_ble_eq_true rfl)) dL_asked_143 ⟨Nat.le_of_ble_eq_true rfl, Nat.le_of_ble_eq_true rfl⟩) hCW hP hD (jc_kx_out htab hlk (by omega) (by omega)) ?_
  intro z H L w1 hz hC hP hD hS
  refine vx_ret ?_
  refine W.widen (k := 2) (n := 12) (by omega) (by omega) ?_
  exact je_Qi hx hb hr hlk rfl hS ⟨hz, w1, hC, hP, hD⟩ dL_asked_146
set_option maxHeartbeats 4000000 in
set_option maxRecDepth 100000 in
theorem m_L_ask_unitOf (l : Launch) (hsT : l.stackTraces = false) (g : GT) (o : Nat) (S : SGM) (W9 : va_W) (hCW : CW g o S W9) (sz : Nat) (v : Int) (hv : jR v) (x2 : Int) : Met l yL_ask (.codeWith yL_ask cL_ask 5 (some .int) [(0, 7, 8, 73), (0, 7, 14, 77), (0, 7, 20, 81)] :: WSL) (rmm 10 2 12) (jPc g [.ref o, vi 10, vi v, vi x2] (fun H => H.size = sz ∧ PP g W9 H ∧ va_D (fun q => gb g ≤ q) W9)) (jQi (fun z H1 => z = rs (cdSF S v) ((sg S v).2.2.2.1) (-2001) (-2005) 0 ∧ ∃ w1 : va_W, CW g o S w1 ∧ PP g w1 H1 ∧ va_D (va_A W9 sz) w1) (va_A W9 sz)) 2 12 (va_A W9 sz) := by
  refine jc_M (by decide) (Nat.le_of_ble_eq_true rfl) ?_
  intro p e s m below meth c hx hb hr hml hown htl hlk htb hKK hpre ls hl
  have hown : s.vm.findClass RL = some m.cls := hown
  obtain ⟨hsz, hP, hD0⟩ := hpre
  subst hsz
  have hl : lv_has ls 5 [(0, .ref o), (1, vi 10), (2, vi v), (3, vi x2)] := hl
  refine lv_aload_n hx hb dL_ask_0 rfl (lv_at hl 0 rfl) ?_
  refine lv_iload_n hx hb dL_ask_1 rfl (lv_at hl 1 rfl) ?_
  refine lv_iload_n hx hb dL_ask_2 rfl (lv_at hl 2 rfl) ?_
  refine lv_iload_n hx hb dL_ask_3 rfl (lv_at hl 3 rfl) ?_
  refine jc_Qw (NP := fun z => ((cdSF S v) = 0 ∧ z = (sg S v).2.2.2.1)) (vx_runS (As := [.ref o, vi 10, vi v, vi x2]) (rest := []) ⟨hx, hb, hml, hown, htl⟩ (m_L_asked_unitOf l hsT g o S W9 hCW s.heap.size v hv x2) (va_cwS 4 htl lk_L_136 rfl rfl rfl cwS_L_asked ⟨Nat.le_of_ble_eq_true rfl, Nat.le_of_ble_eq_true rfl⟩) (jp_S hKK (va_S.rf (A := jN)) jNb ⟨rfl, hP, hD0⟩) rfl rfl hl.1 rfl (lv_room (Nat.le_of_ble_eq_true rfl)) dL_ask_4 ⟨Nat.le_of_ble_eq_true rfl, Nat.le_of_ble_eq_true rfl⟩) ?_ ?_
  · intro E ce q9 H1 L w1 hE hC hP hD hS h2 h3 h4
    rcases hE with ⟨rfl, hcd⟩ | ⟨rfl, hcd⟩
    · refine vx_catch (name := eIO) hown [] (xe (0, 7, 8, 73)) [xe (0, 7, 14, 77), xe (0, 7, 20, 81)] (htb.trans rfl) (fun _ h => nomatch h) rfl (show (73 : Nat) ≠ 0 by decide) (htl _ wd_8_19) (va_Nw.use rfl (hKK.1.2.2.1 (eIO, eIO) (List.mem_of_getElem? (i := 2) rfl))) h2 h3 h4 ?_
      refine lv_astore (lv' := [(4, .ref q9), (0, .ref o), (1, vi 10), (2, vi v), (3, vi x2)]) hx hb dL_ask_8 hl (by decide) rfl (fun ls hl => ?_)
      refine jr_sipush hx hb dL_ask_10 (by decide) ?_
      refine W.widen (k := 2) (n := 12) (by omega) (by omega) ?_
      exact je_Qi hx hb hr hlk rfl hS ⟨(rs_1 hcd).symm, w1, hC, hP, hD⟩ dL_ask_13
    · refine vx_catch (name := eNS) hown [xe (0, 7, 8, 73), xe (0, 7, 14, 77)] (xe (0, 7, 20, 81)) [] (htb.trans rfl) (List.forall_mem_cons.mpr ⟨Or.inr ⟨(show (73 : Nat) ≠ 0 by decide), _, htl _ wd_8_19, hKK.1.2.2.2.2.2.1 (eNS, eIO) (List.mem_of_getElem? (i := 6) rfl)⟩, List.forall_mem_cons.mpr ⟨Or.inr ⟨(show (77 : Nat) ≠ 0 by decide), _, htl _ wd_8_21, hKK.1.2.2.2.2.2.1 (eNS, eIS) (List.mem_of_getElem? (i := 8) rfl)⟩, fun _ h => nomatch h⟩⟩) rfl (show (81 : Nat) ≠ 0 by decide) (htl _ wd_8_23) (va_Nw.use rfl (hKK.1.2.2.1 (eNS, eNS) (List.mem_of_getElem? (i := 5) rfl))) h2 h3 h4 ?_
      refine lv_astore (lv' := [(4, .ref q9), (0, .ref o), (1, vi 10), (2, vi v), (3, vi x2)]) hx hb dL_ask_20 hl (by decide) rfl (fun ls hl => ?_)
      refine jr_sipush hx hb dL_ask_22 (by decide) ?_
      refine W.widen (k := 2) (n := 12) (by omega) (by omega) ?_
      exact je_Qi hx hb hr hlk rfl hS ⟨(rs_2 hcd).symm, w1, hC, hP, hD⟩ dL_ask_25
  · intro z9 H1 L w1 hz9 hC hP hD hS
    obtain ⟨hcd, hz9⟩ := hz9
    refine W.widen (k := 2) (n := 12) (by omega) (by omega) ?_
    exact je_Qi hx hb hr hlk rfl hS ⟨hz9.trans (rs_0 hcd).symm, w1, hC, hP, hD⟩ dL_ask_7
set_option maxHeartbeats 4000000 in
set_option maxRecDepth 100000 in
theorem m_L_asked_scoreOf (l : Launch) (hsT : l.stackTraces = false) (g : GT) (o : Nat) (S : SGM) (W9 : va_W) (hCW : CW g o S W9) (sz : Nat) (v : Int) (hv : jR v) (x2 : Int) : vx_Met l yL_asked (ws_ yL_asked cL_asked 4 (some .int)) (rmm 9 2 12) (jPc g [.ref o, vi 11, vi v, vi x2] (fun H => H.size = sz ∧ PP g W9 H ∧ va_D (fun q => gb g ≤ q) W9)) (jQi (fun z H1 => ((cdSF S v) = 0 ∧ z = (sg S v).2.2.2.2) ∧ ∃ w1 : va_W, CW g o S w1 ∧ PP g w1 H1 ∧ va_D (va_A W9 sz) w1) (va_A W9 sz)) (jXw (fun E => (E = eIO ∧ (cdSF S v) = 1) ∨ (E = eNS ∧ (cdSF S v) = 2)) (fun H1 => ∃ w1 : va_W, CW g o S w1 ∧ PP g w1 H1 ∧ va_D (va_A W9 sz) w1) (va_A W9 sz)) 2 12 (va_A W9 sz) := by
  refine jb_X (by decide) (Nat.le_of_ble_eq_true rfl) ?_
  intro p e s m below meth c hx hb hr hml hown htl hlk htab hKK hpre ls hl
  have hown : s.vm.findClass RL = some m.cls := hown
  obtain ⟨hsz, hP, hD0⟩ := hpre
  subst hsz
  have hD : va_D (va_A W9 s.heap.size) W9 := hD0.self
  have hl : lv_has ls 4 [(0, .ref o), (1, vi 11), (2, vi v), (3, vi x2)] := hl
  refine lv_iload_n hx hb dL_asked_0 rfl (lv_at hl 1 rfl) ?_
  refine lv_tableIn (tgt := 147) hx hb dL_asked_1 (by decide) (by decide) rfl rfl ?_
  refine lv_aload_n hx hb dL_asked_147 rfl (lv_at hl 0 rfl) ?_
  refine lv_iload_n hx hb dL_asked_148 rfl (lv_at hl 2 rfl) ?_
  refine jc_Si (vx_runV (As := [vi v]) (rest := []) ⟨hx, hb, hml, hown, htl⟩ (m_X10_scoreOf l hsT g o S W9 hCW v hv) (cwV 1 htl lk_L_117 rfl rfl rfl cwV_X10_scoreOf ⟨Nat.le_of_ble_eq_true rfl, Nat.le_of_ble_eq_true rfl⟩) (jp_V hKK (va_S.rf (A := jN)) jNb (CW.recv hKK hCW hP) hP) rfl rfl hl.1 rfl (lv_room (Nat.le_of_ble_eq_true rfl)) dL_asked_149 ⟨Nat.le_of_ble_eq_true rfl, Nat.le_of_ble_eq_true rfl⟩) hCW hP hD (jc_kx_out htab hlk (by omega) (by omega)) ?_
  intro z H L w1 hz hC hP hD hS
  refine vx_ret ?_
  refine W.widen (k := 2) (n := 12) (by omega) (by omega) ?_
  exact je_Qi hx hb hr hlk rfl hS ⟨hz, w1, hC, hP, hD⟩ dL_asked_152
set_option maxHeartbeats 4000000 in
set_option maxRecDepth 100000 in
theorem m_L_ask_scoreOf (l : Launch) (hsT : l.stackTraces = false) (g : GT) (o : Nat) (S : SGM) (W9 : va_W) (hCW : CW g o S W9) (sz : Nat) (v : Int) (hv : jR v) (x2 : Int) : Met l yL_ask (.codeWith yL_ask cL_ask 5 (some .int) [(0, 7, 8, 73), (0, 7, 14, 77), (0, 7, 20, 81)] :: WSL) (rmm 10 2 12) (jPc g [.ref o, vi 11, vi v, vi x2] (fun H => H.size = sz ∧ PP g W9 H ∧ va_D (fun q => gb g ≤ q) W9)) (jQi (fun z H1 => z = rs (cdSF S v) ((sg S v).2.2.2.2) (-2001) (-2005) 0 ∧ ∃ w1 : va_W, CW g o S w1 ∧ PP g w1 H1 ∧ va_D (va_A W9 sz) w1) (va_A W9 sz)) 2 12 (va_A W9 sz) := by
  refine jc_M (by decide) (Nat.le_of_ble_eq_true rfl) ?_
  intro p e s m below meth c hx hb hr hml hown htl hlk htb hKK hpre ls hl
  have hown : s.vm.findClass RL = some m.cls := hown
  obtain ⟨hsz, hP, hD0⟩ := hpre
  subst hsz
  have hl : lv_has ls 5 [(0, .ref o), (1, vi 11), (2, vi v), (3, vi x2)] := hl
  refine lv_aload_n hx hb dL_ask_0 rfl (lv_at hl 0 rfl) ?_
  refine lv_iload_n hx hb dL_ask_1 rfl (lv_at hl 1 rfl) ?_
  refine lv_iload_n hx hb dL_ask_2 rfl (lv_at hl 2 rfl) ?_
  refine lv_iload_n hx hb dL_ask_3 rfl (lv_at hl 3 rfl) ?_
  refine jc_Qw (NP := fun z => ((cdSF S v) = 0 ∧ z = (sg S v).2.2.2.2)) (vx_runS (As := [.ref o, vi 11, vi v, vi x2]) (rest := []) ⟨hx, hb, hml, hown, htl⟩ (m_L_asked_scoreOf l hsT g o S W9 hCW s.heap.size v hv x2) (va_cwS 4 htl lk_L_136 rfl rfl rfl cwS_L_asked ⟨Nat.le_of_ble_eq_true rfl, Nat.le_of_ble_eq_true rfl⟩) (jp_S hKK (va_S.rf (A := jN)) jNb ⟨rfl, hP, hD0⟩) rfl rfl hl.1 rfl (lv_room (Nat.le_of_ble_eq_true rfl)) dL_ask_4 ⟨Nat.le_of_ble_eq_true rfl, Nat.le_of_ble_eq_true rfl⟩) ?_ ?_
  · intro E ce q9 H1 L w1 hE hC hP hD hS h2 h3 h4
    rcases hE with ⟨rfl, hcd⟩ | ⟨rfl, hcd⟩
    · refine vx_catch (name := eIO) hown [] (xe (0, 7, 8, 73)) [xe (0, 7, 14, 77), xe (0, 7, 20, 81)] (htb.trans rfl) (fun _ h => nomatch h) rfl (show (73 : Nat) ≠ 0 by decide) (htl _ wd_8_19) (va_Nw.use rfl (hKK.1.2.2.1 (eIO, eIO) (List.mem_of_getElem? (i := 2) rfl))) h2 h3 h4 ?_
      refine lv_astore (lv' := [(4, .ref q9), (0, .ref o), (1, vi 11), (2, vi v), (3, vi x2)]) hx hb dL_ask_8 hl (by decide) rfl (fun ls hl => ?_)
      refine jr_sipush hx hb dL_ask_10 (by decide) ?_
      refine W.widen (k := 2) (n := 12) (by omega) (by omega) ?_
      exact je_Qi hx hb hr hlk rfl hS ⟨(rs_1 hcd).symm, w1, hC, hP, hD⟩ dL_ask_13
    · refine vx_catch (name := eNS) hown [xe (0, 7, 8, 73), xe (0, 7, 14, 77)] (xe (0, 7, 20, 81)) [] (htb.trans rfl) (List.forall_mem_cons.mpr ⟨Or.inr ⟨(show (73 : Nat) ≠ 0 by decide), _, htl _ wd_8_19, hKK.1.2.2.2.2.2.1 (eNS, eIO) (List.mem_of_getElem? (i := 6) rfl)⟩, List.forall_mem_cons.mpr ⟨Or.inr ⟨(show (77 : Nat) ≠ 0 by decide), _, htl _ wd_8_21, hKK.1.2.2.2.2.2.1 (eNS, eIS) (List.mem_of_getElem? (i := 8) rfl)⟩, fun _ h => nomatch h⟩⟩) rfl (show (81 : Nat) ≠ 0 by decide) (htl _ wd_8_23) (va_Nw.use rfl (hKK.1.2.2.1 (eNS, eNS) (List.mem_of_getElem? (i := 5) rfl))) h2 h3 h4 ?_
      refine lv_astore (lv' := [(4, .ref q9), (0, .ref o), (1, vi 11), (2, vi v), (3, vi x2)]) hx hb dL_ask_20 hl (by decide) rfl (fun ls hl => ?_)
      refine jr_sipush hx hb dL_ask_22 (by decide) ?_
      refine W.widen (k := 2) (n := 12) (by omega) (by omega) ?_
      exact je_Qi hx hb hr hlk rfl hS ⟨(rs_2 hcd).symm, w1, hC, hP, hD⟩ dL_ask_25
  · intro z9 H1 L w1 hz9 hC hP hD hS
    obtain ⟨hcd, hz9⟩ := hz9
    refine W.widen (k := 2) (n := 12) (by omega) (by omega) ?_
    exact je_Qi hx hb hr hlk rfl hS ⟨hz9.trans (rs_0 hcd).symm, w1, hC, hP, hD⟩ dL_ask_7
set_option maxHeartbeats 4000000 in
set_option maxRecDepth 100000 in
theorem m_L_asked_segmentLength (l : Launch) (hsT : l.stackTraces = false) (g : GT) (o : Nat) (S : SGM) (W9 : va_W) (hCW : CW g o S W9) (sz : Nat) (v : Int) (hv : jR v) (x2 : Int) : vx_Met l yL_asked (ws_ yL_asked cL_asked 4 (some .int)) (rmm 8 1 6) (jPc g [.ref o, vi 12, vi v, vi x2] (fun H => H.size = sz ∧ PP g W9 H ∧ va_D (fun q => gb g ≤ q) W9)) (jQi (fun z H1 => ((cdS S v) = 0 ∧ z = ((sg S v).1.length : Int)) ∧ ∃ w1 : va_W, CW g o S w1 ∧ PP g w1 H1 ∧ va_D (va_A W9 sz) w1) (va_A W9 sz)) (jXw (fun E => (E = eIO ∧ (cdS S v) = 1)) (fun H1 => ∃ w1 : va_W, CW g o S w1 ∧ PP g w1 H1 ∧ va_D (va_A W9 sz) w1) (va_A W9 sz)) 1 6 (va_A W9 sz) := by
  refine jb_X (by decide) (Nat.le_of_ble_eq_true rfl) ?_
  intro p e s m below meth c hx hb hr hml hown htl hlk htab hKK hpre ls hl
  have hown : s.vm.findClass RL = some m.cls := hown
  obtain ⟨hsz, hP, hD0⟩ := hpre
  subst hsz
  have hD : va_D (va_A W9 s.heap.size) W9 := hD0.self
  have hl : lv_has ls 4 [(0, .ref o), (1, vi 12), (2, vi v), (3, vi x2)] := hl
  refine lv_iload_n hx hb dL_asked_0 rfl (lv_at hl 1 rfl) ?_
  refine lv_tableIn (tgt := 153) hx hb dL_asked_1 (by decide) (by decide) rfl rfl ?_
  refine lv_aload_n hx hb dL_asked_153 rfl (lv_at hl 0 rfl) ?_
  refine lv_iload_n hx hb dL_asked_154 rfl (lv_at hl 2 rfl) ?_
  refine jc_Si (vx_runV (As := [vi v]) (rest := []) ⟨hx, hb, hml, hown, htl⟩ (m_X10_segmentLength l hsT g o S W9 hCW v hv) (cwV 1 htl lk_L_120 rfl rfl rfl cwV_X10_segmentLength ⟨Nat.le_of_ble_eq_true rfl, Nat.le_of_ble_eq_true rfl⟩) (jp_V hKK (va_S.rf (A := jN)) jNb (CW.recv hKK hCW hP) hP) rfl rfl hl.1 rfl (lv_room (Nat.le_of_ble_eq_true rfl)) dL_asked_155 ⟨Nat.le_of_ble_eq_true rfl, Nat.le_of_ble_eq_true rfl⟩) hCW hP hD (jc_kx_out htab hlk (by omega) (by omega)) ?_
  intro z H L w1 hz hC hP hD hS
  refine vx_ret ?_
  refine W.widen (k := 1) (n := 6) (by omega) (by omega) ?_
  exact je_Qi hx hb hr hlk rfl hS ⟨hz, w1, hC, hP, hD⟩ dL_asked_158
set_option maxHeartbeats 4000000 in
set_option maxRecDepth 100000 in
theorem m_L_ask_segmentLength (l : Launch) (hsT : l.stackTraces = false) (g : GT) (o : Nat) (S : SGM) (W9 : va_W) (hCW : CW g o S W9) (sz : Nat) (v : Int) (hv : jR v) (x2 : Int) : Met l yL_ask (.codeWith yL_ask cL_ask 5 (some .int) [(0, 7, 8, 73), (0, 7, 14, 77), (0, 7, 20, 81)] :: WSL) (rmm 9 1 6) (jPc g [.ref o, vi 12, vi v, vi x2] (fun H => H.size = sz ∧ PP g W9 H ∧ va_D (fun q => gb g ≤ q) W9)) (jQi (fun z H1 => z = rs (cdS S v) ((sg S v).1.length : Int) (-2001) 0 0 ∧ ∃ w1 : va_W, CW g o S w1 ∧ PP g w1 H1 ∧ va_D (va_A W9 sz) w1) (va_A W9 sz)) 1 6 (va_A W9 sz) := by
  refine jc_M (by decide) (Nat.le_of_ble_eq_true rfl) ?_
  intro p e s m below meth c hx hb hr hml hown htl hlk htb hKK hpre ls hl
  have hown : s.vm.findClass RL = some m.cls := hown
  obtain ⟨hsz, hP, hD0⟩ := hpre
  subst hsz
  have hl : lv_has ls 5 [(0, .ref o), (1, vi 12), (2, vi v), (3, vi x2)] := hl
  refine lv_aload_n hx hb dL_ask_0 rfl (lv_at hl 0 rfl) ?_
  refine lv_iload_n hx hb dL_ask_1 rfl (lv_at hl 1 rfl) ?_
  refine lv_iload_n hx hb dL_ask_2 rfl (lv_at hl 2 rfl) ?_
  refine lv_iload_n hx hb dL_ask_3 rfl (lv_at hl 3 rfl) ?_
  refine jc_Qw (NP := fun z => ((cdS S v) = 0 ∧ z = ((sg S v).1.length : Int))) (vx_runS (As := [.ref o, vi 12, vi v, vi x2]) (rest := []) ⟨hx, hb, hml, hown, htl⟩ (m_L_asked_segmentLength l hsT g o S W9 hCW s.heap.size v hv x2) (va_cwS 4 htl lk_L_136 rfl rfl rfl cwS_L_asked ⟨Nat.le_of_ble_eq_true rfl, Nat.le_of_ble_eq_true rfl⟩) (jp_S hKK (va_S.rf (A := jN)) jNb ⟨rfl, hP, hD0⟩) rfl rfl hl.1 rfl (lv_room (Nat.le_of_ble_eq_true rfl)) dL_ask_4 ⟨Nat.le_of_ble_eq_true rfl, Nat.le_of_ble_eq_true rfl⟩) ?_ ?_
  · intro E ce q9 H1 L w1 hE hC hP hD hS h2 h3 h4
    rcases hE with ⟨rfl, hcd⟩
    · refine vx_catch (name := eIO) hown [] (xe (0, 7, 8, 73)) [xe (0, 7, 14, 77), xe (0, 7, 20, 81)] (htb.trans rfl) (fun _ h => nomatch h) rfl (show (73 : Nat) ≠ 0 by decide) (htl _ wd_8_19) (va_Nw.use rfl (hKK.1.2.2.1 (eIO, eIO) (List.mem_of_getElem? (i := 2) rfl))) h2 h3 h4 ?_
      refine lv_astore (lv' := [(4, .ref q9), (0, .ref o), (1, vi 12), (2, vi v), (3, vi x2)]) hx hb dL_ask_8 hl (by decide) rfl (fun ls hl => ?_)
      refine jr_sipush hx hb dL_ask_10 (by decide) ?_
      refine W.widen (k := 1) (n := 6) (by omega) (by omega) ?_
      exact je_Qi hx hb hr hlk rfl hS ⟨(rs_1 hcd).symm, w1, hC, hP, hD⟩ dL_ask_13
  · intro z9 H1 L w1 hz9 hC hP hD hS
    obtain ⟨hcd, hz9⟩ := hz9
    refine W.widen (k := 1) (n := 6) (by omega) (by omega) ?_
    exact je_Qi hx hb hr hlk rfl hS ⟨hz9.trans (rs_0 hcd).symm, w1, hC, hP, hD⟩ dL_ask_7
set_option maxHeartbeats 4000000 in
set_option maxRecDepth 100000 in
theorem m_L_asked_segmentToken (l : Launch) (hsT : l.stackTraces = false) (g : GT) (o : Nat) (S : SGM) (W9 : va_W) (hCW : CW g o S W9) (sz : Nat) (v : Int) (hv : jR v) (k : Int) (hk : jR k) : vx_Met l yL_asked (ws_ yL_asked cL_asked 4 (some .int)) (rmm 8 2 12) (jPc g [.ref o, vi 13, vi v, vi k] (fun H => H.size = sz ∧ PP g W9 H ∧ va_D (fun q => gb g ≤ q) W9)) (jQi (fun z H1 => ((cdSk S v k) = 0 ∧ z = vl (tAt (sg S v).1 k)) ∧ ∃ w1 : va_W, CW g o S w1 ∧ PP g w1 H1 ∧ va_D (va_A W9 sz) w1) (va_A W9 sz)) (jXw (fun E => (E = eIO ∧ (cdSk S v k) = 1)) (fun H1 => ∃ w1 : va_W, CW g o S w1 ∧ PP g w1 H1 ∧ va_D (va_A W9 sz) w1) (va_A W9 sz)) 2 12 (va_A W9 sz) := by
  refine jb_X (by decide) (Nat.le_of_ble_eq_true rfl) ?_
  intro p e s m below meth c hx hb hr hml hown htl hlk htab hKK hpre ls hl
  have hown : s.vm.findClass RL = some m.cls := hown
  obtain ⟨hsz, hP, hD0⟩ := hpre
  subst hsz
  have hD : va_D (va_A W9 s.heap.size) W9 := hD0.self
  have hl : lv_has ls 4 [(0, .ref o), (1, vi 13), (2, vi v), (3, vi k)] := hl
  refine lv_iload_n hx hb dL_asked_0 rfl (lv_at hl 1 rfl) ?_
  refine lv_tableIn (tgt := 159) hx hb dL_asked_1 (by decide) (by decide) rfl rfl ?_
  refine lv_aload_n hx hb dL_asked_159 rfl (lv_at hl 0 rfl) ?_
  refine lv_iload_n hx hb dL_asked_160 rfl (lv_at hl 2 rfl) ?_
  refine lv_iload_n hx hb dL_asked_161 rfl (lv_at hl 3 rfl) ?_
  refine jc_Si (vx_runV (As := [vi v, vi k]) (rest := []) ⟨hx, hb, hml, hown, htl⟩ (m_X10_segmentToken l hsT g o S W9 hCW v hv k hk) (cwV 2 htl lk_L_123 rfl rfl rfl cwV_X10_segmentToken ⟨Nat.le_of_ble_eq_true rfl, Nat.le_of_ble_eq_true rfl⟩) (jp_V hKK (va_S.rf (A := jN)) jNb (CW.recv hKK hCW hP) hP) rfl rfl hl.1 rfl (lv_room (Nat.le_of_ble_eq_true rfl)) dL_asked_162 ⟨Nat.le_of_ble_eq_true rfl, Nat.le_of_ble_eq_true rfl⟩) hCW hP hD (jc_kx_out htab hlk (by omega) (by omega)) ?_
  intro z H L w1 hz hC hP hD hS
  refine vx_ret ?_
  refine W.widen (k := 2) (n := 12) (by omega) (by omega) ?_
  exact je_Qi hx hb hr hlk rfl hS ⟨hz, w1, hC, hP, hD⟩ dL_asked_165
set_option maxHeartbeats 4000000 in
set_option maxRecDepth 100000 in
theorem m_L_ask_segmentToken (l : Launch) (hsT : l.stackTraces = false) (g : GT) (o : Nat) (S : SGM) (W9 : va_W) (hCW : CW g o S W9) (sz : Nat) (v : Int) (hv : jR v) (k : Int) (hk : jR k) : Met l yL_ask (.codeWith yL_ask cL_ask 5 (some .int) [(0, 7, 8, 73), (0, 7, 14, 77), (0, 7, 20, 81)] :: WSL) (rmm 9 2 12) (jPc g [.ref o, vi 13, vi v, vi k] (fun H => H.size = sz ∧ PP g W9 H ∧ va_D (fun q => gb g ≤ q) W9)) (jQi (fun z H1 => z = rs (cdSk S v k) (vl (tAt (sg S v).1 k)) (-2001) 0 0 ∧ ∃ w1 : va_W, CW g o S w1 ∧ PP g w1 H1 ∧ va_D (va_A W9 sz) w1) (va_A W9 sz)) 2 12 (va_A W9 sz) := by
  refine jc_M (by decide) (Nat.le_of_ble_eq_true rfl) ?_
  intro p e s m below meth c hx hb hr hml hown htl hlk htb hKK hpre ls hl
  have hown : s.vm.findClass RL = some m.cls := hown
  obtain ⟨hsz, hP, hD0⟩ := hpre
  subst hsz
  have hl : lv_has ls 5 [(0, .ref o), (1, vi 13), (2, vi v), (3, vi k)] := hl
  refine lv_aload_n hx hb dL_ask_0 rfl (lv_at hl 0 rfl) ?_
  refine lv_iload_n hx hb dL_ask_1 rfl (lv_at hl 1 rfl) ?_
  refine lv_iload_n hx hb dL_ask_2 rfl (lv_at hl 2 rfl) ?_
  refine lv_iload_n hx hb dL_ask_3 rfl (lv_at hl 3 rfl) ?_
  refine jc_Qw (NP := fun z => ((cdSk S v k) = 0 ∧ z = vl (tAt (sg S v).1 k))) (vx_runS (As := [.ref o, vi 13, vi v, vi k]) (rest := []) ⟨hx, hb, hml, hown, htl⟩ (m_L_asked_segmentToken l hsT g o S W9 hCW s.heap.size v hv k hk) (va_cwS 4 htl lk_L_136 rfl rfl rfl cwS_L_asked ⟨Nat.le_of_ble_eq_true rfl, Nat.le_of_ble_eq_true rfl⟩) (jp_S hKK (va_S.rf (A := jN)) jNb ⟨rfl, hP, hD0⟩) rfl rfl hl.1 rfl (lv_room (Nat.le_of_ble_eq_true rfl)) dL_ask_4 ⟨Nat.le_of_ble_eq_true rfl, Nat.le_of_ble_eq_true rfl⟩) ?_ ?_
  · intro E ce q9 H1 L w1 hE hC hP hD hS h2 h3 h4
    rcases hE with ⟨rfl, hcd⟩
    · refine vx_catch (name := eIO) hown [] (xe (0, 7, 8, 73)) [xe (0, 7, 14, 77), xe (0, 7, 20, 81)] (htb.trans rfl) (fun _ h => nomatch h) rfl (show (73 : Nat) ≠ 0 by decide) (htl _ wd_8_19) (va_Nw.use rfl (hKK.1.2.2.1 (eIO, eIO) (List.mem_of_getElem? (i := 2) rfl))) h2 h3 h4 ?_
      refine lv_astore (lv' := [(4, .ref q9), (0, .ref o), (1, vi 13), (2, vi v), (3, vi k)]) hx hb dL_ask_8 hl (by decide) rfl (fun ls hl => ?_)
      refine jr_sipush hx hb dL_ask_10 (by decide) ?_
      refine W.widen (k := 2) (n := 12) (by omega) (by omega) ?_
      exact je_Qi hx hb hr hlk rfl hS ⟨(rs_1 hcd).symm, w1, hC, hP, hD⟩ dL_ask_13
  · intro z9 H1 L w1 hz9 hC hP hD hS
    obtain ⟨hcd, hz9⟩ := hz9
    refine W.widen (k := 2) (n := 12) (by omega) (by omega) ?_
    exact je_Qi hx hb hr hlk rfl hS ⟨hz9.trans (rs_0 hcd).symm, w1, hC, hP, hD⟩ dL_ask_7
set_option maxHeartbeats 4000000 in
set_option maxRecDepth 100000 in
theorem m_L_asked_targetLength (l : Launch) (hsT : l.stackTraces = false) (g : GT) (o : Nat) (S : SGM) (W9 : va_W) (hCW : CW g o S W9) (sz : Nat) (v : Int) (hv : jR v) (x2 : Int) : vx_Met l yL_asked (ws_ yL_asked cL_asked 4 (some .int)) (rmm 9 2 12) (jPc g [.ref o, vi 14, vi v, vi x2] (fun H => H.size = sz ∧ PP g W9 H ∧ va_D (fun q => gb g ≤ q) W9)) (jQi (fun z H1 => ((cdST S v) = 0 ∧ z = ((sg S v).2.1.length : Int)) ∧ ∃ w1 : va_W, CW g o S w1 ∧ PP g w1 H1 ∧ va_D (va_A W9 sz) w1) (va_A W9 sz)) (jXw (fun E => (E = eIO ∧ (cdST S v) = 1) ∨ (E = eNS ∧ (cdST S v) = 2)) (fun H1 => ∃ w1 : va_W, CW g o S w1 ∧ PP g w1 H1 ∧ va_D (va_A W9 sz) w1) (va_A W9 sz)) 2 12 (va_A W9 sz) := by
  refine jb_X (by decide) (Nat.le_of_ble_eq_true rfl) ?_
  intro p e s m below meth c hx hb hr hml hown htl hlk htab hKK hpre ls hl
  have hown : s.vm.findClass RL = some m.cls := hown
  obtain ⟨hsz, hP, hD0⟩ := hpre
  subst hsz
  have hD : va_D (va_A W9 s.heap.size) W9 := hD0.self
  have hl : lv_has ls 4 [(0, .ref o), (1, vi 14), (2, vi v), (3, vi x2)] := hl
  refine lv_iload_n hx hb dL_asked_0 rfl (lv_at hl 1 rfl) ?_
  refine lv_tableIn (tgt := 166) hx hb dL_asked_1 (by decide) (by decide) rfl rfl ?_
  refine lv_aload_n hx hb dL_asked_166 rfl (lv_at hl 0 rfl) ?_
  refine lv_iload_n hx hb dL_asked_167 rfl (lv_at hl 2 rfl) ?_
  refine jc_Si (vx_runV (As := [vi v]) (rest := []) ⟨hx, hb, hml, hown, htl⟩ (m_X10_targetLength l hsT g o S W9 hCW v hv) (cwV 1 htl lk_L_126 rfl rfl rfl cwV_X10_targetLength ⟨Nat.le_of_ble_eq_true rfl, Nat.le_of_ble_eq_true rfl⟩) (jp_V hKK (va_S.rf (A := jN)) jNb (CW.recv hKK hCW hP) hP) rfl rfl hl.1 rfl (lv_room (Nat.le_of_ble_eq_true rfl)) dL_asked_168 ⟨Nat.le_of_ble_eq_true rfl, Nat.le_of_ble_eq_true rfl⟩) hCW hP hD (jc_kx_out htab hlk (by omega) (by omega)) ?_
  intro z H L w1 hz hC hP hD hS
  refine vx_ret ?_
  refine W.widen (k := 2) (n := 12) (by omega) (by omega) ?_
  exact je_Qi hx hb hr hlk rfl hS ⟨hz, w1, hC, hP, hD⟩ dL_asked_171
set_option maxHeartbeats 4000000 in
set_option maxRecDepth 100000 in
theorem m_L_ask_targetLength (l : Launch) (hsT : l.stackTraces = false) (g : GT) (o : Nat) (S : SGM) (W9 : va_W) (hCW : CW g o S W9) (sz : Nat) (v : Int) (hv : jR v) (x2 : Int) : Met l yL_ask (.codeWith yL_ask cL_ask 5 (some .int) [(0, 7, 8, 73), (0, 7, 14, 77), (0, 7, 20, 81)] :: WSL) (rmm 10 2 12) (jPc g [.ref o, vi 14, vi v, vi x2] (fun H => H.size = sz ∧ PP g W9 H ∧ va_D (fun q => gb g ≤ q) W9)) (jQi (fun z H1 => z = rs (cdST S v) ((sg S v).2.1.length : Int) (-2001) (-2005) 0 ∧ ∃ w1 : va_W, CW g o S w1 ∧ PP g w1 H1 ∧ va_D (va_A W9 sz) w1) (va_A W9 sz)) 2 12 (va_A W9 sz) := by
  refine jc_M (by decide) (Nat.le_of_ble_eq_true rfl) ?_
  intro p e s m below meth c hx hb hr hml hown htl hlk htb hKK hpre ls hl
  have hown : s.vm.findClass RL = some m.cls := hown
  obtain ⟨hsz, hP, hD0⟩ := hpre
  subst hsz
  have hl : lv_has ls 5 [(0, .ref o), (1, vi 14), (2, vi v), (3, vi x2)] := hl
  refine lv_aload_n hx hb dL_ask_0 rfl (lv_at hl 0 rfl) ?_
  refine lv_iload_n hx hb dL_ask_1 rfl (lv_at hl 1 rfl) ?_
  refine lv_iload_n hx hb dL_ask_2 rfl (lv_at hl 2 rfl) ?_
  refine lv_iload_n hx hb dL_ask_3 rfl (lv_at hl 3 rfl) ?_
  refine jc_Qw (NP := fun z => ((cdST S v) = 0 ∧ z = ((sg S v).2.1.length : Int))) (vx_runS (As := [.ref o, vi 14, vi v, vi x2]) (rest := []) ⟨hx, hb, hml, hown, htl⟩ (m_L_asked_targetLength l hsT g o S W9 hCW s.heap.size v hv x2) (va_cwS 4 htl lk_L_136 rfl rfl rfl cwS_L_asked ⟨Nat.le_of_ble_eq_true rfl, Nat.le_of_ble_eq_true rfl⟩) (jp_S hKK (va_S.rf (A := jN)) jNb ⟨rfl, hP, hD0⟩) rfl rfl hl.1 rfl (lv_room (Nat.le_of_ble_eq_true rfl)) dL_ask_4 ⟨Nat.le_of_ble_eq_true rfl, Nat.le_of_ble_eq_true rfl⟩) ?_ ?_
  · intro E ce q9 H1 L w1 hE hC hP hD hS h2 h3 h4
    rcases hE with ⟨rfl, hcd⟩ | ⟨rfl, hcd⟩
    · refine vx_catch (name := eIO) hown [] (xe (0, 7, 8, 73)) [xe (0, 7, 14, 77), xe (0, 7, 20, 81)] (htb.trans rfl) (fun _ h => nomatch h) rfl (show (73 : Nat) ≠ 0 by decide) (htl _ wd_8_19) (va_Nw.use rfl (hKK.1.2.2.1 (eIO, eIO) (List.mem_of_getElem? (i := 2) rfl))) h2 h3 h4 ?_
      refine lv_astore (lv' := [(4, .ref q9), (0, .ref o), (1, vi 14), (2, vi v), (3, vi x2)]) hx hb dL_ask_8 hl (by decide) rfl (fun ls hl => ?_)
      refine jr_sipush hx hb dL_ask_10 (by decide) ?_
      refine W.widen (k := 2) (n := 12) (by omega) (by omega) ?_
      exact je_Qi hx hb hr hlk rfl hS ⟨(rs_1 hcd).symm, w1, hC, hP, hD⟩ dL_ask_13
    · refine vx_catch (name := eNS) hown [xe (0, 7, 8, 73), xe (0, 7, 14, 77)] (xe (0, 7, 20, 81)) [] (htb.trans rfl) (List.forall_mem_cons.mpr ⟨Or.inr ⟨(show (73 : Nat) ≠ 0 by decide), _, htl _ wd_8_19, hKK.1.2.2.2.2.2.1 (eNS, eIO) (List.mem_of_getElem? (i := 6) rfl)⟩, List.forall_mem_cons.mpr ⟨Or.inr ⟨(show (77 : Nat) ≠ 0 by decide), _, htl _ wd_8_21, hKK.1.2.2.2.2.2.1 (eNS, eIS) (List.mem_of_getElem? (i := 8) rfl)⟩, fun _ h => nomatch h⟩⟩) rfl (show (81 : Nat) ≠ 0 by decide) (htl _ wd_8_23) (va_Nw.use rfl (hKK.1.2.2.1 (eNS, eNS) (List.mem_of_getElem? (i := 5) rfl))) h2 h3 h4 ?_
      refine lv_astore (lv' := [(4, .ref q9), (0, .ref o), (1, vi 14), (2, vi v), (3, vi x2)]) hx hb dL_ask_20 hl (by decide) rfl (fun ls hl => ?_)
      refine jr_sipush hx hb dL_ask_22 (by decide) ?_
      refine W.widen (k := 2) (n := 12) (by omega) (by omega) ?_
      exact je_Qi hx hb hr hlk rfl hS ⟨(rs_2 hcd).symm, w1, hC, hP, hD⟩ dL_ask_25
  · intro z9 H1 L w1 hz9 hC hP hD hS
    obtain ⟨hcd, hz9⟩ := hz9
    refine W.widen (k := 2) (n := 12) (by omega) (by omega) ?_
    exact je_Qi hx hb hr hlk rfl hS ⟨hz9.trans (rs_0 hcd).symm, w1, hC, hP, hD⟩ dL_ask_7
set_option maxHeartbeats 4000000 in
set_option maxRecDepth 100000 in
theorem m_L_asked_targetToken (l : Launch) (hsT : l.stackTraces = false) (g : GT) (o : Nat) (S : SGM) (W9 : va_W) (hCW : CW g o S W9) (sz : Nat) (v : Int) (hv : jR v) (k : Int) (hk : jR k) : vx_Met l yL_asked (ws_ yL_asked cL_asked 4 (some .int)) (rmm 10 3 18) (jPc g [.ref o, vi 15, vi v, vi k] (fun H => H.size = sz ∧ PP g W9 H ∧ va_D (fun q => gb g ≤ q) W9)) (jQi (fun z H1 => ((cdTk S v k) = 0 ∧ z = vl ((sg S v).2.1.getD k.toNat 0)) ∧ ∃ w1 : va_W, CW g o S w1 ∧ PP g w1 H1 ∧ va_D (va_A W9 sz) w1) (va_A W9 sz)) (jXw (fun E => (E = eIO ∧ (cdTk S v k) = 1) ∨ (E = eNS ∧ (cdTk S v k) = 2)) (fun H1 => ∃ w1 : va_W, CW g o S w1 ∧ PP g w1 H1 ∧ va_D (va_A W9 sz) w1) (va_A W9 sz)) 3 18 (va_A W9 sz) := by
  refine jb_X (by decide) (Nat.le_of_ble_eq_true rfl) ?_
  intro p e s m below meth c hx hb hr hml hown htl hlk htab hKK hpre ls hl
  have hown : s.vm.findClass RL = some m.cls := hown
  obtain ⟨hsz, hP, hD0⟩ := hpre
  subst hsz
  have hD : va_D (va_A W9 s.heap.size) W9 := hD0.self
  have hl : lv_has ls 4 [(0, .ref o), (1, vi 15), (2, vi v), (3, vi k)] := hl
  refine lv_iload_n hx hb dL_asked_0 rfl (lv_at hl 1 rfl) ?_
  refine lv_tableIn (tgt := 172) hx hb dL_asked_1 (by decide) (by decide) rfl rfl ?_
  refine lv_aload_n hx hb dL_asked_172 rfl (lv_at hl 0 rfl) ?_
  refine lv_iload_n hx hb dL_asked_173 rfl (lv_at hl 2 rfl) ?_
  refine lv_iload_n hx hb dL_asked_174 rfl (lv_at hl 3 rfl) ?_
  refine jc_Si (vx_runV (As := [vi v, vi k]) (rest := []) ⟨hx, hb, hml, hown, htl⟩ (m_X10_targetToken l hsT g o S W9 hCW v hv k hk) (cwV 2 htl lk_L_129 rfl rfl rfl cwV_X10_targetToken ⟨Nat.le_of_ble_eq_true rfl, Nat.le_of_ble_eq_true rfl⟩) (jp_V hKK (va_S.rf (A := jN)) jNb (CW.recv hKK hCW hP) hP) rfl rfl hl.1 rfl (lv_room (Nat.le_of_ble_eq_true rfl)) dL_asked_175 ⟨Nat.le_of_ble_eq_true rfl, Nat.le_of_ble_eq_true rfl⟩) hCW hP hD (jc_kx_out htab hlk (by omega) (by omega)) ?_
  intro z H L w1 hz hC hP hD hS
  refine vx_ret ?_
  refine W.widen (k := 3) (n := 18) (by omega) (by omega) ?_
  exact je_Qi hx hb hr hlk rfl hS ⟨hz, w1, hC, hP, hD⟩ dL_asked_178
set_option maxHeartbeats 4000000 in
set_option maxRecDepth 100000 in
theorem m_L_ask_targetToken (l : Launch) (hsT : l.stackTraces = false) (g : GT) (o : Nat) (S : SGM) (W9 : va_W) (hCW : CW g o S W9) (sz : Nat) (v : Int) (hv : jR v) (k : Int) (hk : jR k) : Met l yL_ask (.codeWith yL_ask cL_ask 5 (some .int) [(0, 7, 8, 73), (0, 7, 14, 77), (0, 7, 20, 81)] :: WSL) (rmm 11 3 18) (jPc g [.ref o, vi 15, vi v, vi k] (fun H => H.size = sz ∧ PP g W9 H ∧ va_D (fun q => gb g ≤ q) W9)) (jQi (fun z H1 => z = rs (cdTk S v k) (vl ((sg S v).2.1.getD k.toNat 0)) (-2001) (-2005) 0 ∧ ∃ w1 : va_W, CW g o S w1 ∧ PP g w1 H1 ∧ va_D (va_A W9 sz) w1) (va_A W9 sz)) 3 18 (va_A W9 sz) := by
  refine jc_M (by decide) (Nat.le_of_ble_eq_true rfl) ?_
  intro p e s m below meth c hx hb hr hml hown htl hlk htb hKK hpre ls hl
  have hown : s.vm.findClass RL = some m.cls := hown
  obtain ⟨hsz, hP, hD0⟩ := hpre
  subst hsz
  have hl : lv_has ls 5 [(0, .ref o), (1, vi 15), (2, vi v), (3, vi k)] := hl
  refine lv_aload_n hx hb dL_ask_0 rfl (lv_at hl 0 rfl) ?_
  refine lv_iload_n hx hb dL_ask_1 rfl (lv_at hl 1 rfl) ?_
  refine lv_iload_n hx hb dL_ask_2 rfl (lv_at hl 2 rfl) ?_
  refine lv_iload_n hx hb dL_ask_3 rfl (lv_at hl 3 rfl) ?_
  refine jc_Qw (NP := fun z => ((cdTk S v k) = 0 ∧ z = vl ((sg S v).2.1.getD k.toNat 0))) (vx_runS (As := [.ref o, vi 15, vi v, vi k]) (rest := []) ⟨hx, hb, hml, hown, htl⟩ (m_L_asked_targetToken l hsT g o S W9 hCW s.heap.size v hv k hk) (va_cwS 4 htl lk_L_136 rfl rfl rfl cwS_L_asked ⟨Nat.le_of_ble_eq_true rfl, Nat.le_of_ble_eq_true rfl⟩) (jp_S hKK (va_S.rf (A := jN)) jNb ⟨rfl, hP, hD0⟩) rfl rfl hl.1 rfl (lv_room (Nat.le_of_ble_eq_true rfl)) dL_ask_4 ⟨Nat.le_of_ble_eq_true rfl, Nat.le_of_ble_eq_true rfl⟩) ?_ ?_
  · intro E ce q9 H1 L w1 hE hC hP hD hS h2 h3 h4
    rcases hE with ⟨rfl, hcd⟩ | ⟨rfl, hcd⟩
    · refine vx_catch (name := eIO) hown [] (xe (0, 7, 8, 73)) [xe (0, 7, 14, 77), xe (0, 7, 20, 81)] (htb.trans rfl) (fun _ h => nomatch h) rfl (show (73 : Nat) ≠ 0 by decide) (htl _ wd_8_19) (va_Nw.use rfl (hKK.1.2.2.1 (eIO, eIO) (List.mem_of_getElem? (i := 2) rfl))) h2 h3 h4 ?_
      refine lv_astore (lv' := [(4, .ref q9), (0, .ref o), (1, vi 15), (2, vi v), (3, vi k)]) hx hb dL_ask_8 hl (by decide) rfl (fun ls hl => ?_)
      refine jr_sipush hx hb dL_ask_10 (by decide) ?_
      refine W.widen (k := 3) (n := 18) (by omega) (by omega) ?_
      exact je_Qi hx hb hr hlk rfl hS ⟨(rs_1 hcd).symm, w1, hC, hP, hD⟩ dL_ask_13
    · refine vx_catch (name := eNS) hown [xe (0, 7, 8, 73), xe (0, 7, 14, 77)] (xe (0, 7, 20, 81)) [] (htb.trans rfl) (List.forall_mem_cons.mpr ⟨Or.inr ⟨(show (73 : Nat) ≠ 0 by decide), _, htl _ wd_8_19, hKK.1.2.2.2.2.2.1 (eNS, eIO) (List.mem_of_getElem? (i := 6) rfl)⟩, List.forall_mem_cons.mpr ⟨Or.inr ⟨(show (77 : Nat) ≠ 0 by decide), _, htl _ wd_8_21, hKK.1.2.2.2.2.2.1 (eNS, eIS) (List.mem_of_getElem? (i := 8) rfl)⟩, fun _ h => nomatch h⟩⟩) rfl (show (81 : Nat) ≠ 0 by decide) (htl _ wd_8_23) (va_Nw.use rfl (hKK.1.2.2.1 (eNS, eNS) (List.mem_of_getElem? (i := 5) rfl))) h2 h3 h4 ?_
      refine lv_astore (lv' := [(4, .ref q9), (0, .ref o), (1, vi 15), (2, vi v), (3, vi k)]) hx hb dL_ask_20 hl (by decide) rfl (fun ls hl => ?_)
      refine jr_sipush hx hb dL_ask_22 (by decide) ?_
      refine W.widen (k := 3) (n := 18) (by omega) (by omega) ?_
      exact je_Qi hx hb hr hlk rfl hS ⟨(rs_2 hcd).symm, w1, hC, hP, hD⟩ dL_ask_25
  · intro z9 H1 L w1 hz9 hC hP hD hS
    obtain ⟨hcd, hz9⟩ := hz9
    refine W.widen (k := 3) (n := 18) (by omega) (by omega) ?_
    exact je_Qi hx hb hr hlk rfl hS ⟨hz9.trans (rs_0 hcd).symm, w1, hC, hP, hD⟩ dL_ask_7
set_option maxHeartbeats 4000000 in
set_option maxRecDepth 100000 in
theorem m_L_asked_targetKind (l : Launch) (hsT : l.stackTraces = false) (g : GT) (o : Nat) (S : SGM) (W9 : va_W) (hCW : CW g o S W9) (sz : Nat) (v : Int) (hv : jR v) (k : Int) (hk : jR k) : vx_Met l yL_asked (ws_ yL_asked cL_asked 4 (some .int)) (rmm 10 3 18) (jPc g [.ref o, vi 16, vi v, vi k] (fun H => H.size = sz ∧ PP g W9 H ∧ va_D (fun q => gb g ≤ q) W9)) (jQi (fun z H1 => ((cdTk S v k) = 0 ∧ z = ltr ((sg S v).2.1.getD k.toNat 0)) ∧ ∃ w1 : va_W, CW g o S w1 ∧ PP g w1 H1 ∧ va_D (va_A W9 sz) w1) (va_A W9 sz)) (jXw (fun E => (E = eIO ∧ (cdTk S v k) = 1) ∨ (E = eNS ∧ (cdTk S v k) = 2)) (fun H1 => ∃ w1 : va_W, CW g o S w1 ∧ PP g w1 H1 ∧ va_D (va_A W9 sz) w1) (va_A W9 sz)) 3 18 (va_A W9 sz) := by
  refine jb_X (by decide) (Nat.le_of_ble_eq_true rfl) ?_
  intro p e s m below meth c hx hb hr hml hown htl hlk htab hKK hpre ls hl
  have hown : s.vm.findClass RL = some m.cls := hown
  obtain ⟨hsz, hP, hD0⟩ := hpre
  subst hsz
  have hD : va_D (va_A W9 s.heap.size) W9 := hD0.self
  have hl : lv_has ls 4 [(0, .ref o), (1, vi 16), (2, vi v), (3, vi k)] := hl
  refine lv_iload_n hx hb dL_asked_0 rfl (lv_at hl 1 rfl) ?_
  refine lv_tableOut (tgt := 179) hx hb dL_asked_1 (by decide) rfl ?_
  refine lv_aload_n hx hb dL_asked_179 rfl (lv_at hl 0 rfl) ?_
  refine lv_iload_n hx hb dL_asked_180 rfl (lv_at hl 2 rfl) ?_
  refine lv_iload_n hx hb dL_asked_181 rfl (lv_at hl 3 rfl) ?_
  refine jc_Si (vx_runV (As := [vi v, vi k]) (rest := []) ⟨hx, hb, hml, hown, htl⟩ (m_X10_targetKind l hsT g o S W9 hCW v hv k hk) (cwV 2 htl lk_L_132 rfl rfl rfl cwV_X10_targetKind ⟨Nat.le_of_ble_eq_true rfl, Nat.le_of_ble_eq_true rfl⟩) (jp_V hKK (va_S.rf (A := jN)) jNb (CW.recv hKK hCW hP) hP) rfl rfl hl.1 rfl (lv_room (Nat.le_of_ble_eq_true rfl)) dL_asked_182 ⟨Nat.le_of_ble_eq_true rfl, Nat.le_of_ble_eq_true rfl⟩) hCW hP hD (jc_kx_out htab hlk (by omega) (by omega)) ?_
  intro z H L w1 hz hC hP hD hS
  refine vx_ret ?_
  refine W.widen (k := 3) (n := 18) (by omega) (by omega) ?_
  exact je_Qi hx hb hr hlk rfl hS ⟨hz, w1, hC, hP, hD⟩ dL_asked_185
set_option maxHeartbeats 4000000 in
set_option maxRecDepth 100000 in
theorem m_L_ask_targetKind (l : Launch) (hsT : l.stackTraces = false) (g : GT) (o : Nat) (S : SGM) (W9 : va_W) (hCW : CW g o S W9) (sz : Nat) (v : Int) (hv : jR v) (k : Int) (hk : jR k) : Met l yL_ask (.codeWith yL_ask cL_ask 5 (some .int) [(0, 7, 8, 73), (0, 7, 14, 77), (0, 7, 20, 81)] :: WSL) (rmm 11 3 18) (jPc g [.ref o, vi 16, vi v, vi k] (fun H => H.size = sz ∧ PP g W9 H ∧ va_D (fun q => gb g ≤ q) W9)) (jQi (fun z H1 => z = rs (cdTk S v k) (ltr ((sg S v).2.1.getD k.toNat 0)) (-2001) (-2005) 0 ∧ ∃ w1 : va_W, CW g o S w1 ∧ PP g w1 H1 ∧ va_D (va_A W9 sz) w1) (va_A W9 sz)) 3 18 (va_A W9 sz) := by
  refine jc_M (by decide) (Nat.le_of_ble_eq_true rfl) ?_
  intro p e s m below meth c hx hb hr hml hown htl hlk htb hKK hpre ls hl
  have hown : s.vm.findClass RL = some m.cls := hown
  obtain ⟨hsz, hP, hD0⟩ := hpre
  subst hsz
  have hl : lv_has ls 5 [(0, .ref o), (1, vi 16), (2, vi v), (3, vi k)] := hl
  refine lv_aload_n hx hb dL_ask_0 rfl (lv_at hl 0 rfl) ?_
  refine lv_iload_n hx hb dL_ask_1 rfl (lv_at hl 1 rfl) ?_
  refine lv_iload_n hx hb dL_ask_2 rfl (lv_at hl 2 rfl) ?_
  refine lv_iload_n hx hb dL_ask_3 rfl (lv_at hl 3 rfl) ?_
  refine jc_Qw (NP := fun z => ((cdTk S v k) = 0 ∧ z = ltr ((sg S v).2.1.getD k.toNat 0))) (vx_runS (As := [.ref o, vi 16, vi v, vi k]) (rest := []) ⟨hx, hb, hml, hown, htl⟩ (m_L_asked_targetKind l hsT g o S W9 hCW s.heap.size v hv k hk) (va_cwS 4 htl lk_L_136 rfl rfl rfl cwS_L_asked ⟨Nat.le_of_ble_eq_true rfl, Nat.le_of_ble_eq_true rfl⟩) (jp_S hKK (va_S.rf (A := jN)) jNb ⟨rfl, hP, hD0⟩) rfl rfl hl.1 rfl (lv_room (Nat.le_of_ble_eq_true rfl)) dL_ask_4 ⟨Nat.le_of_ble_eq_true rfl, Nat.le_of_ble_eq_true rfl⟩) ?_ ?_
  · intro E ce q9 H1 L w1 hE hC hP hD hS h2 h3 h4
    rcases hE with ⟨rfl, hcd⟩ | ⟨rfl, hcd⟩
    · refine vx_catch (name := eIO) hown [] (xe (0, 7, 8, 73)) [xe (0, 7, 14, 77), xe (0, 7, 20, 81)] (htb.trans rfl) (fun _ h => nomatch h) rfl (show (73 : Nat) ≠ 0 by decide) (htl _ wd_8_19) (va_Nw.use rfl (hKK.1.2.2.1 (eIO, eIO) (List.mem_of_getElem? (i := 2) rfl))) h2 h3 h4 ?_
      refine lv_astore (lv' := [(4, .ref q9), (0, .ref o), (1, vi 16), (2, vi v), (3, vi k)]) hx hb dL_ask_8 hl (by decide) rfl (fun ls hl => ?_)
      refine jr_sipush hx hb dL_ask_10 (by decide) ?_
      refine W.widen (k := 3) (n := 18) (by omega) (by omega) ?_
      exact je_Qi hx hb hr hlk rfl hS ⟨(rs_1 hcd).symm, w1, hC, hP, hD⟩ dL_ask_13
    · refine vx_catch (name := eNS) hown [xe (0, 7, 8, 73), xe (0, 7, 14, 77)] (xe (0, 7, 20, 81)) [] (htb.trans rfl) (List.forall_mem_cons.mpr ⟨Or.inr ⟨(show (73 : Nat) ≠ 0 by decide), _, htl _ wd_8_19, hKK.1.2.2.2.2.2.1 (eNS, eIO) (List.mem_of_getElem? (i := 6) rfl)⟩, List.forall_mem_cons.mpr ⟨Or.inr ⟨(show (77 : Nat) ≠ 0 by decide), _, htl _ wd_8_21, hKK.1.2.2.2.2.2.1 (eNS, eIS) (List.mem_of_getElem? (i := 8) rfl)⟩, fun _ h => nomatch h⟩⟩) rfl (show (81 : Nat) ≠ 0 by decide) (htl _ wd_8_23) (va_Nw.use rfl (hKK.1.2.2.1 (eNS, eNS) (List.mem_of_getElem? (i := 5) rfl))) h2 h3 h4 ?_
      refine lv_astore (lv' := [(4, .ref q9), (0, .ref o), (1, vi 16), (2, vi v), (3, vi k)]) hx hb dL_ask_20 hl (by decide) rfl (fun ls hl => ?_)
      refine jr_sipush hx hb dL_ask_22 (by decide) ?_
      refine W.widen (k := 3) (n := 18) (by omega) (by omega) ?_
      exact je_Qi hx hb hr hlk rfl hS ⟨(rs_2 hcd).symm, w1, hC, hP, hD⟩ dL_ask_25
  · intro z9 H1 L w1 hz9 hC hP hD hS
    obtain ⟨hcd, hz9⟩ := hz9
    refine W.widen (k := 3) (n := 18) (by omega) (by omega) ?_
    exact je_Qi hx hb hr hlk rfl hS ⟨hz9.trans (rs_0 hcd).symm, w1, hC, hP, hD⟩ dL_ask_7
