
theorem lk_X10_76 : GoodIn WSL (wsV RX10 76 RX6 yX6_size (ws_ yX6_size cX6_size 1 (some .int))) := gd_app (List.forall_mem_cons.mpr ⟨wd_9_18, List.forall_mem_cons.mpr ⟨wd_8_3, List.forall_mem_cons.mpr ⟨wd_8_4, List.forall_mem_cons.mpr ⟨wd_1_13, fun _ h => nomatch h⟩⟩⟩⟩) (gd_ wd_8_5)
theorem lk_X10_150 : GoodIn WSL (wsV RX10 150 RX2 yX2_size (ws_ yX2_size cX2_size 1 (some .int))) := gd_app (List.forall_mem_cons.mpr ⟨wd_13_15, List.forall_mem_cons.mpr ⟨wd_13_16, List.forall_mem_cons.mpr ⟨wd_13_17, List.forall_mem_cons.mpr ⟨wd_1_20, fun _ h => nomatch h⟩⟩⟩⟩) (gd_ wd_13_18)
theorem cwV_X2_size : yX2_size.cls = RX2 ∧ yX2_size.cls ≠ "java/lang/invoke/MethodHandle" ∧ yX2_size.cls ≠ "java/lang/invoke/VarHandle" ∧ (parseMethodDescriptor yX2_size.desc).map (fun d => d.parameters.length) = some 0 := by decide +kernel
theorem lk_X10_304 : GoodIn WSL (wsV RX10 304 RX2 yX2_at (ws_ yX2_at cX2_at 2 (some (.object "Fuzzyseg$Unit")))) := gd_app (List.forall_mem_cons.mpr ⟨wd_17_8, List.forall_mem_cons.mpr ⟨wd_17_9, List.forall_mem_cons.mpr ⟨wd_17_10, List.forall_mem_cons.mpr ⟨wd_1_20, fun _ h => nomatch h⟩⟩⟩⟩) (gd_ wd_17_11)
theorem cwV_X2_at : yX2_at.cls = RX2 ∧ yX2_at.cls ≠ "java/lang/invoke/MethodHandle" ∧ yX2_at.cls ≠ "java/lang/invoke/VarHandle" ∧ (parseMethodDescriptor yX2_at.desc).map (fun d => d.parameters.length) = some 1 := by decide +kernel
theorem lk_X10_151 : GoodIn WSL (wsV RX10 151 RX10 yX10_unitAt (ws_ yX10_unitAt cX10_unitAt 2 (some (.object "Fuzzyseg$Unit")))) := gd_app (List.forall_mem_cons.mpr ⟨wd_17_4, List.forall_mem_cons.mpr ⟨wd_17_5, List.forall_mem_cons.mpr ⟨wd_17_6, List.forall_mem_cons.mpr ⟨wd_1_2, fun _ h => nomatch h⟩⟩⟩⟩) (gd_ wd_17_7)
theorem cwV_X10_unitAt : yX10_unitAt.cls = RX10 ∧ yX10_unitAt.cls ≠ "java/lang/invoke/MethodHandle" ∧ yX10_unitAt.cls ≠ "java/lang/invoke/VarHandle" ∧ (parseMethodDescriptor yX10_unitAt.desc).map (fun d => d.parameters.length) = some 1 := by decide +kernel
theorem lk_X10_116 : GoodIn WSL (wsV RX10 116 RX10 yX10_requireDraft (ws_ yX10_requireDraft cX10_requireDraft 1 none)) := gd_app (List.forall_mem_cons.mpr ⟨wd_12_7, List.forall_mem_cons.mpr ⟨wd_12_8, List.forall_mem_cons.mpr ⟨wd_12_9, List.forall_mem_cons.mpr ⟨wd_1_2, fun _ h => nomatch h⟩⟩⟩⟩) (gd_ wd_12_10)
theorem cwV_X10_requireDraft : yX10_requireDraft.cls = RX10 ∧ yX10_requireDraft.cls ≠ "java/lang/invoke/MethodHandle" ∧ yX10_requireDraft.cls ≠ "java/lang/invoke/VarHandle" ∧ (parseMethodDescriptor yX10_requireDraft.desc).map (fun d => d.parameters.length) = some 0 := by decide +kernel
theorem lk_X10_193 : GoodIn WSL (wsV RX10 193 RX0 yX0_size (ws_ yX0_size cX0_size 1 (some .int))) := gd_app (List.forall_mem_cons.mpr ⟨wd_5_11, List.forall_mem_cons.mpr ⟨wd_5_12, List.forall_mem_cons.mpr ⟨wd_5_13, List.forall_mem_cons.mpr ⟨wd_2_10, fun _ h => nomatch h⟩⟩⟩⟩) (gd_ wd_5_14)
theorem cwV_X0_size : yX0_size.cls = RX0 ∧ yX0_size.cls ≠ "java/lang/invoke/MethodHandle" ∧ yX0_size.cls ≠ "java/lang/invoke/VarHandle" ∧ (parseMethodDescriptor yX0_size.desc).map (fun d => d.parameters.length) = some 0 := by decide +kernel
theorem lk_X10_196 : GoodIn WSL (wsV RX10 196 RX0 yX0_at (ws_ yX0_at cX0_at 2 (some (.object "Fuzzyseg$Segment")))) := gd_app (List.forall_mem_cons.mpr ⟨wd_7_15, List.forall_mem_cons.mpr ⟨wd_6_6, List.forall_mem_cons.mpr ⟨wd_6_7, List.forall_mem_cons.mpr ⟨wd_2_10, fun _ h => nomatch h⟩⟩⟩⟩) (gd_ wd_6_8)
theorem lk_X10_209 : GoodIn WSL (wsV RX10 209 RX10 yX10_segmentAt (ws_ yX10_segmentAt cX10_segmentAt 2 (some (.object "Fuzzyseg$Segment")))) := gd_app (List.forall_mem_cons.mpr ⟨wd_24_19, List.forall_mem_cons.mpr ⟨wd_24_20, List.forall_mem_cons.mpr ⟨wd_24_21, List.forall_mem_cons.mpr ⟨wd_1_2, fun _ h => nomatch h⟩⟩⟩⟩) (gd_ wd_24_22)
theorem cwV_X10_segmentAt : yX10_segmentAt.cls = RX10 ∧ yX10_segmentAt.cls ≠ "java/lang/invoke/MethodHandle" ∧ yX10_segmentAt.cls ≠ "java/lang/invoke/VarHandle" ∧ (parseMethodDescriptor yX10_segmentAt.desc).map (fun d => d.parameters.length) = some 1 := by decide +kernel
theorem lk_X10_200 : GoodIn WSL (wsV RX10 200 RX4 yX4_isEmpty (ws_ yX4_isEmpty cX4_isEmpty 1 (some .boolean))) := gd_app (List.forall_mem_cons.mpr ⟨wd_7_16, List.forall_mem_cons.mpr ⟨wd_7_17, List.forall_mem_cons.mpr ⟨wd_7_18, List.forall_mem_cons.mpr ⟨wd_7_19, fun _ h => nomatch h⟩⟩⟩⟩) (gd_ wd_7_20)
theorem lk_X10_251 : GoodIn WSL (wsV RX10 251 RX10 yX10_targetAt (ws_ yX10_targetAt cX10_targetAt 3 (some (.object "Fuzzyseg$Text")))) := gd_app (List.forall_mem_cons.mpr ⟨wd_31_16, List.forall_mem_cons.mpr ⟨wd_31_17, List.forall_mem_cons.mpr ⟨wd_31_18, List.forall_mem_cons.mpr ⟨wd_1_2, fun _ h => nomatch h⟩⟩⟩⟩) (gd_ wd_31_19)
theorem cwV_X10_targetAt : yX10_targetAt.cls = RX10 ∧ yX10_targetAt.cls ≠ "java/lang/invoke/MethodHandle" ∧ yX10_targetAt.cls ≠ "java/lang/invoke/VarHandle" ∧ (parseMethodDescriptor yX10_targetAt.desc).map (fun d => d.parameters.length) = some 1 := by decide +kernel
theorem lk_X10_235 : GoodIn WSL (wsV RX10 235 RX6 yX6_hasPlace (ws_ yX6_hasPlace cX6_hasPlace 2 (some .boolean))) := gd_app (List.forall_mem_cons.mpr ⟨wd_31_9, List.forall_mem_cons.mpr ⟨wd_24_12, List.forall_mem_cons.mpr ⟨wd_24_13, List.forall_mem_cons.mpr ⟨wd_1_13, fun _ h => nomatch h⟩⟩⟩⟩) (gd_ wd_24_14)
theorem lk_X10_244 : GoodIn WSL (wsV RX10 244 RX6 yX6_at (ws_ yX6_at cX6_at 2 (some .int))) := gd_app (List.forall_mem_cons.mpr ⟨wd_31_10, List.forall_mem_cons.mpr ⟨wd_7_7, List.forall_mem_cons.mpr ⟨wd_7_8, List.forall_mem_cons.mpr ⟨wd_1_13, fun _ h => nomatch h⟩⟩⟩⟩) (gd_ wd_7_9)
theorem lk_X10_297 : GoodIn WSL (va_wsS RX10 297 yX7_codeOf (ws_ yX7_codeOf cX7_codeOf 2 (some .int))) := gd_app (List.forall_mem_cons.mpr ⟨wd_9_19, List.forall_mem_cons.mpr ⟨wd_9_20, List.forall_mem_cons.mpr ⟨wd_8_9, fun _ h => nomatch h⟩⟩⟩) (gd_ wd_9_21)
theorem lk_X10_300 : GoodIn WSL (wsV RX10 300 RX6 yX6_put (ws_ yX6_put cX6_put 2 none)) := gd_app (List.forall_mem_cons.mpr ⟨wd_9_22, List.forall_mem_cons.mpr ⟨wd_9_23, List.forall_mem_cons.mpr ⟨wd_10_0, List.forall_mem_cons.mpr ⟨wd_1_13, fun _ h => nomatch h⟩⟩⟩⟩) (gd_ wd_10_1)
set_option maxHeartbeats 4000000 in
set_option maxRecDepth 100000 in
theorem m_X10_requireBelow (l : Launch) (hsT : l.stackTraces = false) (g : GT) (v b : Int) (hv : jR v) (hb9 : jR b) : vx_Met l yX10_requireBelow (ws_ yX10_requireBelow cX10_requireBelow 2 none) (rmm 0 1 6) (jPc g [vi v, vi b] (fun H => True)) (jSv (0 ≤ v ∧ v < b)) (jX (fun E => E = eIA ∧ ¬ (0 ≤ v ∧ v < b))) 1 6 jN := by
  refine jb_X (by decide) (Nat.le_of_ble_eq_true rfl) ?_
  intro p e s m below meth cq hx hb hr hml hown htl hlk htab hKK hpre ls hl
  have hown : s.vm.findClass RX10 = some m.cls := hown
  have hl : lv_has ls 2 [(0, vi v), (1, vi b)] := hl
  refine lv_iload_n hx hb dX10_requireBelow_0 rfl (lv_at hl 0 rfl) ?_
  refine jr_iflt (tgt := 9) hx hb dX10_requireBelow_1 (by decide) ⟨by omega, by omega⟩ (fun c1 => ?_) (fun c1 => ?_)
  · exact jt_SW (g := g) hx hb hsT hown hKK tf_73 (htl _ wd_9_10) (htl _ wd_9_11) nws_0 (th_73 htl hKK) tg_73 hl.1 hml htab hlk (⟨rfl, by omega⟩) dX10_requireBelow_9 dX10_requireBelow_12 dX10_requireBelow_13 dX10_requireBelow_16 dX10_requireBelow_19 (Nat.le_of_ble_eq_true rfl) (Nat.le_of_ble_eq_true rfl) (Nat.le_of_ble_eq_true rfl) (Nat.le_of_ble_eq_true rfl) (Nat.le_of_ble_eq_true rfl) (Nat.le_of_ble_eq_true rfl)
  · refine lv_iload_n hx hb dX10_requireBelow_4 rfl (lv_at hl 0 rfl) ?_
    refine lv_iload_n hx hb dX10_requireBelow_5 rfl (lv_at hl 1 rfl) ?_
    refine jr_lt (tgt := 20) hx hb dX10_requireBelow_6 (by decide) ⟨by omega, by omega⟩ ⟨by omega, by omega⟩ (fun c6 => ?_) (fun c6 => ?_)
    · refine vx_ret ?_
      refine W.widen (k := 1) (n := 6) (by omega) (by omega) ?_
      exact je_Sv hx hb hr hlk (⟨by omega, by omega⟩) dX10_requireBelow_20
    · exact jt_SW (g := g) hx hb hsT hown hKK tf_73 (htl _ wd_9_10) (htl _ wd_9_11) nws_0 (th_73 htl hKK) tg_73 hl.1 hml htab hlk (⟨rfl, by omega⟩) dX10_requireBelow_9 dX10_requireBelow_12 dX10_requireBelow_13 dX10_requireBelow_16 dX10_requireBelow_19 (Nat.le_of_ble_eq_true rfl) (Nat.le_of_ble_eq_true rfl) (Nat.le_of_ble_eq_true rfl) (Nat.le_of_ble_eq_true rfl) (Nat.le_of_ble_eq_true rfl) (Nat.le_of_ble_eq_true rfl)
set_option maxHeartbeats 4000000 in
set_option maxRecDepth 100000 in
theorem m_X10_requireWeight (l : Launch) (hsT : l.stackTraces = false) (g : GT) (v : Int) (hv : jR v) : vx_Met l yX10_requireWeight (ws_ yX10_requireWeight cX10_requireWeight 1 none) (rmm 0 1 6) (jPc g [vi v] (fun H => True)) (jSv (1 ≤ v ∧ v ≤ 9)) (jX (fun E => E = eIA ∧ ¬ (1 ≤ v ∧ v ≤ 9))) 1 6 jN := by
  refine jb_X (by decide) (Nat.le_of_ble_eq_true rfl) ?_
  intro p e s m below meth cq hx hb hr hml hown htl hlk htab hKK hpre ls hl
  have hown : s.vm.findClass RX10 = some m.cls := hown
  have hl : lv_has ls 1 [(0, vi v)] := hl
  refine lv_iload_n hx hb dX10_requireWeight_0 rfl (lv_at hl 0 rfl) ?_
  refine jr_iconst hx hb dX10_requireWeight_1 ?_
  refine jr_lt (tgt := 11) hx hb dX10_requireWeight_2 (by decide) ⟨by omega, by omega⟩ ⟨by omega, by omega⟩ (fun c2 => ?_) (fun c2 => ?_)
  · exact jt_SW (g := g) hx hb hsT hown hKK tf_73 (htl _ wd_9_10) (htl _ wd_9_11) nws_3 (th_73 htl hKK) tg_73 hl.1 hml htab hlk (⟨rfl, by omega⟩) dX10_requireWeight_11 dX10_requireWeight_14 dX10_requireWeight_15 dX10_requireWeight_18 dX10_requireWeight_21 (Nat.le_of_ble_eq_true rfl) (Nat.le_of_ble_eq_true rfl) (Nat.le_of_ble_eq_true rfl) (Nat.le_of_ble_eq_true rfl) (Nat.le_of_ble_eq_true rfl) (Nat.le_of_ble_eq_true rfl)
  · refine lv_iload_n hx hb dX10_requireWeight_5 rfl (lv_at hl 0 rfl) ?_
    refine jr_bipush hx hb dX10_requireWeight_6 (by decide) ?_
    refine jr_le (tgt := 22) hx hb dX10_requireWeight_8 (by decide) ⟨by omega, by omega⟩ ⟨by omega, by omega⟩ (fun c8 => ?_) (fun c8 => ?_)
    · refine vx_ret ?_
      refine W.widen (k := 1) (n := 6) (by omega) (by omega) ?_
      exact je_Sv hx hb hr hlk (⟨by omega, by omega⟩) dX10_requireWeight_22
    · exact jt_SW (g := g) hx hb hsT hown hKK tf_73 (htl _ wd_9_10) (htl _ wd_9_11) nws_3 (th_73 htl hKK) tg_73 hl.1 hml htab hlk (⟨rfl, by omega⟩) dX10_requireWeight_11 dX10_requireWeight_14 dX10_requireWeight_15 dX10_requireWeight_18 dX10_requireWeight_21 (Nat.le_of_ble_eq_true rfl) (Nat.le_of_ble_eq_true rfl) (Nat.le_of_ble_eq_true rfl) (Nat.le_of_ble_eq_true rfl) (Nat.le_of_ble_eq_true rfl) (Nat.le_of_ble_eq_true rfl)
set_option maxHeartbeats 4000000 in
set_option maxRecDepth 100000 in
theorem m_X10_requireOffered (l : Launch) (hsT : l.stackTraces = false) (g : GT) (v : Int) (hv : jR v) : vx_Met l yX10_requireOffered (ws_ yX10_requireOffered cX10_requireOffered 1 (some .int)) (rmm 0 1 6) (jPc g [vi v] (fun H => True)) (jSi (fun z => z = v ∧ ¬ v = -1)) (jX (fun E => E = eNS ∧ v = -1)) 1 6 jN := by
  refine jb_X (by decide) (Nat.le_of_ble_eq_true rfl) ?_
  intro p e s m below meth cq hx hb hr hml hown htl hlk htab hKK hpre ls hl
  have hown : s.vm.findClass RX10 = some m.cls := hown
  have hl : lv_has ls 1 [(0, vi v)] := hl
  refine lv_iload_n hx hb dX10_requireOffered_0 rfl (lv_at hl 0 rfl) ?_
  refine jr_iconst hx hb dX10_requireOffered_1 ?_
  refine jr_ne (tgt := 16) hx hb dX10_requireOffered_2 (by decide) ⟨by omega, by omega⟩ ⟨by omega, by omega⟩ (fun c2 => ?_) (fun c2 => ?_)
  · refine lv_iload_n hx hb dX10_requireOffered_16 rfl (lv_at hl 0 rfl) ?_
    refine vx_ret ?_
    refine W.widen (k := 1) (n := 6) (by omega) (by omega) ?_
    exact je_Si hx hb hr hlk rfl (⟨rfl, c2⟩) dX10_requireOffered_17
  · exact jt_N (g := g) hx hb hsT hown hKK 3 (htl _ wd_13_9) (htl _ wd_13_10) nws_11 (th_127 htl hKK) hl.1 hml htab hlk (⟨rfl, c2⟩) dX10_requireOffered_5 dX10_requireOffered_8 (Or.inr ⟨rfl, dX10_requireOffered_9⟩) dX10_requireOffered_12 dX10_requireOffered_15 (Nat.le_of_ble_eq_true rfl) (Nat.le_of_ble_eq_true rfl) (Nat.le_of_ble_eq_true rfl) (Nat.le_of_ble_eq_true rfl) (Nat.le_of_ble_eq_true rfl) (Nat.le_of_ble_eq_true rfl)
set_option maxHeartbeats 4000000 in
set_option maxRecDepth 100000 in
theorem m_X10_requireDraft (l : Launch) (hsT : l.stackTraces = false) (g : GT) (o x0 x1 x2 x3 x4 x5 x6 x7 x8 : Nat) (c : Nat) (t : List Int) (f : Nat → Int) (hf : TT t f) : vx_Met l yX10_requireDraft (ws_ yX10_requireDraft cX10_requireDraft 1 none) (rmm 1 1 6) (jPc g [.ref o] (fun H => PP g [ob o 9 [.ref x0, .ref x1, .ref x2, .ref x3, .ref x4, .ref x5, .ref x6, .ref x7, .ref x8]] H ∧ PP g [ob x0 6 [.ref c, vi (t.length : Int)], aI g c 60 f] H)) (jSv (¬ t.length = 0)) (jX (fun E => E = eIS ∧ t.length = 0)) 1 6 jN := by
  refine jb_X (by decide) (Nat.le_of_ble_eq_true rfl) ?_
  intro p e s m below meth cq hx hb hr hml hown htl hlk htab hKK hpre ls hl
  have hown : s.vm.findClass RX10 = some m.cls := hown
  have hl : lv_has ls 1 [(0, .ref o)] := hl
  obtain ⟨hPo, hPx⟩ := hpre
  have hL := hf.len
  refine lv_aload_n hx hb dX10_requireDraft_0 rfl (lv_at hl 0 rfl) ?_
  refine va_get (D := gD g) (ci := 9) (v := .ref x0) (C := RX10) (T := TX10) (N := 9) hx hb htl ck_X10 hown hKK.k hPo 0 rfl rfl 0 (by decide) (htl _ wd_1_14) (fun _ h9 => h9) rfl dX10_requireDraft_1 ?_
  refine jk_Si (va_runV (As := []) (rest := []) ⟨hx, hb, hml, hown, htl⟩ (m_X6_size l g x0 c t f hf  ) (cwV 0 htl lk_X10_76 rfl rfl rfl cwV_X6_size ⟨Nat.le_of_ble_eq_true rfl, Nat.le_of_ble_eq_true rfl⟩) (jp_V hKK (va_S.rf (A := jN)) jNb (va_recv hKK.k hPx (ci := 6) (q0 := 0) rfl rfl) hPx) rfl rfl hl.1 rfl (lv_room (Nat.le_of_ble_eq_true rfl)) dX10_requireDraft_4 ⟨Nat.le_of_ble_eq_true rfl, Nat.le_of_ble_eq_true rfl⟩) (fun z4 hz4 => ?_)
  subst hz4
  refine jr_ifne (tgt := 21) hx hb dX10_requireDraft_7 (by decide) ⟨by omega, by omega⟩ (fun c7 => ?_) (fun c7 => ?_)
  · refine vx_ret ?_
    refine W.widen (k := 1) (n := 6) (by omega) (by omega) ?_
    exact je_Sv hx hb hr hlk (by omega) dX10_requireDraft_21
  · exact jt_SW (g := g) hx hb hsT hown hKK tf_112 (htl _ wd_9_16) (htl _ wd_9_17) nws_6 (th_112 htl hKK) tg_112 hl.1 hml htab hlk (⟨rfl, by omega⟩) dX10_requireDraft_10 dX10_requireDraft_13 dX10_requireDraft_14 dX10_requireDraft_17 dX10_requireDraft_20 (Nat.le_of_ble_eq_true rfl) (Nat.le_of_ble_eq_true rfl) (Nat.le_of_ble_eq_true rfl) (Nat.le_of_ble_eq_true rfl) (Nat.le_of_ble_eq_true rfl) (Nat.le_of_ble_eq_true rfl)
set_option maxHeartbeats 4000000 in
set_option maxRecDepth 100000 in
theorem m_X10_requireRoomForUnit (l : Launch) (hsT : l.stackTraces = false) (g : GT) (o x0 x1 x2 x3 x4 x5 x6 x7 x8 : Nat) (e9 t9 rows : Nat) (us : List UR) (lw : va_W) (hL : LW g rows (us.map uA) lw) (hUO : ∀ u ∈ us, UOK u) (h60 : us.length ≤ 60) : vx_Met l yX10_requireRoomForUnit (ws_ yX10_requireRoomForUnit cX10_requireRoomForUnit 1 none) (rmm 2 1 6) (jPc g [.ref o] (fun H => PP g [ob o 9 [.ref x0, .ref x1, .ref x2, .ref x3, .ref x4, .ref x5, .ref x6, .ref x7, .ref x8]] H ∧ PP g [ob x3 2 [.ref e9, .ref t9, .ref rows]] H ∧ PP g (MR g us lw) H)) (jSv (us.length < 40)) (jX (fun E => E = eIS ∧ 40 ≤ us.length)) 1 6 jN := by
  refine jb_X (by decide) (Nat.le_of_ble_eq_true rfl) ?_
  intro p e s m below meth cq hx hb hr hml hown htl hlk htab hKK hpre ls hl
  have hown : s.vm.findClass RX10 = some m.cls := hown
  have hl : lv_has ls 1 [(0, .ref o)] := hl
  obtain ⟨hPo, hPm, hPr⟩ := hpre
  refine lv_aload_n hx hb dX10_requireRoomForUnit_0 rfl (lv_at hl 0 rfl) ?_
  refine va_get (D := gD g) (ci := 9) (v := .ref x3) (C := RX10) (T := TX10) (N := 9) hx hb htl ck_X10 hown hKK.k hPo 0 rfl rfl 3 (by decide) (htl _ wd_1_21) (fun _ h9 => h9) rfl dX10_requireRoomForUnit_1 ?_
  refine jk_Si (va_runV (As := []) (rest := []) ⟨hx, hb, hml, hown, htl⟩ (m_X2_size l g x3 e9 t9 rows us lw hL hUO h60 ) (cwV 0 htl lk_X10_150 rfl rfl rfl cwV_X2_size ⟨Nat.le_of_ble_eq_true rfl, Nat.le_of_ble_eq_true rfl⟩) (jp_V hKK (va_S.rf (A := jN)) jNb (va_recv hKK.k hPm (ci := 2) (q0 := 0) rfl rfl) ⟨hPm, hPr⟩) rfl rfl hl.1 rfl (lv_room (Nat.le_of_ble_eq_true rfl)) dX10_requireRoomForUnit_4 ⟨Nat.le_of_ble_eq_true rfl, Nat.le_of_ble_eq_true rfl⟩) (fun z4 hz4 => ?_)
  subst hz4
  refine jr_bipush hx hb dX10_requireRoomForUnit_7 (by decide) ?_
  refine jr_lt (tgt := 23) hx hb dX10_requireRoomForUnit_9 (by decide) ⟨by omega, by omega⟩ ⟨by omega, by omega⟩ (fun c9 => ?_) (fun c9 => ?_)
  · refine vx_ret ?_
    refine W.widen (k := 1) (n := 6) (by omega) (by omega) ?_
    exact je_Sv hx hb hr hlk (by omega) dX10_requireRoomForUnit_23
  · exact jt_SW (g := g) hx hb hsT hown hKK tf_112 (htl _ wd_9_16) (htl _ wd_9_17) nws_8 (th_112 htl hKK) tg_112 hl.1 hml htab hlk (⟨rfl, by omega⟩) dX10_requireRoomForUnit_12 dX10_requireRoomForUnit_15 dX10_requireRoomForUnit_16 dX10_requireRoomForUnit_19 dX10_requireRoomForUnit_22 (Nat.le_of_ble_eq_true rfl) (Nat.le_of_ble_eq_true rfl) (Nat.le_of_ble_eq_true rfl) (Nat.le_of_ble_eq_true rfl) (Nat.le_of_ble_eq_true rfl) (Nat.le_of_ble_eq_true rfl)
set_option maxHeartbeats 4000000 in
set_option maxRecDepth 100000 in
theorem m_X10_unitAt (l : Launch) (hsT : l.stackTraces = false) (g : GT) (o x0 x1 x2 x3 x4 x5 x6 x7 x8 : Nat) (e9 t9 rows : Nat) (us : List UR) (lw : va_W) (hL : LW g rows (us.map uA) lw) (hUO : ∀ u ∈ us, UOK u) (h60 : us.length ≤ 60) (u : Int) (hu0 : jR u) : vx_Met l yX10_unitAt (ws_ yX10_unitAt cX10_unitAt 2 (some (.object "Fuzzyseg$Unit"))) (rmm 4 1 6) (jPc g [.ref o, vi u] (fun H => PP g [ob o 9 [.ref x0, .ref x1, .ref x2, .ref x3, .ref x4, .ref x5, .ref x6, .ref x7, .ref x8]] H ∧ PP g [ob x3 2 [.ref e9, .ref t9, .ref rows]] H ∧ PP g (MR g us lw) H)) (jSr (fun z => ∃ i : Nat, u = (i : Int) ∧ i < us.length ∧ z = (us.map uA).getD i 0)) (jX (fun E => E = eNS ∧ ¬ (0 ≤ u ∧ u < (us.length : Int)))) 1 6 jN := by
  refine jb_X (by decide) (Nat.le_of_ble_eq_true rfl) ?_
  intro p e s m below meth cq hx hb hr hml hown htl hlk htab hKK hpre ls hl
  have hown : s.vm.findClass RX10 = some m.cls := hown
  have hl : lv_has ls 2 [(0, .ref o), (1, vi u)] := hl
  obtain ⟨hPo, hPm, hPr⟩ := hpre
  refine lv_iload_n hx hb dX10_unitAt_0 rfl (lv_at hl 1 rfl) ?_
  refine jr_iflt (tgt := 15) hx hb dX10_unitAt_1 (by decide) ⟨by omega, by omega⟩ (fun c1 => ?_) (fun c1 => ?_)
  · exact jt_N (g := g) hx hb hsT hown hKK 3 (htl _ wd_13_9) (htl _ wd_13_10) nws_9 (th_127 htl hKK) hl.1 hml htab hlk (⟨rfl, by omega⟩) dX10_unitAt_15 dX10_unitAt_18 (Or.inr ⟨rfl, dX10_unitAt_19⟩) dX10_unitAt_22 dX10_unitAt_25 (Nat.le_of_ble_eq_true rfl) (Nat.le_of_ble_eq_true rfl) (Nat.le_of_ble_eq_true rfl) (Nat.le_of_ble_eq_true rfl) (Nat.le_of_ble_eq_true rfl) (Nat.le_of_ble_eq_true rfl)
  · refine lv_iload_n hx hb dX10_unitAt_4 rfl (lv_at hl 1 rfl) ?_
    refine lv_aload_n hx hb dX10_unitAt_5 rfl (lv_at hl 0 rfl) ?_
    refine va_get (D := gD g) (ci := 9) (v := .ref x3) (C := RX10) (T := TX10) (N := 9) hx hb htl ck_X10 hown hKK.k hPo 0 rfl rfl 3 (by decide) (htl _ wd_1_21) (fun _ h9 => h9) rfl dX10_unitAt_6 ?_
    refine jk_Si (va_runV (As := []) (rest := [vi u]) ⟨hx, hb, hml, hown, htl⟩ (m_X2_size l g x3 e9 t9 rows us lw hL hUO h60 ) (cwV 0 htl lk_X10_150 rfl rfl rfl cwV_X2_size ⟨Nat.le_of_ble_eq_true rfl, Nat.le_of_ble_eq_true rfl⟩) (jp_V hKK (va_S.rf (A := jN)) jNb (va_recv hKK.k hPm (ci := 2) (q0 := 0) rfl rfl) ⟨hPm, hPr⟩) rfl rfl hl.1 rfl (lv_room (Nat.le_of_ble_eq_true rfl)) dX10_unitAt_9 ⟨Nat.le_of_ble_eq_true rfl, Nat.le_of_ble_eq_true rfl⟩) (fun z9 hz9 => ?_)
    subst hz9
    refine jr_lt (tgt := 26) hx hb dX10_unitAt_12 (by decide) ⟨by omega, by omega⟩ ⟨by omega, by omega⟩ (fun c12 => ?_) (fun c12 => ?_)
    · obtain ⟨i, hi9⟩ : ∃ i : Nat, u = (i : Int) := ⟨u.toNat, by omega⟩
      have hl : lv_has ls 2 [(0, .ref o), (1, vi (i : Int))] := (show (u : Int) = (i : Int) from hi9) ▸ hl
      refine lv_aload_n hx hb dX10_unitAt_26 rfl (lv_at hl 0 rfl) ?_
      refine va_get (D := gD g) (ci := 9) (v := .ref x3) (C := RX10) (T := TX10) (N := 9) hx hb htl ck_X10 hown hKK.k hPo 0 rfl rfl 3 (by decide) (htl _ wd_1_21) (fun _ h9 => h9) rfl dX10_unitAt_27 ?_
      refine lv_iload_n hx hb dX10_unitAt_30 rfl (lv_at hl 1 rfl) ?_
      refine jk_Sr (va_runV (As := [vi (i : Int)]) (rest := []) ⟨hx, hb, hml, hown, htl⟩ (m_X2_at l g x3 e9 t9 rows us lw hL hUO h60 i (by omega)) (cwV 1 htl lk_X10_304 rfl rfl rfl cwV_X2_at ⟨Nat.le_of_ble_eq_true rfl, Nat.le_of_ble_eq_true rfl⟩) (jp_V hKK (va_S.rf (A := jN)) jNb (va_recv hKK.k hPm (ci := 2) (q0 := 0) rfl rfl) ⟨hPm, hPr⟩) rfl rfl hl.1 rfl (lv_room (Nat.le_of_ble_eq_true rfl)) dX10_unitAt_31 ⟨Nat.le_of_ble_eq_true rfl, Nat.le_of_ble_eq_true rfl⟩) (fun z31 hz31 => ?_)
      refine vx_ret ?_
      refine W.widen (k := 1) (n := 6) (by omega) (by omega) ?_
      exact je_Sr hx hb hr hlk (⟨i, hi9, by omega, hz31⟩) dX10_unitAt_34
    · exact jt_N (g := g) hx hb hsT hown hKK 3 (htl _ wd_13_9) (htl _ wd_13_10) nws_9 (th_127 htl hKK) hl.1 hml htab hlk (⟨rfl, by omega⟩) dX10_unitAt_15 dX10_unitAt_18 (Or.inr ⟨rfl, dX10_unitAt_19⟩) dX10_unitAt_22 dX10_unitAt_25 (Nat.le_of_ble_eq_true rfl) (Nat.le_of_ble_eq_true rfl) (Nat.le_of_ble_eq_true rfl) (Nat.le_of_ble_eq_true rfl) (Nat.le_of_ble_eq_true rfl) (Nat.le_of_ble_eq_true rfl)
set_option maxHeartbeats 4000000 in
set_option maxRecDepth 100000 in
theorem m_X10_liveUnitAt (l : Launch) (hsT : l.stackTraces = false) (g : GT) (o x0 x1 x2 x3 x4 x5 x6 x7 x8 : Nat) (e9 t9 rows : Nat) (us : List UR) (lw : va_W) (hL : LW g rows (us.map uA) lw) (hUO : ∀ u ∈ us, UOK u) (h60 : us.length ≤ 60) (u : Int) (hu0 : jR u) : vx_Met l yX10_liveUnitAt (ws_ yX10_liveUnitAt cX10_liveUnitAt 3 (some (.object "Fuzzyseg$Unit"))) (rmm 5 2 12) (jPc g [.ref o, vi u] (fun H => PP g [ob o 9 [.ref x0, .ref x1, .ref x2, .ref x3, .ref x4, .ref x5, .ref x6, .ref x7, .ref x8]] H ∧ PP g [ob x3 2 [.ref e9, .ref t9, .ref rows]] H ∧ PP g (MR g us lw) H)) (jSr (fun z => ∃ i : Nat, u = (i : Int) ∧ i < us.length ∧ z = (us.map uA).getD i 0 ∧ ¬ (uv us i).2.2 = 0)) (jX (fun E => (E = eNS ∧ ¬ (0 ≤ u ∧ u < (us.length : Int))) ∨ (E = eUO ∧ (0 ≤ u ∧ u < (us.length : Int)) ∧ (uv us u.toNat).2.2 = 0))) 2 12 jN := by
  refine jb_X (by decide) (Nat.le_of_ble_eq_true rfl) ?_
  intro p e s m below meth cq hx hb hr hml hown htl hlk htab hKK hpre ls hl
  have hown : s.vm.findClass RX10 = some m.cls := hown
  have hl : lv_has ls 3 [(0, .ref o), (1, vi u)] := hl
  obtain ⟨hPo, hPm, hPr⟩ := hpre
  refine lv_aload_n hx hb dX10_liveUnitAt_0 rfl (lv_at hl 0 rfl) ?_
  refine lv_iload_n hx hb dX10_liveUnitAt_1 rfl (lv_at hl 1 rfl) ?_
  refine jk_XSr (vx_runV (As := [vi u]) (rest := []) ⟨hx, hb, hml, hown, htl⟩ (m_X10_unitAt l hsT g o x0 x1 x2 x3 x4 x5 x6 x7 x8 e9 t9 rows us lw hL hUO h60 u ⟨by omega, by omega⟩) (cwV 1 htl lk_X10_151 rfl rfl rfl cwV_X10_unitAt ⟨Nat.le_of_ble_eq_true rfl, Nat.le_of_ble_eq_true rfl⟩) (jp_V hKK (va_S.rf (A := jN)) jNb (va_recv hKK.k hPo (ci := 9) (q0 := 0) rfl rfl) ⟨hPo, hPm, hPr⟩) rfl rfl hl.1 rfl (lv_room (Nat.le_of_ble_eq_true rfl)) dX10_liveUnitAt_2 ⟨Nat.le_of_ble_eq_true rfl, Nat.le_of_ble_eq_true rfl⟩) htab hlk (fun E h => Or.inl h) (by omega) (by omega) (fun z2 hz2 => ?_)
  obtain ⟨i, hi9, hil, hz2⟩ := hz2
  obtain ⟨u, hu⟩ : ∃ u, us[i]? = some u := ⟨_, List.getElem?_eq_getElem (show i < us.length by omega)⟩
  rw [uA_get hu] at hz2
  obtain ⟨ua, us1, usc, ut, utc, s0, fs0, t0, ft0, lv⟩ := u
  obtain ⟨hs0, ht0, hlv⟩ : TT s0 fs0 ∧ TT t0 ft0 ∧ (lv = 0 ∨ lv = 1) := hUO _ (List.mem_of_getElem? hu)
  have huv : uv us (i) = (s0, t0, lv) := uv_get hu
  have hPu : PP g [ob ua 7 [.ref us1, .ref ut, vi lv], ob us1 6 [.ref usc, vi (s0.length : Int)], aI g usc 60 fs0, ob ut 6 [.ref utc, vi (t0.length : Int)], aI g utc 60 ft0] s.heap := hPr.mem (MR.u hu)
  have hz2 : z2 = ua := hz2
  rw [hz2]
  refine lv_astore_n (lv' := [(2, .ref ua), (0, .ref o), (1, vi u)]) hx hb dX10_liveUnitAt_5 rfl hl (by decide) rfl (fun ls hl => ?_)
  refine lv_aload_n hx hb dX10_liveUnitAt_6 rfl (lv_at hl 0 rfl) ?_
  refine va_get (D := gD g) (ci := 7) (v := vi lv) (C := RX8) (T := TX8) (N := 3) hx hb htl ck_X8 hown hKK.k hPu 0 rfl rfl 2 (by decide) (htl _ wd_17_3) (fun _ h9 => h9) rfl dX10_liveUnitAt_7 ?_
  refine jr_ifne (tgt := 24) hx hb dX10_liveUnitAt_10 (by decide) ⟨by omega, by omega⟩ (fun c10 => ?_) (fun c10 => ?_)
  · refine lv_aload_n hx hb dX10_liveUnitAt_24 rfl (lv_at hl 0 rfl) ?_
    refine vx_ret ?_
    refine W.widen (k := 2) (n := 12) (by omega) (by omega) ?_
    exact je_Sr hx hb hr hlk (⟨i, hi9, hil, (uA_get hu).symm, by rw [huv]; exact c10⟩) dX10_liveUnitAt_25
  · exact jt_SW (g := g) hx hb hsT hown hKK tf_106 (htl _ wd_11_13) (htl _ wd_11_14) nws_10 (th_106 htl hKK) tg_106 hl.1 hml htab hlk (Or.inr ⟨rfl, by omega, by rw [hi9, Int.toNat_natCast, huv]; exact c10⟩) dX10_liveUnitAt_13 dX10_liveUnitAt_16 dX10_liveUnitAt_17 dX10_liveUnitAt_20 dX10_liveUnitAt_23 (Nat.le_of_ble_eq_true rfl) (Nat.le_of_ble_eq_true rfl) (Nat.le_of_ble_eq_true rfl) (Nat.le_of_ble_eq_true rfl) (Nat.le_of_ble_eq_true rfl) (Nat.le_of_ble_eq_true rfl)
set_option maxHeartbeats 4000000 in
set_option maxRecDepth 100000 in
theorem m_X10_unitForDraft (l : Launch) (hsT : l.stackTraces = false) (g : GT) (o x0 x1 x2 x3 x4 x5 x6 x7 x8 : Nat) (e9 t9 rows : Nat) (us : List UR) (lw : va_W) (hL : LW g rows (us.map uA) lw) (hUO : ∀ u ∈ us, UOK u) (h60 : us.length ≤ 60) (c : Nat) (t : List Int) (f : Nat → Int) (hf : TT t f) (u : Int) (hu0 : jR u) : vx_Met l yX10_unitForDraft (ws_ yX10_unitForDraft cX10_unitForDraft 3 (some (.object "Fuzzyseg$Unit"))) (rmm 5 2 12) (jPc g [.ref o, vi u] (fun H => PP g [ob o 9 [.ref x0, .ref x1, .ref x2, .ref x3, .ref x4, .ref x5, .ref x6, .ref x7, .ref x8]] H ∧ PP g [ob x3 2 [.ref e9, .ref t9, .ref rows]] H ∧ PP g (MR g us lw) H ∧ PP g [ob x0 6 [.ref c, vi (t.length : Int)], aI g c 60 f] H)) (jSr (fun z => ∃ i : Nat, u = (i : Int) ∧ i < us.length ∧ z = (us.map uA).getD i 0 ∧ ¬ t.length = 0)) (jX (fun E => (E = eNS ∧ ¬ (0 ≤ u ∧ u < (us.length : Int))) ∨ (E = eIS ∧ (0 ≤ u ∧ u < (us.length : Int)) ∧ t.length = 0))) 2 12 jN := by
  refine jb_X (by decide) (Nat.le_of_ble_eq_true rfl) ?_
  intro p e s m below meth cq hx hb hr hml hown htl hlk htab hKK hpre ls hl
  have hown : s.vm.findClass RX10 = some m.cls := hown
  have hl : lv_has ls 3 [(0, .ref o), (1, vi u)] := hl
  obtain ⟨hPo, hPm, hPr, hPx⟩ := hpre
  refine lv_aload_n hx hb dX10_unitForDraft_0 rfl (lv_at hl 0 rfl) ?_
  refine lv_iload_n hx hb dX10_unitForDraft_1 rfl (lv_at hl 1 rfl) ?_
  refine jk_XSr (vx_runV (As := [vi u]) (rest := []) ⟨hx, hb, hml, hown, htl⟩ (m_X10_unitAt l hsT g o x0 x1 x2 x3 x4 x5 x6 x7 x8 e9 t9 rows us lw hL hUO h60 u ⟨by omega, by omega⟩) (cwV 1 htl lk_X10_151 rfl rfl rfl cwV_X10_unitAt ⟨Nat.le_of_ble_eq_true rfl, Nat.le_of_ble_eq_true rfl⟩) (jp_V hKK (va_S.rf (A := jN)) jNb (va_recv hKK.k hPo (ci := 9) (q0 := 0) rfl rfl) ⟨hPo, hPm, hPr⟩) rfl rfl hl.1 rfl (lv_room (Nat.le_of_ble_eq_true rfl)) dX10_unitForDraft_2 ⟨Nat.le_of_ble_eq_true rfl, Nat.le_of_ble_eq_true rfl⟩) htab hlk (fun E h => Or.inl h) (by omega) (by omega) (fun z2 hz2 => ?_)
  obtain ⟨i, hi9, hil, hz2⟩ := hz2
  refine lv_astore_n (lv' := [(2, .ref z2), (0, .ref o), (1, vi u)]) hx hb dX10_unitForDraft_5 rfl hl (by decide) rfl (fun ls hl => ?_)
  refine lv_aload_n hx hb dX10_unitForDraft_6 rfl (lv_at hl 1 rfl) ?_
  refine jk_XSv (vx_runV (As := []) (rest := []) ⟨hx, hb, hml, hown, htl⟩ (m_X10_requireDraft l hsT g o x0 x1 x2 x3 x4 x5 x6 x7 x8 c t f hf) (cwV 0 htl lk_X10_116 rfl rfl rfl cwV_X10_requireDraft ⟨Nat.le_of_ble_eq_true rfl, Nat.le_of_ble_eq_true rfl⟩) (jp_V hKK (va_S.rf (A := jN)) jNb (va_recv hKK.k hPo (ci := 9) (q0 := 0) rfl rfl) ⟨hPo, hPx⟩) rfl rfl hl.1 rfl (lv_room (Nat.le_of_ble_eq_true rfl)) dX10_unitForDraft_7 ⟨Nat.le_of_ble_eq_true rfl, Nat.le_of_ble_eq_true rfl⟩) htab hlk (fun E h => Or.inr ⟨h.1, by omega, h.2⟩) (by omega) (by omega) (fun hz7 => ?_)
  refine lv_aload_n hx hb dX10_unitForDraft_10 rfl (lv_at hl 0 rfl) ?_
  refine vx_ret ?_
  exact je_Sr hx hb hr hlk (⟨i, hi9, hil, hz2, hz7⟩) dX10_unitForDraft_11
set_option maxHeartbeats 4000000 in
set_option maxRecDepth 100000 in
theorem m_X10_segmentAt (l : Launch) (hsT : l.stackTraces = false) (g : GT) (o x0 x1 x2 x3 x4 x5 x6 x7 x8 : Nat) (rows : Nat) (ss : List SR) (lw : va_W) (hL : LW g rows (ss.map sA) lw) (hSO : ∀ u ∈ ss, SOK u) (h60 : ss.length ≤ 60) (v : Int) (hv0 : jR v) : vx_Met l yX10_segmentAt (ws_ yX10_segmentAt cX10_segmentAt 2 (some (.object "Fuzzyseg$Segment"))) (rmm 4 1 6) (jPc g [.ref o, vi v] (fun H => PP g [ob o 9 [.ref x0, .ref x1, .ref x2, .ref x3, .ref x4, .ref x5, .ref x6, .ref x7, .ref x8]] H ∧ PP g [ob x8 0 [.ref rows]] H ∧ PP g (DR g ss lw) H)) (jSr (fun z => ∃ i : Nat, v = (i : Int) ∧ i < ss.length ∧ z = (ss.map sA).getD i 0)) (jX (fun E => (E = eIO ∧ ¬ (0 ≤ v ∧ v < (ss.length : Int))))) 1 6 jN := by
  refine jb_X (by decide) (Nat.le_of_ble_eq_true rfl) ?_
  intro p e s m below meth cq hx hb hr hml hown htl hlk htab hKK hpre ls hl
  have hown : s.vm.findClass RX10 = some m.cls := hown
  have hl : lv_has ls 2 [(0, .ref o), (1, vi v)] := hl
  obtain ⟨hPo, hPd, hPr⟩ := hpre
  refine lv_iload_n hx hb dX10_segmentAt_0 rfl (lv_at hl 1 rfl) ?_
  refine jr_iflt (tgt := 15) hx hb dX10_segmentAt_1 (by decide) ⟨by omega, by omega⟩ (fun c1 => ?_) (fun c1 => ?_)
  · exact jt_SW (g := g) hx hb hsT hown hKK tf_243 (htl _ wd_24_23) (htl _ wd_25_0) nws_13 (th_243 htl hKK) tg_243 hl.1 hml htab hlk (⟨rfl, by omega⟩) dX10_segmentAt_15 dX10_segmentAt_18 dX10_segmentAt_19 dX10_segmentAt_22 dX10_segmentAt_25 (Nat.le_of_ble_eq_true rfl) (Nat.le_of_ble_eq_true rfl) (Nat.le_of_ble_eq_true rfl) (Nat.le_of_ble_eq_true rfl) (Nat.le_of_ble_eq_true rfl) (Nat.le_of_ble_eq_true rfl)
  · refine lv_iload_n hx hb dX10_segmentAt_4 rfl (lv_at hl 1 rfl) ?_
    refine lv_aload_n hx hb dX10_segmentAt_5 rfl (lv_at hl 0 rfl) ?_
    refine va_get (D := gD g) (ci := 9) (v := .ref x8) (C := RX10) (T := TX10) (N := 9) hx hb htl ck_X10 hown hKK.k hPo 0 rfl rfl 8 (by decide) (htl _ wd_2_11) (fun _ h9 => h9) rfl dX10_segmentAt_6 ?_
    refine jk_Si (va_runV (As := []) (rest := [vi v]) ⟨hx, hb, hml, hown, htl⟩ (m_X0_size l g x8 rows ss lw hL hSO h60 ) (cwV 0 htl lk_X10_193 rfl rfl rfl cwV_X0_size ⟨Nat.le_of_ble_eq_true rfl, Nat.le_of_ble_eq_true rfl⟩) (jp_V hKK (va_S.rf (A := jN)) jNb (va_recv hKK.k hPd (ci := 0) (q0 := 0) rfl rfl) ⟨hPd, hPr⟩) rfl rfl hl.1 rfl (lv_room (Nat.le_of_ble_eq_true rfl)) dX10_segmentAt_9 ⟨Nat.le_of_ble_eq_true rfl, Nat.le_of_ble_eq_true rfl⟩) (fun z9 hz9 => ?_)
    subst hz9
    refine jr_lt (tgt := 26) hx hb dX10_segmentAt_12 (by decide) ⟨by omega, by omega⟩ ⟨by omega, by omega⟩ (fun c12 => ?_) (fun c12 => ?_)
    · obtain ⟨i, hi9⟩ : ∃ i : Nat, v = (i : Int) := ⟨v.toNat, by omega⟩
      have hl : lv_has ls 2 [(0, .ref o), (1, vi (i : Int))] := (show (v : Int) = (i : Int) from hi9) ▸ hl
      refine lv_aload_n hx hb dX10_segmentAt_26 rfl (lv_at hl 0 rfl) ?_
      refine va_get (D := gD g) (ci := 9) (v := .ref x8) (C := RX10) (T := TX10) (N := 9) hx hb htl ck_X10 hown hKK.k hPo 0 rfl rfl 8 (by decide) (htl _ wd_2_11) (fun _ h9 => h9) rfl dX10_segmentAt_27 ?_
      refine lv_iload_n hx hb dX10_segmentAt_30 rfl (lv_at hl 1 rfl) ?_
      refine jk_Sr (va_runV (As := [vi (i : Int)]) (rest := []) ⟨hx, hb, hml, hown, htl⟩ (m_X0_at l g x8 rows ss lw hL hSO h60 i (by omega)) (cwV 1 htl lk_X10_196 rfl rfl rfl cwV_X0_at ⟨Nat.le_of_ble_eq_true rfl, Nat.le_of_ble_eq_true rfl⟩) (jp_V hKK (va_S.rf (A := jN)) jNb (va_recv hKK.k hPd (ci := 0) (q0 := 0) rfl rfl) ⟨hPd, hPr⟩) rfl rfl hl.1 rfl (lv_room (Nat.le_of_ble_eq_true rfl)) dX10_segmentAt_31 ⟨Nat.le_of_ble_eq_true rfl, Nat.le_of_ble_eq_true rfl⟩) (fun z31 hz31 => ?_)
      refine vx_ret ?_
      refine W.widen (k := 1) (n := 6) (by omega) (by omega) ?_
      exact je_Sr hx hb hr hlk (⟨i, hi9, by omega, hz31⟩) dX10_segmentAt_34
    · exact jt_SW (g := g) hx hb hsT hown hKK tf_243 (htl _ wd_24_23) (htl _ wd_25_0) nws_13 (th_243 htl hKK) tg_243 hl.1 hml htab hlk (⟨rfl, by omega⟩) dX10_segmentAt_15 dX10_segmentAt_18 dX10_segmentAt_19 dX10_segmentAt_22 dX10_segmentAt_25 (Nat.le_of_ble_eq_true rfl) (Nat.le_of_ble_eq_true rfl) (Nat.le_of_ble_eq_true rfl) (Nat.le_of_ble_eq_true rfl) (Nat.le_of_ble_eq_true rfl) (Nat.le_of_ble_eq_true rfl)
set_option maxHeartbeats 4000000 in
set_option maxRecDepth 100000 in
theorem m_X10_segmentFilledByUnit (l : Launch) (hsT : l.stackTraces = false) (g : GT) (o x0 x1 x2 x3 x4 x5 x6 x7 x8 : Nat) (rows : Nat) (ss : List SR) (lw : va_W) (hL : LW g rows (ss.map sA) lw) (hSO : ∀ u ∈ ss, SOK u) (h60 : ss.length ≤ 60) (v : Int) (hv0 : jR v) : vx_Met l yX10_segmentFilledByUnit (ws_ yX10_segmentFilledByUnit cX10_segmentFilledByUnit 3 (some (.object "Fuzzyseg$Segment"))) (rmm 5 2 12) (jPc g [.ref o, vi v] (fun H => PP g [ob o 9 [.ref x0, .ref x1, .ref x2, .ref x3, .ref x4, .ref x5, .ref x6, .ref x7, .ref x8]] H ∧ PP g [ob x8 0 [.ref rows]] H ∧ PP g (DR g ss lw) H)) (jSr (fun z => ∃ i : Nat, v = (i : Int) ∧ i < ss.length ∧ z = (ss.map sA).getD i 0 ∧ ¬ (sv ss i).2.2.2.1 = -1)) (jX (fun E => (E = eIO ∧ ¬ (0 ≤ v ∧ v < (ss.length : Int))) ∨ (E = eNS ∧ (0 ≤ v ∧ v < (ss.length : Int)) ∧ (sv ss v.toNat).2.2.2.1 = -1))) 2 12 jN := by
  refine jb_X (by decide) (Nat.le_of_ble_eq_true rfl) ?_
  intro p e s m below meth cq hx hb hr hml hown htl hlk htab hKK hpre ls hl
  have hown : s.vm.findClass RX10 = some m.cls := hown
  have hl : lv_has ls 3 [(0, .ref o), (1, vi v)] := hl
  obtain ⟨hPo, hPd, hPr⟩ := hpre
  refine lv_aload_n hx hb dX10_segmentFilledByUnit_0 rfl (lv_at hl 0 rfl) ?_
  refine lv_iload_n hx hb dX10_segmentFilledByUnit_1 rfl (lv_at hl 1 rfl) ?_
  refine jk_XSr (vx_runV (As := [vi v]) (rest := []) ⟨hx, hb, hml, hown, htl⟩ (m_X10_segmentAt l hsT g o x0 x1 x2 x3 x4 x5 x6 x7 x8 rows ss lw hL hSO h60 v ⟨by omega, by omega⟩) (cwV 1 htl lk_X10_209 rfl rfl rfl cwV_X10_segmentAt ⟨Nat.le_of_ble_eq_true rfl, Nat.le_of_ble_eq_true rfl⟩) (jp_V hKK (va_S.rf (A := jN)) jNb (va_recv hKK.k hPo (ci := 9) (q0 := 0) rfl rfl) ⟨hPo, hPd, hPr⟩) rfl rfl hl.1 rfl (lv_room (Nat.le_of_ble_eq_true rfl)) dX10_segmentFilledByUnit_2 ⟨Nat.le_of_ble_eq_true rfl, Nat.le_of_ble_eq_true rfl⟩) htab hlk (fun E h => Or.inl h) (by omega) (by omega) (fun z2 hz2 => ?_)
  obtain ⟨i, hi9, hil, hz2⟩ := hz2
  obtain ⟨q, hq⟩ : ∃ q, ss[i]? = some q := ⟨_, List.getElem?_eq_getElem (show i < ss.length by omega)⟩
  rw [sA_get hq] at hz2
  obtain ⟨sa, tx, txc, ty, tyc, t, f, u, fu, st, un, sc⟩ := q
  obtain ⟨hT, hU, hst, hun, hsc⟩ : TT t f ∧ TT u fu ∧ (0 ≤ st ∧ st < 65536) ∧ (-1 ≤ un ∧ un < 60) ∧ (0 ≤ sc ∧ sc ≤ 100) := hSO _ (List.mem_of_getElem? hq)
  have hsv : sv ss (i) = (t, u, st, un, sc) := sv_get hq
  have hPs : PP g [ob sa 4 [.ref tx, .ref ty, vi st, vi un, vi sc], ob tx 6 [.ref txc, vi (t.length : Int)], aI g txc 60 f, ob ty 6 [.ref tyc, vi (u.length : Int)], aI g tyc 60 fu] s.heap := hPr.mem (DR.u hq)
  have hz2 : z2 = sa := hz2
  rw [hz2]
  refine lv_astore_n (lv' := [(2, .ref sa), (0, .ref o), (1, vi v)]) hx hb dX10_segmentFilledByUnit_5 rfl hl (by decide) rfl (fun ls hl => ?_)
  refine lv_aload_n hx hb dX10_segmentFilledByUnit_6 rfl (lv_at hl 0 rfl) ?_
  refine va_get (D := gD g) (ci := 4) (v := vi un) (C := RX4) (T := TX4) (N := 5) hx hb htl ck_X4 hown hKK.k hPs 0 rfl rfl 3 (by decide) (htl _ wd_30_15) (fun _ h9 => h9) rfl dX10_segmentFilledByUnit_7 ?_
  refine jr_iconst hx hb dX10_segmentFilledByUnit_10 ?_
  refine jr_ne (tgt := 25) hx hb dX10_segmentFilledByUnit_11 (by decide) ⟨by omega, by omega⟩ ⟨by omega, by omega⟩ (fun c11 => ?_) (fun c11 => ?_)
  · refine lv_aload_n hx hb dX10_segmentFilledByUnit_25 rfl (lv_at hl 0 rfl) ?_
    refine vx_ret ?_
    refine W.widen (k := 2) (n := 12) (by omega) (by omega) ?_
    exact je_Sr hx hb hr hlk (⟨i, hi9, hil, (sA_get hq).symm, by rw [hsv]; exact c11⟩) dX10_segmentFilledByUnit_26
  · exact jt_N (g := g) hx hb hsT hown hKK 3 (htl _ wd_13_9) (htl _ wd_13_10) nws_14 (th_127 htl hKK) hl.1 hml htab hlk (Or.inr ⟨rfl, by omega, by rw [hi9, Int.toNat_natCast, hsv]; exact c11⟩) dX10_segmentFilledByUnit_14 dX10_segmentFilledByUnit_17 (Or.inr ⟨rfl, dX10_segmentFilledByUnit_18⟩) dX10_segmentFilledByUnit_21 dX10_segmentFilledByUnit_24 (Nat.le_of_ble_eq_true rfl) (Nat.le_of_ble_eq_true rfl) (Nat.le_of_ble_eq_true rfl) (Nat.le_of_ble_eq_true rfl) (Nat.le_of_ble_eq_true rfl) (Nat.le_of_ble_eq_true rfl)
set_option maxHeartbeats 4000000 in
set_option maxRecDepth 100000 in
theorem m_X10_targetAt (l : Launch) (hsT : l.stackTraces = false) (g : GT) (o x0 x1 x2 x3 x4 x5 x6 x7 x8 : Nat) (rows : Nat) (ss : List SR) (lw : va_W) (hL : LW g rows (ss.map sA) lw) (hSO : ∀ u ∈ ss, SOK u) (h60 : ss.length ≤ 60) (v : Int) (hv0 : jR v) : vx_Met l yX10_targetAt (ws_ yX10_targetAt cX10_targetAt 3 (some (.object "Fuzzyseg$Text"))) (rmm 5 2 12) (jPc g [.ref o, vi v] (fun H => PP g [ob o 9 [.ref x0, .ref x1, .ref x2, .ref x3, .ref x4, .ref x5, .ref x6, .ref x7, .ref x8]] H ∧ PP g [ob x8 0 [.ref rows]] H ∧ PP g (DR g ss lw) H)) (jSr (fun z => ∃ (i : Nat) (q : SR), v = (i : Int) ∧ i < ss.length ∧ ss[i]? = some q ∧ z = q.2.2.2.1 ∧ ¬ (sv ss i).2.2.1 = 101)) (jX (fun E => (E = eIO ∧ ¬ (0 ≤ v ∧ v < (ss.length : Int))) ∨ (E = eNS ∧ (0 ≤ v ∧ v < (ss.length : Int)) ∧ (sv ss v.toNat).2.2.1 = 101))) 2 12 jN := by
  refine jb_X (by decide) (Nat.le_of_ble_eq_true rfl) ?_
  intro p e s m below meth cq hx hb hr hml hown htl hlk htab hKK hpre ls hl
  have hown : s.vm.findClass RX10 = some m.cls := hown
  have hl : lv_has ls 3 [(0, .ref o), (1, vi v)] := hl
  obtain ⟨hPo, hPd, hPr⟩ := hpre
  refine lv_aload_n hx hb dX10_targetAt_0 rfl (lv_at hl 0 rfl) ?_
  refine lv_iload_n hx hb dX10_targetAt_1 rfl (lv_at hl 1 rfl) ?_
  refine jk_XSr (vx_runV (As := [vi v]) (rest := []) ⟨hx, hb, hml, hown, htl⟩ (m_X10_segmentAt l hsT g o x0 x1 x2 x3 x4 x5 x6 x7 x8 rows ss lw hL hSO h60 v ⟨by omega, by omega⟩) (cwV 1 htl lk_X10_209 rfl rfl rfl cwV_X10_segmentAt ⟨Nat.le_of_ble_eq_true rfl, Nat.le_of_ble_eq_true rfl⟩) (jp_V hKK (va_S.rf (A := jN)) jNb (va_recv hKK.k hPo (ci := 9) (q0 := 0) rfl rfl) ⟨hPo, hPd, hPr⟩) rfl rfl hl.1 rfl (lv_room (Nat.le_of_ble_eq_true rfl)) dX10_targetAt_2 ⟨Nat.le_of_ble_eq_true rfl, Nat.le_of_ble_eq_true rfl⟩) htab hlk (fun E h => Or.inl h) (by omega) (by omega) (fun z2 hz2 => ?_)
  obtain ⟨i, hi9, hil, hz2⟩ := hz2
  obtain ⟨q, hq⟩ : ∃ q, ss[i]? = some q := ⟨_, List.getElem?_eq_getElem (show i < ss.length by omega)⟩
  rw [sA_get hq] at hz2
  obtain ⟨sa, tx, txc, ty, tyc, t, f, u, fu, st, un, sc⟩ := q
  obtain ⟨hT, hU, hst, hun, hsc⟩ : TT t f ∧ TT u fu ∧ (0 ≤ st ∧ st < 65536) ∧ (-1 ≤ un ∧ un < 60) ∧ (0 ≤ sc ∧ sc ≤ 100) := hSO _ (List.mem_of_getElem? hq)
  have hsv : sv ss (i) = (t, u, st, un, sc) := sv_get hq
  have hPs : PP g [ob sa 4 [.ref tx, .ref ty, vi st, vi un, vi sc], ob tx 6 [.ref txc, vi (t.length : Int)], aI g txc 60 f, ob ty 6 [.ref tyc, vi (u.length : Int)], aI g tyc 60 fu] s.heap := hPr.mem (DR.u hq)
  have hz2 : z2 = sa := hz2
  rw [hz2]
  refine lv_astore_n (lv' := [(2, .ref sa), (0, .ref o), (1, vi v)]) hx hb dX10_targetAt_5 rfl hl (by decide) rfl (fun ls hl => ?_)
  refine lv_aload_n hx hb dX10_targetAt_6 rfl (lv_at hl 0 rfl) ?_
  refine jk_Si (va_runV (As := []) (rest := []) ⟨hx, hb, hml, hown, htl⟩ (m_X4_isEmpty l g sa tx ty st un sc (by omega)) (cwV 0 htl lk_X10_200 rfl rfl rfl cwV_X4_isEmpty ⟨Nat.le_of_ble_eq_true rfl, Nat.le_of_ble_eq_true rfl⟩) (jp_V hKK (va_S.rf (A := jN)) jNb (va_recv hKK.k hPs (ci := 4) (q0 := 0) rfl rfl) (va_P.sub hPs [0] rfl)) rfl rfl hl.1 rfl (lv_room (Nat.le_of_ble_eq_true rfl)) dX10_targetAt_7 ⟨Nat.le_of_ble_eq_true rfl, Nat.le_of_ble_eq_true rfl⟩) (fun z7 hz7 => ?_)
  subst hz7
  refine jr_ifeq (tgt := 24) hx hb dX10_targetAt_10 (by decide) (i01R _) (fun c10 => ?_) (fun c10 => ?_)
  · have c10 := i01f c10
    refine lv_aload_n hx hb dX10_targetAt_24 rfl (lv_at hl 0 rfl) ?_
    refine va_get (D := gD g) (ci := 4) (v := .ref ty) (C := RX4) (T := TX4) (N := 5) hx hb htl ck_X4 hown hKK.k hPs 0 rfl rfl 1 (by decide) (htl _ wd_19_20) (fun _ h9 => h9) rfl dX10_targetAt_25 ?_
    refine vx_ret ?_
    refine W.widen (k := 2) (n := 12) (by omega) (by omega) ?_
    exact je_Sr hx hb hr hlk (⟨i, _, hi9, hil, hq, rfl, by rw [hsv]; exact c10⟩) dX10_targetAt_28
  · have c10 := i01t c10
    exact jt_N (g := g) hx hb hsT hown hKK 3 (htl _ wd_13_9) (htl _ wd_13_10) nws_16 (th_127 htl hKK) hl.1 hml htab hlk (Or.inr ⟨rfl, by omega, by rw [hi9, Int.toNat_natCast, hsv]; exact c10⟩) dX10_targetAt_13 dX10_targetAt_16 (Or.inr ⟨rfl, dX10_targetAt_17⟩) dX10_targetAt_20 dX10_targetAt_23 (Nat.le_of_ble_eq_true rfl) (Nat.le_of_ble_eq_true rfl) (Nat.le_of_ble_eq_true rfl) (Nat.le_of_ble_eq_true rfl) (Nat.le_of_ble_eq_true rfl) (Nat.le_of_ble_eq_true rfl)
set_option maxHeartbeats 4000000 in
set_option maxRecDepth 100000 in
theorem m_X10_targetCode (l : Launch) (hsT : l.stackTraces = false) (g : GT) (o x0 x1 x2 x3 x4 x5 x6 x7 x8 : Nat) (rows : Nat) (ss : List SR) (lw : va_W) (hL : LW g rows (ss.map sA) lw) (hSO : ∀ u ∈ ss, SOK u) (h60 : ss.length ≤ 60) (v : Int) (hv0 : jR v) (k : Int) (hk0 : jR k) : vx_Met l yX10_targetCode (ws_ yX10_targetCode cX10_targetCode 4 (some .int)) (rmm 6 3 18) (jPc g [.ref o, vi v, vi k] (fun H => PP g [ob o 9 [.ref x0, .ref x1, .ref x2, .ref x3, .ref x4, .ref x5, .ref x6, .ref x7, .ref x8]] H ∧ PP g [ob x8 0 [.ref rows]] H ∧ PP g (DR g ss lw) H)) (jSi (fun z => ∃ i : Nat, v = (i : Int) ∧ i < ss.length ∧ ¬ (sv ss i).2.2.1 = 101 ∧ 0 ≤ k ∧ k < ((sv ss i).2.1.length : Int) ∧ z = (sv ss i).2.1.getD k.toNat 0 ∧ 0 ≤ z ∧ z < 40000)) (jX (fun E => (E = eIO ∧ ¬ (0 ≤ v ∧ v < (ss.length : Int))) ∨ (E = eNS ∧ (0 ≤ v ∧ v < (ss.length : Int)) ∧ ((sv ss v.toNat).2.2.1 = 101 ∨ ¬ (0 ≤ k ∧ k < ((sv ss v.toNat).2.1.length : Int)))))) 3 18 jN := by
  refine jb_X (by decide) (Nat.le_of_ble_eq_true rfl) ?_
  intro p e s m below meth cq hx hb hr hml hown htl hlk htab hKK hpre ls hl
  have hown : s.vm.findClass RX10 = some m.cls := hown
  have hl : lv_has ls 4 [(0, .ref o), (1, vi v), (2, vi k)] := hl
  obtain ⟨hPo, hPd, hPr⟩ := hpre
  refine lv_aload_n hx hb dX10_targetCode_0 rfl (lv_at hl 0 rfl) ?_
  refine lv_iload_n hx hb dX10_targetCode_1 rfl (lv_at hl 1 rfl) ?_
  refine jk_XSr (vx_runV (As := [vi v]) (rest := []) ⟨hx, hb, hml, hown, htl⟩ (m_X10_targetAt l hsT g o x0 x1 x2 x3 x4 x5 x6 x7 x8 rows ss lw hL hSO h60 v ⟨by omega, by omega⟩) (cwV 1 htl lk_X10_251 rfl rfl rfl cwV_X10_targetAt ⟨Nat.le_of_ble_eq_true rfl, Nat.le_of_ble_eq_true rfl⟩) (jp_V hKK (va_S.rf (A := jN)) jNb (va_recv hKK.k hPo (ci := 9) (q0 := 0) rfl rfl) ⟨hPo, hPd, hPr⟩) rfl rfl hl.1 rfl (lv_room (Nat.le_of_ble_eq_true rfl)) dX10_targetCode_2 ⟨Nat.le_of_ble_eq_true rfl, Nat.le_of_ble_eq_true rfl⟩) htab hlk (fun E h => h.elim Or.inl (fun h => Or.inr ⟨h.1, h.2.1, Or.inl h.2.2⟩)) (by omega) (by omega) (fun z2 hz2 => ?_)
  obtain ⟨i, q, hi9, hil, hq, hz2, hne2⟩ := hz2
  obtain ⟨sa, tx, txc, ty, tyc, t, f, u9, fu, st, un, sc⟩ := q
  obtain ⟨hT, hU, hst9, hun, hsc⟩ : TT t f ∧ TT u9 fu ∧ (0 ≤ st ∧ st < 65536) ∧ (-1 ≤ un ∧ un < 60) ∧ (0 ≤ sc ∧ sc ≤ 100) := hSO _ (List.mem_of_getElem? hq)
  have hsv : sv ss i = (t, u9, st, un, sc) := sv_get hq
  have hPs : PP g [ob sa 4 [.ref tx, .ref ty, vi st, vi un, vi sc], ob tx 6 [.ref txc, vi (t.length : Int)], aI g txc 60 f, ob ty 6 [.ref tyc, vi (u9.length : Int)], aI g tyc 60 fu] s.heap := hPr.mem (DR.u hq)
  have hz2 : z2 = ty := hz2
  rw [hz2]
  refine lv_astore_n (lv' := [(3, .ref ty), (0, .ref o), (1, vi v), (2, vi k)]) hx hb dX10_targetCode_5 rfl hl (by decide) rfl (fun ls hl => ?_)
  refine lv_aload_n hx hb dX10_targetCode_6 rfl (lv_at hl 0 rfl) ?_
  refine lv_iload_n hx hb dX10_targetCode_7 rfl (lv_at hl 3 rfl) ?_
  refine jk_Si (va_runV (As := [vi k]) (rest := []) ⟨hx, hb, hml, hown, htl⟩ (m_X6_hasPlace l g ty tyc u9 fu hU k hk0) (cwV 1 htl lk_X10_235 rfl rfl rfl cwV_X6_hasPlace ⟨Nat.le_of_ble_eq_true rfl, Nat.le_of_ble_eq_true rfl⟩) (jp_V hKK (va_S.rf (A := jN)) jNb (va_recv hKK.k hPs (ci := 6) (q0 := 3) rfl rfl) (va_P.sub hPs [3, 4] rfl)) rfl rfl hl.1 rfl (lv_room (Nat.le_of_ble_eq_true rfl)) dX10_targetCode_8 ⟨Nat.le_of_ble_eq_true rfl, Nat.le_of_ble_eq_true rfl⟩) (fun z8 hz8 => ?_)
  subst hz8
  have hLu := hU.len
  refine jr_ifne (tgt := 25) hx hb dX10_targetCode_11 (by decide) (i01R _) (fun c11 => ?_) (fun c11 => ?_)
  · have c11 := i01t c11
    refine lv_aload_n hx hb dX10_targetCode_25 rfl (lv_at hl 0 rfl) ?_
    refine lv_iload_n hx hb dX10_targetCode_26 rfl (lv_at hl 3 rfl) ?_
    refine jk_Si (va_runV (As := [vi k]) (rest := []) ⟨hx, hb, hml, hown, htl⟩ (m_X6_at l g ty tyc u9 fu hU k hk0) (cwV 1 htl lk_X10_244 rfl rfl rfl cwV_X6_at ⟨Nat.le_of_ble_eq_true rfl, Nat.le_of_ble_eq_true rfl⟩) (jp_V hKK (va_S.rf (A := jN)) jNb (va_recv hKK.k hPs (ci := 6) (q0 := 3) rfl rfl) (va_P.sub hPs [3, 4] rfl)) rfl rfl hl.1 rfl (lv_room (Nat.le_of_ble_eq_true rfl)) dX10_targetCode_27 ⟨Nat.le_of_ble_eq_true rfl, Nat.le_of_ble_eq_true rfl⟩) (fun z27 hz27 => ?_)
    subst hz27
    have ta := TT.tAt_b hU k
    obtain ⟨k9, hk9⟩ : ∃ k9 : Nat, k = (k9 : Int) := ⟨k.toNat, by omega⟩
    have tb9 := hU.b (j := k9) (by omega)
    have e9 : tAt u9 k = u9.getD k9 0 := by rw [hk9]; exact tAt_in (by omega)
    refine vx_ret ?_
    refine W.widen (k := 3) (n := 18) (by omega) (by omega) ?_
    exact je_Si hx hb hr hlk rfl (by rw [e9]; exact ⟨i, hi9, hil, hne2, by omega, by rw [hsv]; exact c11.2, by rw [hsv, hk9, Int.toNat_natCast], tb9.1, tb9.2⟩) dX10_targetCode_30
  · have c11 := i01f c11
    exact jt_N (g := g) hx hb hsT hown hKK 3 (htl _ wd_13_9) (htl _ wd_13_10) nws_17 (th_127 htl hKK) hl.1 hml htab hlk (Or.inr ⟨rfl, by omega, Or.inr (by rw [hi9, Int.toNat_natCast, hsv]; exact c11)⟩) dX10_targetCode_14 dX10_targetCode_17 (Or.inr ⟨rfl, dX10_targetCode_18⟩) dX10_targetCode_21 dX10_targetCode_24 (Nat.le_of_ble_eq_true rfl) (Nat.le_of_ble_eq_true rfl) (Nat.le_of_ble_eq_true rfl) (Nat.le_of_ble_eq_true rfl) (Nat.le_of_ble_eq_true rfl) (Nat.le_of_ble_eq_true rfl)
set_option maxHeartbeats 4000000 in
set_option maxRecDepth 100000 in
theorem m_X10_putToken (l : Launch) (hsT : l.stackTraces = false) (g : GT) (o x0 x1 x2 x3 x4 x5 x6 x7 x8 : Nat) (c : Nat) (t : List Int) (f : Nat → Int) (hf : TT t f) (k v : Int) (hk : 0 ≤ k ∧ k < 4) (hv : 0 ≤ v ∧ v < 10000) (hno : ∀ x ∈ ([o] : List Nat), x ∉ ([x0, c] : List Nat)) : vx_Met l yX10_putToken (ws_ yX10_putToken cX10_putToken 3 (some .int)) (rmm 2 1 6) (jPc g [.ref o, vi k, vi v] (fun H => PP g [ob o 9 [.ref x0, .ref x1, .ref x2, .ref x3, .ref x4, .ref x5, .ref x6, .ref x7, .ref x8]] H ∧ PP g [ob x0 6 [.ref c, vi (t.length : Int)], aI g c 60 f] H ∧ va_D (fun q => gb g ≤ q) [ob x0 6 [.ref c, vi (t.length : Int)], aI g c 60 f])) (jQi (fun z H1 => z = (t.length : Int) + 1 ∧ ∃ f1 : Nat → Int, TT (t ++ [k * 10000 + v]) f1 ∧ PP g [ob x0 6 [.ref c, vi ((t ++ [k * 10000 + v]).length : Int)], aI g c 60 f1] H1) (jA [ob x0 6 [.ref c, vi (t.length : Int)], aI g c 60 f])) (jX (fun E => E = eIS ∧ 60 ≤ t.length)) 1 6 (jA [ob x0 6 [.ref c, vi (t.length : Int)], aI g c 60 f]) := by
  refine jb_X (by decide) (Nat.le_of_ble_eq_true rfl) ?_
  intro p e s m below meth cq hx hb hr hml hown htl hlk htab hKK hpre ls hl
  have hown : s.vm.findClass RX10 = some m.cls := hown
  have hl : lv_has ls 3 [(0, .ref o), (1, vi k), (2, vi v)] := hl
  obtain ⟨hPo, hP, hD0⟩ := hpre
  have hL := hf.len
  refine lv_aload_n hx hb dX10_putToken_0 rfl (lv_at hl 0 rfl) ?_
  refine va_get (D := gD g) (ci := 9) (v := .ref x0) (C := RX10) (T := TX10) (N := 9) hx hb htl ck_X10 hown hKK.k hPo 0 rfl rfl 0 (by decide) (htl _ wd_1_14) (fun _ h9 => h9) rfl dX10_putToken_1 ?_
  refine jk_Si (va_runV (As := []) (rest := []) ⟨hx, hb, hml, hown, htl⟩ (m_X6_size l g x0 c t f hf  ) (cwV 0 htl lk_X10_76 rfl rfl rfl cwV_X6_size ⟨Nat.le_of_ble_eq_true rfl, Nat.le_of_ble_eq_true rfl⟩) (jp_V hKK (va_S.rf (A := jN)) jNb (va_recv hKK.k hP (ci := 6) (q0 := 0) rfl rfl) hP) rfl rfl hl.1 rfl (lv_room (Nat.le_of_ble_eq_true rfl)) dX10_putToken_4 ⟨Nat.le_of_ble_eq_true rfl, Nat.le_of_ble_eq_true rfl⟩) (fun z4 hz4 => ?_)
  subst hz4
  refine jr_bipush hx hb dX10_putToken_7 (by decide) ?_
  refine jr_lt (tgt := 23) hx hb dX10_putToken_9 (by decide) ⟨by omega, by omega⟩ ⟨by omega, by omega⟩ (fun c9 => ?_) (fun c9 => ?_)
  · have ap_hPo : ∀ (k : Nat) (q : Nat × va_E), ([ob o 9 [.ref x0, .ref x1, .ref x2, .ref x3, .ref x4, .ref x5, .ref x6, .ref x7, .ref x8]] : va_W)[k]? = some q → ¬ (jA [ob x0 6 [.ref c, vi (t.length : Int)], aI g c 60 f]) q.1 := jap (hno)
    have hD : va_D (jA [ob x0 6 [.ref c, vi (t.length : Int)], aI g c 60 f]) [ob x0 6 [.ref c, vi (t.length : Int)], aI g c 60 f] := hD0.inD
    have hAb : ∀ q, (jA [ob x0 6 [.ref c, vi (t.length : Int)], aI g c 60 f]) q → gb g ≤ q := fun q h => hD0.inA h
    generalize hAe : jA [ob x0 6 [.ref c, vi (t.length : Int)], aI g c 60 f] = A at *
    have hS : va_S A s.heap s.heap [] := va_S.rf
    suffices K : ∀ (H : Heap) (locs : List Loc), PP g [ob x0 6 [.ref c, vi (t.length : Int)], aI g c 60 f] H → va_D A [ob x0 6 [.ref c, vi (t.length : Int)], aI g c 60 f] → va_S A s.heap H locs → ∀ ls : Array Slot, lv_has ls 3 [(0, .ref o), (1, vi k), (2, vi v)] → W p l e (rmm 2 1 6) s m ([.ref o, vi k, vi v] : List Value).toArray below meth cq H locs 0 0 (vx_MQ below (jQi (fun z H1 => z = (t.length : Int) + 1 ∧ ∃ f1 : Nat → Int, TT (t ++ [k * 10000 + v]) f1 ∧ PP g [ob x0 6 [.ref c, vi ((t ++ [k * 10000 + v]).length : Int)], aI g c 60 f1] H1) A) (jX (fun E => E = eIS ∧ 60 ≤ t.length)) ([.ref o, vi k, vi v] : List Value).toArray s 1 6 A) (F0 m 23 ls []) from K _ _ hP hD hS _ hl
    clear hl; intro H locs hP hD hS ls hl
    refine lv_aload_n hx hb dX10_putToken_23 rfl (lv_at hl 0 rfl) ?_
    refine va_get (D := gD g) (ci := 9) (v := .ref x0) (C := RX10) (T := TX10) (N := 9) hx hb htl ck_X10 hown hKK.k (jat hPo hS ap_hPo) 0 rfl rfl 0 (by decide) (htl _ wd_1_14) (fun _ h9 => h9) rfl dX10_putToken_24 ?_
    refine lv_iload_n hx hb dX10_putToken_27 rfl (lv_at hl 1 rfl) ?_
    refine lv_iload_n hx hb dX10_putToken_28 rfl (lv_at hl 2 rfl) ?_
    refine jk_Si (va_runS (As := [vi k, vi v]) (rest := [.ref x0]) ⟨hx, hb, hml, hown, htl⟩ (m_X7_codeOf l g k v) (va_cwS 2 htl lk_X10_297 rfl rfl rfl cwS_X7_codeOf ⟨Nat.le_of_ble_eq_true rfl, Nat.le_of_ble_eq_true rfl⟩) (jp_S hKK hS hAb trivial) rfl rfl hl.1 rfl (lv_room (Nat.le_of_ble_eq_true rfl)) dX10_putToken_29 ⟨Nat.le_of_ble_eq_true rfl, Nat.le_of_ble_eq_true rfl⟩) (fun z29 hz29 => ?_)
    subst hz29
    have hDc : va_D A [ob x0 6 [.ref c, vi (t.length : Int)], aI g c 60 f] := hD.sub [0, 1] (by decide) rfl
    refine jk_Qv (va_runV (As := [vi (k * 10000 + v)]) (rest := []) ⟨hx, hb, hml, hown, htl⟩ (m_X6_put l g x0 c t f hf (k * 10000 + v) (by omega) (by omega)) (cwV 1 htl lk_X10_300 rfl rfl rfl cwV_X6_put ⟨Nat.le_of_ble_eq_true rfl, Nat.le_of_ble_eq_true rfl⟩) (jp_V hKK hS hAb (va_recv hKK.k hP (ci := 6) (q0 := 0) rfl rfl) ⟨hP, hDc.weaken (fun _ q _ h => hAb _ h)⟩) rfl rfl hl.1 rfl (lv_room (Nat.le_of_ble_eq_true rfl)) dX10_putToken_32 ⟨Nat.le_of_ble_eq_true rfl, Nat.le_of_ble_eq_true rfl⟩) hS (fun q _ h => hDc.inA h) (fun q h => hDc.inA h) (fun H1 locs hz32 hzs hks hS => ?_)
    obtain ⟨fn32, hfn32, hP1⟩ := hz32
    obtain ⟨hP, hD⟩ := jput (wc := [ob x0 6 [.ref c, vi (t.length : Int)], aI g c 60 f]) (w1 := [ob x0 6 [.ref c, vi ((t ++ [(k * 10000 + v)]).length : Int)], aI g c 60 fn32]) hP hD [0, 1] rfl rfl hks (fun q _ h => h) hP1
    clear hzs hks; generalize H1 = H at hP hD hS ⊢
    have hP : PP g [ob x0 6 [.ref c, vi ((t ++ [(k * 10000 + v)]).length : Int)], aI g c 60 fn32] H := hP
    have hD : va_D A [ob x0 6 [.ref c, vi ((t ++ [(k * 10000 + v)]).length : Int)], aI g c 60 fn32] := hD
    refine lv_aload_n hx hb dX10_putToken_35 rfl (lv_at hl 0 rfl) ?_
    refine va_get (D := gD g) (ci := 9) (v := .ref x0) (C := RX10) (T := TX10) (N := 9) hx hb htl ck_X10 hown hKK.k (jat hPo hS ap_hPo) 0 rfl rfl 0 (by decide) (htl _ wd_1_14) (fun _ h9 => h9) rfl dX10_putToken_36 ?_
    refine jk_Si (va_runV (As := []) (rest := []) ⟨hx, hb, hml, hown, htl⟩ (m_X6_size l g x0 c (t ++ [(k * 10000 + v)]) fn32 hfn32  ) (cwV 0 htl lk_X10_76 rfl rfl rfl cwV_X6_size ⟨Nat.le_of_ble_eq_true rfl, Nat.le_of_ble_eq_true rfl⟩) (jp_V hKK hS hAb (va_recv hKK.k hP (ci := 6) (q0 := 0) rfl rfl) hP) rfl rfl hl.1 rfl (lv_room (Nat.le_of_ble_eq_true rfl)) dX10_putToken_39 ⟨Nat.le_of_ble_eq_true rfl, Nat.le_of_ble_eq_true rfl⟩) (fun z39 hz39 => ?_)
    subst hz39
    refine vx_ret ?_
    refine W.widen (k := 1) (n := 6) (by omega) (by omega) ?_
    exact je_Qi hx hb hr hlk rfl hS (⟨by rw [List.length_append, List.length_singleton]; omega, fn32, hfn32, hP⟩) dX10_putToken_42
  · exact jt_SW (g := g) hx hb hsT hown hKK tf_112 (htl _ wd_9_16) (htl _ wd_9_17) nws_1 (th_112 htl hKK) tg_112 hl.1 hml htab hlk (⟨rfl, by omega⟩) dX10_putToken_12 dX10_putToken_15 dX10_putToken_16 dX10_putToken_19 dX10_putToken_22 (Nat.le_of_ble_eq_true rfl) (Nat.le_of_ble_eq_true rfl) (Nat.le_of_ble_eq_true rfl) (Nat.le_of_ble_eq_true rfl) (Nat.le_of_ble_eq_true rfl) (Nat.le_of_ble_eq_true rfl)
