
theorem lk_X10_225 : GoodIn WSL (wsV RX10 225 RX10 yX10_segmentFilledByUnit (ws_ yX10_segmentFilledByUnit cX10_segmentFilledByUnit 3 (some (.object "Fuzzyseg$Segment")))) := gd_app (List.forall_mem_cons.mpr ⟨wd_30_16, List.forall_mem_cons.mpr ⟨wd_30_17, List.forall_mem_cons.mpr ⟨wd_30_18, List.forall_mem_cons.mpr ⟨wd_1_2, fun _ h => nomatch h⟩⟩⟩⟩) (gd_ wd_30_19)
theorem cwV_X10_segmentFilledByUnit : yX10_segmentFilledByUnit.cls = RX10 ∧ yX10_segmentFilledByUnit.cls ≠ "java/lang/invoke/MethodHandle" ∧ yX10_segmentFilledByUnit.cls ≠ "java/lang/invoke/VarHandle" ∧ (parseMethodDescriptor yX10_segmentFilledByUnit.desc).map (fun d => d.parameters.length) = some 1 := by decide +kernel
theorem lk_X10_246 : GoodIn WSL (va_wsS RX10 246 yX7_valueIn (ws_ yX7_valueIn cX7_valueIn 1 (some .int))) := gd_app (List.forall_mem_cons.mpr ⟨wd_31_11, List.forall_mem_cons.mpr ⟨wd_19_0, List.forall_mem_cons.mpr ⟨wd_8_9, fun _ h => nomatch h⟩⟩⟩) (gd_ wd_19_1)
theorem lk_X10_255 : GoodIn WSL (wsV RX10 255 RX10 yX10_targetCode (ws_ yX10_targetCode cX10_targetCode 4 (some .int))) := gd_app (List.forall_mem_cons.mpr ⟨wd_32_0, List.forall_mem_cons.mpr ⟨wd_32_1, List.forall_mem_cons.mpr ⟨wd_32_2, List.forall_mem_cons.mpr ⟨wd_1_2, fun _ h => nomatch h⟩⟩⟩⟩) (gd_ wd_32_3)
theorem cwV_X10_targetCode : yX10_targetCode.cls = RX10 ∧ yX10_targetCode.cls ≠ "java/lang/invoke/MethodHandle" ∧ yX10_targetCode.cls ≠ "java/lang/invoke/VarHandle" ∧ (parseMethodDescriptor yX10_targetCode.desc).map (fun d => d.parameters.length) = some 2 := by decide +kernel
theorem lk_X10_258 : GoodIn WSL (va_wsS RX10 258 yX7_letterOf (ws_ yX7_letterOf cX7_letterOf 1 (some .char))) := gd_app (List.forall_mem_cons.mpr ⟨wd_32_8, List.forall_mem_cons.mpr ⟨wd_32_9, List.forall_mem_cons.mpr ⟨wd_8_9, fun _ h => nomatch h⟩⟩⟩) (gd_ wd_32_10)
theorem cwS_X7_letterOf : yX7_letterOf.cls ≠ "java/lang/invoke/MethodHandle" ∧ yX7_letterOf.cls ≠ "java/lang/invoke/VarHandle" ∧ (parseMethodDescriptor yX7_letterOf.desc).map (fun d => d.parameters.length) = some 1 := by decide +kernel
theorem lk_X10_262 : GoodIn WSL (wsV RX10 262 RX0 yX0_hasEqualBefore (ws_ yX0_hasEqualBefore cX0_hasEqualBefore 4 (some .boolean))) := gd_app (List.forall_mem_cons.mpr ⟨wd_6_0, List.forall_mem_cons.mpr ⟨wd_6_1, List.forall_mem_cons.mpr ⟨wd_6_2, List.forall_mem_cons.mpr ⟨wd_2_10, fun _ h => nomatch h⟩⟩⟩⟩) (gd_ wd_6_3)
theorem cwV_X0_hasEqualBefore : yX0_hasEqualBefore.cls = RX0 ∧ yX0_hasEqualBefore.cls ≠ "java/lang/invoke/MethodHandle" ∧ yX0_hasEqualBefore.cls ≠ "java/lang/invoke/VarHandle" ∧ (parseMethodDescriptor yX0_hasEqualBefore.desc).map (fun d => d.parameters.length) = some 1 := by decide +kernel
theorem lk_X10_265 : GoodIn WSL (wsV RX10 265 RX9 yX9_ofText (ws_ yX9_ofText cX9_ofText 4 (some .int))) := gd_app (List.forall_mem_cons.mpr ⟨wd_7_22, List.forall_mem_cons.mpr ⟨wd_7_23, List.forall_mem_cons.mpr ⟨wd_8_0, List.forall_mem_cons.mpr ⟨wd_3_13, fun _ h => nomatch h⟩⟩⟩⟩) (gd_ wd_8_1)
theorem lk_X10_281 : GoodIn WSL (wsV RX10 281 RX2 yX2_agreesOn (ws_ yX2_agreesOn cX2_agreesOn 4 (some .boolean))) := gd_app (List.forall_mem_cons.mpr ⟨wd_33_23, List.forall_mem_cons.mpr ⟨wd_34_0, List.forall_mem_cons.mpr ⟨wd_34_1, List.forall_mem_cons.mpr ⟨wd_1_20, fun _ h => nomatch h⟩⟩⟩⟩) (gd_ wd_34_2)
theorem cwV_X2_agreesOn : yX2_agreesOn.cls = RX2 ∧ yX2_agreesOn.cls ≠ "java/lang/invoke/MethodHandle" ∧ yX2_agreesOn.cls ≠ "java/lang/invoke/VarHandle" ∧ (parseMethodDescriptor yX2_agreesOn.desc).map (fun d => d.parameters.length) = some 1 := by decide +kernel
theorem lk_X10_179 : GoodIn WSL (wsV RX10 179 RX2 yX2_findByBounds (ws_ yX2_findByBounds cX2_findByBounds 11 (some .int))) := gd_app (List.forall_mem_cons.mpr ⟨wd_20_11, List.forall_mem_cons.mpr ⟨wd_20_12, List.forall_mem_cons.mpr ⟨wd_20_13, List.forall_mem_cons.mpr ⟨wd_1_20, fun _ h => nomatch h⟩⟩⟩⟩) (gd_ wd_20_14)
theorem lk_X10_183 : GoodIn WSL (va_wsS RX10 183 yX10_requireOffered (ws_ yX10_requireOffered cX10_requireOffered 1 (some .int))) := gd_app (List.forall_mem_cons.mpr ⟨wd_29_15, List.forall_mem_cons.mpr ⟨wd_29_16, List.forall_mem_cons.mpr ⟨wd_1_2, fun _ h => nomatch h⟩⟩⟩) (gd_ wd_29_17)
theorem cwS_X10_requireOffered : yX10_requireOffered.cls ≠ "java/lang/invoke/MethodHandle" ∧ yX10_requireOffered.cls ≠ "java/lang/invoke/VarHandle" ∧ (parseMethodDescriptor yX10_requireOffered.desc).map (fun d => d.parameters.length) = some 1 := by decide +kernel
theorem lk_X10_186 : GoodIn WSL (wsV RX10 186 RX2 yX2_findAmongAll (ws_ yX2_findAmongAll cX2_findAmongAll 10 (some .int))) := gd_app (List.forall_mem_cons.mpr ⟨wd_29_22, List.forall_mem_cons.mpr ⟨wd_29_23, List.forall_mem_cons.mpr ⟨wd_30_0, List.forall_mem_cons.mpr ⟨wd_1_20, fun _ h => nomatch h⟩⟩⟩⟩) (gd_ wd_30_1)
set_option maxHeartbeats 4000000 in
set_option maxRecDepth 100000 in
theorem m_X10_stateOf (l : Launch) (hsT : l.stackTraces = false) (g : GT) (o : Nat) (S : SGM) (W9 : va_W) (hCW : CW g o S W9) (v : Int) (hv : jR v) : vx_Met l yX10_stateOf (ws_ yX10_stateOf cX10_stateOf 2 (some .char)) (rmm 7 1 6) (jPc g [.ref o, vi v] (fun H => PP g W9 H)) (jSi (fun z => (cdS S v) = 0 ∧ z = (sg S v).2.2.1)) (jX (fun E => (E = eIO ∧ (cdS S v) = 1))) 1 6 jN := by
  refine jb_X (by decide) (Nat.le_of_ble_eq_true rfl) ?_
  intro p e s m below meth cq hx hb hr hml hown htl hlk htab hKK hpre ls hl
  have hown : s.vm.findClass RX10 = some m.cls := hown
  have hP : PP g W9 s.heap := hpre
  have hCW9 := hCW
  obtain ⟨ad, fd, fk, g1, g2, g3, p1, p2, k1, k2, us, ss, lw1, lw2, hW9, ho, ⟨hdr, htk, hk1, hk2⟩, hab, hw, ht, ⟨hus, hss⟩, ⟨hUO, hSO⟩, ⟨hL1, hL2⟩, hn1, hn2⟩ := hCW
  subst hW9
  subst ho
  have hP : PP g ([ob (ad 0) 9 [.ref (ad 1), .ref (ad 3), .ref (ad 5), .ref (ad 6), .ref (ad 7), .ref (ad 8), .ref (ad 13), .ref (ad 16), .ref (ad 21)], ob (ad 1) 6 [.ref (ad 2), vi (S.1.length : Int)], aI g (ad 2) 60 fd, ob (ad 3) 6 [.ref (ad 4), vi (S.2.1.length : Int)], aI g (ad 4) 60 fk, aZ g (ad 5) 100 S.2.2.1, ob (ad 6) 2 [.ref (ad 7), .ref (ad 13), .ref (ad 22)], ob (ad 7) 1 [.ref (ad 8), .ref (ad 10), .ref (ad 11), .ref (ad 12)], ob (ad 8) 8 [.ref (ad 9)], aI g (ad 9) 4 S.2.2.2.1, aI g (ad 10) 61 g1, aI g (ad 11) 61 g2, aI g (ad 12) 60 g3, ob (ad 13) 5 [.ref (ad 14), .ref (ad 15), vi (S.2.2.2.2.1.1 : Int)], aI g (ad 14) 20 S.2.2.2.2.1.2.1, aI g (ad 15) 20 S.2.2.2.2.1.2.2, ob (ad 16) 3 [.ref (ad 17), .ref (ad 19)], ob (ad 17) 6 [.ref (ad 18), vi (p1.length : Int)], aI g (ad 18) 60 k1, ob (ad 19) 6 [.ref (ad 20), vi (p2.length : Int)], aI g (ad 20) 60 k2, ob (ad 21) 0 [.ref (ad 23)]] ++ (MR g us lw1 ++ DR g ss lw2)) s.heap := hP
  have hl : lv_has ls 2 [(0, .ref (ad 0)), (1, vi v)] := hl
  have huS := uS_uv hus
  have hsS := sS_sv hss
  have hnU : nU S = us.length := nU_l hus
  have hnS : nS S = ss.length := nS_l hss
  have hdL := hdr.len
  have htL := htk.len
  refine lv_aload_n hx hb dX10_stateOf_0 rfl (lv_at hl 0 rfl) ?_
  refine lv_iload_n hx hb dX10_stateOf_1 rfl (lv_at hl 1 rfl) ?_
  refine jk_XSr (vx_runV (As := [vi v]) (rest := []) ⟨hx, hb, hml, hown, htl⟩ (m_X10_segmentAt l hsT g (ad 0) (ad 1) (ad 3) (ad 5) (ad 6) (ad 7) (ad 8) (ad 13) (ad 16) (ad 21) (ad 23) ss lw2 hL2 hSO hn2 v hv) (cwV 1 htl lk_X10_209 rfl rfl rfl cwV_X10_segmentAt ⟨Nat.le_of_ble_eq_true rfl, Nat.le_of_ble_eq_true rfl⟩) (jp_V hKK (va_S.rf (A := jN)) jNb (va_recv hKK.k hP (ci := 9) (q0 := 0) rfl rfl) ⟨(va_P.sub hP [0] rfl), (va_P.sub hP [21] rfl), (hP.mem fun q h => List.mem_append_right _ (List.mem_append_right _ h))⟩) rfl rfl hl.1 rfl (lv_room (Nat.le_of_ble_eq_true rfl)) dX10_stateOf_2 ⟨Nat.le_of_ble_eq_true rfl, Nat.le_of_ble_eq_true rfl⟩) htab hlk (fun E h => ⟨h.1, by have h9 := h.2; unfold cdS; rw [hnS]; (repeat' split) <;> omega⟩) (by omega) (by omega) (fun z2 hz2 => ?_)
  obtain ⟨i, hi9, hil, hz2⟩ := hz2
  obtain ⟨q, hq⟩ : ∃ q, ss[i]? = some q := ⟨_, List.getElem?_eq_getElem hil⟩
  rw [sA_get hq] at hz2
  obtain ⟨sa, tx, txc, ty, tyc, t, f, u, fu, st, un, sc⟩ := q
  obtain ⟨hT, hU, hst, hun, hsc⟩ : TT t f ∧ TT u fu ∧ (0 ≤ st ∧ st < 65536) ∧ (-1 ≤ un ∧ un < 60) ∧ (0 ≤ sc ∧ sc ≤ 100) := hSO _ (List.mem_of_getElem? hq)
  have hsv : sv ss (i) = (t, u, st, un, sc) := sv_get hq
  have hsg : sg S v = (t, u, st, un, sc) := by unfold sg; rw [hsS, hi9, Int.toNat_natCast]; exact hsv
  have hz2 : z2 = sa := hz2
  rw [hz2]
  obtain ⟨r9, hr1, hr2, hr3, hr4⟩ := DR.cut (g := g) (lw := lw2) hq
  have hP : PP g ([ob (ad 0) 9 [.ref (ad 1), .ref (ad 3), .ref (ad 5), .ref (ad 6), .ref (ad 7), .ref (ad 8), .ref (ad 13), .ref (ad 16), .ref (ad 21)], ob (ad 1) 6 [.ref (ad 2), vi (S.1.length : Int)], aI g (ad 2) 60 fd, ob (ad 3) 6 [.ref (ad 4), vi (S.2.1.length : Int)], aI g (ad 4) 60 fk, aZ g (ad 5) 100 S.2.2.1, ob (ad 6) 2 [.ref (ad 7), .ref (ad 13), .ref (ad 22)], ob (ad 7) 1 [.ref (ad 8), .ref (ad 10), .ref (ad 11), .ref (ad 12)], ob (ad 8) 8 [.ref (ad 9)], aI g (ad 9) 4 S.2.2.2.1, aI g (ad 10) 61 g1, aI g (ad 11) 61 g2, aI g (ad 12) 60 g3, ob (ad 13) 5 [.ref (ad 14), .ref (ad 15), vi (S.2.2.2.2.1.1 : Int)], aI g (ad 14) 20 S.2.2.2.2.1.2.1, aI g (ad 15) 20 S.2.2.2.2.1.2.2, ob (ad 16) 3 [.ref (ad 17), .ref (ad 19)], ob (ad 17) 6 [.ref (ad 18), vi (p1.length : Int)], aI g (ad 18) 60 k1, ob (ad 19) 6 [.ref (ad 20), vi (p2.length : Int)], aI g (ad 20) 60 k2, ob (ad 21) 0 [.ref (ad 23)], ob sa 4 [.ref tx, .ref ty, vi st, vi un, vi sc], ob tx 6 [.ref txc, vi (t.length : Int)], aI g txc 60 f, ob ty 6 [.ref tyc, vi (u.length : Int)], aI g tyc 60 fu] ++ (MR g us lw1 ++ r9)) s.heap := hP.perm (pm_cutD hr1)
  refine va_get (D := gD g) (ci := 4) (v := vi st) (C := RX4) (T := TX4) (N := 5) hx hb htl ck_X4 hown hKK.k hP 22 rfl rfl 2 (by decide) (htl _ wd_30_10) (fun _ h9 => h9) rfl dX10_stateOf_5 ?_
  refine vx_ret ?_
  exact je_Si hx hb hr hlk (nz_c (by omega) (by omega)).1 (⟨by unfold cdS; rw [hnS]; (repeat' split) <;> omega, by rw [hsg]⟩) dX10_stateOf_8
set_option maxHeartbeats 4000000 in
set_option maxRecDepth 100000 in
theorem m_X10_segmentLength (l : Launch) (hsT : l.stackTraces = false) (g : GT) (o : Nat) (S : SGM) (W9 : va_W) (hCW : CW g o S W9) (v : Int) (hv : jR v) : vx_Met l yX10_segmentLength (ws_ yX10_segmentLength cX10_segmentLength 2 (some .int)) (rmm 7 1 6) (jPc g [.ref o, vi v] (fun H => PP g W9 H)) (jSi (fun z => (cdS S v) = 0 ∧ z = ((sg S v).1.length : Int))) (jX (fun E => (E = eIO ∧ (cdS S v) = 1))) 1 6 jN := by
  refine jb_X (by decide) (Nat.le_of_ble_eq_true rfl) ?_
  intro p e s m below meth cq hx hb hr hml hown htl hlk htab hKK hpre ls hl
  have hown : s.vm.findClass RX10 = some m.cls := hown
  have hP : PP g W9 s.heap := hpre
  have hCW9 := hCW
  obtain ⟨ad, fd, fk, g1, g2, g3, p1, p2, k1, k2, us, ss, lw1, lw2, hW9, ho, ⟨hdr, htk, hk1, hk2⟩, hab, hw, ht, ⟨hus, hss⟩, ⟨hUO, hSO⟩, ⟨hL1, hL2⟩, hn1, hn2⟩ := hCW
  subst hW9
  subst ho
  have hP : PP g ([ob (ad 0) 9 [.ref (ad 1), .ref (ad 3), .ref (ad 5), .ref (ad 6), .ref (ad 7), .ref (ad 8), .ref (ad 13), .ref (ad 16), .ref (ad 21)], ob (ad 1) 6 [.ref (ad 2), vi (S.1.length : Int)], aI g (ad 2) 60 fd, ob (ad 3) 6 [.ref (ad 4), vi (S.2.1.length : Int)], aI g (ad 4) 60 fk, aZ g (ad 5) 100 S.2.2.1, ob (ad 6) 2 [.ref (ad 7), .ref (ad 13), .ref (ad 22)], ob (ad 7) 1 [.ref (ad 8), .ref (ad 10), .ref (ad 11), .ref (ad 12)], ob (ad 8) 8 [.ref (ad 9)], aI g (ad 9) 4 S.2.2.2.1, aI g (ad 10) 61 g1, aI g (ad 11) 61 g2, aI g (ad 12) 60 g3, ob (ad 13) 5 [.ref (ad 14), .ref (ad 15), vi (S.2.2.2.2.1.1 : Int)], aI g (ad 14) 20 S.2.2.2.2.1.2.1, aI g (ad 15) 20 S.2.2.2.2.1.2.2, ob (ad 16) 3 [.ref (ad 17), .ref (ad 19)], ob (ad 17) 6 [.ref (ad 18), vi (p1.length : Int)], aI g (ad 18) 60 k1, ob (ad 19) 6 [.ref (ad 20), vi (p2.length : Int)], aI g (ad 20) 60 k2, ob (ad 21) 0 [.ref (ad 23)]] ++ (MR g us lw1 ++ DR g ss lw2)) s.heap := hP
  have hl : lv_has ls 2 [(0, .ref (ad 0)), (1, vi v)] := hl
  have huS := uS_uv hus
  have hsS := sS_sv hss
  have hnU : nU S = us.length := nU_l hus
  have hnS : nS S = ss.length := nS_l hss
  have hdL := hdr.len
  have htL := htk.len
  refine lv_aload_n hx hb dX10_segmentLength_0 rfl (lv_at hl 0 rfl) ?_
  refine lv_iload_n hx hb dX10_segmentLength_1 rfl (lv_at hl 1 rfl) ?_
  refine jk_XSr (vx_runV (As := [vi v]) (rest := []) ⟨hx, hb, hml, hown, htl⟩ (m_X10_segmentAt l hsT g (ad 0) (ad 1) (ad 3) (ad 5) (ad 6) (ad 7) (ad 8) (ad 13) (ad 16) (ad 21) (ad 23) ss lw2 hL2 hSO hn2 v hv) (cwV 1 htl lk_X10_209 rfl rfl rfl cwV_X10_segmentAt ⟨Nat.le_of_ble_eq_true rfl, Nat.le_of_ble_eq_true rfl⟩) (jp_V hKK (va_S.rf (A := jN)) jNb (va_recv hKK.k hP (ci := 9) (q0 := 0) rfl rfl) ⟨(va_P.sub hP [0] rfl), (va_P.sub hP [21] rfl), (hP.mem fun q h => List.mem_append_right _ (List.mem_append_right _ h))⟩) rfl rfl hl.1 rfl (lv_room (Nat.le_of_ble_eq_true rfl)) dX10_segmentLength_2 ⟨Nat.le_of_ble_eq_true rfl, Nat.le_of_ble_eq_true rfl⟩) htab hlk (fun E h => ⟨h.1, by have h9 := h.2; unfold cdS; rw [hnS]; (repeat' split) <;> omega⟩) (by omega) (by omega) (fun z2 hz2 => ?_)
  obtain ⟨i, hi9, hil, hz2⟩ := hz2
  obtain ⟨q, hq⟩ : ∃ q, ss[i]? = some q := ⟨_, List.getElem?_eq_getElem hil⟩
  rw [sA_get hq] at hz2
  obtain ⟨sa, tx, txc, ty, tyc, t, f, u, fu, st, un, sc⟩ := q
  obtain ⟨hT, hU, hst, hun, hsc⟩ : TT t f ∧ TT u fu ∧ (0 ≤ st ∧ st < 65536) ∧ (-1 ≤ un ∧ un < 60) ∧ (0 ≤ sc ∧ sc ≤ 100) := hSO _ (List.mem_of_getElem? hq)
  have hsv : sv ss (i) = (t, u, st, un, sc) := sv_get hq
  have hsg : sg S v = (t, u, st, un, sc) := by unfold sg; rw [hsS, hi9, Int.toNat_natCast]; exact hsv
  have hz2 : z2 = sa := hz2
  rw [hz2]
  obtain ⟨r9, hr1, hr2, hr3, hr4⟩ := DR.cut (g := g) (lw := lw2) hq
  have hP : PP g ([ob (ad 0) 9 [.ref (ad 1), .ref (ad 3), .ref (ad 5), .ref (ad 6), .ref (ad 7), .ref (ad 8), .ref (ad 13), .ref (ad 16), .ref (ad 21)], ob (ad 1) 6 [.ref (ad 2), vi (S.1.length : Int)], aI g (ad 2) 60 fd, ob (ad 3) 6 [.ref (ad 4), vi (S.2.1.length : Int)], aI g (ad 4) 60 fk, aZ g (ad 5) 100 S.2.2.1, ob (ad 6) 2 [.ref (ad 7), .ref (ad 13), .ref (ad 22)], ob (ad 7) 1 [.ref (ad 8), .ref (ad 10), .ref (ad 11), .ref (ad 12)], ob (ad 8) 8 [.ref (ad 9)], aI g (ad 9) 4 S.2.2.2.1, aI g (ad 10) 61 g1, aI g (ad 11) 61 g2, aI g (ad 12) 60 g3, ob (ad 13) 5 [.ref (ad 14), .ref (ad 15), vi (S.2.2.2.2.1.1 : Int)], aI g (ad 14) 20 S.2.2.2.2.1.2.1, aI g (ad 15) 20 S.2.2.2.2.1.2.2, ob (ad 16) 3 [.ref (ad 17), .ref (ad 19)], ob (ad 17) 6 [.ref (ad 18), vi (p1.length : Int)], aI g (ad 18) 60 k1, ob (ad 19) 6 [.ref (ad 20), vi (p2.length : Int)], aI g (ad 20) 60 k2, ob (ad 21) 0 [.ref (ad 23)], ob sa 4 [.ref tx, .ref ty, vi st, vi un, vi sc], ob tx 6 [.ref txc, vi (t.length : Int)], aI g txc 60 f, ob ty 6 [.ref tyc, vi (u.length : Int)], aI g tyc 60 fu] ++ (MR g us lw1 ++ r9)) s.heap := hP.perm (pm_cutD hr1)
  refine va_get (D := gD g) (ci := 4) (v := .ref tx) (C := RX4) (T := TX4) (N := 5) hx hb htl ck_X4 hown hKK.k hP 22 rfl rfl 0 (by decide) (htl _ wd_7_14) (fun _ h9 => h9) rfl dX10_segmentLength_5 ?_
  refine jk_Si (va_runV (As := []) (rest := []) ⟨hx, hb, hml, hown, htl⟩ (m_X6_size l g tx txc t f hT  ) (cwV 0 htl lk_X10_76 rfl rfl rfl cwV_X6_size ⟨Nat.le_of_ble_eq_true rfl, Nat.le_of_ble_eq_true rfl⟩) (jp_V hKK (va_S.rf (A := jN)) jNb (va_recv hKK.k hP (ci := 6) (q0 := 23) rfl rfl) (va_P.sub hP [23, 24] rfl)) rfl rfl hl.1 rfl (lv_room (Nat.le_of_ble_eq_true rfl)) dX10_segmentLength_8 ⟨Nat.le_of_ble_eq_true rfl, Nat.le_of_ble_eq_true rfl⟩) (fun z8 hz8 => ?_)
  subst hz8
  refine vx_ret ?_
  exact je_Si hx hb hr hlk rfl (⟨by unfold cdS; rw [hnS]; (repeat' split) <;> omega, by rw [hsg]⟩) dX10_segmentLength_11
set_option maxHeartbeats 4000000 in
set_option maxRecDepth 100000 in
theorem m_X10_unitOf (l : Launch) (hsT : l.stackTraces = false) (g : GT) (o : Nat) (S : SGM) (W9 : va_W) (hCW : CW g o S W9) (v : Int) (hv : jR v) : vx_Met l yX10_unitOf (ws_ yX10_unitOf cX10_unitOf 2 (some .int)) (rmm 8 2 12) (jPc g [.ref o, vi v] (fun H => PP g W9 H)) (jSi (fun z => (cdSF S v) = 0 ∧ z = (sg S v).2.2.2.1)) (jX (fun E => (E = eIO ∧ (cdSF S v) = 1) ∨ (E = eNS ∧ (cdSF S v) = 2))) 2 12 jN := by
  refine jb_X (by decide) (Nat.le_of_ble_eq_true rfl) ?_
  intro p e s m below meth cq hx hb hr hml hown htl hlk htab hKK hpre ls hl
  have hown : s.vm.findClass RX10 = some m.cls := hown
  have hP : PP g W9 s.heap := hpre
  have hCW9 := hCW
  obtain ⟨ad, fd, fk, g1, g2, g3, p1, p2, k1, k2, us, ss, lw1, lw2, hW9, ho, ⟨hdr, htk, hk1, hk2⟩, hab, hw, ht, ⟨hus, hss⟩, ⟨hUO, hSO⟩, ⟨hL1, hL2⟩, hn1, hn2⟩ := hCW
  subst hW9
  subst ho
  have hP : PP g ([ob (ad 0) 9 [.ref (ad 1), .ref (ad 3), .ref (ad 5), .ref (ad 6), .ref (ad 7), .ref (ad 8), .ref (ad 13), .ref (ad 16), .ref (ad 21)], ob (ad 1) 6 [.ref (ad 2), vi (S.1.length : Int)], aI g (ad 2) 60 fd, ob (ad 3) 6 [.ref (ad 4), vi (S.2.1.length : Int)], aI g (ad 4) 60 fk, aZ g (ad 5) 100 S.2.2.1, ob (ad 6) 2 [.ref (ad 7), .ref (ad 13), .ref (ad 22)], ob (ad 7) 1 [.ref (ad 8), .ref (ad 10), .ref (ad 11), .ref (ad 12)], ob (ad 8) 8 [.ref (ad 9)], aI g (ad 9) 4 S.2.2.2.1, aI g (ad 10) 61 g1, aI g (ad 11) 61 g2, aI g (ad 12) 60 g3, ob (ad 13) 5 [.ref (ad 14), .ref (ad 15), vi (S.2.2.2.2.1.1 : Int)], aI g (ad 14) 20 S.2.2.2.2.1.2.1, aI g (ad 15) 20 S.2.2.2.2.1.2.2, ob (ad 16) 3 [.ref (ad 17), .ref (ad 19)], ob (ad 17) 6 [.ref (ad 18), vi (p1.length : Int)], aI g (ad 18) 60 k1, ob (ad 19) 6 [.ref (ad 20), vi (p2.length : Int)], aI g (ad 20) 60 k2, ob (ad 21) 0 [.ref (ad 23)]] ++ (MR g us lw1 ++ DR g ss lw2)) s.heap := hP
  have hl : lv_has ls 2 [(0, .ref (ad 0)), (1, vi v)] := hl
  have huS := uS_uv hus
  have hsS := sS_sv hss
  have hnU : nU S = us.length := nU_l hus
  have hnS : nS S = ss.length := nS_l hss
  have hdL := hdr.len
  have htL := htk.len
  refine lv_aload_n hx hb dX10_unitOf_0 rfl (lv_at hl 0 rfl) ?_
  refine lv_iload_n hx hb dX10_unitOf_1 rfl (lv_at hl 1 rfl) ?_
  refine jk_XSr (vx_runV (As := [vi v]) (rest := []) ⟨hx, hb, hml, hown, htl⟩ (m_X10_segmentFilledByUnit l hsT g (ad 0) (ad 1) (ad 3) (ad 5) (ad 6) (ad 7) (ad 8) (ad 13) (ad 16) (ad 21) (ad 23) ss lw2 hL2 hSO hn2 v hv) (cwV 1 htl lk_X10_225 rfl rfl rfl cwV_X10_segmentFilledByUnit ⟨Nat.le_of_ble_eq_true rfl, Nat.le_of_ble_eq_true rfl⟩) (jp_V hKK (va_S.rf (A := jN)) jNb (va_recv hKK.k hP (ci := 9) (q0 := 0) rfl rfl) ⟨(va_P.sub hP [0] rfl), (va_P.sub hP [21] rfl), (hP.mem fun q h => List.mem_append_right _ (List.mem_append_right _ h))⟩) rfl rfl hl.1 rfl (lv_room (Nat.le_of_ble_eq_true rfl)) dX10_unitOf_2 ⟨Nat.le_of_ble_eq_true rfl, Nat.le_of_ble_eq_true rfl⟩) htab hlk (fun E h => h.elim (fun h => Or.inl ⟨h.1, by have h9 := h.2; unfold cdSF; rw [hnS, if_pos h9]⟩) (fun h => Or.inr ⟨h.1, by have h9 := h.2.1; unfold cdSF; rw [hnS, if_neg (fun q => q h9), if_pos (by unfold sg; rw [hsS]; exact h.2.2)]⟩)) (by omega) (by omega) (fun z2 hz2 => ?_)
  obtain ⟨i, hi9, hil, hz2, hmd⟩ := hz2
  obtain ⟨q, hq⟩ : ∃ q, ss[i]? = some q := ⟨_, List.getElem?_eq_getElem hil⟩
  rw [sA_get hq] at hz2
  obtain ⟨sa, tx, txc, ty, tyc, t, f, u, fu, st, un, sc⟩ := q
  obtain ⟨hT, hU, hst, hun, hsc⟩ : TT t f ∧ TT u fu ∧ (0 ≤ st ∧ st < 65536) ∧ (-1 ≤ un ∧ un < 60) ∧ (0 ≤ sc ∧ sc ≤ 100) := hSO _ (List.mem_of_getElem? hq)
  have hsv : sv ss (i) = (t, u, st, un, sc) := sv_get hq
  have hsg : sg S v = (t, u, st, un, sc) := by unfold sg; rw [hsS, hi9, Int.toNat_natCast]; exact hsv
  have hz2 : z2 = sa := hz2
  rw [hz2]
  obtain ⟨r9, hr1, hr2, hr3, hr4⟩ := DR.cut (g := g) (lw := lw2) hq
  have hP : PP g ([ob (ad 0) 9 [.ref (ad 1), .ref (ad 3), .ref (ad 5), .ref (ad 6), .ref (ad 7), .ref (ad 8), .ref (ad 13), .ref (ad 16), .ref (ad 21)], ob (ad 1) 6 [.ref (ad 2), vi (S.1.length : Int)], aI g (ad 2) 60 fd, ob (ad 3) 6 [.ref (ad 4), vi (S.2.1.length : Int)], aI g (ad 4) 60 fk, aZ g (ad 5) 100 S.2.2.1, ob (ad 6) 2 [.ref (ad 7), .ref (ad 13), .ref (ad 22)], ob (ad 7) 1 [.ref (ad 8), .ref (ad 10), .ref (ad 11), .ref (ad 12)], ob (ad 8) 8 [.ref (ad 9)], aI g (ad 9) 4 S.2.2.2.1, aI g (ad 10) 61 g1, aI g (ad 11) 61 g2, aI g (ad 12) 60 g3, ob (ad 13) 5 [.ref (ad 14), .ref (ad 15), vi (S.2.2.2.2.1.1 : Int)], aI g (ad 14) 20 S.2.2.2.2.1.2.1, aI g (ad 15) 20 S.2.2.2.2.1.2.2, ob (ad 16) 3 [.ref (ad 17), .ref (ad 19)], ob (ad 17) 6 [.ref (ad 18), vi (p1.length : Int)], aI g (ad 18) 60 k1, ob (ad 19) 6 [.ref (ad 20), vi (p2.length : Int)], aI g (ad 20) 60 k2, ob (ad 21) 0 [.ref (ad 23)], ob sa 4 [.ref tx, .ref ty, vi st, vi un, vi sc], ob tx 6 [.ref txc, vi (t.length : Int)], aI g txc 60 f, ob ty 6 [.ref tyc, vi (u.length : Int)], aI g tyc 60 fu] ++ (MR g us lw1 ++ r9)) s.heap := hP.perm (pm_cutD hr1)
  refine va_get (D := gD g) (ci := 4) (v := vi un) (C := RX4) (T := TX4) (N := 5) hx hb htl ck_X4 hown hKK.k hP 22 rfl rfl 3 (by decide) (htl _ wd_30_15) (fun _ h9 => h9) rfl dX10_unitOf_5 ?_
  refine vx_ret ?_
  exact je_Si hx hb hr hlk rfl (⟨by unfold cdSF; rw [hnS, if_neg (by omega), if_neg (by unfold sg; rw [hsS, hi9, Int.toNat_natCast]; exact hmd)], by rw [hsg]⟩) dX10_unitOf_8
set_option maxHeartbeats 4000000 in
set_option maxRecDepth 100000 in
theorem m_X10_scoreOf (l : Launch) (hsT : l.stackTraces = false) (g : GT) (o : Nat) (S : SGM) (W9 : va_W) (hCW : CW g o S W9) (v : Int) (hv : jR v) : vx_Met l yX10_scoreOf (ws_ yX10_scoreOf cX10_scoreOf 2 (some .int)) (rmm 8 2 12) (jPc g [.ref o, vi v] (fun H => PP g W9 H)) (jSi (fun z => (cdSF S v) = 0 ∧ z = (sg S v).2.2.2.2)) (jX (fun E => (E = eIO ∧ (cdSF S v) = 1) ∨ (E = eNS ∧ (cdSF S v) = 2))) 2 12 jN := by
  refine jb_X (by decide) (Nat.le_of_ble_eq_true rfl) ?_
  intro p e s m below meth cq hx hb hr hml hown htl hlk htab hKK hpre ls hl
  have hown : s.vm.findClass RX10 = some m.cls := hown
  have hP : PP g W9 s.heap := hpre
  have hCW9 := hCW
  obtain ⟨ad, fd, fk, g1, g2, g3, p1, p2, k1, k2, us, ss, lw1, lw2, hW9, ho, ⟨hdr, htk, hk1, hk2⟩, hab, hw, ht, ⟨hus, hss⟩, ⟨hUO, hSO⟩, ⟨hL1, hL2⟩, hn1, hn2⟩ := hCW
  subst hW9
  subst ho
  have hP : PP g ([ob (ad 0) 9 [.ref (ad 1), .ref (ad 3), .ref (ad 5), .ref (ad 6), .ref (ad 7), .ref (ad 8), .ref (ad 13), .ref (ad 16), .ref (ad 21)], ob (ad 1) 6 [.ref (ad 2), vi (S.1.length : Int)], aI g (ad 2) 60 fd, ob (ad 3) 6 [.ref (ad 4), vi (S.2.1.length : Int)], aI g (ad 4) 60 fk, aZ g (ad 5) 100 S.2.2.1, ob (ad 6) 2 [.ref (ad 7), .ref (ad 13), .ref (ad 22)], ob (ad 7) 1 [.ref (ad 8), .ref (ad 10), .ref (ad 11), .ref (ad 12)], ob (ad 8) 8 [.ref (ad 9)], aI g (ad 9) 4 S.2.2.2.1, aI g (ad 10) 61 g1, aI g (ad 11) 61 g2, aI g (ad 12) 60 g3, ob (ad 13) 5 [.ref (ad 14), .ref (ad 15), vi (S.2.2.2.2.1.1 : Int)], aI g (ad 14) 20 S.2.2.2.2.1.2.1, aI g (ad 15) 20 S.2.2.2.2.1.2.2, ob (ad 16) 3 [.ref (ad 17), .ref (ad 19)], ob (ad 17) 6 [.ref (ad 18), vi (p1.length : Int)], aI g (ad 18) 60 k1, ob (ad 19) 6 [.ref (ad 20), vi (p2.length : Int)], aI g (ad 20) 60 k2, ob (ad 21) 0 [.ref (ad 23)]] ++ (MR g us lw1 ++ DR g ss lw2)) s.heap := hP
  have hl : lv_has ls 2 [(0, .ref (ad 0)), (1, vi v)] := hl
  have huS := uS_uv hus
  have hsS := sS_sv hss
  have hnU : nU S = us.length := nU_l hus
  have hnS : nS S = ss.length := nS_l hss
  have hdL := hdr.len
  have htL := htk.len
  refine lv_aload_n hx hb dX10_scoreOf_0 rfl (lv_at hl 0 rfl) ?_
  refine lv_iload_n hx hb dX10_scoreOf_1 rfl (lv_at hl 1 rfl) ?_
  refine jk_XSr (vx_runV (As := [vi v]) (rest := []) ⟨hx, hb, hml, hown, htl⟩ (m_X10_segmentFilledByUnit l hsT g (ad 0) (ad 1) (ad 3) (ad 5) (ad 6) (ad 7) (ad 8) (ad 13) (ad 16) (ad 21) (ad 23) ss lw2 hL2 hSO hn2 v hv) (cwV 1 htl lk_X10_225 rfl rfl rfl cwV_X10_segmentFilledByUnit ⟨Nat.le_of_ble_eq_true rfl, Nat.le_of_ble_eq_true rfl⟩) (jp_V hKK (va_S.rf (A := jN)) jNb (va_recv hKK.k hP (ci := 9) (q0 := 0) rfl rfl) ⟨(va_P.sub hP [0] rfl), (va_P.sub hP [21] rfl), (hP.mem fun q h => List.mem_append_right _ (List.mem_append_right _ h))⟩) rfl rfl hl.1 rfl (lv_room (Nat.le_of_ble_eq_true rfl)) dX10_scoreOf_2 ⟨Nat.le_of_ble_eq_true rfl, Nat.le_of_ble_eq_true rfl⟩) htab hlk (fun E h => h.elim (fun h => Or.inl ⟨h.1, by have h9 := h.2; unfold cdSF; rw [hnS, if_pos h9]⟩) (fun h => Or.inr ⟨h.1, by have h9 := h.2.1; unfold cdSF; rw [hnS, if_neg (fun q => q h9), if_pos (by unfold sg; rw [hsS]; exact h.2.2)]⟩)) (by omega) (by omega) (fun z2 hz2 => ?_)
  obtain ⟨i, hi9, hil, hz2, hmd⟩ := hz2
  obtain ⟨q, hq⟩ : ∃ q, ss[i]? = some q := ⟨_, List.getElem?_eq_getElem hil⟩
  rw [sA_get hq] at hz2
  obtain ⟨sa, tx, txc, ty, tyc, t, f, u, fu, st, un, sc⟩ := q
  obtain ⟨hT, hU, hst, hun, hsc⟩ : TT t f ∧ TT u fu ∧ (0 ≤ st ∧ st < 65536) ∧ (-1 ≤ un ∧ un < 60) ∧ (0 ≤ sc ∧ sc ≤ 100) := hSO _ (List.mem_of_getElem? hq)
  have hsv : sv ss (i) = (t, u, st, un, sc) := sv_get hq
  have hsg : sg S v = (t, u, st, un, sc) := by unfold sg; rw [hsS, hi9, Int.toNat_natCast]; exact hsv
  have hz2 : z2 = sa := hz2
  rw [hz2]
  obtain ⟨r9, hr1, hr2, hr3, hr4⟩ := DR.cut (g := g) (lw := lw2) hq
  have hP : PP g ([ob (ad 0) 9 [.ref (ad 1), .ref (ad 3), .ref (ad 5), .ref (ad 6), .ref (ad 7), .ref (ad 8), .ref (ad 13), .ref (ad 16), .ref (ad 21)], ob (ad 1) 6 [.ref (ad 2), vi (S.1.length : Int)], aI g (ad 2) 60 fd, ob (ad 3) 6 [.ref (ad 4), vi (S.2.1.length : Int)], aI g (ad 4) 60 fk, aZ g (ad 5) 100 S.2.2.1, ob (ad 6) 2 [.ref (ad 7), .ref (ad 13), .ref (ad 22)], ob (ad 7) 1 [.ref (ad 8), .ref (ad 10), .ref (ad 11), .ref (ad 12)], ob (ad 8) 8 [.ref (ad 9)], aI g (ad 9) 4 S.2.2.2.1, aI g (ad 10) 61 g1, aI g (ad 11) 61 g2, aI g (ad 12) 60 g3, ob (ad 13) 5 [.ref (ad 14), .ref (ad 15), vi (S.2.2.2.2.1.1 : Int)], aI g (ad 14) 20 S.2.2.2.2.1.2.1, aI g (ad 15) 20 S.2.2.2.2.1.2.2, ob (ad 16) 3 [.ref (ad 17), .ref (ad 19)], ob (ad 17) 6 [.ref (ad 18), vi (p1.length : Int)], aI g (ad 18) 60 k1, ob (ad 19) 6 [.ref (ad 20), vi (p2.length : Int)], aI g (ad 20) 60 k2, ob (ad 21) 0 [.ref (ad 23)], ob sa 4 [.ref tx, .ref ty, vi st, vi un, vi sc], ob tx 6 [.ref txc, vi (t.length : Int)], aI g txc 60 f, ob ty 6 [.ref tyc, vi (u.length : Int)], aI g tyc 60 fu] ++ (MR g us lw1 ++ r9)) s.heap := hP.perm (pm_cutD hr1)
  refine va_get (D := gD g) (ci := 4) (v := vi sc) (C := RX4) (T := TX4) (N := 5) hx hb htl ck_X4 hown hKK.k hP 22 rfl rfl 4 (by decide) (htl _ wd_31_0) (fun _ h9 => h9) rfl dX10_scoreOf_5 ?_
  refine vx_ret ?_
  exact je_Si hx hb hr hlk rfl (⟨by unfold cdSF; rw [hnS, if_neg (by omega), if_neg (by unfold sg; rw [hsS, hi9, Int.toNat_natCast]; exact hmd)], by rw [hsg]⟩) dX10_scoreOf_8
set_option maxHeartbeats 4000000 in
set_option maxRecDepth 100000 in
theorem m_X10_segmentToken (l : Launch) (hsT : l.stackTraces = false) (g : GT) (o : Nat) (S : SGM) (W9 : va_W) (hCW : CW g o S W9) (v : Int) (hv : jR v) (k : Int) (hk : jR k) : vx_Met l yX10_segmentToken (ws_ yX10_segmentToken cX10_segmentToken 4 (some .int)) (rmm 7 2 12) (jPc g [.ref o, vi v, vi k] (fun H => PP g W9 H)) (jSi (fun z => (cdSk S v k) = 0 ∧ z = vl (tAt (sg S v).1 k))) (jX (fun E => (E = eIO ∧ (cdSk S v k) = 1))) 2 12 jN := by
  refine jb_X (by decide) (Nat.le_of_ble_eq_true rfl) ?_
  intro p e s m below meth cq hx hb hr hml hown htl hlk htab hKK hpre ls hl
  have hown : s.vm.findClass RX10 = some m.cls := hown
  have hP : PP g W9 s.heap := hpre
  have hCW9 := hCW
  obtain ⟨ad, fd, fk, g1, g2, g3, p1, p2, k1, k2, us, ss, lw1, lw2, hW9, ho, ⟨hdr, htk, hk1, hk2⟩, hab, hw, ht, ⟨hus, hss⟩, ⟨hUO, hSO⟩, ⟨hL1, hL2⟩, hn1, hn2⟩ := hCW
  subst hW9
  subst ho
  have hP : PP g ([ob (ad 0) 9 [.ref (ad 1), .ref (ad 3), .ref (ad 5), .ref (ad 6), .ref (ad 7), .ref (ad 8), .ref (ad 13), .ref (ad 16), .ref (ad 21)], ob (ad 1) 6 [.ref (ad 2), vi (S.1.length : Int)], aI g (ad 2) 60 fd, ob (ad 3) 6 [.ref (ad 4), vi (S.2.1.length : Int)], aI g (ad 4) 60 fk, aZ g (ad 5) 100 S.2.2.1, ob (ad 6) 2 [.ref (ad 7), .ref (ad 13), .ref (ad 22)], ob (ad 7) 1 [.ref (ad 8), .ref (ad 10), .ref (ad 11), .ref (ad 12)], ob (ad 8) 8 [.ref (ad 9)], aI g (ad 9) 4 S.2.2.2.1, aI g (ad 10) 61 g1, aI g (ad 11) 61 g2, aI g (ad 12) 60 g3, ob (ad 13) 5 [.ref (ad 14), .ref (ad 15), vi (S.2.2.2.2.1.1 : Int)], aI g (ad 14) 20 S.2.2.2.2.1.2.1, aI g (ad 15) 20 S.2.2.2.2.1.2.2, ob (ad 16) 3 [.ref (ad 17), .ref (ad 19)], ob (ad 17) 6 [.ref (ad 18), vi (p1.length : Int)], aI g (ad 18) 60 k1, ob (ad 19) 6 [.ref (ad 20), vi (p2.length : Int)], aI g (ad 20) 60 k2, ob (ad 21) 0 [.ref (ad 23)]] ++ (MR g us lw1 ++ DR g ss lw2)) s.heap := hP
  have hl : lv_has ls 4 [(0, .ref (ad 0)), (1, vi v), (2, vi k)] := hl
  have huS := uS_uv hus
  have hsS := sS_sv hss
  have hnU : nU S = us.length := nU_l hus
  have hnS : nS S = ss.length := nS_l hss
  have hdL := hdr.len
  have htL := htk.len
  refine lv_aload_n hx hb dX10_segmentToken_0 rfl (lv_at hl 0 rfl) ?_
  refine lv_iload_n hx hb dX10_segmentToken_1 rfl (lv_at hl 1 rfl) ?_
  refine jk_XSr (vx_runV (As := [vi v]) (rest := []) ⟨hx, hb, hml, hown, htl⟩ (m_X10_segmentAt l hsT g (ad 0) (ad 1) (ad 3) (ad 5) (ad 6) (ad 7) (ad 8) (ad 13) (ad 16) (ad 21) (ad 23) ss lw2 hL2 hSO hn2 v hv) (cwV 1 htl lk_X10_209 rfl rfl rfl cwV_X10_segmentAt ⟨Nat.le_of_ble_eq_true rfl, Nat.le_of_ble_eq_true rfl⟩) (jp_V hKK (va_S.rf (A := jN)) jNb (va_recv hKK.k hP (ci := 9) (q0 := 0) rfl rfl) ⟨(va_P.sub hP [0] rfl), (va_P.sub hP [21] rfl), (hP.mem fun q h => List.mem_append_right _ (List.mem_append_right _ h))⟩) rfl rfl hl.1 rfl (lv_room (Nat.le_of_ble_eq_true rfl)) dX10_segmentToken_2 ⟨Nat.le_of_ble_eq_true rfl, Nat.le_of_ble_eq_true rfl⟩) htab hlk (fun E h => ⟨h.1, by have h9 := h.2; unfold cdSk; rw [hnS]; (repeat' split) <;> omega⟩) (by omega) (by omega) (fun z2 hz2 => ?_)
  obtain ⟨i, hi9, hil, hz2⟩ := hz2
  obtain ⟨q, hq⟩ : ∃ q, ss[i]? = some q := ⟨_, List.getElem?_eq_getElem hil⟩
  rw [sA_get hq] at hz2
  obtain ⟨sa, tx, txc, ty, tyc, t, f, u, fu, st, un, sc⟩ := q
  obtain ⟨hT, hU, hst, hun, hsc⟩ : TT t f ∧ TT u fu ∧ (0 ≤ st ∧ st < 65536) ∧ (-1 ≤ un ∧ un < 60) ∧ (0 ≤ sc ∧ sc ≤ 100) := hSO _ (List.mem_of_getElem? hq)
  have hsv : sv ss (i) = (t, u, st, un, sc) := sv_get hq
  have hsg : sg S v = (t, u, st, un, sc) := by unfold sg; rw [hsS, hi9, Int.toNat_natCast]; exact hsv
  have hz2 : z2 = sa := hz2
  rw [hz2]
  obtain ⟨r9, hr1, hr2, hr3, hr4⟩ := DR.cut (g := g) (lw := lw2) hq
  have hP : PP g ([ob (ad 0) 9 [.ref (ad 1), .ref (ad 3), .ref (ad 5), .ref (ad 6), .ref (ad 7), .ref (ad 8), .ref (ad 13), .ref (ad 16), .ref (ad 21)], ob (ad 1) 6 [.ref (ad 2), vi (S.1.length : Int)], aI g (ad 2) 60 fd, ob (ad 3) 6 [.ref (ad 4), vi (S.2.1.length : Int)], aI g (ad 4) 60 fk, aZ g (ad 5) 100 S.2.2.1, ob (ad 6) 2 [.ref (ad 7), .ref (ad 13), .ref (ad 22)], ob (ad 7) 1 [.ref (ad 8), .ref (ad 10), .ref (ad 11), .ref (ad 12)], ob (ad 8) 8 [.ref (ad 9)], aI g (ad 9) 4 S.2.2.2.1, aI g (ad 10) 61 g1, aI g (ad 11) 61 g2, aI g (ad 12) 60 g3, ob (ad 13) 5 [.ref (ad 14), .ref (ad 15), vi (S.2.2.2.2.1.1 : Int)], aI g (ad 14) 20 S.2.2.2.2.1.2.1, aI g (ad 15) 20 S.2.2.2.2.1.2.2, ob (ad 16) 3 [.ref (ad 17), .ref (ad 19)], ob (ad 17) 6 [.ref (ad 18), vi (p1.length : Int)], aI g (ad 18) 60 k1, ob (ad 19) 6 [.ref (ad 20), vi (p2.length : Int)], aI g (ad 20) 60 k2, ob (ad 21) 0 [.ref (ad 23)], ob sa 4 [.ref tx, .ref ty, vi st, vi un, vi sc], ob tx 6 [.ref txc, vi (t.length : Int)], aI g txc 60 f, ob ty 6 [.ref tyc, vi (u.length : Int)], aI g tyc 60 fu] ++ (MR g us lw1 ++ r9)) s.heap := hP.perm (pm_cutD hr1)
  refine va_get (D := gD g) (ci := 4) (v := .ref tx) (C := RX4) (T := TX4) (N := 5) hx hb htl ck_X4 hown hKK.k hP 22 rfl rfl 0 (by decide) (htl _ wd_7_14) (fun _ h9 => h9) rfl dX10_segmentToken_5 ?_
  refine lv_astore_n (lv' := [(3, .ref tx), (0, .ref (ad 0)), (1, vi v), (2, vi k)]) hx hb dX10_segmentToken_8 rfl hl (by decide) rfl (fun ls hl => ?_)
  refine lv_aload_n hx hb dX10_segmentToken_9 rfl (lv_at hl 0 rfl) ?_
  refine lv_iload_n hx hb dX10_segmentToken_10 rfl (lv_at hl 3 rfl) ?_
  refine jk_Si (va_runV (As := [vi k]) (rest := []) ⟨hx, hb, hml, hown, htl⟩ (m_X6_hasPlace l g tx txc t f hT k hk) (cwV 1 htl lk_X10_235 rfl rfl rfl cwV_X6_hasPlace ⟨Nat.le_of_ble_eq_true rfl, Nat.le_of_ble_eq_true rfl⟩) (jp_V hKK (va_S.rf (A := jN)) jNb (va_recv hKK.k hP (ci := 6) (q0 := 23) rfl rfl) (va_P.sub hP [23, 24] rfl)) rfl rfl hl.1 rfl (lv_room (Nat.le_of_ble_eq_true rfl)) dX10_segmentToken_11 ⟨Nat.le_of_ble_eq_true rfl, Nat.le_of_ble_eq_true rfl⟩) (fun z11 hz11 => ?_)
  subst hz11
  have hLT := hT.len
  refine jr_ifne (tgt := 27) hx hb dX10_segmentToken_14 (by decide) (i01R _) (fun c14 => ?_) (fun c14 => ?_)
  · have c14 := i01t c14
    refine lv_aload_n hx hb dX10_segmentToken_27 rfl (lv_at hl 0 rfl) ?_
    refine lv_iload_n hx hb dX10_segmentToken_28 rfl (lv_at hl 3 rfl) ?_
    refine jk_Si (va_runV (As := [vi k]) (rest := []) ⟨hx, hb, hml, hown, htl⟩ (m_X6_at l g tx txc t f hT k hk) (cwV 1 htl lk_X10_244 rfl rfl rfl cwV_X6_at ⟨Nat.le_of_ble_eq_true rfl, Nat.le_of_ble_eq_true rfl⟩) (jp_V hKK (va_S.rf (A := jN)) jNb (va_recv hKK.k hP (ci := 6) (q0 := 23) rfl rfl) (va_P.sub hP [23, 24] rfl)) rfl rfl hl.1 rfl (lv_room (Nat.le_of_ble_eq_true rfl)) dX10_segmentToken_29 ⟨Nat.le_of_ble_eq_true rfl, Nat.le_of_ble_eq_true rfl⟩) (fun z29 hz29 => ?_)
    subst hz29
    have ta := TT.tAt_b hT k
    refine jk_Si (va_runS (As := [vi (tAt t k)]) (rest := []) ⟨hx, hb, hml, hown, htl⟩ (m_X7_valueIn l g (tAt t k) ⟨by omega, by omega⟩) (va_cwS 1 htl lk_X10_246 rfl rfl rfl cwS_X7_valueIn ⟨Nat.le_of_ble_eq_true rfl, Nat.le_of_ble_eq_true rfl⟩) (jp_S hKK (va_S.rf (A := jN)) jNb trivial) rfl rfl hl.1 rfl (lv_room (Nat.le_of_ble_eq_true rfl)) dX10_segmentToken_32 ⟨Nat.le_of_ble_eq_true rfl, Nat.le_of_ble_eq_true rfl⟩) (fun z32 hz32 => ?_)
    subst hz32
    refine vx_ret ?_
    refine W.widen (k := 2) (n := 12) (by omega) (by omega) ?_
    exact je_Si hx hb hr hlk rfl (⟨by unfold cdSk; rw [hnS, if_neg (by omega), hsg, if_neg (fun q => q c14)], by rw [hsg]⟩) dX10_segmentToken_35
  · have c14 := i01f c14
    exact jt_S (g := g) hx hb hsT hown hKK tf_243 (htl _ wd_24_23) (htl _ wd_25_0) nws_15 (th_243 htl hKK) tg_243 hl.1 hml htab hlk (⟨rfl, by unfold cdSk; rw [hnS, if_neg (by omega), hsg, if_pos c14]⟩) dX10_segmentToken_17 dX10_segmentToken_20 dX10_segmentToken_21 dX10_segmentToken_23 dX10_segmentToken_26 (Nat.le_of_ble_eq_true rfl) (Nat.le_of_ble_eq_true rfl) (Nat.le_of_ble_eq_true rfl) (Nat.le_of_ble_eq_true rfl) (Nat.le_of_ble_eq_true rfl) (Nat.le_of_ble_eq_true rfl)
set_option maxHeartbeats 4000000 in
set_option maxRecDepth 100000 in
theorem m_X10_targetLength (l : Launch) (hsT : l.stackTraces = false) (g : GT) (o : Nat) (S : SGM) (W9 : va_W) (hCW : CW g o S W9) (v : Int) (hv : jR v) : vx_Met l yX10_targetLength (ws_ yX10_targetLength cX10_targetLength 2 (some .int)) (rmm 8 2 12) (jPc g [.ref o, vi v] (fun H => PP g W9 H)) (jSi (fun z => (cdST S v) = 0 ∧ z = ((sg S v).2.1.length : Int))) (jX (fun E => (E = eIO ∧ (cdST S v) = 1) ∨ (E = eNS ∧ (cdST S v) = 2))) 2 12 jN := by
  refine jb_X (by decide) (Nat.le_of_ble_eq_true rfl) ?_
  intro p e s m below meth cq hx hb hr hml hown htl hlk htab hKK hpre ls hl
  have hown : s.vm.findClass RX10 = some m.cls := hown
  have hP : PP g W9 s.heap := hpre
  have hCW9 := hCW
  obtain ⟨ad, fd, fk, g1, g2, g3, p1, p2, k1, k2, us, ss, lw1, lw2, hW9, ho, ⟨hdr, htk, hk1, hk2⟩, hab, hw, ht, ⟨hus, hss⟩, ⟨hUO, hSO⟩, ⟨hL1, hL2⟩, hn1, hn2⟩ := hCW
  subst hW9
  subst ho
  have hP : PP g ([ob (ad 0) 9 [.ref (ad 1), .ref (ad 3), .ref (ad 5), .ref (ad 6), .ref (ad 7), .ref (ad 8), .ref (ad 13), .ref (ad 16), .ref (ad 21)], ob (ad 1) 6 [.ref (ad 2), vi (S.1.length : Int)], aI g (ad 2) 60 fd, ob (ad 3) 6 [.ref (ad 4), vi (S.2.1.length : Int)], aI g (ad 4) 60 fk, aZ g (ad 5) 100 S.2.2.1, ob (ad 6) 2 [.ref (ad 7), .ref (ad 13), .ref (ad 22)], ob (ad 7) 1 [.ref (ad 8), .ref (ad 10), .ref (ad 11), .ref (ad 12)], ob (ad 8) 8 [.ref (ad 9)], aI g (ad 9) 4 S.2.2.2.1, aI g (ad 10) 61 g1, aI g (ad 11) 61 g2, aI g (ad 12) 60 g3, ob (ad 13) 5 [.ref (ad 14), .ref (ad 15), vi (S.2.2.2.2.1.1 : Int)], aI g (ad 14) 20 S.2.2.2.2.1.2.1, aI g (ad 15) 20 S.2.2.2.2.1.2.2, ob (ad 16) 3 [.ref (ad 17), .ref (ad 19)], ob (ad 17) 6 [.ref (ad 18), vi (p1.length : Int)], aI g (ad 18) 60 k1, ob (ad 19) 6 [.ref (ad 20), vi (p2.length : Int)], aI g (ad 20) 60 k2, ob (ad 21) 0 [.ref (ad 23)]] ++ (MR g us lw1 ++ DR g ss lw2)) s.heap := hP
  have hl : lv_has ls 2 [(0, .ref (ad 0)), (1, vi v)] := hl
  have huS := uS_uv hus
  have hsS := sS_sv hss
  have hnU : nU S = us.length := nU_l hus
  have hnS : nS S = ss.length := nS_l hss
  have hdL := hdr.len
  have htL := htk.len
  refine lv_aload_n hx hb dX10_targetLength_0 rfl (lv_at hl 0 rfl) ?_
  refine lv_iload_n hx hb dX10_targetLength_1 rfl (lv_at hl 1 rfl) ?_
  refine jk_XSr (vx_runV (As := [vi v]) (rest := []) ⟨hx, hb, hml, hown, htl⟩ (m_X10_targetAt l hsT g (ad 0) (ad 1) (ad 3) (ad 5) (ad 6) (ad 7) (ad 8) (ad 13) (ad 16) (ad 21) (ad 23) ss lw2 hL2 hSO hn2 v hv) (cwV 1 htl lk_X10_251 rfl rfl rfl cwV_X10_targetAt ⟨Nat.le_of_ble_eq_true rfl, Nat.le_of_ble_eq_true rfl⟩) (jp_V hKK (va_S.rf (A := jN)) jNb (va_recv hKK.k hP (ci := 9) (q0 := 0) rfl rfl) ⟨(va_P.sub hP [0] rfl), (va_P.sub hP [21] rfl), (hP.mem fun q h => List.mem_append_right _ (List.mem_append_right _ h))⟩) rfl rfl hl.1 rfl (lv_room (Nat.le_of_ble_eq_true rfl)) dX10_targetLength_2 ⟨Nat.le_of_ble_eq_true rfl, Nat.le_of_ble_eq_true rfl⟩) htab hlk (fun E h => h.elim (fun h => Or.inl ⟨h.1, by have h9 := h.2; unfold cdST; rw [hnS, if_pos h9]⟩) (fun h => Or.inr ⟨h.1, by have h9 := h.2.1; unfold cdST; rw [hnS, if_neg (fun q => q h9), if_pos (by unfold sg; rw [hsS]; exact h.2.2)]⟩)) (by omega) (by omega) (fun z2 hz2 => ?_)
  obtain ⟨i, q, hi9, hil, hq, hz2, hne2⟩ := hz2
  obtain ⟨sa, tx, txc, ty, tyc, t, f, u, fu, st, un, sc⟩ := q
  obtain ⟨hT, hU, hst, hun, hsc⟩ : TT t f ∧ TT u fu ∧ (0 ≤ st ∧ st < 65536) ∧ (-1 ≤ un ∧ un < 60) ∧ (0 ≤ sc ∧ sc ≤ 100) := hSO _ (List.mem_of_getElem? hq)
  have hsv : sv ss (i) = (t, u, st, un, sc) := sv_get hq
  have hsg : sg S v = (t, u, st, un, sc) := by unfold sg; rw [hsS, hi9, Int.toNat_natCast]; exact hsv
  have hz2 : z2 = ty := hz2
  rw [hz2]
  rw [hsv] at hne2
  obtain ⟨r9, hr1, hr2, hr3, hr4⟩ := DR.cut (g := g) (lw := lw2) hq
  have hP : PP g ([ob (ad 0) 9 [.ref (ad 1), .ref (ad 3), .ref (ad 5), .ref (ad 6), .ref (ad 7), .ref (ad 8), .ref (ad 13), .ref (ad 16), .ref (ad 21)], ob (ad 1) 6 [.ref (ad 2), vi (S.1.length : Int)], aI g (ad 2) 60 fd, ob (ad 3) 6 [.ref (ad 4), vi (S.2.1.length : Int)], aI g (ad 4) 60 fk, aZ g (ad 5) 100 S.2.2.1, ob (ad 6) 2 [.ref (ad 7), .ref (ad 13), .ref (ad 22)], ob (ad 7) 1 [.ref (ad 8), .ref (ad 10), .ref (ad 11), .ref (ad 12)], ob (ad 8) 8 [.ref (ad 9)], aI g (ad 9) 4 S.2.2.2.1, aI g (ad 10) 61 g1, aI g (ad 11) 61 g2, aI g (ad 12) 60 g3, ob (ad 13) 5 [.ref (ad 14), .ref (ad 15), vi (S.2.2.2.2.1.1 : Int)], aI g (ad 14) 20 S.2.2.2.2.1.2.1, aI g (ad 15) 20 S.2.2.2.2.1.2.2, ob (ad 16) 3 [.ref (ad 17), .ref (ad 19)], ob (ad 17) 6 [.ref (ad 18), vi (p1.length : Int)], aI g (ad 18) 60 k1, ob (ad 19) 6 [.ref (ad 20), vi (p2.length : Int)], aI g (ad 20) 60 k2, ob (ad 21) 0 [.ref (ad 23)], ob sa 4 [.ref tx, .ref ty, vi st, vi un, vi sc], ob tx 6 [.ref txc, vi (t.length : Int)], aI g txc 60 f, ob ty 6 [.ref tyc, vi (u.length : Int)], aI g tyc 60 fu] ++ (MR g us lw1 ++ r9)) s.heap := hP.perm (pm_cutD hr1)
  refine jk_Si (va_runV (As := []) (rest := []) ⟨hx, hb, hml, hown, htl⟩ (m_X6_size l g ty tyc u fu hU  ) (cwV 0 htl lk_X10_76 rfl rfl rfl cwV_X6_size ⟨Nat.le_of_ble_eq_true rfl, Nat.le_of_ble_eq_true rfl⟩) (jp_V hKK (va_S.rf (A := jN)) jNb (va_recv hKK.k hP (ci := 6) (q0 := 25) rfl rfl) (va_P.sub hP [25, 26] rfl)) rfl rfl hl.1 rfl (lv_room (Nat.le_of_ble_eq_true rfl)) dX10_targetLength_5 ⟨Nat.le_of_ble_eq_true rfl, Nat.le_of_ble_eq_true rfl⟩) (fun z5 hz5 => ?_)
  subst hz5
  refine vx_ret ?_
  exact je_Si hx hb hr hlk rfl (⟨by unfold cdST; rw [hnS, if_neg (by omega), hsg, if_neg hne2], by rw [hsg]⟩) dX10_targetLength_8
set_option maxHeartbeats 4000000 in
set_option maxRecDepth 100000 in
theorem m_X10_targetToken (l : Launch) (hsT : l.stackTraces = false) (g : GT) (o : Nat) (S : SGM) (W9 : va_W) (hCW : CW g o S W9) (v : Int) (hv : jR v) (k : Int) (hk : jR k) : vx_Met l yX10_targetToken (ws_ yX10_targetToken cX10_targetToken 3 (some .int)) (rmm 9 3 18) (jPc g [.ref o, vi v, vi k] (fun H => PP g W9 H)) (jSi (fun z => (cdTk S v k) = 0 ∧ z = vl ((sg S v).2.1.getD k.toNat 0))) (jX (fun E => (E = eIO ∧ (cdTk S v k) = 1) ∨ (E = eNS ∧ (cdTk S v k) = 2))) 3 18 jN := by
  refine jb_X (by decide) (Nat.le_of_ble_eq_true rfl) ?_
  intro p e s m below meth cq hx hb hr hml hown htl hlk htab hKK hpre ls hl
  have hown : s.vm.findClass RX10 = some m.cls := hown
  have hP : PP g W9 s.heap := hpre
  have hCW9 := hCW
  obtain ⟨ad, fd, fk, g1, g2, g3, p1, p2, k1, k2, us, ss, lw1, lw2, hW9, ho, ⟨hdr, htk, hk1, hk2⟩, hab, hw, ht, ⟨hus, hss⟩, ⟨hUO, hSO⟩, ⟨hL1, hL2⟩, hn1, hn2⟩ := hCW
  subst hW9
  subst ho
  have hP : PP g ([ob (ad 0) 9 [.ref (ad 1), .ref (ad 3), .ref (ad 5), .ref (ad 6), .ref (ad 7), .ref (ad 8), .ref (ad 13), .ref (ad 16), .ref (ad 21)], ob (ad 1) 6 [.ref (ad 2), vi (S.1.length : Int)], aI g (ad 2) 60 fd, ob (ad 3) 6 [.ref (ad 4), vi (S.2.1.length : Int)], aI g (ad 4) 60 fk, aZ g (ad 5) 100 S.2.2.1, ob (ad 6) 2 [.ref (ad 7), .ref (ad 13), .ref (ad 22)], ob (ad 7) 1 [.ref (ad 8), .ref (ad 10), .ref (ad 11), .ref (ad 12)], ob (ad 8) 8 [.ref (ad 9)], aI g (ad 9) 4 S.2.2.2.1, aI g (ad 10) 61 g1, aI g (ad 11) 61 g2, aI g (ad 12) 60 g3, ob (ad 13) 5 [.ref (ad 14), .ref (ad 15), vi (S.2.2.2.2.1.1 : Int)], aI g (ad 14) 20 S.2.2.2.2.1.2.1, aI g (ad 15) 20 S.2.2.2.2.1.2.2, ob (ad 16) 3 [.ref (ad 17), .ref (ad 19)], ob (ad 17) 6 [.ref (ad 18), vi (p1.length : Int)], aI g (ad 18) 60 k1, ob (ad 19) 6 [.ref (ad 20), vi (p2.length : Int)], aI g (ad 20) 60 k2, ob (ad 21) 0 [.ref (ad 23)]] ++ (MR g us lw1 ++ DR g ss lw2)) s.heap := hP
  have hl : lv_has ls 3 [(0, .ref (ad 0)), (1, vi v), (2, vi k)] := hl
  have huS := uS_uv hus
  have hsS := sS_sv hss
  have hnU : nU S = us.length := nU_l hus
  have hnS : nS S = ss.length := nS_l hss
  have hdL := hdr.len
  have htL := htk.len
  refine lv_aload_n hx hb dX10_targetToken_0 rfl (lv_at hl 0 rfl) ?_
  refine lv_iload_n hx hb dX10_targetToken_1 rfl (lv_at hl 1 rfl) ?_
  refine lv_iload_n hx hb dX10_targetToken_2 rfl (lv_at hl 2 rfl) ?_
  refine jk_XSi (vx_runV (As := [vi v, vi k]) (rest := []) ⟨hx, hb, hml, hown, htl⟩ (m_X10_targetCode l hsT g (ad 0) (ad 1) (ad 3) (ad 5) (ad 6) (ad 7) (ad 8) (ad 13) (ad 16) (ad 21) (ad 23) ss lw2 hL2 hSO hn2 v ⟨by omega, by omega⟩ k ⟨by omega, by omega⟩) (cwV 2 htl lk_X10_255 rfl rfl rfl cwV_X10_targetCode ⟨Nat.le_of_ble_eq_true rfl, Nat.le_of_ble_eq_true rfl⟩) (jp_V hKK (va_S.rf (A := jN)) jNb (va_recv hKK.k hP (ci := 9) (q0 := 0) rfl rfl) ⟨(va_P.sub hP [0] rfl), (va_P.sub hP [21] rfl), (hP.mem fun q h => List.mem_append_right _ (List.mem_append_right _ h))⟩) rfl rfl hl.1 rfl (lv_room (Nat.le_of_ble_eq_true rfl)) dX10_targetToken_3 ⟨Nat.le_of_ble_eq_true rfl, Nat.le_of_ble_eq_true rfl⟩) htab hlk (fun E h => h.elim (fun h => Or.inl ⟨h.1, by have h9 := h.2; unfold cdTk; rw [hnS, if_pos h9]⟩) (fun h => Or.inr ⟨h.1, by have h9 := h.2.1; unfold cdTk; rw [hnS, if_neg (fun q => q h9), if_pos (by unfold sg; rw [hsS]; exact h.2.2)]⟩)) (by omega) (by omega) (fun z3 hz3 => ?_)
  obtain ⟨i, hi9, hil, hne, hk1, hk2, hz3, hb1, hb2⟩ := hz3
  have hsg : sg S v = sv ss i := by unfold sg; rw [hsS, hi9, Int.toNat_natCast]
  rw [hz3] at hb1 hb2 ⊢
  refine jk_Si (va_runS (As := [vi ((sv ss i).2.1.getD k.toNat 0)]) (rest := []) ⟨hx, hb, hml, hown, htl⟩ (m_X7_valueIn l g ((sv ss i).2.1.getD k.toNat 0) ⟨by omega, by omega⟩) (va_cwS 1 htl lk_X10_246 rfl rfl rfl cwS_X7_valueIn ⟨Nat.le_of_ble_eq_true rfl, Nat.le_of_ble_eq_true rfl⟩) (jp_S hKK (va_S.rf (A := jN)) jNb trivial) rfl rfl hl.1 rfl (lv_room (Nat.le_of_ble_eq_true rfl)) dX10_targetToken_6 ⟨Nat.le_of_ble_eq_true rfl, Nat.le_of_ble_eq_true rfl⟩) (fun z6 hz6 => ?_)
  subst hz6
  refine vx_ret ?_
  exact je_Si hx hb hr hlk rfl (⟨by unfold cdTk; rw [hnS, if_neg (by omega), hsg, if_neg (by omega)], by rw [hsg]⟩) dX10_targetToken_9
set_option maxHeartbeats 4000000 in
set_option maxRecDepth 100000 in
theorem m_X10_targetKind (l : Launch) (hsT : l.stackTraces = false) (g : GT) (o : Nat) (S : SGM) (W9 : va_W) (hCW : CW g o S W9) (v : Int) (hv : jR v) (k : Int) (hk : jR k) : vx_Met l yX10_targetKind (ws_ yX10_targetKind cX10_targetKind 3 (some .char)) (rmm 9 3 18) (jPc g [.ref o, vi v, vi k] (fun H => PP g W9 H)) (jSi (fun z => (cdTk S v k) = 0 ∧ z = ltr ((sg S v).2.1.getD k.toNat 0))) (jX (fun E => (E = eIO ∧ (cdTk S v k) = 1) ∨ (E = eNS ∧ (cdTk S v k) = 2))) 3 18 jN := by
  refine jb_X (by decide) (Nat.le_of_ble_eq_true rfl) ?_
  intro p e s m below meth cq hx hb hr hml hown htl hlk htab hKK hpre ls hl
  have hown : s.vm.findClass RX10 = some m.cls := hown
  have hP : PP g W9 s.heap := hpre
  have hCW9 := hCW
  obtain ⟨ad, fd, fk, g1, g2, g3, p1, p2, k1, k2, us, ss, lw1, lw2, hW9, ho, ⟨hdr, htk, hk1, hk2⟩, hab, hw, ht, ⟨hus, hss⟩, ⟨hUO, hSO⟩, ⟨hL1, hL2⟩, hn1, hn2⟩ := hCW
  subst hW9
  subst ho
  have hP : PP g ([ob (ad 0) 9 [.ref (ad 1), .ref (ad 3), .ref (ad 5), .ref (ad 6), .ref (ad 7), .ref (ad 8), .ref (ad 13), .ref (ad 16), .ref (ad 21)], ob (ad 1) 6 [.ref (ad 2), vi (S.1.length : Int)], aI g (ad 2) 60 fd, ob (ad 3) 6 [.ref (ad 4), vi (S.2.1.length : Int)], aI g (ad 4) 60 fk, aZ g (ad 5) 100 S.2.2.1, ob (ad 6) 2 [.ref (ad 7), .ref (ad 13), .ref (ad 22)], ob (ad 7) 1 [.ref (ad 8), .ref (ad 10), .ref (ad 11), .ref (ad 12)], ob (ad 8) 8 [.ref (ad 9)], aI g (ad 9) 4 S.2.2.2.1, aI g (ad 10) 61 g1, aI g (ad 11) 61 g2, aI g (ad 12) 60 g3, ob (ad 13) 5 [.ref (ad 14), .ref (ad 15), vi (S.2.2.2.2.1.1 : Int)], aI g (ad 14) 20 S.2.2.2.2.1.2.1, aI g (ad 15) 20 S.2.2.2.2.1.2.2, ob (ad 16) 3 [.ref (ad 17), .ref (ad 19)], ob (ad 17) 6 [.ref (ad 18), vi (p1.length : Int)], aI g (ad 18) 60 k1, ob (ad 19) 6 [.ref (ad 20), vi (p2.length : Int)], aI g (ad 20) 60 k2, ob (ad 21) 0 [.ref (ad 23)]] ++ (MR g us lw1 ++ DR g ss lw2)) s.heap := hP
  have hl : lv_has ls 3 [(0, .ref (ad 0)), (1, vi v), (2, vi k)] := hl
  have huS := uS_uv hus
  have hsS := sS_sv hss
  have hnU : nU S = us.length := nU_l hus
  have hnS : nS S = ss.length := nS_l hss
  have hdL := hdr.len
  have htL := htk.len
  refine lv_aload_n hx hb dX10_targetKind_0 rfl (lv_at hl 0 rfl) ?_
  refine lv_iload_n hx hb dX10_targetKind_1 rfl (lv_at hl 1 rfl) ?_
  refine lv_iload_n hx hb dX10_targetKind_2 rfl (lv_at hl 2 rfl) ?_
  refine jk_XSi (vx_runV (As := [vi v, vi k]) (rest := []) ⟨hx, hb, hml, hown, htl⟩ (m_X10_targetCode l hsT g (ad 0) (ad 1) (ad 3) (ad 5) (ad 6) (ad 7) (ad 8) (ad 13) (ad 16) (ad 21) (ad 23) ss lw2 hL2 hSO hn2 v ⟨by omega, by omega⟩ k ⟨by omega, by omega⟩) (cwV 2 htl lk_X10_255 rfl rfl rfl cwV_X10_targetCode ⟨Nat.le_of_ble_eq_true rfl, Nat.le_of_ble_eq_true rfl⟩) (jp_V hKK (va_S.rf (A := jN)) jNb (va_recv hKK.k hP (ci := 9) (q0 := 0) rfl rfl) ⟨(va_P.sub hP [0] rfl), (va_P.sub hP [21] rfl), (hP.mem fun q h => List.mem_append_right _ (List.mem_append_right _ h))⟩) rfl rfl hl.1 rfl (lv_room (Nat.le_of_ble_eq_true rfl)) dX10_targetKind_3 ⟨Nat.le_of_ble_eq_true rfl, Nat.le_of_ble_eq_true rfl⟩) htab hlk (fun E h => h.elim (fun h => Or.inl ⟨h.1, by have h9 := h.2; unfold cdTk; rw [hnS, if_pos h9]⟩) (fun h => Or.inr ⟨h.1, by have h9 := h.2.1; unfold cdTk; rw [hnS, if_neg (fun q => q h9), if_pos (by unfold sg; rw [hsS]; exact h.2.2)]⟩)) (by omega) (by omega) (fun z3 hz3 => ?_)
  obtain ⟨i, hi9, hil, hne, hk1, hk2, hz3, hb1, hb2⟩ := hz3
  have hsg : sg S v = sv ss i := by unfold sg; rw [hsS, hi9, Int.toNat_natCast]
  rw [hz3] at hb1 hb2 ⊢
  refine jk_Si (va_runS (As := [vi ((sv ss i).2.1.getD k.toNat 0)]) (rest := []) ⟨hx, hb, hml, hown, htl⟩ (m_X7_letterOf l g ((sv ss i).2.1.getD k.toNat 0) ⟨by omega, by omega⟩) (va_cwS 1 htl lk_X10_258 rfl rfl rfl cwS_X7_letterOf ⟨Nat.le_of_ble_eq_true rfl, Nat.le_of_ble_eq_true rfl⟩) (jp_S hKK (va_S.rf (A := jN)) jNb trivial) rfl rfl hl.1 rfl (lv_room (Nat.le_of_ble_eq_true rfl)) dX10_targetKind_6 ⟨Nat.le_of_ble_eq_true rfl, Nat.le_of_ble_eq_true rfl⟩) (fun z6 hz6 => ?_)
  subst hz6
  have hlt : 109 ≤ ltr ((sv ss i).2.1.getD k.toNat 0) ∧ ltr ((sv ss i).2.1.getD k.toNat 0) ≤ 119 := by unfold ltr; (repeat' split) <;> omega
  refine vx_ret ?_
  exact je_Si hx hb hr hlk (nz_c (by omega) (by omega)).1 (⟨by unfold cdTk; rw [hnS, if_neg (by omega), hsg, if_neg (by omega)], by rw [hsg]⟩) dX10_targetKind_9
set_option maxHeartbeats 4000000 in
set_option maxRecDepth 100000 in
theorem m_X10_repeats (l : Launch) (hsT : l.stackTraces = false) (g : GT) (o : Nat) (S : SGM) (W9 : va_W) (hCW : CW g o S W9) : Met l yX10_repeats (ws_ yX10_repeats cX10_repeats 3 (some .int)) (rmm 6 0 0) (jPc g [.ref o] (fun H => PP g W9 H)) (jSi (fun z => z = rpA (sS S) (nS S))) 0 0 jN := by
  refine jb_M (by decide) (Nat.le_of_ble_eq_true rfl) ?_
  intro p e s m below meth cq hx hb hr hml hown htl hlk hnm hKK hpre ls hl
  have hown : s.vm.findClass RX10 = some m.cls := hown
  have hP : PP g W9 s.heap := hpre
  have hCW9 := hCW
  obtain ⟨ad, fd, fk, g1, g2, g3, p1, p2, k1, k2, us, ss, lw1, lw2, hW9, ho, ⟨hdr, htk, hk1, hk2⟩, hab, hw, ht, ⟨hus, hss⟩, ⟨hUO, hSO⟩, ⟨hL1, hL2⟩, hn1, hn2⟩ := hCW
  subst hW9
  subst ho
  have hP : PP g ([ob (ad 0) 9 [.ref (ad 1), .ref (ad 3), .ref (ad 5), .ref (ad 6), .ref (ad 7), .ref (ad 8), .ref (ad 13), .ref (ad 16), .ref (ad 21)], ob (ad 1) 6 [.ref (ad 2), vi (S.1.length : Int)], aI g (ad 2) 60 fd, ob (ad 3) 6 [.ref (ad 4), vi (S.2.1.length : Int)], aI g (ad 4) 60 fk, aZ g (ad 5) 100 S.2.2.1, ob (ad 6) 2 [.ref (ad 7), .ref (ad 13), .ref (ad 22)], ob (ad 7) 1 [.ref (ad 8), .ref (ad 10), .ref (ad 11), .ref (ad 12)], ob (ad 8) 8 [.ref (ad 9)], aI g (ad 9) 4 S.2.2.2.1, aI g (ad 10) 61 g1, aI g (ad 11) 61 g2, aI g (ad 12) 60 g3, ob (ad 13) 5 [.ref (ad 14), .ref (ad 15), vi (S.2.2.2.2.1.1 : Int)], aI g (ad 14) 20 S.2.2.2.2.1.2.1, aI g (ad 15) 20 S.2.2.2.2.1.2.2, ob (ad 16) 3 [.ref (ad 17), .ref (ad 19)], ob (ad 17) 6 [.ref (ad 18), vi (p1.length : Int)], aI g (ad 18) 60 k1, ob (ad 19) 6 [.ref (ad 20), vi (p2.length : Int)], aI g (ad 20) 60 k2, ob (ad 21) 0 [.ref (ad 23)]] ++ (MR g us lw1 ++ DR g ss lw2)) s.heap := hP
  have hl : lv_has ls 3 [(0, .ref (ad 0))] := hl
  have huS := uS_uv hus
  have hsS := sS_sv hss
  have hnU : nU S = us.length := nU_l hus
  have hnS : nS S = ss.length := nS_l hss
  have hdL := hdr.len
  have htL := htk.len
  refine jr_iconst hx hb dX10_repeats_0 ?_
  refine lv_istore_n (lv' := [(1, vi 0), (0, .ref (ad 0))]) hx hb dX10_repeats_1 rfl hl (by decide) rfl (fun ls hl => ?_)
  refine jr_iconst hx hb dX10_repeats_2 ?_
  refine lv_istore_n (lv' := [(2, vi 0), (1, vi 0), (0, .ref (ad 0))]) hx hb dX10_repeats_3 rfl hl (by decide) rfl (fun ls hl => ?_)
  have lp4 : ∀ (N : Nat) (i : Nat) (n : Int), (i ≤ ss.length) → (0 ≤ n ∧ n ≤ i) → (n = rpA (sv ss) i) → ss.length - i < N → ∀ ls : Array Slot, lv_has ls 3 [(2, vi (i : Int)), (1, vi n), (0, .ref (ad 0))] → W p l e (rmm 6 0 0) s m ([.ref (ad 0)] : List Value).toArray below meth cq s.heap [] 0 0 (MQ below (jSi (fun z => z = rpA (sS S) (nS S))) ([.ref (ad 0)] : List Value).toArray s 0 0 jN) (F0 m 4 ls []) := by
    intro N
    induction N with
    | zero => intro i n hi hn0 hF hM; exact absurd hM (Nat.not_lt_zero _)
    | succ N ih4 =>
      intro i n hi hn0 hF hM ls hl
      refine lv_iload_n hx hb dX10_repeats_4 rfl (lv_at hl 0 rfl) ?_
      refine lv_aload_n hx hb dX10_repeats_5 rfl (lv_at hl 2 rfl) ?_
      refine va_get (D := gD g) (ci := 9) (v := .ref (ad 21)) (C := RX10) (T := TX10) (N := 9) hx hb htl ck_X10 hown hKK.k hP 0 rfl rfl 8 (by decide) (htl _ wd_2_11) (fun _ h9 => h9) rfl dX10_repeats_6 ?_
      refine jk_Si (va_runV (As := []) (rest := [vi (i : Int)]) ⟨hx, hb, hml, hown, htl⟩ (m_X0_size l g (ad 21) (ad 23) ss lw2 hL2 hSO hn2 ) (cwV 0 htl lk_X10_193 rfl rfl rfl cwV_X0_size ⟨Nat.le_of_ble_eq_true rfl, Nat.le_of_ble_eq_true rfl⟩) (jp_V hKK (va_S.rf (A := jN)) jNb (va_recv hKK.k hP (ci := 0) (q0 := 21) rfl rfl) ⟨(va_P.sub hP [21] rfl), (hP.mem fun q h => List.mem_append_right _ (List.mem_append_right _ h))⟩) rfl rfl hl.1 rfl (lv_room (Nat.le_of_ble_eq_true rfl)) dX10_repeats_9 ⟨Nat.le_of_ble_eq_true rfl, Nat.le_of_ble_eq_true rfl⟩) (fun z9 hz9 => ?_)
      subst hz9
      refine jr_ge (tgt := 35) hx hb dX10_repeats_12 (by decide) ⟨by omega, by omega⟩ ⟨by omega, by omega⟩ (fun c12 => ?_) (fun c12 => ?_)
      · refine lv_iload_n hx hb dX10_repeats_35 rfl (lv_at hl 1 rfl) ?_
        exact je_Si hx hb hr hlk rfl (by obtain rfl : i = ss.length := (by omega); rw [hsS, hnS]; exact hF) dX10_repeats_36
      · refine lv_aload_n hx hb dX10_repeats_15 rfl (lv_at hl 2 rfl) ?_
        refine va_get (D := gD g) (ci := 9) (v := .ref (ad 21)) (C := RX10) (T := TX10) (N := 9) hx hb htl ck_X10 hown hKK.k hP 0 rfl rfl 8 (by decide) (htl _ wd_2_11) (fun _ h9 => h9) rfl dX10_repeats_16 ?_
        refine lv_iload_n hx hb dX10_repeats_19 rfl (lv_at hl 0 rfl) ?_
        refine jk_Si (va_runV (As := [vi (i : Int)]) (rest := []) ⟨hx, hb, hml, hown, htl⟩ (m_X0_hasEqualBefore l g (ad 21) (ad 23) ss lw2 hL2 hSO hn2 i (by omega)) (cwV 1 htl lk_X10_262 rfl rfl rfl cwV_X0_hasEqualBefore ⟨Nat.le_of_ble_eq_true rfl, Nat.le_of_ble_eq_true rfl⟩) (jp_V hKK (va_S.rf (A := jN)) jNb (va_recv hKK.k hP (ci := 0) (q0 := 21) rfl rfl) ⟨(va_P.sub hP [21] rfl), (hP.mem fun q h => List.mem_append_right _ (List.mem_append_right _ h))⟩) rfl rfl hl.1 rfl (lv_room (Nat.le_of_ble_eq_true rfl)) dX10_repeats_20 ⟨Nat.le_of_ble_eq_true rfl, Nat.le_of_ble_eq_true rfl⟩) (fun z20 hz20 => ?_)
        subst hz20
        refine jr_ifeq (tgt := 29) hx hb dX10_repeats_23 (by decide) (i01R _) (fun c23 => ?_) (fun c23 => ?_)
        · have c23 := i01f c23
          refine jr_iinc (lv' := [(2, vi ((i : Int) + 1)), (1, vi n), (0, .ref (ad 0))]) hx hb dX10_repeats_29 hl (k := 0) rfl rfl (by decide) rfl (fun ls hl => ?_)
          refine lv_goto (tgt := 4) hx hb dX10_repeats_32 (by decide) ?_
          exact ih4 (i + 1) _ (by omega) (by omega) (by rw [rpA, hF]; rw [if_neg c23, Int.add_zero]) (by omega) ls (lv_sub hl [0, 1, 2] rfl)
        · have c23 := i01t c23
          refine jr_iinc (lv' := [(1, vi (n + 1)), (2, vi (i : Int)), (0, .ref (ad 0))]) hx hb dX10_repeats_26 hl (k := 1) rfl rfl (by decide) rfl (fun ls hl => ?_)
          refine jr_iinc (lv' := [(2, vi ((i : Int) + 1)), (1, vi (n + 1)), (0, .ref (ad 0))]) hx hb dX10_repeats_29 hl (k := 1) rfl rfl (by decide) rfl (fun ls hl => ?_)
          refine lv_goto (tgt := 4) hx hb dX10_repeats_32 (by decide) ?_
          exact ih4 (i + 1) _ (by omega) (by omega) (by rw [rpA, hF]; rw [if_pos c23]) (by omega) ls (lv_sub hl [0, 1, 2] rfl)
  exact lp4 _ 0 0 (Nat.zero_le _) (⟨by omega, by omega⟩) (rfl) (Nat.lt_succ_self _) ls (lv_sub hl [0, 1, 2] rfl)
set_option maxHeartbeats 4000000 in
set_option maxRecDepth 100000 in
theorem m_X10_openWeight (l : Launch) (hsT : l.stackTraces = false) (g : GT) (o : Nat) (S : SGM) (W9 : va_W) (hCW : CW g o S W9) : Met l yX10_openWeight (ws_ yX10_openWeight cX10_openWeight 5 (some .long)) (rmm 6 0 0) (jPc g [.ref o] (fun H => PP g W9 H)) (jSl (fun z => z = owA S.2.2.2.1 (sS S) (nS S))) 0 0 jN := by
  refine jb_M (by decide) (Nat.le_of_ble_eq_true rfl) ?_
  intro p e s m below meth cq hx hb hr hml hown htl hlk hnm hKK hpre ls hl
  have hown : s.vm.findClass RX10 = some m.cls := hown
  have hP : PP g W9 s.heap := hpre
  have hCW9 := hCW
  obtain ⟨ad, fd, fk, g1, g2, g3, p1, p2, k1, k2, us, ss, lw1, lw2, hW9, ho, ⟨hdr, htk, hk1, hk2⟩, hab, hw, ht, ⟨hus, hss⟩, ⟨hUO, hSO⟩, ⟨hL1, hL2⟩, hn1, hn2⟩ := hCW
  subst hW9
  subst ho
  have hP : PP g ([ob (ad 0) 9 [.ref (ad 1), .ref (ad 3), .ref (ad 5), .ref (ad 6), .ref (ad 7), .ref (ad 8), .ref (ad 13), .ref (ad 16), .ref (ad 21)], ob (ad 1) 6 [.ref (ad 2), vi (S.1.length : Int)], aI g (ad 2) 60 fd, ob (ad 3) 6 [.ref (ad 4), vi (S.2.1.length : Int)], aI g (ad 4) 60 fk, aZ g (ad 5) 100 S.2.2.1, ob (ad 6) 2 [.ref (ad 7), .ref (ad 13), .ref (ad 22)], ob (ad 7) 1 [.ref (ad 8), .ref (ad 10), .ref (ad 11), .ref (ad 12)], ob (ad 8) 8 [.ref (ad 9)], aI g (ad 9) 4 S.2.2.2.1, aI g (ad 10) 61 g1, aI g (ad 11) 61 g2, aI g (ad 12) 60 g3, ob (ad 13) 5 [.ref (ad 14), .ref (ad 15), vi (S.2.2.2.2.1.1 : Int)], aI g (ad 14) 20 S.2.2.2.2.1.2.1, aI g (ad 15) 20 S.2.2.2.2.1.2.2, ob (ad 16) 3 [.ref (ad 17), .ref (ad 19)], ob (ad 17) 6 [.ref (ad 18), vi (p1.length : Int)], aI g (ad 18) 60 k1, ob (ad 19) 6 [.ref (ad 20), vi (p2.length : Int)], aI g (ad 20) 60 k2, ob (ad 21) 0 [.ref (ad 23)]] ++ (MR g us lw1 ++ DR g ss lw2)) s.heap := hP
  have hl : lv_has ls 5 [(0, .ref (ad 0))] := hl
  have huS := uS_uv hus
  have hsS := sS_sv hss
  have hnU : nU S = us.length := nU_l hus
  have hnS : nS S = ss.length := nS_l hss
  have hdL := hdr.len
  have htL := htk.len
  refine jr_lconst0 hx hb dX10_openWeight_0 ?_
  refine lv_lstore_n (lv' := [(1, .long (Int64.ofInt 0)), (0, .ref (ad 0))]) hx hb dX10_openWeight_1 rfl hl (by decide) rfl (fun ls hl => ?_)
  refine jr_iconst hx hb dX10_openWeight_2 ?_
  refine lv_istore_n (lv' := [(3, vi 0), (1, .long (Int64.ofInt 0)), (0, .ref (ad 0))]) hx hb dX10_openWeight_3 rfl hl (by decide) rfl (fun ls hl => ?_)
  have lp4 : ∀ (N : Nat) (i : Nat) (n : Int), (i ≤ ss.length) → (n = owA S.2.2.2.1 (sv ss) i) → ss.length - i < N → ∀ ls : Array Slot, lv_has ls 5 [(3, vi (i : Int)), (1, .long (Int64.ofInt n)), (0, .ref (ad 0))] → W p l e (rmm 6 0 0) s m ([.ref (ad 0)] : List Value).toArray below meth cq s.heap [] 0 0 (MQ below (jSl (fun z => z = owA S.2.2.2.1 (sS S) (nS S))) ([.ref (ad 0)] : List Value).toArray s 0 0 jN) (F0 m 4 ls []) := by
    intro N
    induction N with
    | zero => intro i n hi hF hM; exact absurd hM (Nat.not_lt_zero _)
    | succ N ih4 =>
      intro i n hi hF hM ls hl
      refine lv_iload_n hx hb dX10_openWeight_4 rfl (lv_at hl 0 rfl) ?_
      refine lv_aload_n hx hb dX10_openWeight_5 rfl (lv_at hl 2 rfl) ?_
      refine va_get (D := gD g) (ci := 9) (v := .ref (ad 21)) (C := RX10) (T := TX10) (N := 9) hx hb htl ck_X10 hown hKK.k hP 0 rfl rfl 8 (by decide) (htl _ wd_2_11) (fun _ h9 => h9) rfl dX10_openWeight_6 ?_
      refine jk_Si (va_runV (As := []) (rest := [vi (i : Int)]) ⟨hx, hb, hml, hown, htl⟩ (m_X0_size l g (ad 21) (ad 23) ss lw2 hL2 hSO hn2 ) (cwV 0 htl lk_X10_193 rfl rfl rfl cwV_X0_size ⟨Nat.le_of_ble_eq_true rfl, Nat.le_of_ble_eq_true rfl⟩) (jp_V hKK (va_S.rf (A := jN)) jNb (va_recv hKK.k hP (ci := 0) (q0 := 21) rfl rfl) ⟨(va_P.sub hP [21] rfl), (hP.mem fun q h => List.mem_append_right _ (List.mem_append_right _ h))⟩) rfl rfl hl.1 rfl (lv_room (Nat.le_of_ble_eq_true rfl)) dX10_openWeight_9 ⟨Nat.le_of_ble_eq_true rfl, Nat.le_of_ble_eq_true rfl⟩) (fun z9 hz9 => ?_)
      subst hz9
      refine jr_ge (tgt := 55) hx hb dX10_openWeight_12 (by decide) ⟨by omega, by omega⟩ ⟨by omega, by omega⟩ (fun c12 => ?_) (fun c12 => ?_)
      · refine lv_lload_n hx hb dX10_openWeight_55 rfl (lv_at hl 1 rfl) ?_
        exact je_Sl hx hb hr hlk (by obtain rfl : i = ss.length := (by omega); rw [hsS, hnS]; exact hF) dX10_openWeight_56
      · refine lv_aload_n hx hb dX10_openWeight_15 rfl (lv_at hl 2 rfl) ?_
        refine va_get (D := gD g) (ci := 9) (v := .ref (ad 21)) (C := RX10) (T := TX10) (N := 9) hx hb htl ck_X10 hown hKK.k hP 0 rfl rfl 8 (by decide) (htl _ wd_2_11) (fun _ h9 => h9) rfl dX10_openWeight_16 ?_
        refine lv_iload_n hx hb dX10_openWeight_19 rfl (lv_at hl 0 rfl) ?_
        refine jk_Sr (va_runV (As := [vi (i : Int)]) (rest := []) ⟨hx, hb, hml, hown, htl⟩ (m_X0_at l g (ad 21) (ad 23) ss lw2 hL2 hSO hn2 i (by omega)) (cwV 1 htl lk_X10_196 rfl rfl rfl cwV_X0_at ⟨Nat.le_of_ble_eq_true rfl, Nat.le_of_ble_eq_true rfl⟩) (jp_V hKK (va_S.rf (A := jN)) jNb (va_recv hKK.k hP (ci := 0) (q0 := 21) rfl rfl) ⟨(va_P.sub hP [21] rfl), (hP.mem fun q h => List.mem_append_right _ (List.mem_append_right _ h))⟩) rfl rfl hl.1 rfl (lv_room (Nat.le_of_ble_eq_true rfl)) dX10_openWeight_20 ⟨Nat.le_of_ble_eq_true rfl, Nat.le_of_ble_eq_true rfl⟩) (fun z20 hz20 => ?_)
        obtain ⟨q, hq⟩ : ∃ q, ss[i]? = some q := ⟨_, List.getElem?_eq_getElem (show i < ss.length by omega)⟩
        rw [sA_get hq] at hz20
        obtain ⟨sa, tx, txc, ty, tyc, t, f, u, fu, st, un, sc⟩ := q
        obtain ⟨hT, hU, hst, hun, hsc⟩ : TT t f ∧ TT u fu ∧ (0 ≤ st ∧ st < 65536) ∧ (-1 ≤ un ∧ un < 60) ∧ (0 ≤ sc ∧ sc ≤ 100) := hSO _ (List.mem_of_getElem? hq)
        have hsv : sv ss (i) = (t, u, st, un, sc) := sv_get hq
        have hPs : PP g [ob sa 4 [.ref tx, .ref ty, vi st, vi un, vi sc], ob tx 6 [.ref txc, vi (t.length : Int)], aI g txc 60 f, ob ty 6 [.ref tyc, vi (u.length : Int)], aI g tyc 60 fu] s.heap := PP.mem (hP.mem fun q h => List.mem_append_right _ (List.mem_append_right _ h)) (DR.u hq)
        have hz20 : z20 = sa := hz20
        rw [hz20]
        refine lv_astore (lv' := [(4, .ref sa), (3, vi (i : Int)), (1, .long (Int64.ofInt n)), (0, .ref (ad 0))]) hx hb dX10_openWeight_23 hl (by decide) rfl (fun ls hl => ?_)
        refine lv_aload hx hb dX10_openWeight_25 (lv_at hl 0 rfl) ?_
        refine jk_Si (va_runV (As := []) (rest := []) ⟨hx, hb, hml, hown, htl⟩ (m_X4_isEmpty l g sa tx ty st un sc (by omega)) (cwV 0 htl lk_X10_200 rfl rfl rfl cwV_X4_isEmpty ⟨Nat.le_of_ble_eq_true rfl, Nat.le_of_ble_eq_true rfl⟩) (jp_V hKK (va_S.rf (A := jN)) jNb (va_recv hKK.k hPs (ci := 4) (q0 := 0) rfl rfl) (va_P.sub hPs [0] rfl)) rfl rfl hl.1 rfl (lv_room (Nat.le_of_ble_eq_true rfl)) dX10_openWeight_27 ⟨Nat.le_of_ble_eq_true rfl, Nat.le_of_ble_eq_true rfl⟩) (fun z27 hz27 => ?_)
        subst hz27
        refine jr_ifeq (tgt := 49) hx hb dX10_openWeight_30 (by decide) (i01R _) (fun c30 => ?_) (fun c30 => ?_)
        · have c30 := i01f c30
          refine jr_iinc (lv' := [(3, vi ((i : Int) + 1)), (4, .ref sa), (1, .long (Int64.ofInt n)), (0, .ref (ad 0))]) hx hb dX10_openWeight_49 hl (k := 1) rfl rfl (by decide) rfl (fun ls hl => ?_)
          refine lv_goto (tgt := 4) hx hb dX10_openWeight_52 (by decide) ?_
          exact ih4 (i + 1) _ (by omega) (by rw [owA, hF, hsv]; rw [if_neg c30, Int.add_zero]) (by omega) ls (lv_sub hl [0, 2, 3] rfl)
        · have c30 := i01t c30
          refine lv_lload_n hx hb dX10_openWeight_33 rfl (lv_at hl 2 rfl) ?_
          refine lv_aload_n hx hb dX10_openWeight_34 rfl (lv_at hl 3 rfl) ?_
          refine va_get (D := gD g) (ci := 9) (v := .ref (ad 8)) (C := RX10) (T := TX10) (N := 9) hx hb htl ck_X10 hown hKK.k hP 0 rfl rfl 5 (by decide) (htl _ wd_2_1) (fun _ h9 => h9) rfl dX10_openWeight_35 ?_
          refine lv_aload hx hb dX10_openWeight_38 (lv_at hl 0 rfl) ?_
          refine va_get (D := gD g) (ci := 4) (v := .ref tx) (C := RX4) (T := TX4) (N := 5) hx hb htl ck_X4 hown hKK.k hPs 0 rfl rfl 0 (by decide) (htl _ wd_7_14) (fun _ h9 => h9) rfl dX10_openWeight_40 ?_
          refine jk_Si (va_runV (As := [.ref tx]) (rest := [.long (Int64.ofInt n)]) ⟨hx, hb, hml, hown, htl⟩ (m_X9_ofText l g (ad 8) (ad 9) S.2.2.2.1 hw tx txc t f hT ) (cwV 1 htl lk_X10_265 rfl rfl rfl cwV_X9_ofText ⟨Nat.le_of_ble_eq_true rfl, Nat.le_of_ble_eq_true rfl⟩) (jp_V hKK (va_S.rf (A := jN)) jNb (va_recv hKK.k hP (ci := 8) (q0 := 8) rfl rfl) ⟨(va_P.sub hP [8, 9] rfl), (va_P.sub hPs [1, 2] rfl)⟩) rfl rfl hl.1 rfl (lv_room (Nat.le_of_ble_eq_true rfl)) dX10_openWeight_43 ⟨Nat.le_of_ble_eq_true rfl, Nat.le_of_ble_eq_true rfl⟩) (fun z43 hz43 => ?_)
          subst hz43
          have tx := wtA_b hw t 0
          have hLT := hT.len
          refine jr_i2l hx hb ⟨by omega, by omega⟩ dX10_openWeight_46 ?_
          refine jr_ladd hx hb dX10_openWeight_47 ?_
          refine lv_lstore_n (lv' := [(1, .long (Int64.ofInt (n + (wtA S.2.2.2.1 t 0)))), (4, .ref sa), (3, vi (i : Int)), (0, .ref (ad 0))]) hx hb dX10_openWeight_48 rfl hl (by decide) rfl (fun ls hl => ?_)
          refine jr_iinc (lv' := [(3, vi ((i : Int) + 1)), (1, .long (Int64.ofInt (n + (wtA S.2.2.2.1 t 0)))), (4, .ref sa), (0, .ref (ad 0))]) hx hb dX10_openWeight_49 hl (k := 2) rfl rfl (by decide) rfl (fun ls hl => ?_)
          refine lv_goto (tgt := 4) hx hb dX10_openWeight_52 (by decide) ?_
          exact ih4 (i + 1) _ (by omega) (by rw [owA, hF, hsv]; rw [if_pos c30]) (by omega) ls (lv_sub hl [0, 1, 3] rfl)
  exact lp4 _ 0 0 (Nat.zero_le _) (rfl) (Nat.lt_succ_self _) ls (lv_sub hl [0, 1, 2] rfl)
set_option maxHeartbeats 4000000 in
set_option maxRecDepth 100000 in
theorem m_X10_isSound (l : Launch) (hsT : l.stackTraces = false) (g : GT) (o : Nat) (S : SGM) (W9 : va_W) (hCW : CW g o S W9) (sz : Nat) : Met l yX10_isSound (ws_ yX10_isSound cX10_isSound 2 (some .boolean)) (rmm 10 0 0) (jPc g [.ref o] (fun H => H.size = sz ∧ PP g W9 H ∧ va_D (fun q => gb g ≤ q) W9)) (jQi (fun z H1 => (z = 1) ∧ ∃ w1 : va_W, CW g o (S) w1 ∧ PP g w1 H1 ∧ va_D (va_A W9 sz) w1) (va_A W9 sz)) 0 0 (va_A W9 sz) := by
  refine jb_M (by decide) (Nat.le_of_ble_eq_true rfl) ?_
  intro p e s m below meth cq hx hb hr hml hown htl hlk hnm hKK hpre ls hl
  have hown : s.vm.findClass RX10 = some m.cls := hown
  obtain ⟨hsz, hP, hD0⟩ := hpre
  subst hsz
  have hAb : ∀ q, (va_A W9 s.heap.size) q → gb g ≤ q := fun q h => h.elim (fun ⟨k, e, h⟩ => hD0.2 k _ h) (fun h => Nat.le_trans hKK.2.1 h)
  have hD : va_D (va_A W9 s.heap.size) W9 := hD0.self
  generalize hAe : va_A W9 s.heap.size = A at *
  have hA : ∀ q, s.heap.size ≤ q → A q := fun q h => by rw [← hAe]; exact Or.inr h
  have hS : va_S A s.heap s.heap [] := va_S.rf
  have hCW9 := hCW
  obtain ⟨ad, fd, fk, g1, g2, g3, p1, p2, k1, k2, us, ss, lw1, lw2, hW9, ho, ⟨hdr, htk, hk1, hk2⟩, hab, hw, ht, ⟨hus, hss⟩, ⟨hUO, hSO⟩, ⟨hL1, hL2⟩, hn1, hn2⟩ := hCW
  subst hW9
  subst ho
  have hP : PP g ([ob (ad 0) 9 [.ref (ad 1), .ref (ad 3), .ref (ad 5), .ref (ad 6), .ref (ad 7), .ref (ad 8), .ref (ad 13), .ref (ad 16), .ref (ad 21)], ob (ad 1) 6 [.ref (ad 2), vi (S.1.length : Int)], aI g (ad 2) 60 fd, ob (ad 3) 6 [.ref (ad 4), vi (S.2.1.length : Int)], aI g (ad 4) 60 fk, aZ g (ad 5) 100 S.2.2.1, ob (ad 6) 2 [.ref (ad 7), .ref (ad 13), .ref (ad 22)], ob (ad 7) 1 [.ref (ad 8), .ref (ad 10), .ref (ad 11), .ref (ad 12)], ob (ad 8) 8 [.ref (ad 9)], aI g (ad 9) 4 S.2.2.2.1, aI g (ad 10) 61 g1, aI g (ad 11) 61 g2, aI g (ad 12) 60 g3, ob (ad 13) 5 [.ref (ad 14), .ref (ad 15), vi (S.2.2.2.2.1.1 : Int)], aI g (ad 14) 20 S.2.2.2.2.1.2.1, aI g (ad 15) 20 S.2.2.2.2.1.2.2, ob (ad 16) 3 [.ref (ad 17), .ref (ad 19)], ob (ad 17) 6 [.ref (ad 18), vi (p1.length : Int)], aI g (ad 18) 60 k1, ob (ad 19) 6 [.ref (ad 20), vi (p2.length : Int)], aI g (ad 20) 60 k2, ob (ad 21) 0 [.ref (ad 23)]] ++ (MR g us lw1 ++ DR g ss lw2)) s.heap := hP
  have hD : va_D A ([ob (ad 0) 9 [.ref (ad 1), .ref (ad 3), .ref (ad 5), .ref (ad 6), .ref (ad 7), .ref (ad 8), .ref (ad 13), .ref (ad 16), .ref (ad 21)], ob (ad 1) 6 [.ref (ad 2), vi (S.1.length : Int)], aI g (ad 2) 60 fd, ob (ad 3) 6 [.ref (ad 4), vi (S.2.1.length : Int)], aI g (ad 4) 60 fk, aZ g (ad 5) 100 S.2.2.1, ob (ad 6) 2 [.ref (ad 7), .ref (ad 13), .ref (ad 22)], ob (ad 7) 1 [.ref (ad 8), .ref (ad 10), .ref (ad 11), .ref (ad 12)], ob (ad 8) 8 [.ref (ad 9)], aI g (ad 9) 4 S.2.2.2.1, aI g (ad 10) 61 g1, aI g (ad 11) 61 g2, aI g (ad 12) 60 g3, ob (ad 13) 5 [.ref (ad 14), .ref (ad 15), vi (S.2.2.2.2.1.1 : Int)], aI g (ad 14) 20 S.2.2.2.2.1.2.1, aI g (ad 15) 20 S.2.2.2.2.1.2.2, ob (ad 16) 3 [.ref (ad 17), .ref (ad 19)], ob (ad 17) 6 [.ref (ad 18), vi (p1.length : Int)], aI g (ad 18) 60 k1, ob (ad 19) 6 [.ref (ad 20), vi (p2.length : Int)], aI g (ad 20) 60 k2, ob (ad 21) 0 [.ref (ad 23)]] ++ (MR g us lw1 ++ DR g ss lw2)) := hD
  have hl : lv_has ls 2 [(0, .ref (ad 0))] := hl
  have huS := uS_uv hus
  have hsS := sS_sv hss
  have hnU : nU S = us.length := nU_l hus
  have hnS : nS S = ss.length := nS_l hss
  have hdL := hdr.len
  have htL := htk.len
  suffices K : ∀ (H : Heap) (locs : List Loc), PP g ([ob (ad 0) 9 [.ref (ad 1), .ref (ad 3), .ref (ad 5), .ref (ad 6), .ref (ad 7), .ref (ad 8), .ref (ad 13), .ref (ad 16), .ref (ad 21)], ob (ad 1) 6 [.ref (ad 2), vi (S.1.length : Int)], aI g (ad 2) 60 fd, ob (ad 3) 6 [.ref (ad 4), vi (S.2.1.length : Int)], aI g (ad 4) 60 fk, aZ g (ad 5) 100 S.2.2.1, ob (ad 6) 2 [.ref (ad 7), .ref (ad 13), .ref (ad 22)], ob (ad 7) 1 [.ref (ad 8), .ref (ad 10), .ref (ad 11), .ref (ad 12)], ob (ad 8) 8 [.ref (ad 9)], aI g (ad 9) 4 S.2.2.2.1, aI g (ad 10) 61 g1, aI g (ad 11) 61 g2, aI g (ad 12) 60 g3, ob (ad 13) 5 [.ref (ad 14), .ref (ad 15), vi (S.2.2.2.2.1.1 : Int)], aI g (ad 14) 20 S.2.2.2.2.1.2.1, aI g (ad 15) 20 S.2.2.2.2.1.2.2, ob (ad 16) 3 [.ref (ad 17), .ref (ad 19)], ob (ad 17) 6 [.ref (ad 18), vi (p1.length : Int)], aI g (ad 18) 60 k1, ob (ad 19) 6 [.ref (ad 20), vi (p2.length : Int)], aI g (ad 20) 60 k2, ob (ad 21) 0 [.ref (ad 23)]] ++ (MR g us lw1 ++ DR g ss lw2)) H → va_D A ([ob (ad 0) 9 [.ref (ad 1), .ref (ad 3), .ref (ad 5), .ref (ad 6), .ref (ad 7), .ref (ad 8), .ref (ad 13), .ref (ad 16), .ref (ad 21)], ob (ad 1) 6 [.ref (ad 2), vi (S.1.length : Int)], aI g (ad 2) 60 fd, ob (ad 3) 6 [.ref (ad 4), vi (S.2.1.length : Int)], aI g (ad 4) 60 fk, aZ g (ad 5) 100 S.2.2.1, ob (ad 6) 2 [.ref (ad 7), .ref (ad 13), .ref (ad 22)], ob (ad 7) 1 [.ref (ad 8), .ref (ad 10), .ref (ad 11), .ref (ad 12)], ob (ad 8) 8 [.ref (ad 9)], aI g (ad 9) 4 S.2.2.2.1, aI g (ad 10) 61 g1, aI g (ad 11) 61 g2, aI g (ad 12) 60 g3, ob (ad 13) 5 [.ref (ad 14), .ref (ad 15), vi (S.2.2.2.2.1.1 : Int)], aI g (ad 14) 20 S.2.2.2.2.1.2.1, aI g (ad 15) 20 S.2.2.2.2.1.2.2, ob (ad 16) 3 [.ref (ad 17), .ref (ad 19)], ob (ad 17) 6 [.ref (ad 18), vi (p1.length : Int)], aI g (ad 18) 60 k1, ob (ad 19) 6 [.ref (ad 20), vi (p2.length : Int)], aI g (ad 20) 60 k2, ob (ad 21) 0 [.ref (ad 23)]] ++ (MR g us lw1 ++ DR g ss lw2)) → va_S A s.heap H locs → ∀ ls : Array Slot, lv_has ls 2 [(0, .ref (ad 0))] → W p l e (rmm 10 0 0) s m ([.ref (ad 0)] : List Value).toArray below meth cq H locs 0 0 (MQ below (jQi (fun z H1 => (z = 1) ∧ ∃ w1 : va_W, CW g (ad 0) (S) w1 ∧ PP g w1 H1 ∧ va_D A w1) A) ([.ref (ad 0)] : List Value).toArray s 0 0 A) (F0 m 0 ls []) from K _ _ hP hD hS _ hl
  clear hl hP hD hS; intro H locs hP hD hS ls hl
  refine jr_iconst hx hb dX10_isSound_0 ?_
  refine lv_istore_n (lv' := [(1, vi 0), (0, .ref (ad 0))]) hx hb dX10_isSound_1 rfl hl (by decide) rfl (fun ls hl => ?_)
  have lp2 : ∀ (N : Nat) (i : Nat) (h1 h2 h3 : Nat → Int), (i ≤ ss.length) → ss.length - i < N → ∀ (H : Heap) (locs : List Loc), PP g ([ob (ad 0) 9 [.ref (ad 1), .ref (ad 3), .ref (ad 5), .ref (ad 6), .ref (ad 7), .ref (ad 8), .ref (ad 13), .ref (ad 16), .ref (ad 21)], ob (ad 1) 6 [.ref (ad 2), vi (S.1.length : Int)], aI g (ad 2) 60 fd, ob (ad 3) 6 [.ref (ad 4), vi (S.2.1.length : Int)], aI g (ad 4) 60 fk, aZ g (ad 5) 100 S.2.2.1, ob (ad 6) 2 [.ref (ad 7), .ref (ad 13), .ref (ad 22)], ob (ad 7) 1 [.ref (ad 8), .ref (ad 10), .ref (ad 11), .ref (ad 12)], ob (ad 8) 8 [.ref (ad 9)], aI g (ad 9) 4 S.2.2.2.1, aI g (ad 10) 61 h1, aI g (ad 11) 61 h2, aI g (ad 12) 60 h3, ob (ad 13) 5 [.ref (ad 14), .ref (ad 15), vi (S.2.2.2.2.1.1 : Int)], aI g (ad 14) 20 S.2.2.2.2.1.2.1, aI g (ad 15) 20 S.2.2.2.2.1.2.2, ob (ad 16) 3 [.ref (ad 17), .ref (ad 19)], ob (ad 17) 6 [.ref (ad 18), vi (p1.length : Int)], aI g (ad 18) 60 k1, ob (ad 19) 6 [.ref (ad 20), vi (p2.length : Int)], aI g (ad 20) 60 k2, ob (ad 21) 0 [.ref (ad 23)]] ++ (MR g us lw1 ++ DR g ss lw2)) H → va_D A ([ob (ad 0) 9 [.ref (ad 1), .ref (ad 3), .ref (ad 5), .ref (ad 6), .ref (ad 7), .ref (ad 8), .ref (ad 13), .ref (ad 16), .ref (ad 21)], ob (ad 1) 6 [.ref (ad 2), vi (S.1.length : Int)], aI g (ad 2) 60 fd, ob (ad 3) 6 [.ref (ad 4), vi (S.2.1.length : Int)], aI g (ad 4) 60 fk, aZ g (ad 5) 100 S.2.2.1, ob (ad 6) 2 [.ref (ad 7), .ref (ad 13), .ref (ad 22)], ob (ad 7) 1 [.ref (ad 8), .ref (ad 10), .ref (ad 11), .ref (ad 12)], ob (ad 8) 8 [.ref (ad 9)], aI g (ad 9) 4 S.2.2.2.1, aI g (ad 10) 61 h1, aI g (ad 11) 61 h2, aI g (ad 12) 60 h3, ob (ad 13) 5 [.ref (ad 14), .ref (ad 15), vi (S.2.2.2.2.1.1 : Int)], aI g (ad 14) 20 S.2.2.2.2.1.2.1, aI g (ad 15) 20 S.2.2.2.2.1.2.2, ob (ad 16) 3 [.ref (ad 17), .ref (ad 19)], ob (ad 17) 6 [.ref (ad 18), vi (p1.length : Int)], aI g (ad 18) 60 k1, ob (ad 19) 6 [.ref (ad 20), vi (p2.length : Int)], aI g (ad 20) 60 k2, ob (ad 21) 0 [.ref (ad 23)]] ++ (MR g us lw1 ++ DR g ss lw2)) → va_S A s.heap H locs → ∀ ls : Array Slot, lv_has ls 2 [(1, vi (i : Int)), (0, .ref (ad 0))] → W p l e (rmm 10 0 0) s m ([.ref (ad 0)] : List Value).toArray below meth cq H locs 0 0 (MQ below (jQi (fun z H1 => (z = 1) ∧ ∃ w1 : va_W, CW g (ad 0) (S) w1 ∧ PP g w1 H1 ∧ va_D A w1) A) ([.ref (ad 0)] : List Value).toArray s 0 0 A) (F0 m 2 ls []) := by
    intro N
    induction N with
    | zero => intro i h1 h2 h3 hi hM; exact absurd hM (Nat.not_lt_zero _)
    | succ N ih2 =>
      intro i h1 h2 h3 hi hM H locs hP hD hS ls hl
      refine lv_iload_n hx hb dX10_isSound_2 rfl (lv_at hl 0 rfl) ?_
      refine lv_aload_n hx hb dX10_isSound_3 rfl (lv_at hl 1 rfl) ?_
      refine va_get (D := gD g) (ci := 9) (v := .ref (ad 21)) (C := RX10) (T := TX10) (N := 9) hx hb htl ck_X10 hown hKK.k hP 0 rfl rfl 8 (by decide) (htl _ wd_2_11) (fun _ h9 => h9) rfl dX10_isSound_4 ?_
      refine jk_Si (va_runV (As := []) (rest := [vi (i : Int)]) ⟨hx, hb, hml, hown, htl⟩ (m_X0_size l g (ad 21) (ad 23) ss lw2 hL2 hSO hn2 ) (cwV 0 htl lk_X10_193 rfl rfl rfl cwV_X0_size ⟨Nat.le_of_ble_eq_true rfl, Nat.le_of_ble_eq_true rfl⟩) (jp_V hKK hS hAb (va_recv hKK.k hP (ci := 0) (q0 := 21) rfl rfl) ⟨(va_P.sub hP [21] rfl), (hP.mem fun q h => List.mem_append_right _ (List.mem_append_right _ h))⟩) rfl rfl hl.1 rfl (lv_room (Nat.le_of_ble_eq_true rfl)) dX10_isSound_7 ⟨Nat.le_of_ble_eq_true rfl, Nat.le_of_ble_eq_true rfl⟩) (fun z7 hz7 => ?_)
      subst hz7
      refine jr_ge (tgt := 42) hx hb dX10_isSound_10 (by decide) ⟨by omega, by omega⟩ ⟨by omega, by omega⟩ (fun c10 => ?_) (fun c10 => ?_)
      · refine jr_iconst hx hb dX10_isSound_42 ?_
        exact je_Qi hx hb hr hlk (nz_b (by omega)).1 hS (⟨rfl, ⟨_, ⟨ad, fd, fk, h1, h2, h3, p1, p2, k1, k2, us, ss, lw1, lw2, rfl, rfl, ⟨hdr, htk, hk1, hk2⟩, hab, hw, ht, ⟨hus, hss⟩, ⟨hUO, hSO⟩, ⟨hL1, hL2⟩, hn1, hn2⟩, hP, hD⟩⟩) dX10_isSound_43
      · refine lv_aload_n hx hb dX10_isSound_13 rfl (lv_at hl 1 rfl) ?_
        refine va_get (D := gD g) (ci := 9) (v := .ref (ad 6)) (C := RX10) (T := TX10) (N := 9) hx hb htl ck_X10 hown hKK.k hP 0 rfl rfl 3 (by decide) (htl _ wd_1_21) (fun _ h9 => h9) rfl dX10_isSound_14 ?_
        refine lv_aload_n hx hb dX10_isSound_17 rfl (lv_at hl 1 rfl) ?_
        refine va_get (D := gD g) (ci := 9) (v := .ref (ad 21)) (C := RX10) (T := TX10) (N := 9) hx hb htl ck_X10 hown hKK.k hP 0 rfl rfl 8 (by decide) (htl _ wd_2_11) (fun _ h9 => h9) rfl dX10_isSound_18 ?_
        refine lv_iload_n hx hb dX10_isSound_21 rfl (lv_at hl 0 rfl) ?_
        refine jk_Sr (va_runV (As := [vi (i : Int)]) (rest := [.ref (ad 6)]) ⟨hx, hb, hml, hown, htl⟩ (m_X0_at l g (ad 21) (ad 23) ss lw2 hL2 hSO hn2 i (by omega)) (cwV 1 htl lk_X10_196 rfl rfl rfl cwV_X0_at ⟨Nat.le_of_ble_eq_true rfl, Nat.le_of_ble_eq_true rfl⟩) (jp_V hKK hS hAb (va_recv hKK.k hP (ci := 0) (q0 := 21) rfl rfl) ⟨(va_P.sub hP [21] rfl), (hP.mem fun q h => List.mem_append_right _ (List.mem_append_right _ h))⟩) rfl rfl hl.1 rfl (lv_room (Nat.le_of_ble_eq_true rfl)) dX10_isSound_22 ⟨Nat.le_of_ble_eq_true rfl, Nat.le_of_ble_eq_true rfl⟩) (fun z22 hz22 => ?_)
        obtain ⟨q, hq⟩ : ∃ q, ss[i]? = some q := ⟨_, List.getElem?_eq_getElem (show i < ss.length by omega)⟩
        rw [sA_get hq] at hz22
        obtain ⟨sa, tx, txc, ty, tyc, t, f, u, fu, st, un, sc⟩ := q
        obtain ⟨hT, hU, hst, hun, hsc⟩ : TT t f ∧ TT u fu ∧ (0 ≤ st ∧ st < 65536) ∧ (-1 ≤ un ∧ un < 60) ∧ (0 ≤ sc ∧ sc ≤ 100) := hSO _ (List.mem_of_getElem? hq)
        have hsv : sv ss (i) = (t, u, st, un, sc) := sv_get hq
        have hz22 : z22 = sa := hz22
        rw [hz22]
        obtain ⟨r9, hr1, hr2, hr3, hr4⟩ := DR.cut (g := g) (lw := lw2) hq
        have hP : PP g ([ob (ad 0) 9 [.ref (ad 1), .ref (ad 3), .ref (ad 5), .ref (ad 6), .ref (ad 7), .ref (ad 8), .ref (ad 13), .ref (ad 16), .ref (ad 21)], ob (ad 1) 6 [.ref (ad 2), vi (S.1.length : Int)], aI g (ad 2) 60 fd, ob (ad 3) 6 [.ref (ad 4), vi (S.2.1.length : Int)], aI g (ad 4) 60 fk, aZ g (ad 5) 100 S.2.2.1, ob (ad 6) 2 [.ref (ad 7), .ref (ad 13), .ref (ad 22)], ob (ad 7) 1 [.ref (ad 8), .ref (ad 10), .ref (ad 11), .ref (ad 12)], ob (ad 8) 8 [.ref (ad 9)], aI g (ad 9) 4 S.2.2.2.1, aI g (ad 10) 61 h1, aI g (ad 11) 61 h2, aI g (ad 12) 60 h3, ob (ad 13) 5 [.ref (ad 14), .ref (ad 15), vi (S.2.2.2.2.1.1 : Int)], aI g (ad 14) 20 S.2.2.2.2.1.2.1, aI g (ad 15) 20 S.2.2.2.2.1.2.2, ob (ad 16) 3 [.ref (ad 17), .ref (ad 19)], ob (ad 17) 6 [.ref (ad 18), vi (p1.length : Int)], aI g (ad 18) 60 k1, ob (ad 19) 6 [.ref (ad 20), vi (p2.length : Int)], aI g (ad 20) 60 k2, ob (ad 21) 0 [.ref (ad 23)], ob sa 4 [.ref tx, .ref ty, vi st, vi un, vi sc], ob tx 6 [.ref txc, vi (t.length : Int)], aI g txc 60 f, ob ty 6 [.ref tyc, vi (u.length : Int)], aI g tyc 60 fu] ++ (MR g us lw1 ++ r9)) H := hP.perm (pm_cutD hr1)
        have hD : va_D A ([ob (ad 0) 9 [.ref (ad 1), .ref (ad 3), .ref (ad 5), .ref (ad 6), .ref (ad 7), .ref (ad 8), .ref (ad 13), .ref (ad 16), .ref (ad 21)], ob (ad 1) 6 [.ref (ad 2), vi (S.1.length : Int)], aI g (ad 2) 60 fd, ob (ad 3) 6 [.ref (ad 4), vi (S.2.1.length : Int)], aI g (ad 4) 60 fk, aZ g (ad 5) 100 S.2.2.1, ob (ad 6) 2 [.ref (ad 7), .ref (ad 13), .ref (ad 22)], ob (ad 7) 1 [.ref (ad 8), .ref (ad 10), .ref (ad 11), .ref (ad 12)], ob (ad 8) 8 [.ref (ad 9)], aI g (ad 9) 4 S.2.2.2.1, aI g (ad 10) 61 h1, aI g (ad 11) 61 h2, aI g (ad 12) 60 h3, ob (ad 13) 5 [.ref (ad 14), .ref (ad 15), vi (S.2.2.2.2.1.1 : Int)], aI g (ad 14) 20 S.2.2.2.2.1.2.1, aI g (ad 15) 20 S.2.2.2.2.1.2.2, ob (ad 16) 3 [.ref (ad 17), .ref (ad 19)], ob (ad 17) 6 [.ref (ad 18), vi (p1.length : Int)], aI g (ad 18) 60 k1, ob (ad 19) 6 [.ref (ad 20), vi (p2.length : Int)], aI g (ad 20) 60 k2, ob (ad 21) 0 [.ref (ad 23)], ob sa 4 [.ref tx, .ref ty, vi st, vi un, vi sc], ob tx 6 [.ref txc, vi (t.length : Int)], aI g txc 60 f, ob ty 6 [.ref tyc, vi (u.length : Int)], aI g tyc 60 fu] ++ (MR g us lw1 ++ r9)) := hD.perm (pm_cutD hr1)
        refine va_get (D := gD g) (ci := 4) (v := .ref tx) (C := RX4) (T := TX4) (N := 5) hx hb htl ck_X4 hown hKK.k hP 22 rfl rfl 0 (by decide) (htl _ wd_7_14) (fun _ h9 => h9) rfl dX10_isSound_25 ?_
        have hDc : va_D A [aI g (ad 10) 61 h1, aI g (ad 11) 61 h2, aI g (ad 12) 60 h3] := hD.sub [10, 11, 12] (by decide) rfl
        refine jk_Qi (va_runV (As := [.ref tx]) (rest := []) ⟨hx, hb, hml, hown, htl⟩ (m_X2_agreesOn l g (ad 6) (ad 13) (ad 22) us lw1 hL1 hUO (by omega) (ad 7) (ad 8) (ad 9) (ad 10) (ad 11) (ad 12) S.2.2.2.1 hw h1 h2 h3 (ad 14) (ad 15) S.2.2.2.2.1.1 S.2.2.2.2.1.2.1 S.2.2.2.2.1.2.2 ht tx txc t f hT (jdis hD [6] [10, 11, 12] rfl rfl (by decide)) (jdisT hD (fun q h => List.mem_append_left _ h) [10, 11, 12] rfl) (jdis hD [7, 8, 9] [10, 11, 12] rfl rfl (by decide)) (jdis hD [13, 14, 15] [10, 11, 12] rfl rfl (by decide)) (jdis hD [23, 24] [10, 11, 12] rfl rfl (by decide))) (cwV 1 htl lk_X10_281 rfl rfl rfl cwV_X2_agreesOn ⟨Nat.le_of_ble_eq_true rfl, Nat.le_of_ble_eq_true rfl⟩) (jp_V hKK hS hAb (va_recv hKK.k hP (ci := 2) (q0 := 6) rfl rfl) ⟨(va_P.sub hP [10, 11, 12] rfl), hDc.weaken (fun _ q _ h => hAb _ h), (va_P.sub hP [6] rfl), (hP.mem fun q h => List.mem_append_right _ (List.mem_append_left _ h)), (va_P.sub hP [7, 8, 9] rfl), (va_P.sub hP [13, 14, 15] rfl), (va_P.sub hP [23, 24] rfl)⟩) rfl rfl hl.1 rfl (lv_room (Nat.le_of_ble_eq_true rfl)) dX10_isSound_28 ⟨Nat.le_of_ble_eq_true rfl, Nat.le_of_ble_eq_true rfl⟩) hS (fun q _ h => hDc.inA h) (fun q h => hDc.inA h) (fun z28 H1 locs hz28 hzs hks hS => ?_)
        obtain ⟨hz28, gr1_28, gr2_28, gr3_28, hP1⟩ := hz28
        obtain ⟨hP, hD⟩ := jput (wc := [aI g (ad 10) 61 h1, aI g (ad 11) 61 h2, aI g (ad 12) 60 h3]) (w1 := [aI g (ad 10) 61 gr1_28, aI g (ad 11) 61 gr2_28, aI g (ad 12) 60 gr3_28]) hP hD [10, 11, 12] rfl rfl hks (fun q _ h => h) hP1
        clear hzs hks; generalize H1 = H at hP hD hS ⊢
        have hP : PP g ([ob (ad 0) 9 [.ref (ad 1), .ref (ad 3), .ref (ad 5), .ref (ad 6), .ref (ad 7), .ref (ad 8), .ref (ad 13), .ref (ad 16), .ref (ad 21)], ob (ad 1) 6 [.ref (ad 2), vi (S.1.length : Int)], aI g (ad 2) 60 fd, ob (ad 3) 6 [.ref (ad 4), vi (S.2.1.length : Int)], aI g (ad 4) 60 fk, aZ g (ad 5) 100 S.2.2.1, ob (ad 6) 2 [.ref (ad 7), .ref (ad 13), .ref (ad 22)], ob (ad 7) 1 [.ref (ad 8), .ref (ad 10), .ref (ad 11), .ref (ad 12)], ob (ad 8) 8 [.ref (ad 9)], aI g (ad 9) 4 S.2.2.2.1, aI g (ad 10) 61 gr1_28, aI g (ad 11) 61 gr2_28, aI g (ad 12) 60 gr3_28, ob (ad 13) 5 [.ref (ad 14), .ref (ad 15), vi (S.2.2.2.2.1.1 : Int)], aI g (ad 14) 20 S.2.2.2.2.1.2.1, aI g (ad 15) 20 S.2.2.2.2.1.2.2, ob (ad 16) 3 [.ref (ad 17), .ref (ad 19)], ob (ad 17) 6 [.ref (ad 18), vi (p1.length : Int)], aI g (ad 18) 60 k1, ob (ad 19) 6 [.ref (ad 20), vi (p2.length : Int)], aI g (ad 20) 60 k2, ob (ad 21) 0 [.ref (ad 23)], ob sa 4 [.ref tx, .ref ty, vi st, vi un, vi sc], ob tx 6 [.ref txc, vi (t.length : Int)], aI g txc 60 f, ob ty 6 [.ref tyc, vi (u.length : Int)], aI g tyc 60 fu] ++ (MR g us lw1 ++ r9)) H := hP
        have hD : va_D A ([ob (ad 0) 9 [.ref (ad 1), .ref (ad 3), .ref (ad 5), .ref (ad 6), .ref (ad 7), .ref (ad 8), .ref (ad 13), .ref (ad 16), .ref (ad 21)], ob (ad 1) 6 [.ref (ad 2), vi (S.1.length : Int)], aI g (ad 2) 60 fd, ob (ad 3) 6 [.ref (ad 4), vi (S.2.1.length : Int)], aI g (ad 4) 60 fk, aZ g (ad 5) 100 S.2.2.1, ob (ad 6) 2 [.ref (ad 7), .ref (ad 13), .ref (ad 22)], ob (ad 7) 1 [.ref (ad 8), .ref (ad 10), .ref (ad 11), .ref (ad 12)], ob (ad 8) 8 [.ref (ad 9)], aI g (ad 9) 4 S.2.2.2.1, aI g (ad 10) 61 gr1_28, aI g (ad 11) 61 gr2_28, aI g (ad 12) 60 gr3_28, ob (ad 13) 5 [.ref (ad 14), .ref (ad 15), vi (S.2.2.2.2.1.1 : Int)], aI g (ad 14) 20 S.2.2.2.2.1.2.1, aI g (ad 15) 20 S.2.2.2.2.1.2.2, ob (ad 16) 3 [.ref (ad 17), .ref (ad 19)], ob (ad 17) 6 [.ref (ad 18), vi (p1.length : Int)], aI g (ad 18) 60 k1, ob (ad 19) 6 [.ref (ad 20), vi (p2.length : Int)], aI g (ad 20) 60 k2, ob (ad 21) 0 [.ref (ad 23)], ob sa 4 [.ref tx, .ref ty, vi st, vi un, vi sc], ob tx 6 [.ref txc, vi (t.length : Int)], aI g txc 60 f, ob ty 6 [.ref tyc, vi (u.length : Int)], aI g tyc 60 fu] ++ (MR g us lw1 ++ r9)) := hD
        subst hz28
        refine jr_ifne (tgt := 36) hx hb dX10_isSound_31 (by decide) ⟨by omega, by omega⟩ (fun c31 => ?_) (fun c31 => absurd c31 (by omega))
        have hP : PP g ([ob (ad 0) 9 [.ref (ad 1), .ref (ad 3), .ref (ad 5), .ref (ad 6), .ref (ad 7), .ref (ad 8), .ref (ad 13), .ref (ad 16), .ref (ad 21)], ob (ad 1) 6 [.ref (ad 2), vi (S.1.length : Int)], aI g (ad 2) 60 fd, ob (ad 3) 6 [.ref (ad 4), vi (S.2.1.length : Int)], aI g (ad 4) 60 fk, aZ g (ad 5) 100 S.2.2.1, ob (ad 6) 2 [.ref (ad 7), .ref (ad 13), .ref (ad 22)], ob (ad 7) 1 [.ref (ad 8), .ref (ad 10), .ref (ad 11), .ref (ad 12)], ob (ad 8) 8 [.ref (ad 9)], aI g (ad 9) 4 S.2.2.2.1, aI g (ad 10) 61 gr1_28, aI g (ad 11) 61 gr2_28, aI g (ad 12) 60 gr3_28, ob (ad 13) 5 [.ref (ad 14), .ref (ad 15), vi (S.2.2.2.2.1.1 : Int)], aI g (ad 14) 20 S.2.2.2.2.1.2.1, aI g (ad 15) 20 S.2.2.2.2.1.2.2, ob (ad 16) 3 [.ref (ad 17), .ref (ad 19)], ob (ad 17) 6 [.ref (ad 18), vi (p1.length : Int)], aI g (ad 18) 60 k1, ob (ad 19) 6 [.ref (ad 20), vi (p2.length : Int)], aI g (ad 20) 60 k2, ob (ad 21) 0 [.ref (ad 23)]] ++ (MR g us lw1 ++ DR g ss lw2)) H := hP.perm (pm_backD (ls := [ob (ad 0) 9 [.ref (ad 1), .ref (ad 3), .ref (ad 5), .ref (ad 6), .ref (ad 7), .ref (ad 8), .ref (ad 13), .ref (ad 16), .ref (ad 21)], ob (ad 1) 6 [.ref (ad 2), vi (S.1.length : Int)], aI g (ad 2) 60 fd, ob (ad 3) 6 [.ref (ad 4), vi (S.2.1.length : Int)], aI g (ad 4) 60 fk, aZ g (ad 5) 100 S.2.2.1, ob (ad 6) 2 [.ref (ad 7), .ref (ad 13), .ref (ad 22)], ob (ad 7) 1 [.ref (ad 8), .ref (ad 10), .ref (ad 11), .ref (ad 12)], ob (ad 8) 8 [.ref (ad 9)], aI g (ad 9) 4 S.2.2.2.1, aI g (ad 10) 61 gr1_28, aI g (ad 11) 61 gr2_28, aI g (ad 12) 60 gr3_28, ob (ad 13) 5 [.ref (ad 14), .ref (ad 15), vi (S.2.2.2.2.1.1 : Int)], aI g (ad 14) 20 S.2.2.2.2.1.2.1, aI g (ad 15) 20 S.2.2.2.2.1.2.2, ob (ad 16) 3 [.ref (ad 17), .ref (ad 19)], ob (ad 17) 6 [.ref (ad 18), vi (p1.length : Int)], aI g (ad 18) 60 k1, ob (ad 19) 6 [.ref (ad 20), vi (p2.length : Int)], aI g (ad 20) 60 k2, ob (ad 21) 0 [.ref (ad 23)]]) (C := [ob sa 4 [.ref tx, .ref ty, vi st, vi un, vi sc], ob tx 6 [.ref txc, vi (t.length : Int)], aI g txc 60 f, ob ty 6 [.ref tyc, vi (u.length : Int)], aI g tyc 60 fu]) (hr1.symm))
        have hD : va_D A ([ob (ad 0) 9 [.ref (ad 1), .ref (ad 3), .ref (ad 5), .ref (ad 6), .ref (ad 7), .ref (ad 8), .ref (ad 13), .ref (ad 16), .ref (ad 21)], ob (ad 1) 6 [.ref (ad 2), vi (S.1.length : Int)], aI g (ad 2) 60 fd, ob (ad 3) 6 [.ref (ad 4), vi (S.2.1.length : Int)], aI g (ad 4) 60 fk, aZ g (ad 5) 100 S.2.2.1, ob (ad 6) 2 [.ref (ad 7), .ref (ad 13), .ref (ad 22)], ob (ad 7) 1 [.ref (ad 8), .ref (ad 10), .ref (ad 11), .ref (ad 12)], ob (ad 8) 8 [.ref (ad 9)], aI g (ad 9) 4 S.2.2.2.1, aI g (ad 10) 61 gr1_28, aI g (ad 11) 61 gr2_28, aI g (ad 12) 60 gr3_28, ob (ad 13) 5 [.ref (ad 14), .ref (ad 15), vi (S.2.2.2.2.1.1 : Int)], aI g (ad 14) 20 S.2.2.2.2.1.2.1, aI g (ad 15) 20 S.2.2.2.2.1.2.2, ob (ad 16) 3 [.ref (ad 17), .ref (ad 19)], ob (ad 17) 6 [.ref (ad 18), vi (p1.length : Int)], aI g (ad 18) 60 k1, ob (ad 19) 6 [.ref (ad 20), vi (p2.length : Int)], aI g (ad 20) 60 k2, ob (ad 21) 0 [.ref (ad 23)]] ++ (MR g us lw1 ++ DR g ss lw2)) := hD.perm (pm_backD (ls := [ob (ad 0) 9 [.ref (ad 1), .ref (ad 3), .ref (ad 5), .ref (ad 6), .ref (ad 7), .ref (ad 8), .ref (ad 13), .ref (ad 16), .ref (ad 21)], ob (ad 1) 6 [.ref (ad 2), vi (S.1.length : Int)], aI g (ad 2) 60 fd, ob (ad 3) 6 [.ref (ad 4), vi (S.2.1.length : Int)], aI g (ad 4) 60 fk, aZ g (ad 5) 100 S.2.2.1, ob (ad 6) 2 [.ref (ad 7), .ref (ad 13), .ref (ad 22)], ob (ad 7) 1 [.ref (ad 8), .ref (ad 10), .ref (ad 11), .ref (ad 12)], ob (ad 8) 8 [.ref (ad 9)], aI g (ad 9) 4 S.2.2.2.1, aI g (ad 10) 61 gr1_28, aI g (ad 11) 61 gr2_28, aI g (ad 12) 60 gr3_28, ob (ad 13) 5 [.ref (ad 14), .ref (ad 15), vi (S.2.2.2.2.1.1 : Int)], aI g (ad 14) 20 S.2.2.2.2.1.2.1, aI g (ad 15) 20 S.2.2.2.2.1.2.2, ob (ad 16) 3 [.ref (ad 17), .ref (ad 19)], ob (ad 17) 6 [.ref (ad 18), vi (p1.length : Int)], aI g (ad 18) 60 k1, ob (ad 19) 6 [.ref (ad 20), vi (p2.length : Int)], aI g (ad 20) 60 k2, ob (ad 21) 0 [.ref (ad 23)]]) (C := [ob sa 4 [.ref tx, .ref ty, vi st, vi un, vi sc], ob tx 6 [.ref txc, vi (t.length : Int)], aI g txc 60 f, ob ty 6 [.ref tyc, vi (u.length : Int)], aI g tyc 60 fu]) (hr1.symm))
        refine jr_iinc (lv' := [(1, vi ((i : Int) + 1)), (0, .ref (ad 0))]) hx hb dX10_isSound_36 hl (k := 0) rfl rfl (by decide) rfl (fun ls hl => ?_)
        refine lv_goto (tgt := 2) hx hb dX10_isSound_39 (by decide) ?_
        exact ih2 (i + 1) _ _ _ (by omega) (by omega) _ _ hP hD hS ls (lv_sub hl [0, 1] rfl)
  exact lp2 _ 0 g1 g2 g3 (Nat.zero_le _) (Nat.lt_succ_self _) _ _ hP hD hS ls (lv_sub hl [0, 1] rfl)
set_option maxHeartbeats 4000000 in
set_option maxRecDepth 100000 in
theorem m_X10_best (l : Launch) (hsT : l.stackTraces = false) (g : GT) (o : Nat) (S : SGM) (W9 : va_W) (hCW : CW g o S W9) (sz : Nat) : vx_Met l yX10_best (ws_ yX10_best cX10_best 1 (some .int)) (rmm 8 2 12) (jPc g [.ref o] (fun H => H.size = sz ∧ PP g W9 H ∧ va_D (fun q => gb g ≤ q) W9)) (jQi (fun z H1 => ((cdBest S) = 0 ∧ z = bsU S S.1) ∧ ∃ w1 : va_W, CW g o (S) w1 ∧ PP g w1 H1 ∧ va_D (va_A W9 sz) w1) (va_A W9 sz)) (jXw (fun E => (E = eIS ∧ (cdBest S) = 1) ∨ (E = eNS ∧ (cdBest S) = 2)) (fun H1 => ∃ w1 : va_W, CW g o S w1 ∧ PP g w1 H1 ∧ va_D (va_A W9 sz) w1) (va_A W9 sz)) 2 12 (va_A W9 sz) := by
  refine jb_X (by decide) (Nat.le_of_ble_eq_true rfl) ?_
  intro p e s m below meth cq hx hb hr hml hown htl hlk htab hKK hpre ls hl
  have hown : s.vm.findClass RX10 = some m.cls := hown
  obtain ⟨hsz, hP, hD0⟩ := hpre
  subst hsz
  have hAb : ∀ q, (va_A W9 s.heap.size) q → gb g ≤ q := fun q h => h.elim (fun ⟨k, e, h⟩ => hD0.2 k _ h) (fun h => Nat.le_trans hKK.2.1 h)
  have hD : va_D (va_A W9 s.heap.size) W9 := hD0.self
  generalize hAe : va_A W9 s.heap.size = A at *
  have hA : ∀ q, s.heap.size ≤ q → A q := fun q h => by rw [← hAe]; exact Or.inr h
  have hS : va_S A s.heap s.heap [] := va_S.rf
  have hCW9 := hCW
  obtain ⟨ad, fd, fk, g1, g2, g3, p1, p2, k1, k2, us, ss, lw1, lw2, hW9, ho, ⟨hdr, htk, hk1, hk2⟩, hab, hw, ht, ⟨hus, hss⟩, ⟨hUO, hSO⟩, ⟨hL1, hL2⟩, hn1, hn2⟩ := hCW
  subst hW9
  subst ho
  have hP : PP g ([ob (ad 0) 9 [.ref (ad 1), .ref (ad 3), .ref (ad 5), .ref (ad 6), .ref (ad 7), .ref (ad 8), .ref (ad 13), .ref (ad 16), .ref (ad 21)], ob (ad 1) 6 [.ref (ad 2), vi (S.1.length : Int)], aI g (ad 2) 60 fd, ob (ad 3) 6 [.ref (ad 4), vi (S.2.1.length : Int)], aI g (ad 4) 60 fk, aZ g (ad 5) 100 S.2.2.1, ob (ad 6) 2 [.ref (ad 7), .ref (ad 13), .ref (ad 22)], ob (ad 7) 1 [.ref (ad 8), .ref (ad 10), .ref (ad 11), .ref (ad 12)], ob (ad 8) 8 [.ref (ad 9)], aI g (ad 9) 4 S.2.2.2.1, aI g (ad 10) 61 g1, aI g (ad 11) 61 g2, aI g (ad 12) 60 g3, ob (ad 13) 5 [.ref (ad 14), .ref (ad 15), vi (S.2.2.2.2.1.1 : Int)], aI g (ad 14) 20 S.2.2.2.2.1.2.1, aI g (ad 15) 20 S.2.2.2.2.1.2.2, ob (ad 16) 3 [.ref (ad 17), .ref (ad 19)], ob (ad 17) 6 [.ref (ad 18), vi (p1.length : Int)], aI g (ad 18) 60 k1, ob (ad 19) 6 [.ref (ad 20), vi (p2.length : Int)], aI g (ad 20) 60 k2, ob (ad 21) 0 [.ref (ad 23)]] ++ (MR g us lw1 ++ DR g ss lw2)) s.heap := hP
  have hD : va_D A ([ob (ad 0) 9 [.ref (ad 1), .ref (ad 3), .ref (ad 5), .ref (ad 6), .ref (ad 7), .ref (ad 8), .ref (ad 13), .ref (ad 16), .ref (ad 21)], ob (ad 1) 6 [.ref (ad 2), vi (S.1.length : Int)], aI g (ad 2) 60 fd, ob (ad 3) 6 [.ref (ad 4), vi (S.2.1.length : Int)], aI g (ad 4) 60 fk, aZ g (ad 5) 100 S.2.2.1, ob (ad 6) 2 [.ref (ad 7), .ref (ad 13), .ref (ad 22)], ob (ad 7) 1 [.ref (ad 8), .ref (ad 10), .ref (ad 11), .ref (ad 12)], ob (ad 8) 8 [.ref (ad 9)], aI g (ad 9) 4 S.2.2.2.1, aI g (ad 10) 61 g1, aI g (ad 11) 61 g2, aI g (ad 12) 60 g3, ob (ad 13) 5 [.ref (ad 14), .ref (ad 15), vi (S.2.2.2.2.1.1 : Int)], aI g (ad 14) 20 S.2.2.2.2.1.2.1, aI g (ad 15) 20 S.2.2.2.2.1.2.2, ob (ad 16) 3 [.ref (ad 17), .ref (ad 19)], ob (ad 17) 6 [.ref (ad 18), vi (p1.length : Int)], aI g (ad 18) 60 k1, ob (ad 19) 6 [.ref (ad 20), vi (p2.length : Int)], aI g (ad 20) 60 k2, ob (ad 21) 0 [.ref (ad 23)]] ++ (MR g us lw1 ++ DR g ss lw2)) := hD
  have hl : lv_has ls 1 [(0, .ref (ad 0))] := hl
  have huS := uS_uv hus
  have hsS := sS_sv hss
  have hnU : nU S = us.length := nU_l hus
  have hnS : nS S = ss.length := nS_l hss
  have hdL := hdr.len
  have htL := htk.len
  refine lv_aload_n hx hb dX10_best_0 rfl (lv_at hl 0 rfl) ?_
  refine jk_XSvW (vx_runV (As := []) (rest := []) ⟨hx, hb, hml, hown, htl⟩ (m_X10_requireDraft l hsT g (ad 0) (ad 1) (ad 3) (ad 5) (ad 6) (ad 7) (ad 8) (ad 13) (ad 16) (ad 21) (ad 2) S.1 fd hdr) (cwV 0 htl lk_X10_116 rfl rfl rfl cwV_X10_requireDraft ⟨Nat.le_of_ble_eq_true rfl, Nat.le_of_ble_eq_true rfl⟩) (jp_V hKK (va_S.rf (A := jN)) jNb (va_recv hKK.k hP (ci := 9) (q0 := 0) rfl rfl) ⟨(va_P.sub hP [0] rfl), (va_P.sub hP [1, 2] rfl)⟩) rfl rfl hl.1 rfl (lv_room (Nat.le_of_ble_eq_true rfl)) dX10_best_1 ⟨Nat.le_of_ble_eq_true rfl, Nat.le_of_ble_eq_true rfl⟩) htab hlk (fun E t h h1 h2 => jXw_mk (Or.inl ⟨h.1, by have h9 := h.2; unfold cdBest; rw [if_pos h9]⟩) hS hP hD hCW9 h1 h2) hS.2.2 (by omega) (by omega) (fun hz1 => ?_)
  refine lv_aload_n hx hb dX10_best_4 rfl (lv_at hl 0 rfl) ?_
  refine va_get (D := gD g) (ci := 9) (v := .ref (ad 6)) (C := RX10) (T := TX10) (N := 9) hx hb htl ck_X10 hown hKK.k hP 0 rfl rfl 3 (by decide) (htl _ wd_1_21) (fun _ h9 => h9) rfl dX10_best_5 ?_
  refine lv_aload_n hx hb dX10_best_8 rfl (lv_at hl 0 rfl) ?_
  refine va_get (D := gD g) (ci := 9) (v := .ref (ad 1)) (C := RX10) (T := TX10) (N := 9) hx hb htl ck_X10 hown hKK.k hP 0 rfl rfl 0 (by decide) (htl _ wd_1_14) (fun _ h9 => h9) rfl dX10_best_9 ?_
  have hDc : va_D A [aI g (ad 10) 61 g1, aI g (ad 11) 61 g2, aI g (ad 12) 60 g3] := hD.sub [10, 11, 12] (by decide) rfl
  refine jk_Qi (va_runV (As := [.ref (ad 1)]) (rest := []) ⟨hx, hb, hml, hown, htl⟩ (m_X2_findByBounds l g (ad 6) (ad 13) (ad 22) us lw1 hL1 hUO (by omega) (ad 7) (ad 8) (ad 9) (ad 10) (ad 11) (ad 12) S.2.2.2.1 hw g1 g2 g3 (ad 14) (ad 15) S.2.2.2.2.1.1 S.2.2.2.2.1.2.1 S.2.2.2.2.1.2.2 ht (ad 1) (ad 2) S.1 fd hdr (jdis hD [6] [10, 11, 12] rfl rfl (by decide)) (jdisT hD (fun q h => List.mem_append_left _ h) [10, 11, 12] rfl) (jdis hD [7, 8, 9] [10, 11, 12] rfl rfl (by decide)) (jdis hD [13, 14, 15] [10, 11, 12] rfl rfl (by decide)) (jdis hD [1, 2] [10, 11, 12] rfl rfl (by decide))) (cwV 1 htl lk_X10_179 rfl rfl rfl cwV_X2_findByBounds ⟨Nat.le_of_ble_eq_true rfl, Nat.le_of_ble_eq_true rfl⟩) (jp_V hKK (va_S.rf (A := jN)) jNb (va_recv hKK.k hP (ci := 2) (q0 := 6) rfl rfl) ⟨(va_P.sub hP [10, 11, 12] rfl), hDc.weaken (fun _ q _ h => hAb _ h), (va_P.sub hP [6] rfl), (hP.mem fun q h => List.mem_append_right _ (List.mem_append_left _ h)), (va_P.sub hP [7, 8, 9] rfl), (va_P.sub hP [13, 14, 15] rfl), (va_P.sub hP [1, 2] rfl)⟩) rfl rfl hl.1 rfl (lv_room (Nat.le_of_ble_eq_true rfl)) dX10_best_12 ⟨Nat.le_of_ble_eq_true rfl, Nat.le_of_ble_eq_true rfl⟩) hS (fun q _ h => hDc.inA h) (fun q h => hDc.inA h) (fun z12 H1 locs hz12 hzs hks hS => ?_)
  obtain ⟨hz12, gr1_12, gr2_12, gr3_12, hP1⟩ := hz12
  obtain ⟨hP, hD⟩ := jput (wc := [aI g (ad 10) 61 g1, aI g (ad 11) 61 g2, aI g (ad 12) 60 g3]) (w1 := [aI g (ad 10) 61 gr1_12, aI g (ad 11) 61 gr2_12, aI g (ad 12) 60 gr3_12]) hP hD [10, 11, 12] rfl rfl hks (fun q _ h => h) hP1
  clear hzs hks; generalize H1 = H at hP hD hS ⊢
  have hP : PP g ([ob (ad 0) 9 [.ref (ad 1), .ref (ad 3), .ref (ad 5), .ref (ad 6), .ref (ad 7), .ref (ad 8), .ref (ad 13), .ref (ad 16), .ref (ad 21)], ob (ad 1) 6 [.ref (ad 2), vi (S.1.length : Int)], aI g (ad 2) 60 fd, ob (ad 3) 6 [.ref (ad 4), vi (S.2.1.length : Int)], aI g (ad 4) 60 fk, aZ g (ad 5) 100 S.2.2.1, ob (ad 6) 2 [.ref (ad 7), .ref (ad 13), .ref (ad 22)], ob (ad 7) 1 [.ref (ad 8), .ref (ad 10), .ref (ad 11), .ref (ad 12)], ob (ad 8) 8 [.ref (ad 9)], aI g (ad 9) 4 S.2.2.2.1, aI g (ad 10) 61 gr1_12, aI g (ad 11) 61 gr2_12, aI g (ad 12) 60 gr3_12, ob (ad 13) 5 [.ref (ad 14), .ref (ad 15), vi (S.2.2.2.2.1.1 : Int)], aI g (ad 14) 20 S.2.2.2.2.1.2.1, aI g (ad 15) 20 S.2.2.2.2.1.2.2, ob (ad 16) 3 [.ref (ad 17), .ref (ad 19)], ob (ad 17) 6 [.ref (ad 18), vi (p1.length : Int)], aI g (ad 18) 60 k1, ob (ad 19) 6 [.ref (ad 20), vi (p2.length : Int)], aI g (ad 20) 60 k2, ob (ad 21) 0 [.ref (ad 23)]] ++ (MR g us lw1 ++ DR g ss lw2)) H := hP
  have hD : va_D A ([ob (ad 0) 9 [.ref (ad 1), .ref (ad 3), .ref (ad 5), .ref (ad 6), .ref (ad 7), .ref (ad 8), .ref (ad 13), .ref (ad 16), .ref (ad 21)], ob (ad 1) 6 [.ref (ad 2), vi (S.1.length : Int)], aI g (ad 2) 60 fd, ob (ad 3) 6 [.ref (ad 4), vi (S.2.1.length : Int)], aI g (ad 4) 60 fk, aZ g (ad 5) 100 S.2.2.1, ob (ad 6) 2 [.ref (ad 7), .ref (ad 13), .ref (ad 22)], ob (ad 7) 1 [.ref (ad 8), .ref (ad 10), .ref (ad 11), .ref (ad 12)], ob (ad 8) 8 [.ref (ad 9)], aI g (ad 9) 4 S.2.2.2.1, aI g (ad 10) 61 gr1_12, aI g (ad 11) 61 gr2_12, aI g (ad 12) 60 gr3_12, ob (ad 13) 5 [.ref (ad 14), .ref (ad 15), vi (S.2.2.2.2.1.1 : Int)], aI g (ad 14) 20 S.2.2.2.2.1.2.1, aI g (ad 15) 20 S.2.2.2.2.1.2.2, ob (ad 16) 3 [.ref (ad 17), .ref (ad 19)], ob (ad 17) 6 [.ref (ad 18), vi (p1.length : Int)], aI g (ad 18) 60 k1, ob (ad 19) 6 [.ref (ad 20), vi (p2.length : Int)], aI g (ad 20) 60 k2, ob (ad 21) 0 [.ref (ad 23)]] ++ (MR g us lw1 ++ DR g ss lw2)) := hD
  subst hz12
  have tfb := fb_b hw (S.2.2.2.2.1.1, S.2.2.2.2.1.2.1, S.2.2.2.2.1.2.2) S.1 (uv us) us.length us.length (Nat.le_refl _)
  have hbs : (fb S.2.2.2.1 (S.2.2.2.2.1.1, S.2.2.2.2.1.2.1, S.2.2.2.2.1.2.2) S.1 (uv us) us.length us.length).1 = bsU S S.1 := by unfold bsU; rw [huS, hnU]; exact fb_fa (tm := (S.2.2.2.2.1.1, S.2.2.2.2.1.2.1, S.2.2.2.2.1.2.2)) (v := uv us) hw hdL us.length (fun i hi => by obtain ⟨u, hu⟩ : ∃ u, us[i]? = some u := ⟨_, List.getElem?_eq_getElem hi⟩; rw [uv_get hu]; obtain ⟨_, _, _, _, _, s5, _, _, _, _⟩ := u; exact (hUO _ (List.mem_of_getElem? hu)).1.len)
  have hbb : -1 ≤ bsU S S.1 ∧ bsU S S.1 < 60 := by rw [← hbs]; exact ⟨tfb.1.1, by have := tfb.1.2; omega⟩
  have hbj : jR (bsU S S.1) := ⟨by omega, by omega⟩
  refine jr_nm (b := (bsU S S.1)) (hbs) ?_
  refine jk_XSiW (vx_runS (As := [vi (bsU S S.1)]) (rest := []) ⟨hx, hb, hml, hown, htl⟩ (m_X10_requireOffered l hsT g (bsU S S.1) hbj) (va_cwS 1 htl lk_X10_183 rfl rfl rfl cwS_X10_requireOffered ⟨Nat.le_of_ble_eq_true rfl, Nat.le_of_ble_eq_true rfl⟩) (jp_S hKK hS hAb trivial) rfl rfl hl.1 rfl (lv_room (Nat.le_of_ble_eq_true rfl)) dX10_best_15 ⟨Nat.le_of_ble_eq_true rfl, Nat.le_of_ble_eq_true rfl⟩) htab hlk (fun E t h h1 h2 => jXw_mk (Or.inr ⟨h.1, by have h9 := h.2; unfold cdBest; rw [if_neg hz1, if_pos h9]⟩) hS hP hD ⟨ad, fd, fk, gr1_12, gr2_12, gr3_12, p1, p2, k1, k2, us, ss, lw1, lw2, rfl, rfl, ⟨hdr, htk, hk1, hk2⟩, hab, hw, ht, ⟨hus, hss⟩, ⟨hUO, hSO⟩, ⟨hL1, hL2⟩, hn1, hn2⟩ h1 h2) hS.2.2 (by omega) (by omega) (fun z15 hz15 => ?_)
  obtain ⟨rfl, hof⟩ := hz15
  refine vx_ret ?_
  exact je_Qi hx hb hr hlk rfl hS (⟨⟨by unfold cdBest; rw [if_neg hz1, if_neg hof], rfl⟩, ⟨_, ⟨ad, fd, fk, gr1_12, gr2_12, gr3_12, p1, p2, k1, k2, us, ss, lw1, lw2, rfl, rfl, ⟨hdr, htk, hk1, hk2⟩, hab, hw, ht, ⟨hus, hss⟩, ⟨hUO, hSO⟩, ⟨hL1, hL2⟩, hn1, hn2⟩, hP, hD⟩⟩) dX10_best_18
set_option maxHeartbeats 4000000 in
set_option maxRecDepth 100000 in
theorem m_X10_bestOfAll (l : Launch) (hsT : l.stackTraces = false) (g : GT) (o : Nat) (S : SGM) (W9 : va_W) (hCW : CW g o S W9) (sz : Nat) : vx_Met l yX10_bestOfAll (ws_ yX10_bestOfAll cX10_bestOfAll 1 (some .int)) (rmm 8 2 12) (jPc g [.ref o] (fun H => H.size = sz ∧ PP g W9 H ∧ va_D (fun q => gb g ≤ q) W9)) (jQi (fun z H1 => ((cdBest S) = 0 ∧ z = bsU S S.1) ∧ ∃ w1 : va_W, CW g o (S) w1 ∧ PP g w1 H1 ∧ va_D (va_A W9 sz) w1) (va_A W9 sz)) (jXw (fun E => (E = eIS ∧ (cdBest S) = 1) ∨ (E = eNS ∧ (cdBest S) = 2)) (fun H1 => ∃ w1 : va_W, CW g o S w1 ∧ PP g w1 H1 ∧ va_D (va_A W9 sz) w1) (va_A W9 sz)) 2 12 (va_A W9 sz) := by
  refine jb_X (by decide) (Nat.le_of_ble_eq_true rfl) ?_
  intro p e s m below meth cq hx hb hr hml hown htl hlk htab hKK hpre ls hl
  have hown : s.vm.findClass RX10 = some m.cls := hown
  obtain ⟨hsz, hP, hD0⟩ := hpre
  subst hsz
  have hAb : ∀ q, (va_A W9 s.heap.size) q → gb g ≤ q := fun q h => h.elim (fun ⟨k, e, h⟩ => hD0.2 k _ h) (fun h => Nat.le_trans hKK.2.1 h)
  have hD : va_D (va_A W9 s.heap.size) W9 := hD0.self
  generalize hAe : va_A W9 s.heap.size = A at *
  have hA : ∀ q, s.heap.size ≤ q → A q := fun q h => by rw [← hAe]; exact Or.inr h
  have hS : va_S A s.heap s.heap [] := va_S.rf
  have hCW9 := hCW
  obtain ⟨ad, fd, fk, g1, g2, g3, p1, p2, k1, k2, us, ss, lw1, lw2, hW9, ho, ⟨hdr, htk, hk1, hk2⟩, hab, hw, ht, ⟨hus, hss⟩, ⟨hUO, hSO⟩, ⟨hL1, hL2⟩, hn1, hn2⟩ := hCW
  subst hW9
  subst ho
  have hP : PP g ([ob (ad 0) 9 [.ref (ad 1), .ref (ad 3), .ref (ad 5), .ref (ad 6), .ref (ad 7), .ref (ad 8), .ref (ad 13), .ref (ad 16), .ref (ad 21)], ob (ad 1) 6 [.ref (ad 2), vi (S.1.length : Int)], aI g (ad 2) 60 fd, ob (ad 3) 6 [.ref (ad 4), vi (S.2.1.length : Int)], aI g (ad 4) 60 fk, aZ g (ad 5) 100 S.2.2.1, ob (ad 6) 2 [.ref (ad 7), .ref (ad 13), .ref (ad 22)], ob (ad 7) 1 [.ref (ad 8), .ref (ad 10), .ref (ad 11), .ref (ad 12)], ob (ad 8) 8 [.ref (ad 9)], aI g (ad 9) 4 S.2.2.2.1, aI g (ad 10) 61 g1, aI g (ad 11) 61 g2, aI g (ad 12) 60 g3, ob (ad 13) 5 [.ref (ad 14), .ref (ad 15), vi (S.2.2.2.2.1.1 : Int)], aI g (ad 14) 20 S.2.2.2.2.1.2.1, aI g (ad 15) 20 S.2.2.2.2.1.2.2, ob (ad 16) 3 [.ref (ad 17), .ref (ad 19)], ob (ad 17) 6 [.ref (ad 18), vi (p1.length : Int)], aI g (ad 18) 60 k1, ob (ad 19) 6 [.ref (ad 20), vi (p2.length : Int)], aI g (ad 20) 60 k2, ob (ad 21) 0 [.ref (ad 23)]] ++ (MR g us lw1 ++ DR g ss lw2)) s.heap := hP
  have hD : va_D A ([ob (ad 0) 9 [.ref (ad 1), .ref (ad 3), .ref (ad 5), .ref (ad 6), .ref (ad 7), .ref (ad 8), .ref (ad 13), .ref (ad 16), .ref (ad 21)], ob (ad 1) 6 [.ref (ad 2), vi (S.1.length : Int)], aI g (ad 2) 60 fd, ob (ad 3) 6 [.ref (ad 4), vi (S.2.1.length : Int)], aI g (ad 4) 60 fk, aZ g (ad 5) 100 S.2.2.1, ob (ad 6) 2 [.ref (ad 7), .ref (ad 13), .ref (ad 22)], ob (ad 7) 1 [.ref (ad 8), .ref (ad 10), .ref (ad 11), .ref (ad 12)], ob (ad 8) 8 [.ref (ad 9)], aI g (ad 9) 4 S.2.2.2.1, aI g (ad 10) 61 g1, aI g (ad 11) 61 g2, aI g (ad 12) 60 g3, ob (ad 13) 5 [.ref (ad 14), .ref (ad 15), vi (S.2.2.2.2.1.1 : Int)], aI g (ad 14) 20 S.2.2.2.2.1.2.1, aI g (ad 15) 20 S.2.2.2.2.1.2.2, ob (ad 16) 3 [.ref (ad 17), .ref (ad 19)], ob (ad 17) 6 [.ref (ad 18), vi (p1.length : Int)], aI g (ad 18) 60 k1, ob (ad 19) 6 [.ref (ad 20), vi (p2.length : Int)], aI g (ad 20) 60 k2, ob (ad 21) 0 [.ref (ad 23)]] ++ (MR g us lw1 ++ DR g ss lw2)) := hD
  have hl : lv_has ls 1 [(0, .ref (ad 0))] := hl
  have huS := uS_uv hus
  have hsS := sS_sv hss
  have hnU : nU S = us.length := nU_l hus
  have hnS : nS S = ss.length := nS_l hss
  have hdL := hdr.len
  have htL := htk.len
  refine lv_aload_n hx hb dX10_bestOfAll_0 rfl (lv_at hl 0 rfl) ?_
  refine jk_XSvW (vx_runV (As := []) (rest := []) ⟨hx, hb, hml, hown, htl⟩ (m_X10_requireDraft l hsT g (ad 0) (ad 1) (ad 3) (ad 5) (ad 6) (ad 7) (ad 8) (ad 13) (ad 16) (ad 21) (ad 2) S.1 fd hdr) (cwV 0 htl lk_X10_116 rfl rfl rfl cwV_X10_requireDraft ⟨Nat.le_of_ble_eq_true rfl, Nat.le_of_ble_eq_true rfl⟩) (jp_V hKK (va_S.rf (A := jN)) jNb (va_recv hKK.k hP (ci := 9) (q0 := 0) rfl rfl) ⟨(va_P.sub hP [0] rfl), (va_P.sub hP [1, 2] rfl)⟩) rfl rfl hl.1 rfl (lv_room (Nat.le_of_ble_eq_true rfl)) dX10_bestOfAll_1 ⟨Nat.le_of_ble_eq_true rfl, Nat.le_of_ble_eq_true rfl⟩) htab hlk (fun E t h h1 h2 => jXw_mk (Or.inl ⟨h.1, by have h9 := h.2; unfold cdBest; rw [if_pos h9]⟩) hS hP hD hCW9 h1 h2) hS.2.2 (by omega) (by omega) (fun hz1 => ?_)
  refine lv_aload_n hx hb dX10_bestOfAll_4 rfl (lv_at hl 0 rfl) ?_
  refine va_get (D := gD g) (ci := 9) (v := .ref (ad 6)) (C := RX10) (T := TX10) (N := 9) hx hb htl ck_X10 hown hKK.k hP 0 rfl rfl 3 (by decide) (htl _ wd_1_21) (fun _ h9 => h9) rfl dX10_bestOfAll_5 ?_
  refine lv_aload_n hx hb dX10_bestOfAll_8 rfl (lv_at hl 0 rfl) ?_
  refine va_get (D := gD g) (ci := 9) (v := .ref (ad 1)) (C := RX10) (T := TX10) (N := 9) hx hb htl ck_X10 hown hKK.k hP 0 rfl rfl 0 (by decide) (htl _ wd_1_14) (fun _ h9 => h9) rfl dX10_bestOfAll_9 ?_
  have hDc : va_D A [aI g (ad 10) 61 g1, aI g (ad 11) 61 g2, aI g (ad 12) 60 g3] := hD.sub [10, 11, 12] (by decide) rfl
  refine jk_Qi (va_runV (As := [.ref (ad 1)]) (rest := []) ⟨hx, hb, hml, hown, htl⟩ (m_X2_findAmongAll l g (ad 6) (ad 13) (ad 22) us lw1 hL1 hUO (by omega) (ad 7) (ad 8) (ad 9) (ad 10) (ad 11) (ad 12) S.2.2.2.1 hw g1 g2 g3 (ad 14) (ad 15) S.2.2.2.2.1.1 S.2.2.2.2.1.2.1 S.2.2.2.2.1.2.2 ht (ad 1) (ad 2) S.1 fd hdr (jdis hD [6] [10, 11, 12] rfl rfl (by decide)) (jdisT hD (fun q h => List.mem_append_left _ h) [10, 11, 12] rfl) (jdis hD [7, 8, 9] [10, 11, 12] rfl rfl (by decide)) (jdis hD [13, 14, 15] [10, 11, 12] rfl rfl (by decide)) (jdis hD [1, 2] [10, 11, 12] rfl rfl (by decide))) (cwV 1 htl lk_X10_186 rfl rfl rfl cwV_X2_findAmongAll ⟨Nat.le_of_ble_eq_true rfl, Nat.le_of_ble_eq_true rfl⟩) (jp_V hKK (va_S.rf (A := jN)) jNb (va_recv hKK.k hP (ci := 2) (q0 := 6) rfl rfl) ⟨(va_P.sub hP [10, 11, 12] rfl), hDc.weaken (fun _ q _ h => hAb _ h), (va_P.sub hP [6] rfl), (hP.mem fun q h => List.mem_append_right _ (List.mem_append_left _ h)), (va_P.sub hP [7, 8, 9] rfl), (va_P.sub hP [13, 14, 15] rfl), (va_P.sub hP [1, 2] rfl)⟩) rfl rfl hl.1 rfl (lv_room (Nat.le_of_ble_eq_true rfl)) dX10_bestOfAll_12 ⟨Nat.le_of_ble_eq_true rfl, Nat.le_of_ble_eq_true rfl⟩) hS (fun q _ h => hDc.inA h) (fun q h => hDc.inA h) (fun z12 H1 locs hz12 hzs hks hS => ?_)
  obtain ⟨hz12, gr1_12, gr2_12, gr3_12, hP1⟩ := hz12
  obtain ⟨hP, hD⟩ := jput (wc := [aI g (ad 10) 61 g1, aI g (ad 11) 61 g2, aI g (ad 12) 60 g3]) (w1 := [aI g (ad 10) 61 gr1_12, aI g (ad 11) 61 gr2_12, aI g (ad 12) 60 gr3_12]) hP hD [10, 11, 12] rfl rfl hks (fun q _ h => h) hP1
  clear hzs hks; generalize H1 = H at hP hD hS ⊢
  have hP : PP g ([ob (ad 0) 9 [.ref (ad 1), .ref (ad 3), .ref (ad 5), .ref (ad 6), .ref (ad 7), .ref (ad 8), .ref (ad 13), .ref (ad 16), .ref (ad 21)], ob (ad 1) 6 [.ref (ad 2), vi (S.1.length : Int)], aI g (ad 2) 60 fd, ob (ad 3) 6 [.ref (ad 4), vi (S.2.1.length : Int)], aI g (ad 4) 60 fk, aZ g (ad 5) 100 S.2.2.1, ob (ad 6) 2 [.ref (ad 7), .ref (ad 13), .ref (ad 22)], ob (ad 7) 1 [.ref (ad 8), .ref (ad 10), .ref (ad 11), .ref (ad 12)], ob (ad 8) 8 [.ref (ad 9)], aI g (ad 9) 4 S.2.2.2.1, aI g (ad 10) 61 gr1_12, aI g (ad 11) 61 gr2_12, aI g (ad 12) 60 gr3_12, ob (ad 13) 5 [.ref (ad 14), .ref (ad 15), vi (S.2.2.2.2.1.1 : Int)], aI g (ad 14) 20 S.2.2.2.2.1.2.1, aI g (ad 15) 20 S.2.2.2.2.1.2.2, ob (ad 16) 3 [.ref (ad 17), .ref (ad 19)], ob (ad 17) 6 [.ref (ad 18), vi (p1.length : Int)], aI g (ad 18) 60 k1, ob (ad 19) 6 [.ref (ad 20), vi (p2.length : Int)], aI g (ad 20) 60 k2, ob (ad 21) 0 [.ref (ad 23)]] ++ (MR g us lw1 ++ DR g ss lw2)) H := hP
  have hD : va_D A ([ob (ad 0) 9 [.ref (ad 1), .ref (ad 3), .ref (ad 5), .ref (ad 6), .ref (ad 7), .ref (ad 8), .ref (ad 13), .ref (ad 16), .ref (ad 21)], ob (ad 1) 6 [.ref (ad 2), vi (S.1.length : Int)], aI g (ad 2) 60 fd, ob (ad 3) 6 [.ref (ad 4), vi (S.2.1.length : Int)], aI g (ad 4) 60 fk, aZ g (ad 5) 100 S.2.2.1, ob (ad 6) 2 [.ref (ad 7), .ref (ad 13), .ref (ad 22)], ob (ad 7) 1 [.ref (ad 8), .ref (ad 10), .ref (ad 11), .ref (ad 12)], ob (ad 8) 8 [.ref (ad 9)], aI g (ad 9) 4 S.2.2.2.1, aI g (ad 10) 61 gr1_12, aI g (ad 11) 61 gr2_12, aI g (ad 12) 60 gr3_12, ob (ad 13) 5 [.ref (ad 14), .ref (ad 15), vi (S.2.2.2.2.1.1 : Int)], aI g (ad 14) 20 S.2.2.2.2.1.2.1, aI g (ad 15) 20 S.2.2.2.2.1.2.2, ob (ad 16) 3 [.ref (ad 17), .ref (ad 19)], ob (ad 17) 6 [.ref (ad 18), vi (p1.length : Int)], aI g (ad 18) 60 k1, ob (ad 19) 6 [.ref (ad 20), vi (p2.length : Int)], aI g (ad 20) 60 k2, ob (ad 21) 0 [.ref (ad 23)]] ++ (MR g us lw1 ++ DR g ss lw2)) := hD
  subst hz12
  have tfa := fa_b hw (S.2.2.2.2.1.1, S.2.2.2.2.1.2.1, S.2.2.2.2.1.2.2) S.1 (uv us) us.length
  have hbs : (fa S.2.2.2.1 (S.2.2.2.2.1.1, S.2.2.2.2.1.2.1, S.2.2.2.2.1.2.2) S.1 (uv us) us.length).1 = bsU S S.1 := by unfold bsU; rw [huS, hnU]
  have hbb : -1 ≤ bsU S S.1 ∧ bsU S S.1 < 60 := by rw [← hbs]; exact ⟨tfa.1.1, by have := tfa.1.2; omega⟩
  have hbj : jR (bsU S S.1) := ⟨by omega, by omega⟩
  refine jr_nm (b := (bsU S S.1)) (hbs) ?_
  refine jk_XSiW (vx_runS (As := [vi (bsU S S.1)]) (rest := []) ⟨hx, hb, hml, hown, htl⟩ (m_X10_requireOffered l hsT g (bsU S S.1) hbj) (va_cwS 1 htl lk_X10_183 rfl rfl rfl cwS_X10_requireOffered ⟨Nat.le_of_ble_eq_true rfl, Nat.le_of_ble_eq_true rfl⟩) (jp_S hKK hS hAb trivial) rfl rfl hl.1 rfl (lv_room (Nat.le_of_ble_eq_true rfl)) dX10_bestOfAll_15 ⟨Nat.le_of_ble_eq_true rfl, Nat.le_of_ble_eq_true rfl⟩) htab hlk (fun E t h h1 h2 => jXw_mk (Or.inr ⟨h.1, by have h9 := h.2; unfold cdBest; rw [if_neg hz1, if_pos h9]⟩) hS hP hD ⟨ad, fd, fk, gr1_12, gr2_12, gr3_12, p1, p2, k1, k2, us, ss, lw1, lw2, rfl, rfl, ⟨hdr, htk, hk1, hk2⟩, hab, hw, ht, ⟨hus, hss⟩, ⟨hUO, hSO⟩, ⟨hL1, hL2⟩, hn1, hn2⟩ h1 h2) hS.2.2 (by omega) (by omega) (fun z15 hz15 => ?_)
  obtain ⟨rfl, hof⟩ := hz15
  refine vx_ret ?_
  exact je_Qi hx hb hr hlk rfl hS (⟨⟨by unfold cdBest; rw [if_neg hz1, if_neg hof], rfl⟩, ⟨_, ⟨ad, fd, fk, gr1_12, gr2_12, gr3_12, p1, p2, k1, k2, us, ss, lw1, lw2, rfl, rfl, ⟨hdr, htk, hk1, hk2⟩, hab, hw, ht, ⟨hus, hss⟩, ⟨hUO, hSO⟩, ⟨hL1, hL2⟩, hn1, hn2⟩, hP, hD⟩⟩) dX10_bestOfAll_18
