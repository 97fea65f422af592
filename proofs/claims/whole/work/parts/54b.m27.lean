
theorem lk_X10_273 : GoodIn WSL (wsV RX10 273 RX0 yX0_countNotEmpty (ws_ yX0_countNotEmpty cX0_countNotEmpty 3 (some .int))) := gd_app (List.forall_mem_cons.mpr ⟨wd_47_13, List.forall_mem_cons.mpr ⟨wd_47_14, List.forall_mem_cons.mpr ⟨wd_47_15, List.forall_mem_cons.mpr ⟨wd_2_13, fun _ h => nomatch h⟩⟩⟩⟩) (gd_ wd_47_16)
theorem cwV_X0_countNotEmpty : yX0_countNotEmpty.cls = RX0 ∧ yX0_countNotEmpty.cls ≠ "java/lang/invoke/MethodHandle" ∧ yX0_countNotEmpty.cls ≠ "java/lang/invoke/VarHandle" ∧ (parseMethodDescriptor yX0_countNotEmpty.desc).map (fun d => d.parameters.length) = some 0 := by decide +kernel
theorem lk_X10_278 : GoodIn WSL (wsV RX10 278 RX2 yX2_sumLive (ws_ yX2_sumLive cX2_sumLive 5 (some .int))) := gd_app (List.forall_mem_cons.mpr ⟨wd_48_4, List.forall_mem_cons.mpr ⟨wd_48_5, List.forall_mem_cons.mpr ⟨wd_48_6, List.forall_mem_cons.mpr ⟨wd_1_23, fun _ h => nomatch h⟩⟩⟩⟩) (gd_ wd_48_7)
theorem cwV_X2_sumLive : yX2_sumLive.cls = RX2 ∧ yX2_sumLive.cls ≠ "java/lang/invoke/MethodHandle" ∧ yX2_sumLive.cls ≠ "java/lang/invoke/VarHandle" ∧ (parseMethodDescriptor yX2_sumLive.desc).map (fun d => d.parameters.length) = some 1 := by decide +kernel
set_option maxHeartbeats 4000000 in
set_option maxRecDepth 100000 in
theorem m_X10_filledShare (l : Launch) (hsT : l.stackTraces = false) (g : GT) (o : Nat) (S : SGM) (W9 : va_W) (hCW : CW g o S W9) : vx_Met l yX10_filledShare (ws_ yX10_filledShare cX10_filledShare 2 (some .float)) (rmm 6 1 6) (jPc g [.ref o] (fun H => PP g W9 H)) (jSf (fun z => (cd1 (¬ nS S = 0)) = 0 ∧ z = shr (cne (sS S) (nS S)) (nS S : Int))) (jX (fun E => (E = eAE ∧ (cd1 (¬ nS S = 0)) = 1))) 1 6 jN := by
  refine jb_X (by decide) (Nat.le_of_ble_eq_true rfl) ?_
  intro p e s m below meth cq hx hb hr hml hown htl hlk htab hKK hpre ls hl
  have hown : s.vm.findClass RX10 = some m.cls := hown
  have hP : PP g W9 s.heap := hpre
  have hCW9 := hCW
  obtain ⟨ad, fd, fk, g1, g2, g3, p1, p2, k1, k2, us, ss, lw1, lw2, hW9, ho, ⟨hdr, htk, hk1, hk2⟩, hab, hw, ht, ⟨hus, hss⟩, ⟨hUO, hSO⟩, ⟨hL1, hL2⟩, hn1, hn2⟩ := hCW
  subst hW9
  subst ho
  have hP : PP g ([ob (ad 0) 9 [.ref (ad 1), .ref (ad 3), .ref (ad 5), .ref (ad 6), .ref (ad 7), .ref (ad 8), .ref (ad 13), .ref (ad 16), .ref (ad 21)], ob (ad 1) 6 [.ref (ad 2), vi (S.1.length : Int)], aI g (ad 2) 60 fd, ob (ad 3) 6 [.ref (ad 4), vi (S.2.1.length : Int)], aI g (ad 4) 60 fk, aZ g (ad 5) 100 S.2.2.1, ob (ad 6) 2 [.ref (ad 7), .ref (ad 13), .ref (ad 22)], ob (ad 7) 1 [.ref (ad 8), .ref (ad 10), .ref (ad 11), .ref (ad 12)], ob (ad 8) 8 [.ref (ad 9)], aI g (ad 9) 4 S.2.2.2.1, aI g (ad 10) 61 g1, aI g (ad 11) 61 g2, aI g (ad 12) 60 g3, ob (ad 13) 5 [.ref (ad 14), .ref (ad 15), vi (S.2.2.2.2.1.1 : Int)], aI g (ad 14) 20 S.2.2.2.2.1.2.1, aI g (ad 15) 20 S.2.2.2.2.1.2.2, ob (ad 16) 3 [.ref (ad 17), .ref (ad 19)], ob (ad 17) 6 [.ref (ad 18), vi (p1.length : Int)], aI g (ad 18) 60 k1, ob (ad 19) 6 [.ref (ad 20), vi (p2.length : Int)], aI g (ad 20) 60 k2, ob (ad 21) 0 [.ref (ad 23)]] ++ (MR g us lw1 ++ DR g ss lw2)) s.heap := hP
  have hl : lv_has ls 2 [(0, .ref (ad 0))] := hl
  have huS := uS_uv hus
  have hsS := sS_sv hss
  have hnU : nU S = us.length := nU_l hus
  have hnS : nS S = ss.length := nS_l hss
  have hdL := hdr.len
  have htL := htk.len
  refine lv_aload_n hx hb dX10_filledShare_0 rfl (lv_at hl 0 rfl) ?_
  refine va_get (D := gD g) (ci := 9) (v := .ref (ad 21)) (C := RX10) (T := TX10) (N := 9) hx hb htl ck_X10 hown hKK.k hP 0 rfl rfl 8 (by decide) (htl _ wd_2_14) (fun _ h9 => h9) rfl dX10_filledShare_1 ?_
  refine jk_Si (va_runV (As := []) (rest := []) ⟨hx, hb, hml, hown, htl⟩ (m_X0_size l g (ad 21) (ad 23) ss lw2 hL2 hSO hn2 ) (cwV 0 htl lk_X10_193 rfl rfl rfl cwV_X0_size ⟨Nat.le_of_ble_eq_true rfl, Nat.le_of_ble_eq_true rfl⟩) (jp_V hKK (va_S.rf (A := jN)) jNb (va_recv hKK.k hP (ci := 0) (q0 := 21) rfl rfl) ⟨(va_P.sub hP [21] rfl), (hP.mem fun q h => List.mem_append_right _ (List.mem_append_right _ h))⟩) rfl rfl hl.1 rfl (lv_room (Nat.le_of_ble_eq_true rfl)) dX10_filledShare_4 ⟨Nat.le_of_ble_eq_true rfl, Nat.le_of_ble_eq_true rfl⟩) (fun z4 hz4 => ?_)
  subst hz4
  refine lv_istore_n (lv' := [(1, vi (ss.length : Int)), (0, .ref (ad 0))]) hx hb dX10_filledShare_7 rfl hl (by decide) rfl (fun ls hl => ?_)
  refine lv_iload_n hx hb dX10_filledShare_8 rfl (lv_at hl 0 rfl) ?_
  refine jr_ifne (tgt := 23) hx hb dX10_filledShare_9 (by decide) ⟨by omega, by omega⟩ (fun c9 => ?_) (fun c9 => ?_)
  · refine lv_aload_n hx hb dX10_filledShare_23 rfl (lv_at hl 1 rfl) ?_
    refine va_get (D := gD g) (ci := 9) (v := .ref (ad 21)) (C := RX10) (T := TX10) (N := 9) hx hb htl ck_X10 hown hKK.k hP 0 rfl rfl 8 (by decide) (htl _ wd_2_14) (fun _ h9 => h9) rfl dX10_filledShare_24 ?_
    refine jk_Si (va_runV (As := []) (rest := []) ⟨hx, hb, hml, hown, htl⟩ (m_X0_countNotEmpty l g (ad 21) (ad 23) ss lw2 hL2 hSO hn2 ) (cwV 0 htl lk_X10_273 rfl rfl rfl cwV_X0_countNotEmpty ⟨Nat.le_of_ble_eq_true rfl, Nat.le_of_ble_eq_true rfl⟩) (jp_V hKK (va_S.rf (A := jN)) jNb (va_recv hKK.k hP (ci := 0) (q0 := 21) rfl rfl) ⟨(va_P.sub hP [21] rfl), (hP.mem fun q h => List.mem_append_right _ (List.mem_append_right _ h))⟩) rfl rfl hl.1 rfl (lv_room (Nat.le_of_ble_eq_true rfl)) dX10_filledShare_27 ⟨Nat.le_of_ble_eq_true rfl, Nat.le_of_ble_eq_true rfl⟩) (fun z27 hz27 => ?_)
    subst hz27
    have tcn := cne_b (sv ss) ss.length
    refine lv_i2f hx hb dX10_filledShare_30 ?_
    refine lv_iload_n hx hb dX10_filledShare_31 rfl (lv_at hl 0 rfl) ?_
    refine lv_i2f hx hb dX10_filledShare_32 ?_
    refine jr_fdiv hx hb ((shr_ok ⟨by omega, by omega⟩ ⟨by omega, by omega⟩).1) dX10_filledShare_33 ?_
    refine vx_ret ?_
    refine W.widen (k := 1) (n := 6) (by omega) (by omega) ?_
    exact je_Sf hx hb hr hlk (⟨by unfold cd1; rw [hnS]; (repeat' split) <;> omega, by rw [hsS, hnS]⟩) dX10_filledShare_34
  · exact jt_SW (g := g) hx hb hsT hown hKK tf_272 (htl _ wd_47_11) (htl _ wd_47_12) nws_18 (th_272 htl hKK) tg_272 hl.1 hml htab hlk (⟨rfl, by unfold cd1; rw [hnS]; (repeat' split) <;> omega⟩) dX10_filledShare_12 dX10_filledShare_15 dX10_filledShare_16 dX10_filledShare_19 dX10_filledShare_22 (Nat.le_of_ble_eq_true rfl) (Nat.le_of_ble_eq_true rfl) (Nat.le_of_ble_eq_true rfl) (Nat.le_of_ble_eq_true rfl) (Nat.le_of_ble_eq_true rfl) (Nat.le_of_ble_eq_true rfl)
set_option maxHeartbeats 4000000 in
set_option maxRecDepth 100000 in
theorem m_X10_meanLikeness (l : Launch) (hsT : l.stackTraces = false) (g : GT) (o : Nat) (S : SGM) (W9 : va_W) (hCW : CW g o S W9) (sz : Nat) : vx_Met l yX10_meanLikeness (ws_ yX10_meanLikeness cX10_meanLikeness 2 (some .double)) (rmm 9 2 12) (jPc g [.ref o] (fun H => H.size = sz ∧ PP g W9 H ∧ va_D (fun q => gb g ≤ q) W9)) (jQd (fun z H1 => ((cdMean S) = 0 ∧ z = mnl (slv S.2.2.2.1 S.1 (uS S) (nU S)) (clv (uS S) (nU S))) ∧ ∃ w1 : va_W, CW g o (S) w1 ∧ PP g w1 H1 ∧ va_D (va_A W9 sz) w1) (va_A W9 sz)) (jX (fun E => (E = eIS ∧ (cdMean S) = 1) ∨ (E = eAE ∧ (cdMean S) = 2))) 2 12 (va_A W9 sz) := by
  refine jb_X (by decide) (Nat.le_of_ble_eq_true rfl) ?_
  intro p e s m below meth cq hx hb hr hml hown htl hlk htab hKK hpre ls hl
  have hown : s.vm.findClass RX10 = some m.cls := hown
  obtain ⟨hsz, hP, hD0⟩ := hpre
  subst hsz
  have hAb : ∀ q, (va_A W9 s.heap.size) q → gb g ≤ q := fun q h => h.elim (fun ⟨k, e, h⟩ => hD0.2 k _ h) (fun h => Nat.le_trans hKK.2.1 h)
  have hD : va_D (va_A W9 s.heap.size) W9 := hD0.self
  generalize hAe : va_A W9 s.heap.size = A at *
  have hA : ∀ q, s.heap.size ≤ q → A q := fun q h => by rw [← hAe]; exact Or.inr h
  have hS : va_S A s.heap s.heap [] := va_S.rf
  have hCW9 := hCW
  obtain ⟨ad, fd, fk, g1, g2, g3, p1, p2, k1, k2, us, ss, lw1, lw2, hW9, ho, ⟨hdr, htk, hk1, hk2⟩, hab, hw, ht, ⟨hus, hss⟩, ⟨hUO, hSO⟩, ⟨hL1, hL2⟩, hn1, hn2⟩ := hCW
  subst hW9
  subst ho
  have hP : PP g ([ob (ad 0) 9 [.ref (ad 1), .ref (ad 3), .ref (ad 5), .ref (ad 6), .ref (ad 7), .ref (ad 8), .ref (ad 13), .ref (ad 16), .ref (ad 21)], ob (ad 1) 6 [.ref (ad 2), vi (S.1.length : Int)], aI g (ad 2) 60 fd, ob (ad 3) 6 [.ref (ad 4), vi (S.2.1.length : Int)], aI g (ad 4) 60 fk, aZ g (ad 5) 100 S.2.2.1, ob (ad 6) 2 [.ref (ad 7), .ref (ad 13), .ref (ad 22)], ob (ad 7) 1 [.ref (ad 8), .ref (ad 10), .ref (ad 11), .ref (ad 12)], ob (ad 8) 8 [.ref (ad 9)], aI g (ad 9) 4 S.2.2.2.1, aI g (ad 10) 61 g1, aI g (ad 11) 61 g2, aI g (ad 12) 60 g3, ob (ad 13) 5 [.ref (ad 14), .ref (ad 15), vi (S.2.2.2.2.1.1 : Int)], aI g (ad 14) 20 S.2.2.2.2.1.2.1, aI g (ad 15) 20 S.2.2.2.2.1.2.2, ob (ad 16) 3 [.ref (ad 17), .ref (ad 19)], ob (ad 17) 6 [.ref (ad 18), vi (p1.length : Int)], aI g (ad 18) 60 k1, ob (ad 19) 6 [.ref (ad 20), vi (p2.length : Int)], aI g (ad 20) 60 k2, ob (ad 21) 0 [.ref (ad 23)]] ++ (MR g us lw1 ++ DR g ss lw2)) s.heap := hP
  have hD : va_D A ([ob (ad 0) 9 [.ref (ad 1), .ref (ad 3), .ref (ad 5), .ref (ad 6), .ref (ad 7), .ref (ad 8), .ref (ad 13), .ref (ad 16), .ref (ad 21)], ob (ad 1) 6 [.ref (ad 2), vi (S.1.length : Int)], aI g (ad 2) 60 fd, ob (ad 3) 6 [.ref (ad 4), vi (S.2.1.length : Int)], aI g (ad 4) 60 fk, aZ g (ad 5) 100 S.2.2.1, ob (ad 6) 2 [.ref (ad 7), .ref (ad 13), .ref (ad 22)], ob (ad 7) 1 [.ref (ad 8), .ref (ad 10), .ref (ad 11), .ref (ad 12)], ob (ad 8) 8 [.ref (ad 9)], aI g (ad 9) 4 S.2.2.2.1, aI g (ad 10) 61 g1, aI g (ad 11) 61 g2, aI g (ad 12) 60 g3, ob (ad 13) 5 [.ref (ad 14), .ref (ad 15), vi (S.2.2.2.2.1.1 : Int)], aI g (ad 14) 20 S.2.2.2.2.1.2.1, aI g (ad 15) 20 S.2.2.2.2.1.2.2, ob (ad 16) 3 [.ref (ad 17), .ref (ad 19)], ob (ad 17) 6 [.ref (ad 18), vi (p1.length : Int)], aI g (ad 18) 60 k1, ob (ad 19) 6 [.ref (ad 20), vi (p2.length : Int)], aI g (ad 20) 60 k2, ob (ad 21) 0 [.ref (ad 23)]] ++ (MR g us lw1 ++ DR g ss lw2)) := hD
  have hl : lv_has ls 2 [(0, .ref (ad 0))] := hl
  have huS := uS_uv hus
  have hsS := sS_sv hss
  have hnU : nU S = us.length := nU_l hus
  have hnS : nS S = ss.length := nS_l hss
  have hdL := hdr.len
  have htL := htk.len
  refine lv_aload_n hx hb dX10_meanLikeness_0 rfl (lv_at hl 0 rfl) ?_
  refine jk_XSv (vx_runV (As := []) (rest := []) ⟨hx, hb, hml, hown, htl⟩ (m_X10_requireDraft l hsT g (ad 0) (ad 1) (ad 3) (ad 5) (ad 6) (ad 7) (ad 8) (ad 13) (ad 16) (ad 21) (ad 2) S.1 fd hdr) (cwV 0 htl lk_X10_116 rfl rfl rfl cwV_X10_requireDraft ⟨Nat.le_of_ble_eq_true rfl, Nat.le_of_ble_eq_true rfl⟩) (jp_V hKK (va_S.rf (A := jN)) jNb (va_recv hKK.k hP (ci := 9) (q0 := 0) rfl rfl) ⟨(va_P.sub hP [0] rfl), (va_P.sub hP [1, 2] rfl)⟩) rfl rfl hl.1 rfl (lv_room (Nat.le_of_ble_eq_true rfl)) dX10_meanLikeness_1 ⟨Nat.le_of_ble_eq_true rfl, Nat.le_of_ble_eq_true rfl⟩) htab hlk (fun E h => Or.inl ⟨h.1, by have h9 := h.2; unfold cdMean; rw [if_pos h9]⟩) (by omega) (by omega) (fun hz1 => ?_)
  refine lv_aload_n hx hb dX10_meanLikeness_4 rfl (lv_at hl 0 rfl) ?_
  refine va_get (D := gD g) (ci := 9) (v := .ref (ad 6)) (C := RX10) (T := TX10) (N := 9) hx hb htl ck_X10 hown hKK.k hP 0 rfl rfl 3 (by decide) (htl _ wd_2_0) (fun _ h9 => h9) rfl dX10_meanLikeness_5 ?_
  refine jk_Si (va_runV (As := []) (rest := []) ⟨hx, hb, hml, hown, htl⟩ (m_X2_countLive l g (ad 6) (ad 7) (ad 13) (ad 22) us lw1 hL1 hUO (by omega) ) (cwV 0 htl lk_X10_147 rfl rfl rfl cwV_X2_countLive ⟨Nat.le_of_ble_eq_true rfl, Nat.le_of_ble_eq_true rfl⟩) (jp_V hKK (va_S.rf (A := jN)) jNb (va_recv hKK.k hP (ci := 2) (q0 := 6) rfl rfl) ⟨(va_P.sub hP [6] rfl), (hP.mem fun q h => List.mem_append_right _ (List.mem_append_left _ h))⟩) rfl rfl hl.1 rfl (lv_room (Nat.le_of_ble_eq_true rfl)) dX10_meanLikeness_8 ⟨Nat.le_of_ble_eq_true rfl, Nat.le_of_ble_eq_true rfl⟩) (fun z8 hz8 => ?_)
  subst hz8
  have tcl := clv_b (uv us) us.length
  refine lv_istore_n (lv' := [(1, vi (clv (uv us) us.length)), (0, .ref (ad 0))]) hx hb dX10_meanLikeness_11 rfl hl (by decide) rfl (fun ls hl => ?_)
  refine lv_iload_n hx hb dX10_meanLikeness_12 rfl (lv_at hl 0 rfl) ?_
  refine jr_ifne (tgt := 27) hx hb dX10_meanLikeness_13 (by decide) ⟨by omega, by omega⟩ (fun c13 => ?_) (fun c13 => ?_)
  · refine lv_aload_n hx hb dX10_meanLikeness_27 rfl (lv_at hl 1 rfl) ?_
    refine va_get (D := gD g) (ci := 9) (v := .ref (ad 6)) (C := RX10) (T := TX10) (N := 9) hx hb htl ck_X10 hown hKK.k hP 0 rfl rfl 3 (by decide) (htl _ wd_2_0) (fun _ h9 => h9) rfl dX10_meanLikeness_28 ?_
    refine lv_aload_n hx hb dX10_meanLikeness_31 rfl (lv_at hl 1 rfl) ?_
    refine va_get (D := gD g) (ci := 9) (v := .ref (ad 1)) (C := RX10) (T := TX10) (N := 9) hx hb htl ck_X10 hown hKK.k hP 0 rfl rfl 0 (by decide) (htl _ wd_1_17) (fun _ h9 => h9) rfl dX10_meanLikeness_32 ?_
    have hDc : va_D A [aI g (ad 10) 61 g1, aI g (ad 11) 61 g2, aI g (ad 12) 60 g3] := hD.sub [10, 11, 12] (by decide) rfl
    refine jk_Qi (va_runV (As := [.ref (ad 1)]) (rest := []) ⟨hx, hb, hml, hown, htl⟩ (m_X2_sumLive l g (ad 6) (ad 13) (ad 22) us lw1 hL1 hUO (by omega) (ad 7) (ad 8) (ad 9) (ad 10) (ad 11) (ad 12) S.2.2.2.1 hw g1 g2 g3 (ad 14) (ad 15) S.2.2.2.2.1.1 S.2.2.2.2.1.2.1 S.2.2.2.2.1.2.2 ht (ad 1) (ad 2) S.1 fd hdr (jdis hD [6] [10, 11, 12] rfl rfl (by decide)) (jdisT hD (fun q h => List.mem_append_left _ h) [10, 11, 12] rfl) (jdis hD [7, 8, 9] [10, 11, 12] rfl rfl (by decide)) (jdis hD [13, 14, 15] [10, 11, 12] rfl rfl (by decide)) (jdis hD [1, 2] [10, 11, 12] rfl rfl (by decide))) (cwV 1 htl lk_X10_278 rfl rfl rfl cwV_X2_sumLive ⟨Nat.le_of_ble_eq_true rfl, Nat.le_of_ble_eq_true rfl⟩) (jp_V hKK (va_S.rf (A := jN)) jNb (va_recv hKK.k hP (ci := 2) (q0 := 6) rfl rfl) ⟨(va_P.sub hP [10, 11, 12] rfl), hDc.weaken (fun _ q _ h => hAb _ h), (va_P.sub hP [6] rfl), (hP.mem fun q h => List.mem_append_right _ (List.mem_append_left _ h)), (va_P.sub hP [7, 8, 9] rfl), (va_P.sub hP [13, 14, 15] rfl), (va_P.sub hP [1, 2] rfl)⟩) rfl rfl hl.1 rfl (lv_room (Nat.le_of_ble_eq_true rfl)) dX10_meanLikeness_35 ⟨Nat.le_of_ble_eq_true rfl, Nat.le_of_ble_eq_true rfl⟩) hS (fun q _ h => hDc.inA h) (fun q h => hDc.inA h) (fun z35 H1 locs hz35 hzs hks hS => ?_)
    obtain ⟨hz35, gr1_35, gr2_35, gr3_35, hP1⟩ := hz35
    obtain ⟨hP, hD⟩ := jput (wc := [aI g (ad 10) 61 g1, aI g (ad 11) 61 g2, aI g (ad 12) 60 g3]) (w1 := [aI g (ad 10) 61 gr1_35, aI g (ad 11) 61 gr2_35, aI g (ad 12) 60 gr3_35]) hP hD [10, 11, 12] rfl rfl hks (fun q _ h => h) hP1
    clear hzs hks; generalize H1 = H at hP hD hS ⊢
    have hP : PP g ([ob (ad 0) 9 [.ref (ad 1), .ref (ad 3), .ref (ad 5), .ref (ad 6), .ref (ad 7), .ref (ad 8), .ref (ad 13), .ref (ad 16), .ref (ad 21)], ob (ad 1) 6 [.ref (ad 2), vi (S.1.length : Int)], aI g (ad 2) 60 fd, ob (ad 3) 6 [.ref (ad 4), vi (S.2.1.length : Int)], aI g (ad 4) 60 fk, aZ g (ad 5) 100 S.2.2.1, ob (ad 6) 2 [.ref (ad 7), .ref (ad 13), .ref (ad 22)], ob (ad 7) 1 [.ref (ad 8), .ref (ad 10), .ref (ad 11), .ref (ad 12)], ob (ad 8) 8 [.ref (ad 9)], aI g (ad 9) 4 S.2.2.2.1, aI g (ad 10) 61 gr1_35, aI g (ad 11) 61 gr2_35, aI g (ad 12) 60 gr3_35, ob (ad 13) 5 [.ref (ad 14), .ref (ad 15), vi (S.2.2.2.2.1.1 : Int)], aI g (ad 14) 20 S.2.2.2.2.1.2.1, aI g (ad 15) 20 S.2.2.2.2.1.2.2, ob (ad 16) 3 [.ref (ad 17), .ref (ad 19)], ob (ad 17) 6 [.ref (ad 18), vi (p1.length : Int)], aI g (ad 18) 60 k1, ob (ad 19) 6 [.ref (ad 20), vi (p2.length : Int)], aI g (ad 20) 60 k2, ob (ad 21) 0 [.ref (ad 23)]] ++ (MR g us lw1 ++ DR g ss lw2)) H := hP
    have hD : va_D A ([ob (ad 0) 9 [.ref (ad 1), .ref (ad 3), .ref (ad 5), .ref (ad 6), .ref (ad 7), .ref (ad 8), .ref (ad 13), .ref (ad 16), .ref (ad 21)], ob (ad 1) 6 [.ref (ad 2), vi (S.1.length : Int)], aI g (ad 2) 60 fd, ob (ad 3) 6 [.ref (ad 4), vi (S.2.1.length : Int)], aI g (ad 4) 60 fk, aZ g (ad 5) 100 S.2.2.1, ob (ad 6) 2 [.ref (ad 7), .ref (ad 13), .ref (ad 22)], ob (ad 7) 1 [.ref (ad 8), .ref (ad 10), .ref (ad 11), .ref (ad 12)], ob (ad 8) 8 [.ref (ad 9)], aI g (ad 9) 4 S.2.2.2.1, aI g (ad 10) 61 gr1_35, aI g (ad 11) 61 gr2_35, aI g (ad 12) 60 gr3_35, ob (ad 13) 5 [.ref (ad 14), .ref (ad 15), vi (S.2.2.2.2.1.1 : Int)], aI g (ad 14) 20 S.2.2.2.2.1.2.1, aI g (ad 15) 20 S.2.2.2.2.1.2.2, ob (ad 16) 3 [.ref (ad 17), .ref (ad 19)], ob (ad 17) 6 [.ref (ad 18), vi (p1.length : Int)], aI g (ad 18) 60 k1, ob (ad 19) 6 [.ref (ad 20), vi (p2.length : Int)], aI g (ad 20) 60 k2, ob (ad 21) 0 [.ref (ad 23)]] ++ (MR g us lw1 ++ DR g ss lw2)) := hD
    subst hz35
    have tsl := slv_b hw S.1 (uv us) us.length
    refine lv_i2d hx hb dX10_meanLikeness_38 ?_
    refine lv_iload_n hx hb dX10_meanLikeness_39 rfl (lv_at hl 0 rfl) ?_
    refine lv_i2d hx hb dX10_meanLikeness_40 ?_
    refine jr_ddiv hx hb (mnl_ok ⟨by omega, by omega⟩ ⟨by omega, by omega⟩) dX10_meanLikeness_41 ?_
    refine vx_ret ?_
    refine W.widen (k := 2) (n := 12) (by omega) (by omega) ?_
    exact je_Qd hx hb hr hlk hS (⟨⟨by unfold cdMean; rw [if_neg hz1, if_neg (by rw [huS, hnU]; omega)], by rw [huS, hnU]⟩, ⟨_, ⟨ad, fd, fk, gr1_35, gr2_35, gr3_35, p1, p2, k1, k2, us, ss, lw1, lw2, rfl, rfl, ⟨hdr, htk, hk1, hk2⟩, hab, hw, ht, ⟨hus, hss⟩, ⟨hUO, hSO⟩, ⟨hL1, hL2⟩, hn1, hn2⟩, hP, hD⟩⟩) dX10_meanLikeness_42
  · exact jt_SW (g := g) hx hb hsT hown hKK tf_272 (htl _ wd_47_11) (htl _ wd_47_12) nws_19 (th_272 htl hKK) tg_272 hl.1 hml htab hlk (Or.inr (⟨rfl, by unfold cdMean; rw [if_neg hz1, if_pos (by rw [huS, hnU]; omega)]⟩)) dX10_meanLikeness_16 dX10_meanLikeness_19 dX10_meanLikeness_20 dX10_meanLikeness_23 dX10_meanLikeness_26 (Nat.le_of_ble_eq_true rfl) (Nat.le_of_ble_eq_true rfl) (Nat.le_of_ble_eq_true rfl) (Nat.le_of_ble_eq_true rfl) (Nat.le_of_ble_eq_true rfl) (Nat.le_of_ble_eq_true rfl)
