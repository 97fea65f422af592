
theorem lk_X10_273 : GoodIn WSL (wsV RX10 273 RX0 yX0_countNotEmpty (ws_ yX0_countNotEmpty cX0_countNotEmpty 3 (some .int))) := gd_app (List.forall_mem_cons.mpr ⟨wd_33_3, List.forall_mem_cons.mpr ⟨wd_33_4, List.forall_mem_cons.mpr ⟨wd_33_5, List.forall_mem_cons.mpr ⟨wd_2_10, fun _ h => nomatch h⟩⟩⟩⟩) (gd_ wd_33_6)
theorem cwV_X0_countNotEmpty : yX0_countNotEmpty.cls = RX0 ∧ yX0_countNotEmpty.cls ≠ "java/lang/invoke/MethodHandle" ∧ yX0_countNotEmpty.cls ≠ "java/lang/invoke/VarHandle" ∧ (parseMethodDescriptor yX0_countNotEmpty.desc).map (fun d => d.parameters.length) = some 0 := by decide +kernel
set_option maxHeartbeats 4000000 in
set_option maxRecDepth 100000 in
theorem m_X10_filledShare (l : Launch) (hsT : l.stackTraces = false) (g : GT) (o : Nat) (S : SGM) (W9 : va_W) (hCW : CW g o S W9) : vx_Met l yX10_filledShare (ws_ yX10_filledShare cX10_filledShare 2 (some .float)) (rmm 6 1 6) (jPc g [.ref o] (fun H => PP g W9 H)) (jSf (fun z => (cd1 (¬ nS S = 0)) = 0 ∧ z = shr (cne (sS S) (nS S)) (nS S : Int))) (jX (fun E => (E = eAE ∧ (cd1 (¬ nS S = 0)) = 1))) 1 6 jN := by
  refine jb_X (by decide) (Nat.le_of_ble_eq_true rfl) ?_
  intro p e s m below meth cq hx hb hr hml hown htl hlk htab hKK hpre ls hl
  have hown : s.vm.findClass RX10 = some m.cls := hown
  have hP : PP g W9 s.heap := hpre
  have hCW9 := hCW
  obtain ⟨ad, fd, fk, g1, g2, g3, p1, p2, k1, k2, us, ss, lw1, lw2, hW9, ho, ⟨hdr, htk, hk1, hk2⟩, hab, hw, ht, ⟨hus, hss⟩, ⟨hUO, hSO⟩, ⟨hL1, hL2⟩, hn1, hn2⟩ := hCW
  subst hW9
  subst ho
  have hP : PP g ([ob (ad 0) 9 [.ref (ad 1), .ref (ad 3), .ref (ad 5), .ref (ad 6), .ref (ad 7), .ref (ad 8), .ref (ad 13), .ref (ad 16), .ref (ad 21)], ob (ad 1) 6 [.ref (ad 2), vi (S.1.length : Int)], aI g (ad 2) 60 fd, ob (ad 3) 6 [.ref (ad 4), vi (S.2.1.length : Int)], aI g (ad 4) 60 fk, aZ g (ad 5) 100 S.2.2.1, ob (ad 6) 2 [.ref (ad 7), .ref (ad 13), .ref (ad 22)], ob (ad 7) 1 [.ref (ad 8), .ref (ad 10), .ref (ad 11), .ref (ad 12)], ob (ad 8) 8 [.ref (ad 9)], aI g (ad 9) 4 S.2.2.2.1, aI g (ad 10) 61 g1, aI g (ad 11) 61 g2, aI g (ad 12) 60 g3, ob (ad 13) 5 [.ref (ad 14), .ref (ad 15), vi (S.2.2.2.2.1.1 : Int)], aI g (ad 14) 20 S.2.2.2.2.1.2.1, aI g (ad 15) 20 S.2.2.2.2.1.2.2, ob (ad 16) 3 [.ref (ad 17), .ref (ad 19)], ob (ad 17) 6 [.ref (ad 18), vi (p1.length : Int)], aI g (ad 18) 60 k1, ob (ad 19) 6 [.ref (ad 20), vi (p2.length : Int)], aI g (ad 20) 60 k2, ob (ad 21) 0 [.ref (ad 23)]] ++ (MR g us lw1 ++ DR g ss lw2)) s.heap := hP
  have hl : lv_has ls 2 [(0, .ref (ad 0))] := hl
  have huS := uS_uv hus
  have hsS := sS_sv hss
  have hnU : nU S = us.length := nU_l hus
  have hnS : nS S = ss.length := nS_l hss
  have hdL := hdr.len
  have htL := htk.len
  refine lv_aload_n hx hb dX10_filledShare_0 rfl (lv_at hl 0 rfl) ?_
  refine va_get (D := gD g) (ci := 9) (v := .ref (ad 21)) (C := RX10) (T := TX10) (N := 9) hx hb htl ck_X10 hown hKK.k hP 0 rfl rfl 8 (by decide) (htl _ wd_2_11) (fun _ h9 => h9) rfl dX10_filledShare_1 ?_
  refine jk_Si (va_runV (As := []) (rest := []) ⟨hx, hb, hml, hown, htl⟩ (m_X0_size l g (ad 21) (ad 23) ss lw2 hL2 hSO hn2 ) (cwV 0 htl lk_X10_193 rfl rfl rfl cwV_X0_size ⟨Nat.le_of_ble_eq_true rfl, Nat.le_of_ble_eq_true rfl⟩) (jp_V hKK (va_S.rf (A := jN)) jNb (va_recv hKK.k hP (ci := 0) (q0 := 21) rfl rfl) ⟨(va_P.sub hP [21] rfl), (hP.mem fun q h => List.mem_append_right _ (List.mem_append_right _ h))⟩) rfl rfl hl.1 rfl (lv_room (Nat.le_of_ble_eq_true rfl)) dX10_filledShare_4 ⟨Nat.le_of_ble_eq_true rfl, Nat.le_of_ble_eq_true rfl⟩) (fun z4 hz4 => ?_)
  subst hz4
  refine lv_istore_n (lv' := [(1, vi (ss.length : Int)), (0, .ref (ad 0))]) hx hb dX10_filledShare_7 rfl hl (by decide) rfl (fun ls hl => ?_)
  refine lv_iload_n hx hb dX10_filledShare_8 rfl (lv_at hl 0 rfl) ?_
  refine jr_ifne (tgt := 23) hx hb dX10_filledShare_9 (by decide) ⟨by omega, by omega⟩ (fun c9 => ?_) (fun c9 => ?_)
  · refine lv_aload_n hx hb dX10_filledShare_23 rfl (lv_at hl 1 rfl) ?_
    refine va_get (D := gD g) (ci := 9) (v := .ref (ad 21)) (C := RX10) (T := TX10) (N := 9) hx hb htl ck_X10 hown hKK.k hP 0 rfl rfl 8 (by decide) (htl _ wd_2_11) (fun _ h9 => h9) rfl dX10_filledShare_24 ?_
    refine jk_Si (va_runV (As := []) (rest := []) ⟨hx, hb, hml, hown, htl⟩ (m_X0_countNotEmpty l g (ad 21) (ad 23) ss lw2 hL2 hSO hn2 ) (cwV 0 htl lk_X10_273 rfl rfl rfl cwV_X0_countNotEmpty ⟨Nat.le_of_ble_eq_true rfl, Nat.le_of_ble_eq_true rfl⟩) (jp_V hKK (va_S.rf (A := jN)) jNb (va_recv hKK.k hP (ci := 0) (q0 := 21) rfl rfl) ⟨(va_P.sub hP [21] rfl), (hP.mem fun q h => List.mem_append_right _ (List.mem_append_right _ h))⟩) rfl rfl hl.1 rfl (lv_room (Nat.le_of_ble_eq_true rfl)) dX10_filledShare_27 ⟨Nat.le_of_ble_eq_true rfl, Nat.le_of_ble_eq_true rfl⟩) (fun z27 hz27 => ?_)
    subst hz27
    have tcn := cne_b (sv ss) ss.length
    refine lv_i2f hx hb dX10_filledShare_30 ?_
    refine lv_iload_n hx hb dX10_filledShare_31 rfl (lv_at hl 0 rfl) ?_
    refine lv_i2f hx hb dX10_filledShare_32 ?_
    refine jr_fdiv hx hb ((shr_ok ⟨by omega, by omega⟩ ⟨by omega, by omega⟩).1) dX10_filledShare_33 ?_
    refine vx_ret ?_
    refine W.widen (k := 1) (n := 6) (by omega) (by omega) ?_
    exact je_Sf hx hb hr hlk (⟨by unfold cd1; rw [hnS]; (repeat' split) <;> omega, by rw [hsS, hnS]⟩) dX10_filledShare_34
  · exact jt_SW (g := g) hx hb hsT hown hKK tf_272 (htl _ wd_33_1) (htl _ wd_33_2) nws_18 (th_272 htl hKK) tg_272 hl.1 hml htab hlk (⟨rfl, by unfold cd1; rw [hnS]; (repeat' split) <;> omega⟩) dX10_filledShare_12 dX10_filledShare_15 dX10_filledShare_16 dX10_filledShare_19 dX10_filledShare_22 (Nat.le_of_ble_eq_true rfl) (Nat.le_of_ble_eq_true rfl) (Nat.le_of_ble_eq_true rfl) (Nat.le_of_ble_eq_true rfl) (Nat.le_of_ble_eq_true rfl) (Nat.le_of_ble_eq_true rfl)
