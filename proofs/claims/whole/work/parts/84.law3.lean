
theorem CW.recv {g : GT} {s : State} {H : Heap} {o : Nat} {S : SGM} {W9 : va_W} (hKK : KK g s) (h : CW g o S W9) (hP : PP g W9 H) : ∃ cell : Cell, H[o]? = some cell ∧ cell.vm.isStatics = false ∧ s.vm.findClass RX10 = some cell.cls := by
  obtain ⟨ad, fd, fk, g1, g2, g3, p1, p2, k1, k2, us, ss, lw1, lw2, hW, ho, -⟩ := h
  subst hW
  subst ho
  exact va_recv hKK.k hP (ci := 9) (q0 := 0) rfl rfl
theorem lk_L_7 : GoodIn WSL (wsV RL 7 RX10 yX10_word (ws_ yX10_word cX10_word 2 (some .int))) := gd_app (List.forall_mem_cons.mpr ⟨wd_6_20, List.forall_mem_cons.mpr ⟨wd_6_21, List.forall_mem_cons.mpr ⟨wd_6_22, List.forall_mem_cons.mpr ⟨wd_1_2, fun _ h => nomatch h⟩⟩⟩⟩) (gd_ wd_6_23)
theorem cwV_X10_word : yX10_word.cls = RX10 ∧ yX10_word.cls ≠ "java/lang/invoke/MethodHandle" ∧ yX10_word.cls ≠ "java/lang/invoke/VarHandle" ∧ (parseMethodDescriptor yX10_word.desc).map (fun d => d.parameters.length) = some 1 := by decide +kernel
theorem lk_L_35 : GoodIn WSL (wsV RL 35 RX10 yX10_addTerm (ws_ yX10_addTerm cX10_addTerm 3 (some .int))) := gd_app (List.forall_mem_cons.mpr ⟨wd_12_6, List.forall_mem_cons.mpr ⟨wd_12_7, List.forall_mem_cons.mpr ⟨wd_12_8, List.forall_mem_cons.mpr ⟨wd_1_2, fun _ h => nomatch h⟩⟩⟩⟩) (gd_ wd_12_9)
theorem cwV_X10_addTerm : yX10_addTerm.cls = RX10 ∧ yX10_addTerm.cls ≠ "java/lang/invoke/MethodHandle" ∧ yX10_addTerm.cls ≠ "java/lang/invoke/VarHandle" ∧ (parseMethodDescriptor yX10_addTerm.desc).map (fun d => d.parameters.length) = some 2 := by decide +kernel
theorem lk_L_56 : GoodIn WSL (wsV RL 56 RX10 yX10_isLive (ws_ yX10_isLive cX10_isLive 2 (some .boolean))) := gd_app (List.forall_mem_cons.mpr ⟨wd_21_22, List.forall_mem_cons.mpr ⟨wd_21_23, List.forall_mem_cons.mpr ⟨wd_22_0, List.forall_mem_cons.mpr ⟨wd_1_2, fun _ h => nomatch h⟩⟩⟩⟩) (gd_ wd_22_1)
theorem cwV_X10_isLive : yX10_isLive.cls = RX10 ∧ yX10_isLive.cls ≠ "java/lang/invoke/MethodHandle" ∧ yX10_isLive.cls ≠ "java/lang/invoke/VarHandle" ∧ (parseMethodDescriptor yX10_isLive.desc).map (fun d => d.parameters.length) = some 1 := by decide +kernel
theorem lk_L_77 : GoodIn WSL (wsV RL 77 RX10 yX10_best (ws_ yX10_best cX10_best 1 (some .int))) := gd_app (List.forall_mem_cons.mpr ⟨wd_30_10, List.forall_mem_cons.mpr ⟨wd_30_11, List.forall_mem_cons.mpr ⟨wd_30_12, List.forall_mem_cons.mpr ⟨wd_1_2, fun _ h => nomatch h⟩⟩⟩⟩) (gd_ wd_30_13)
theorem cwV_X10_best : yX10_best.cls = RX10 ∧ yX10_best.cls ≠ "java/lang/invoke/MethodHandle" ∧ yX10_best.cls ≠ "java/lang/invoke/VarHandle" ∧ (parseMethodDescriptor yX10_best.desc).map (fun d => d.parameters.length) = some 0 := by decide +kernel
set_option maxHeartbeats 4000000 in
set_option maxRecDepth 100000 in
theorem m_L_word (l : Launch) (hsT : l.stackTraces = false) (g : GT) (cj cd : ClassId) (o a : Nat) (f : Nat → Int64) (S : SGM) (W9 : va_W) (hCW : CW g o S W9) (sz : Nat) (v : Int) (hv : jR v) : Met l yL_word (.codeWith yL_word cL_word 4 (some .int) [(0, 9, 12, 13), (0, 9, 15, 15)] :: WSL) (rmm 5 3 18) (jPh g cj cd [.ref o, vi v, .ref a] (fun H => H.size = sz ∧ PP g (aJ cj a f :: W9) H ∧ va_D (fun q => gb g ≤ q) (aJ cj a f :: W9))) (jQi (fun z H1 => z = (cdTok S (0 ≤ v ∧ v < 100)) ∧ ∃ (w1 : va_W) (f1 : Nat → Int64), (((cdTok S (0 ≤ v ∧ v < 100)) = 0 ∧ CW g o ((S.1 ++ [0 * 10000 + v], S.2)) w1 ∧ f1 0 = (jI ((S.1.length : Int) + 1)).toInt64) ∨ (¬ (cdTok S (0 ≤ v ∧ v < 100)) = 0 ∧ CW g o S w1)) ∧ PP g (aJ cj a f1 :: w1) H1 ∧ va_D (va_A (aJ cj a f :: W9) sz) (aJ cj a f1 :: w1)) (va_A (aJ cj a f :: W9) sz)) 3 18 (va_A (aJ cj a f :: W9) sz) := by
  refine jh_M (by decide) (Nat.le_of_ble_eq_true rfl) ?_
  intro p e s m below meth c hx hb hr hml hown htl hlk htb hKK hKJ hpre ls hl
  have hown : s.vm.findClass RL = some m.cls := hown
  obtain ⟨hsz, hP, hD0⟩ := hpre
  subst hsz
  have hD : va_D (va_A (aJ cj a f :: W9) s.heap.size) (aJ cj a f :: W9) := hD0.self
  have hA : ∀ q, s.heap.size ≤ q → (va_A (aJ cj a f :: W9) s.heap.size) q := fun q h => Or.inr h
  generalize hAe : va_A (aJ cj a f :: W9) s.heap.size = A at hD hA ⊢
  have hPW : PP g W9 s.heap := hP.mem fun q h => List.mem_cons_of_mem _ h
  have hDW : va_D (fun q => gb g ≤ q) W9 := (hD0.perm (List.perm_append_singleton _ W9).symm).left
  have hl : lv_has ls 4 [(0, .ref o), (1, vi v), (2, .ref a)] := hl
  refine lv_aload_n hx hb dL_word_0 rfl (lv_at hl 2 rfl) ?_
  refine jr_iconst hx hb dL_word_1 ?_
  refine lv_aload_n hx hb dL_word_2 rfl (lv_at hl 0 rfl) ?_
  refine lv_iload_n hx hb dL_word_3 rfl (lv_at hl 1 rfl) ?_
  refine jh_Qi (vx_runV (As := [vi v]) (rest := [vi 0, .ref a]) ⟨hx, hb, hml, hown, htl⟩ (m_X10_word l hsT g o S W9 hCW s.heap.size v hv) (cwV 1 htl lk_L_7 rfl rfl rfl cwV_X10_word ⟨Nat.le_of_ble_eq_true rfl, Nat.le_of_ble_eq_true rfl⟩) (jp_V hKK (va_S.rf (A := jN)) jNb (CW.recv hKK hCW hPW) ⟨rfl, hPW, hDW⟩) rfl rfl hl.1 rfl (lv_room (Nat.le_of_ble_eq_true rfl)) dL_word_4 ⟨Nat.le_of_ble_eq_true rfl, Nat.le_of_ble_eq_true rfl⟩) hCW hP hD hA ?_ ?_
  · intro E ce q9 H1 L w1 hE hC hP hD hS h2 h3 h4
    rcases hE with ⟨rfl, hcd⟩ | ⟨rfl, hcd⟩
    · refine vx_catch (name := eIA) hown [] (xe (0, 9, 12, 13)) [xe (0, 9, 15, 15)] (htb.trans rfl) (fun _ h => nomatch h) rfl (show (13 : Nat) ≠ 0 by decide) (htl _ wd_6_18) (va_Nw.use rfl (hKK.1.2.2.1 (eIA, eIA) (List.mem_of_getElem? (i := 0) rfl))) h2 h3 h4 ?_
      refine lv_astore_n (lv' := [(3, .ref q9), (0, .ref o), (1, vi v), (2, .ref a)]) hx hb dL_word_12 rfl hl (by decide) rfl (fun ls hl => ?_)
      refine jr_iconst hx hb dL_word_13 ?_
      exact je_Qi hx hb hr hlk rfl hS ⟨hcd.symm, w1, f, Or.inr ⟨by omega, hC⟩, hP, hD⟩ dL_word_14
    · refine vx_catch (name := eIS) hown [xe (0, 9, 12, 13)] (xe (0, 9, 15, 15)) [] (htb.trans rfl) (List.forall_mem_cons.mpr ⟨Or.inr ⟨(show (13 : Nat) ≠ 0 by decide), _, htl _ wd_6_18, hKK.1.2.2.2.2.2.1 (eIS, eIA) (List.mem_of_getElem? (i := 0) rfl)⟩, fun _ h => nomatch h⟩) rfl (show (15 : Nat) ≠ 0 by decide) (htl _ wd_6_19) (va_Nw.use rfl (hKK.1.2.2.1 (eIS, eIS) (List.mem_of_getElem? (i := 1) rfl))) h2 h3 h4 ?_
      refine lv_astore_n (lv' := [(3, .ref q9), (0, .ref o), (1, vi v), (2, .ref a)]) hx hb dL_word_15 rfl hl (by decide) rfl (fun ls hl => ?_)
      refine jr_iconst hx hb dL_word_16 ?_
      exact je_Qi hx hb hr hlk rfl hS ⟨hcd.symm, w1, f, Or.inr ⟨by omega, hC⟩, hP, hD⟩ dL_word_17
  · intro v9 H1 L w1 hv9 hC hP hD hS
    obtain ⟨z9, rfl, hcd, hz9⟩ := hv9
    subst hz9
    refine lv_i2l hx hb dL_word_7 rfl ?_
    refine va_last hx hb hKJ hP hD hS 0 0 rfl rfl (jI_in (by omega) (by omega) (by omega)) dL_word_8 (fun H locs hP hD hS => ?_)
    refine lv_goto (tgt := 18) hx hb dL_word_9 (by decide) ?_
    refine jr_iconst hx hb dL_word_18 ?_
    exact je_Qi hx hb hr hlk rfl hS ⟨hcd.symm, w1, _, Or.inl ⟨hcd, hC, if_pos rfl⟩, hP, hD⟩ dL_word_19
set_option maxHeartbeats 4000000 in
set_option maxRecDepth 100000 in
theorem m_L_addTerm (l : Launch) (hsT : l.stackTraces = false) (g : GT) (cj cd : ClassId) (o a : Nat) (f : Nat → Int64) (S : SGM) (W9 : va_W) (hCW : CW g o S W9) (sz : Nat) (va vb : Int) (hva : jR va) (hvb : jR vb) : Met l yL_addTerm (.codeWith yL_addTerm cL_addTerm 5 (some .int) [(0, 10, 13, 13), (0, 10, 17, 39), (0, 10, 21, 15)] :: WSL) (rmm 4 3 18) (jPh g cj cd [.ref o, vi va, vi vb, .ref a] (fun H => H.size = sz ∧ PP g (aJ cj a f :: W9) H ∧ va_D (fun q => gb g ≤ q) (aJ cj a f :: W9))) (jQi (fun z H1 => z = (cdTerm S va vb) ∧ ∃ (w1 : va_W) (f1 : Nat → Int64), (((cdTerm S va vb) = 0 ∧ CW g o (nxT S va vb) w1 ∧ f1 0 = (jI (((S.2.2.2.2.1.1 + 1 : Nat) : Int))).toInt64) ∨ (¬ (cdTerm S va vb) = 0 ∧ CW g o S w1)) ∧ PP g (aJ cj a f1 :: w1) H1 ∧ va_D (va_A (aJ cj a f :: W9) sz) (aJ cj a f1 :: w1)) (va_A (aJ cj a f :: W9) sz)) 3 18 (va_A (aJ cj a f :: W9) sz) := by
  refine jh_M (by decide) (Nat.le_of_ble_eq_true rfl) ?_
  intro p e s m below meth c hx hb hr hml hown htl hlk htb hKK hKJ hpre ls hl
  have hown : s.vm.findClass RL = some m.cls := hown
  obtain ⟨hsz, hP, hD0⟩ := hpre
  subst hsz
  have hD : va_D (va_A (aJ cj a f :: W9) s.heap.size) (aJ cj a f :: W9) := hD0.self
  have hA : ∀ q, s.heap.size ≤ q → (va_A (aJ cj a f :: W9) s.heap.size) q := fun q h => Or.inr h
  generalize hAe : va_A (aJ cj a f :: W9) s.heap.size = A at hD hA ⊢
  have hPW : PP g W9 s.heap := hP.mem fun q h => List.mem_cons_of_mem _ h
  have hDW : va_D (fun q => gb g ≤ q) W9 := (hD0.perm (List.perm_append_singleton _ W9).symm).left
  have hl : lv_has ls 5 [(0, .ref o), (1, vi va), (2, vi vb), (3, .ref a)] := hl
  refine lv_aload_n hx hb dL_addTerm_0 rfl (lv_at hl 3 rfl) ?_
  refine jr_iconst hx hb dL_addTerm_1 ?_
  refine lv_aload_n hx hb dL_addTerm_2 rfl (lv_at hl 0 rfl) ?_
  refine lv_iload_n hx hb dL_addTerm_3 rfl (lv_at hl 1 rfl) ?_
  refine lv_iload_n hx hb dL_addTerm_4 rfl (lv_at hl 2 rfl) ?_
  refine jh_Qi (vx_runV (As := [vi va, vi vb]) (rest := [vi 0, .ref a]) ⟨hx, hb, hml, hown, htl⟩ (m_X10_addTerm l hsT g o S W9 hCW s.heap.size va vb hva hvb) (cwV 2 htl lk_L_35 rfl rfl rfl cwV_X10_addTerm ⟨Nat.le_of_ble_eq_true rfl, Nat.le_of_ble_eq_true rfl⟩) (jp_V hKK (va_S.rf (A := jN)) jNb (CW.recv hKK hCW hPW) ⟨rfl, hPW, hDW⟩) rfl rfl hl.1 rfl (lv_room (Nat.le_of_ble_eq_true rfl)) dL_addTerm_5 ⟨Nat.le_of_ble_eq_true rfl, Nat.le_of_ble_eq_true rfl⟩) hCW hP hD hA ?_ ?_
  · intro E ce q9 H1 L w1 hE hC hP hD hS h2 h3 h4
    rcases hE with ⟨rfl, hcd⟩ | ⟨rfl, hcd⟩ | ⟨rfl, hcd⟩
    · refine vx_catch (name := eIA) hown [] (xe (0, 10, 13, 13)) [xe (0, 10, 17, 39), xe (0, 10, 21, 15)] (htb.trans rfl) (fun _ h => nomatch h) rfl (show (13 : Nat) ≠ 0 by decide) (htl _ wd_6_18) (va_Nw.use rfl (hKK.1.2.2.1 (eIA, eIA) (List.mem_of_getElem? (i := 0) rfl))) h2 h3 h4 ?_
      refine lv_astore (lv' := [(4, .ref q9), (0, .ref o), (1, vi va), (2, vi vb), (3, .ref a)]) hx hb dL_addTerm_13 hl (by decide) rfl (fun ls hl => ?_)
      refine jr_iconst hx hb dL_addTerm_15 ?_
      exact je_Qi hx hb hr hlk rfl hS ⟨hcd.symm, w1, f, Or.inr ⟨by omega, hC⟩, hP, hD⟩ dL_addTerm_16
    · refine vx_catch (name := eUO) hown [xe (0, 10, 13, 13)] (xe (0, 10, 17, 39)) [xe (0, 10, 21, 15)] (htb.trans rfl) (List.forall_mem_cons.mpr ⟨Or.inr ⟨(show (13 : Nat) ≠ 0 by decide), _, htl _ wd_6_18, hKK.1.2.2.2.2.2.1 (eUO, eIA) (List.mem_of_getElem? (i := 1) rfl)⟩, fun _ h => nomatch h⟩) rfl (show (39 : Nat) ≠ 0 by decide) (htl _ wd_12_5) (va_Nw.use rfl (hKK.1.2.2.1 (eUO, eUO) (List.mem_of_getElem? (i := 4) rfl))) h2 h3 h4 ?_
      refine lv_astore (lv' := [(4, .ref q9), (0, .ref o), (1, vi va), (2, vi vb), (3, .ref a)]) hx hb dL_addTerm_17 hl (by decide) rfl (fun ls hl => ?_)
      refine jr_iconst hx hb dL_addTerm_19 ?_
      exact je_Qi hx hb hr hlk rfl hS ⟨hcd.symm, w1, f, Or.inr ⟨by omega, hC⟩, hP, hD⟩ dL_addTerm_20
    · refine vx_catch (name := eIS) hown [xe (0, 10, 13, 13), xe (0, 10, 17, 39)] (xe (0, 10, 21, 15)) [] (htb.trans rfl) (List.forall_mem_cons.mpr ⟨Or.inr ⟨(show (13 : Nat) ≠ 0 by decide), _, htl _ wd_6_18, hKK.1.2.2.2.2.2.1 (eIS, eIA) (List.mem_of_getElem? (i := 0) rfl)⟩, List.forall_mem_cons.mpr ⟨Or.inr ⟨(show (39 : Nat) ≠ 0 by decide), _, htl _ wd_12_5, hKK.1.2.2.2.2.2.1 (eIS, eUO) (List.mem_of_getElem? (i := 2) rfl)⟩, fun _ h => nomatch h⟩⟩) rfl (show (15 : Nat) ≠ 0 by decide) (htl _ wd_6_19) (va_Nw.use rfl (hKK.1.2.2.1 (eIS, eIS) (List.mem_of_getElem? (i := 1) rfl))) h2 h3 h4 ?_
      refine lv_astore (lv' := [(4, .ref q9), (0, .ref o), (1, vi va), (2, vi vb), (3, .ref a)]) hx hb dL_addTerm_21 hl (by decide) rfl (fun ls hl => ?_)
      refine jr_iconst hx hb dL_addTerm_23 ?_
      exact je_Qi hx hb hr hlk rfl hS ⟨hcd.symm, w1, f, Or.inr ⟨by omega, hC⟩, hP, hD⟩ dL_addTerm_24
  · intro v9 H1 L w1 hv9 hC hP hD hS
    obtain ⟨z9, rfl, hcd, hz9⟩ := hv9
    subst hz9
    refine lv_i2l hx hb dL_addTerm_8 rfl ?_
    refine va_last hx hb hKJ hP hD hS 0 0 rfl rfl (jI_in (by omega) (by omega) (by omega)) dL_addTerm_9 (fun H locs hP hD hS => ?_)
    refine lv_goto (tgt := 25) hx hb dL_addTerm_10 (by decide) ?_
    refine jr_iconst hx hb dL_addTerm_25 ?_
    exact je_Qi hx hb hr hlk rfl hS ⟨hcd.symm, w1, _, Or.inl ⟨hcd, hC, if_pos rfl⟩, hP, hD⟩ dL_addTerm_26
set_option maxHeartbeats 4000000 in
set_option maxRecDepth 100000 in
theorem m_L_isLive (l : Launch) (hsT : l.stackTraces = false) (g : GT) (cj cd : ClassId) (o a : Nat) (f : Nat → Int64) (S : SGM) (W9 : va_W) (hCW : CW g o S W9) (sz : Nat) (v : Int) (hv : jR v) : Met l yL_isLive (.codeWith yL_isLive cL_isLive 4 (some .int) [(0, 16, 19, 48)] :: WSL) (rmm 7 1 6) (jPh g cj cd [.ref o, vi v, .ref a] (fun H => H.size = sz ∧ PP g (aJ cj a f :: W9) H ∧ va_D (fun q => gb g ≤ q) (aJ cj a f :: W9))) (jQi (fun z H1 => z = (cdU S v) ∧ ∃ (w1 : va_W) (f1 : Nat → Int64), (((cdU S v) = 0 ∧ CW g o S w1 ∧ f1 0 = (if jI ((ug S v).2.2) = 0 then (0 : Int64) else 1)) ∨ (¬ (cdU S v) = 0 ∧ CW g o S w1)) ∧ PP g (aJ cj a f1 :: w1) H1 ∧ va_D (va_A (aJ cj a f :: W9) sz) (aJ cj a f1 :: w1)) (va_A (aJ cj a f :: W9) sz)) 1 6 (va_A (aJ cj a f :: W9) sz) := by
  refine jh_M (by decide) (Nat.le_of_ble_eq_true rfl) ?_
  intro p e s m below meth c hx hb hr hml hown htl hlk htb hKK hKJ hpre ls hl
  have hown : s.vm.findClass RL = some m.cls := hown
  obtain ⟨hsz, hP, hD0⟩ := hpre
  subst hsz
  have hD : va_D (va_A (aJ cj a f :: W9) s.heap.size) (aJ cj a f :: W9) := hD0.self
  have hA : ∀ q, s.heap.size ≤ q → (va_A (aJ cj a f :: W9) s.heap.size) q := fun q h => Or.inr h
  generalize hAe : va_A (aJ cj a f :: W9) s.heap.size = A at hD hA ⊢
  have hPW : PP g W9 s.heap := hP.mem fun q h => List.mem_cons_of_mem _ h
  have hDW : va_D (fun q => gb g ≤ q) W9 := (hD0.perm (List.perm_append_singleton _ W9).symm).left
  have hl : lv_has ls 4 [(0, .ref o), (1, vi v), (2, .ref a)] := hl
  refine lv_aload_n hx hb dL_isLive_0 rfl (lv_at hl 2 rfl) ?_
  refine jr_iconst hx hb dL_isLive_1 ?_
  refine lv_aload_n hx hb dL_isLive_2 rfl (lv_at hl 0 rfl) ?_
  refine lv_iload_n hx hb dL_isLive_3 rfl (lv_at hl 1 rfl) ?_
  refine jh_Si (vx_runV (As := [vi v]) (rest := [vi 0, .ref a]) ⟨hx, hb, hml, hown, htl⟩ (m_X10_isLive l hsT g o S W9 hCW v hv) (cwV 1 htl lk_L_56 rfl rfl rfl cwV_X10_isLive ⟨Nat.le_of_ble_eq_true rfl, Nat.le_of_ble_eq_true rfl⟩) (jp_V hKK (va_S.rf (A := jN)) jNb (CW.recv hKK hCW hPW) hPW) rfl rfl hl.1 rfl (lv_room (Nat.le_of_ble_eq_true rfl)) dL_isLive_4 ⟨Nat.le_of_ble_eq_true rfl, Nat.le_of_ble_eq_true rfl⟩) hCW hP hD ?_ ?_
  · intro E ce q9 H1 L w1 hE hC hP hD hS h2 h3 h4
    rcases hE with ⟨rfl, hcd⟩
    · refine vx_catch (name := eNS) hown [] (xe (0, 16, 19, 48)) [] (htb.trans rfl) (fun _ h => nomatch h) rfl (show (48 : Nat) ≠ 0 by decide) (htl _ wd_14_19) (va_Nw.use rfl (hKK.1.2.2.1 (eNS, eNS) (List.mem_of_getElem? (i := 5) rfl))) h2 h3 h4 ?_
      refine lv_astore_n (lv' := [(3, .ref q9), (0, .ref o), (1, vi v), (2, .ref a)]) hx hb dL_isLive_19 rfl hl (by decide) rfl (fun ls hl => ?_)
      refine jr_iconst hx hb dL_isLive_20 ?_
      exact je_Qi hx hb hr hlk rfl hS ⟨hcd.symm, w1, f, Or.inr ⟨by omega, hC⟩, hP, hD⟩ dL_isLive_21
  · intro v9 H1 L w1 hv9 hC hP hD hS
    obtain ⟨z9, rfl, hcd, hz9⟩ := hv9
    subst hz9
    refine lv_if_eq (tgt := 14) hx hb dL_isLive_7 (by decide) (fun hz8 => ?_) (fun hz8 => ?_)
    · refine jr_lconst0 hx hb dL_isLive_14 ?_
      refine va_last hx hb hKJ hP hD hS 0 0 rfl rfl (jI_in (by omega) (by omega) (by omega)) dL_isLive_15 (fun H locs hP hD hS => ?_)
      refine lv_goto (tgt := 22) hx hb dL_isLive_16 (by decide) ?_
      refine jr_iconst hx hb dL_isLive_22 ?_
      exact je_Qi hx hb hr hlk rfl hS ⟨hcd.symm, w1, _, Or.inl ⟨hcd, hC, (if_pos rfl).trans (if_pos hz8).symm⟩, hP, hD⟩ dL_isLive_23
    · refine jr_lconst1 hx hb dL_isLive_10 ?_
      refine lv_goto (tgt := 15) hx hb dL_isLive_11 (by decide) ?_
      refine va_last hx hb hKJ hP hD hS 0 0 rfl rfl (jI_in (by omega) (by omega) (by omega)) dL_isLive_15 (fun H locs hP hD hS => ?_)
      refine lv_goto (tgt := 22) hx hb dL_isLive_16 (by decide) ?_
      refine jr_iconst hx hb dL_isLive_22 ?_
      exact je_Qi hx hb hr hlk rfl hS ⟨hcd.symm, w1, _, Or.inl ⟨hcd, hC, (if_pos rfl).trans (if_neg hz8).symm⟩, hP, hD⟩ dL_isLive_23
set_option maxHeartbeats 4000000 in
set_option maxRecDepth 100000 in
theorem m_L_best (l : Launch) (hsT : l.stackTraces = false) (g : GT) (cj cd : ClassId) (o a : Nat) (f : Nat → Int64) (S : SGM) (W9 : va_W) (hCW : CW g o S W9) (sz : Nat) : Met l yL_best (.codeWith yL_best cL_best 3 (some .int) [(0, 8, 11, 15), (0, 8, 14, 48)] :: WSL) (rmm 9 2 12) (jPh g cj cd [.ref o, .ref a] (fun H => H.size = sz ∧ PP g (aJ cj a f :: W9) H ∧ va_D (fun q => gb g ≤ q) (aJ cj a f :: W9))) (jQi (fun z H1 => z = (cdBest S) ∧ ∃ (w1 : va_W) (f1 : Nat → Int64), (((cdBest S) = 0 ∧ CW g o (S) w1 ∧ f1 0 = (jI (bsU S S.1)).toInt64) ∨ (¬ (cdBest S) = 0 ∧ CW g o S w1)) ∧ PP g (aJ cj a f1 :: w1) H1 ∧ va_D (va_A (aJ cj a f :: W9) sz) (aJ cj a f1 :: w1)) (va_A (aJ cj a f :: W9) sz)) 2 12 (va_A (aJ cj a f :: W9) sz) := by
  refine jh_M (by decide) (Nat.le_of_ble_eq_true rfl) ?_
  intro p e s m below meth c hx hb hr hml hown htl hlk htb hKK hKJ hpre ls hl
  have hown : s.vm.findClass RL = some m.cls := hown
  obtain ⟨hsz, hP, hD0⟩ := hpre
  subst hsz
  have hD : va_D (va_A (aJ cj a f :: W9) s.heap.size) (aJ cj a f :: W9) := hD0.self
  have hA : ∀ q, s.heap.size ≤ q → (va_A (aJ cj a f :: W9) s.heap.size) q := fun q h => Or.inr h
  generalize hAe : va_A (aJ cj a f :: W9) s.heap.size = A at hD hA ⊢
  have hPW : PP g W9 s.heap := hP.mem fun q h => List.mem_cons_of_mem _ h
  have hDW : va_D (fun q => gb g ≤ q) W9 := (hD0.perm (List.perm_append_singleton _ W9).symm).left
  have hl : lv_has ls 3 [(0, .ref o), (1, .ref a)] := hl
  refine lv_aload_n hx hb dL_best_0 rfl (lv_at hl 1 rfl) ?_
  refine jr_iconst hx hb dL_best_1 ?_
  refine lv_aload_n hx hb dL_best_2 rfl (lv_at hl 0 rfl) ?_
  refine jh_Qw (vx_runV (As := []) (rest := [vi 0, .ref a]) ⟨hx, hb, hml, hown, htl⟩ (m_X10_best l hsT g o S W9 hCW s.heap.size) (cwV 0 htl lk_L_77 rfl rfl rfl cwV_X10_best ⟨Nat.le_of_ble_eq_true rfl, Nat.le_of_ble_eq_true rfl⟩) (jp_V hKK (va_S.rf (A := jN)) jNb (CW.recv hKK hCW hPW) ⟨rfl, hPW, hDW⟩) rfl rfl hl.1 rfl (lv_room (Nat.le_of_ble_eq_true rfl)) dL_best_3 ⟨Nat.le_of_ble_eq_true rfl, Nat.le_of_ble_eq_true rfl⟩) hP hD hA ?_ ?_
  · intro E ce q9 H1 L w1 hE hC hP hD hS h2 h3 h4
    rcases hE with ⟨rfl, hcd⟩ | ⟨rfl, hcd⟩
    · refine vx_catch (name := eIS) hown [] (xe (0, 8, 11, 15)) [xe (0, 8, 14, 48)] (htb.trans rfl) (fun _ h => nomatch h) rfl (show (15 : Nat) ≠ 0 by decide) (htl _ wd_6_19) (va_Nw.use rfl (hKK.1.2.2.1 (eIS, eIS) (List.mem_of_getElem? (i := 1) rfl))) h2 h3 h4 ?_
      refine lv_astore_n (lv' := [(2, .ref q9), (0, .ref o), (1, .ref a)]) hx hb dL_best_11 rfl hl (by decide) rfl (fun ls hl => ?_)
      refine jr_iconst hx hb dL_best_12 ?_
      exact je_Qi hx hb hr hlk rfl hS ⟨hcd.symm, w1, f, Or.inr ⟨by omega, hC⟩, hP, hD⟩ dL_best_13
    · refine vx_catch (name := eNS) hown [xe (0, 8, 11, 15)] (xe (0, 8, 14, 48)) [] (htb.trans rfl) (List.forall_mem_cons.mpr ⟨Or.inr ⟨(show (15 : Nat) ≠ 0 by decide), _, htl _ wd_6_19, hKK.1.2.2.2.2.2.1 (eNS, eIS) (List.mem_of_getElem? (i := 5) rfl)⟩, fun _ h => nomatch h⟩) rfl (show (48 : Nat) ≠ 0 by decide) (htl _ wd_14_19) (va_Nw.use rfl (hKK.1.2.2.1 (eNS, eNS) (List.mem_of_getElem? (i := 5) rfl))) h2 h3 h4 ?_
      refine lv_astore_n (lv' := [(2, .ref q9), (0, .ref o), (1, .ref a)]) hx hb dL_best_14 rfl hl (by decide) rfl (fun ls hl => ?_)
      refine jr_iconst hx hb dL_best_15 ?_
      exact je_Qi hx hb hr hlk rfl hS ⟨hcd.symm, w1, f, Or.inr ⟨by omega, hC⟩, hP, hD⟩ dL_best_16
  · intro v9 H1 L w1 hv9 hC hP hD hS
    obtain ⟨z9, rfl, hcd, hz9⟩ := hv9
    subst hz9
    refine lv_i2l hx hb dL_best_6 rfl ?_
    refine va_last hx hb hKJ hP hD hS 0 0 rfl rfl (jI_in (by omega) (by omega) (by omega)) dL_best_7 (fun H locs hP hD hS => ?_)
    refine lv_goto (tgt := 17) hx hb dL_best_8 (by decide) ?_
    refine jr_iconst hx hb dL_best_17 ?_
    exact je_Qi hx hb hr hlk rfl hS ⟨hcd.symm, w1, _, Or.inl ⟨hcd, hC, if_pos rfl⟩, hP, hD⟩ dL_best_18
