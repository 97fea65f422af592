
theorem lk_X10_61 : GoodIn WSL (va_wsS RX10 61 yX10_requireBelow (ws_ yX10_requireBelow cX10_requireBelow 2 none)) := gd_app (List.forall_mem_cons.mpr ⟨wd_9_7, List.forall_mem_cons.mpr ⟨wd_9_8, List.forall_mem_cons.mpr ⟨wd_1_2, fun _ h => nomatch h⟩⟩⟩) (gd_ wd_9_9)
theorem cwS_X10_requireBelow : yX10_requireBelow.cls ≠ "java/lang/invoke/MethodHandle" ∧ yX10_requireBelow.cls ≠ "java/lang/invoke/VarHandle" ∧ (parseMethodDescriptor yX10_requireBelow.desc).map (fun d => d.parameters.length) = some 2 := by decide +kernel
theorem lk_X10_65 : GoodIn WSL (wsV RX10 65 RX10 yX10_putToken (ws_ yX10_putToken cX10_putToken 3 (some .int))) := gd_app (List.forall_mem_cons.mpr ⟨wd_9_12, List.forall_mem_cons.mpr ⟨wd_9_13, List.forall_mem_cons.mpr ⟨wd_9_14, List.forall_mem_cons.mpr ⟨wd_1_2, fun _ h => nomatch h⟩⟩⟩⟩) (gd_ wd_9_15)
theorem cwV_X10_putToken : yX10_putToken.cls = RX10 ∧ yX10_putToken.cls ≠ "java/lang/invoke/MethodHandle" ∧ yX10_putToken.cls ≠ "java/lang/invoke/VarHandle" ∧ (parseMethodDescriptor yX10_putToken.desc).map (fun d => d.parameters.length) = some 2 := by decide +kernel
set_option maxHeartbeats 4000000 in
set_option maxRecDepth 100000 in
theorem m_X10_word (l : Launch) (hsT : l.stackTraces = false) (g : GT) (o : Nat) (S : SGM) (W9 : va_W) (hCW : CW g o S W9) (sz : Nat) (v : Int) (hv : jR v) : vx_Met l yX10_word (ws_ yX10_word cX10_word 2 (some .int)) (rmm 4 3 18) (jPc g [.ref o, vi v] (fun H => H.size = sz ∧ PP g W9 H ∧ va_D (fun q => gb g ≤ q) W9)) (jQi (fun z H1 => ((cdTok S (0 ≤ v ∧ v < 100)) = 0 ∧ z = (S.1.length : Int) + 1) ∧ ∃ w1 : va_W, CW g o ((S.1 ++ [0 * 10000 + v], S.2)) w1 ∧ PP g w1 H1 ∧ va_D (va_A W9 sz) w1) (va_A W9 sz)) (jX (fun E => (E = eIA ∧ (cdTok S (0 ≤ v ∧ v < 100)) = 1) ∨ (E = eIS ∧ (cdTok S (0 ≤ v ∧ v < 100)) = 2))) 3 18 (va_A W9 sz) := by
  refine jb_X (by decide) (Nat.le_of_ble_eq_true rfl) ?_
  intro p e s m below meth cq hx hb hr hml hown htl hlk htab hKK hpre ls hl
  have hown : s.vm.findClass RX10 = some m.cls := hown
  obtain ⟨hsz, hP, hD0⟩ := hpre
  subst hsz
  have hAb : ∀ q, (va_A W9 s.heap.size) q → gb g ≤ q := fun q h => h.elim (fun ⟨k, e, h⟩ => hD0.2 k _ h) (fun h => Nat.le_trans hKK.2.1 h)
  have hD : va_D (va_A W9 s.heap.size) W9 := hD0.self
  generalize hAe : va_A W9 s.heap.size = A at *
  have hA : ∀ q, s.heap.size ≤ q → A q := fun q h => by rw [← hAe]; exact Or.inr h
  have hS : va_S A s.heap s.heap [] := va_S.rf
  have hCW9 := hCW
  obtain ⟨ad, fd, fk, g1, g2, g3, p1, p2, k1, k2, us, ss, lw1, lw2, hW9, ho, ⟨hdr, htk, hk1, hk2⟩, hab, hw, ht, ⟨hus, hss⟩, ⟨hUO, hSO⟩, ⟨hL1, hL2⟩, hn1, hn2⟩ := hCW
  subst hW9
  subst ho
  have hP : PP g ([ob (ad 0) 9 [.ref (ad 1), .ref (ad 3), .ref (ad 5), .ref (ad 6), .ref (ad 7), .ref (ad 8), .ref (ad 13), .ref (ad 16), .ref (ad 21)], ob (ad 1) 6 [.ref (ad 2), vi (S.1.length : Int)], aI g (ad 2) 60 fd, ob (ad 3) 6 [.ref (ad 4), vi (S.2.1.length : Int)], aI g (ad 4) 60 fk, aZ g (ad 5) 100 S.2.2.1, ob (ad 6) 2 [.ref (ad 7), .ref (ad 13), .ref (ad 22)], ob (ad 7) 1 [.ref (ad 8), .ref (ad 10), .ref (ad 11), .ref (ad 12)], ob (ad 8) 8 [.ref (ad 9)], aI g (ad 9) 4 S.2.2.2.1, aI g (ad 10) 61 g1, aI g (ad 11) 61 g2, aI g (ad 12) 60 g3, ob (ad 13) 5 [.ref (ad 14), .ref (ad 15), vi (S.2.2.2.2.1.1 : Int)], aI g (ad 14) 20 S.2.2.2.2.1.2.1, aI g (ad 15) 20 S.2.2.2.2.1.2.2, ob (ad 16) 3 [.ref (ad 17), .ref (ad 19)], ob (ad 17) 6 [.ref (ad 18), vi (p1.length : Int)], aI g (ad 18) 60 k1, ob (ad 19) 6 [.ref (ad 20), vi (p2.length : Int)], aI g (ad 20) 60 k2, ob (ad 21) 0 [.ref (ad 23)]] ++ (MR g us lw1 ++ DR g ss lw2)) s.heap := hP
  have hD : va_D A ([ob (ad 0) 9 [.ref (ad 1), .ref (ad 3), .ref (ad 5), .ref (ad 6), .ref (ad 7), .ref (ad 8), .ref (ad 13), .ref (ad 16), .ref (ad 21)], ob (ad 1) 6 [.ref (ad 2), vi (S.1.length : Int)], aI g (ad 2) 60 fd, ob (ad 3) 6 [.ref (ad 4), vi (S.2.1.length : Int)], aI g (ad 4) 60 fk, aZ g (ad 5) 100 S.2.2.1, ob (ad 6) 2 [.ref (ad 7), .ref (ad 13), .ref (ad 22)], ob (ad 7) 1 [.ref (ad 8), .ref (ad 10), .ref (ad 11), .ref (ad 12)], ob (ad 8) 8 [.ref (ad 9)], aI g (ad 9) 4 S.2.2.2.1, aI g (ad 10) 61 g1, aI g (ad 11) 61 g2, aI g (ad 12) 60 g3, ob (ad 13) 5 [.ref (ad 14), .ref (ad 15), vi (S.2.2.2.2.1.1 : Int)], aI g (ad 14) 20 S.2.2.2.2.1.2.1, aI g (ad 15) 20 S.2.2.2.2.1.2.2, ob (ad 16) 3 [.ref (ad 17), .ref (ad 19)], ob (ad 17) 6 [.ref (ad 18), vi (p1.length : Int)], aI g (ad 18) 60 k1, ob (ad 19) 6 [.ref (ad 20), vi (p2.length : Int)], aI g (ad 20) 60 k2, ob (ad 21) 0 [.ref (ad 23)]] ++ (MR g us lw1 ++ DR g ss lw2)) := hD
  have hl : lv_has ls 2 [(0, .ref (ad 0)), (1, vi v)] := hl
  have huS := uS_uv hus
  have hsS := sS_sv hss
  have hnU : nU S = us.length := nU_l hus
  have hnS : nS S = ss.length := nS_l hss
  have hdL := hdr.len
  have htL := htk.len
  refine lv_iload_n hx hb dX10_word_0 rfl (lv_at hl 1 rfl) ?_
  refine jr_bipush hx hb dX10_word_1 (by decide) ?_
  refine jk_XSv (vx_runS (As := [vi v, vi 100]) (rest := []) ⟨hx, hb, hml, hown, htl⟩ (m_X10_requireBelow l hsT g v 100 hv ⟨by omega, by omega⟩) (va_cwS 2 htl lk_X10_61 rfl rfl rfl cwS_X10_requireBelow ⟨Nat.le_of_ble_eq_true rfl, Nat.le_of_ble_eq_true rfl⟩) (jp_S hKK (va_S.rf (A := jN)) jNb trivial) rfl rfl hl.1 rfl (lv_room (Nat.le_of_ble_eq_true rfl)) dX10_word_3 ⟨Nat.le_of_ble_eq_true rfl, Nat.le_of_ble_eq_true rfl⟩) htab hlk (fun E h => Or.inl (⟨h.1, by have h9 := h.2; unfold cdTok; (repeat' split) <;> omega⟩)) (by omega) (by omega) (fun hz3 => ?_)
  refine lv_aload_n hx hb dX10_word_6 rfl (lv_at hl 0 rfl) ?_
  refine jr_iconst hx hb dX10_word_7 ?_
  refine lv_iload_n hx hb dX10_word_8 rfl (lv_at hl 1 rfl) ?_
  have hDc : va_D A [ob (ad 1) 6 [.ref (ad 2), vi (S.1.length : Int)], aI g (ad 2) 60 fd] := hD.sub [1, 2] (by decide) rfl
  refine jk_XQi (vx_runV (As := [vi 0, vi v]) (rest := []) ⟨hx, hb, hml, hown, htl⟩ (m_X10_putToken l hsT g (ad 0) (ad 1) (ad 3) (ad 5) (ad 6) (ad 7) (ad 8) (ad 13) (ad 16) (ad 21) (ad 2) S.1 fd hdr 0 v (by omega) (by omega) (jdis hD [0] [1, 2] rfl rfl (by decide))) (cwV 2 htl lk_X10_65 rfl rfl rfl cwV_X10_putToken ⟨Nat.le_of_ble_eq_true rfl, Nat.le_of_ble_eq_true rfl⟩) (jp_V hKK (va_S.rf (A := jN)) jNb (va_recv hKK.k hP (ci := 9) (q0 := 0) rfl rfl) ⟨(va_P.sub hP [0] rfl), (va_P.sub hP [1, 2] rfl), hDc.weaken (fun _ q _ h => hAb _ h)⟩) rfl rfl hl.1 rfl (lv_room (Nat.le_of_ble_eq_true rfl)) dX10_word_9 ⟨Nat.le_of_ble_eq_true rfl, Nat.le_of_ble_eq_true rfl⟩) htab hlk (fun E h => Or.inr (⟨h.1, by have h9 := h.2; unfold cdTok; (repeat' split) <;> omega⟩)) (by omega) (by omega) (fun q _ h => hDc.inA h) (fun q h => hDc.inA h) (fun _ h => h) (fun z9 H1 locs hz9 hzs hks hS => ?_)
  obtain ⟨hz9, fn9, hfn9, hP1⟩ := hz9
  obtain ⟨hP, hD⟩ := jput (wc := [ob (ad 1) 6 [.ref (ad 2), vi (S.1.length : Int)], aI g (ad 2) 60 fd]) (w1 := [ob (ad 1) 6 [.ref (ad 2), vi ((S.1 ++ [0 * 10000 + v]).length : Int)], aI g (ad 2) 60 fn9]) hP hD [1, 2] rfl rfl hks (fun q _ h => h) hP1
  clear hzs hks; generalize H1 = H at hP hD hS ⊢
  have hP : PP g ([ob (ad 0) 9 [.ref (ad 1), .ref (ad 3), .ref (ad 5), .ref (ad 6), .ref (ad 7), .ref (ad 8), .ref (ad 13), .ref (ad 16), .ref (ad 21)], ob (ad 1) 6 [.ref (ad 2), vi ((S.1 ++ [0 * 10000 + v]).length : Int)], aI g (ad 2) 60 fn9, ob (ad 3) 6 [.ref (ad 4), vi (S.2.1.length : Int)], aI g (ad 4) 60 fk, aZ g (ad 5) 100 S.2.2.1, ob (ad 6) 2 [.ref (ad 7), .ref (ad 13), .ref (ad 22)], ob (ad 7) 1 [.ref (ad 8), .ref (ad 10), .ref (ad 11), .ref (ad 12)], ob (ad 8) 8 [.ref (ad 9)], aI g (ad 9) 4 S.2.2.2.1, aI g (ad 10) 61 g1, aI g (ad 11) 61 g2, aI g (ad 12) 60 g3, ob (ad 13) 5 [.ref (ad 14), .ref (ad 15), vi (S.2.2.2.2.1.1 : Int)], aI g (ad 14) 20 S.2.2.2.2.1.2.1, aI g (ad 15) 20 S.2.2.2.2.1.2.2, ob (ad 16) 3 [.ref (ad 17), .ref (ad 19)], ob (ad 17) 6 [.ref (ad 18), vi (p1.length : Int)], aI g (ad 18) 60 k1, ob (ad 19) 6 [.ref (ad 20), vi (p2.length : Int)], aI g (ad 20) 60 k2, ob (ad 21) 0 [.ref (ad 23)]] ++ (MR g us lw1 ++ DR g ss lw2)) H := hP
  have hD : va_D A ([ob (ad 0) 9 [.ref (ad 1), .ref (ad 3), .ref (ad 5), .ref (ad 6), .ref (ad 7), .ref (ad 8), .ref (ad 13), .ref (ad 16), .ref (ad 21)], ob (ad 1) 6 [.ref (ad 2), vi ((S.1 ++ [0 * 10000 + v]).length : Int)], aI g (ad 2) 60 fn9, ob (ad 3) 6 [.ref (ad 4), vi (S.2.1.length : Int)], aI g (ad 4) 60 fk, aZ g (ad 5) 100 S.2.2.1, ob (ad 6) 2 [.ref (ad 7), .ref (ad 13), .ref (ad 22)], ob (ad 7) 1 [.ref (ad 8), .ref (ad 10), .ref (ad 11), .ref (ad 12)], ob (ad 8) 8 [.ref (ad 9)], aI g (ad 9) 4 S.2.2.2.1, aI g (ad 10) 61 g1, aI g (ad 11) 61 g2, aI g (ad 12) 60 g3, ob (ad 13) 5 [.ref (ad 14), .ref (ad 15), vi (S.2.2.2.2.1.1 : Int)], aI g (ad 14) 20 S.2.2.2.2.1.2.1, aI g (ad 15) 20 S.2.2.2.2.1.2.2, ob (ad 16) 3 [.ref (ad 17), .ref (ad 19)], ob (ad 17) 6 [.ref (ad 18), vi (p1.length : Int)], aI g (ad 18) 60 k1, ob (ad 19) 6 [.ref (ad 20), vi (p2.length : Int)], aI g (ad 20) 60 k2, ob (ad 21) 0 [.ref (ad 23)]] ++ (MR g us lw1 ++ DR g ss lw2)) := hD
  subst hz9
  have h8 := hfn9.len
  rw [List.length_append, List.length_singleton] at h8
  refine vx_ret ?_
  refine W.widen (k := 3) (n := 18) (by omega) (by omega) ?_
  exact je_Qi hx hb hr hlk rfl hS (⟨⟨by unfold cdTok; (repeat' split) <;> omega, rfl⟩, ⟨_, ⟨ad, fn9, fk, g1, g2, g3, p1, p2, k1, k2, us, ss, lw1, lw2, rfl, rfl, ⟨hfn9, htk, hk1, hk2⟩, hab, hw, ht, ⟨hus, hss⟩, ⟨hUO, hSO⟩, ⟨hL1, hL2⟩, hn1, hn2⟩, hP, hD⟩⟩) dX10_word_12
set_option maxHeartbeats 4000000 in
set_option maxRecDepth 100000 in
theorem m_X10_number (l : Launch) (hsT : l.stackTraces = false) (g : GT) (o : Nat) (S : SGM) (W9 : va_W) (hCW : CW g o S W9) (sz : Nat) (v : Int) (hv : jR v) : vx_Met l yX10_number (ws_ yX10_number cX10_number 2 (some .int)) (rmm 4 3 18) (jPc g [.ref o, vi v] (fun H => H.size = sz ∧ PP g W9 H ∧ va_D (fun q => gb g ≤ q) W9)) (jQi (fun z H1 => ((cdTok S (0 ≤ v ∧ v < 10000)) = 0 ∧ z = (S.1.length : Int) + 1) ∧ ∃ w1 : va_W, CW g o ((S.1 ++ [1 * 10000 + v], S.2)) w1 ∧ PP g w1 H1 ∧ va_D (va_A W9 sz) w1) (va_A W9 sz)) (jX (fun E => (E = eIA ∧ (cdTok S (0 ≤ v ∧ v < 10000)) = 1) ∨ (E = eIS ∧ (cdTok S (0 ≤ v ∧ v < 10000)) = 2))) 3 18 (va_A W9 sz) := by
  refine jb_X (by decide) (Nat.le_of_ble_eq_true rfl) ?_
  intro p e s m below meth cq hx hb hr hml hown htl hlk htab hKK hpre ls hl
  have hown : s.vm.findClass RX10 = some m.cls := hown
  obtain ⟨hsz, hP, hD0⟩ := hpre
  subst hsz
  have hAb : ∀ q, (va_A W9 s.heap.size) q → gb g ≤ q := fun q h => h.elim (fun ⟨k, e, h⟩ => hD0.2 k _ h) (fun h => Nat.le_trans hKK.2.1 h)
  have hD : va_D (va_A W9 s.heap.size) W9 := hD0.self
  generalize hAe : va_A W9 s.heap.size = A at *
  have hA : ∀ q, s.heap.size ≤ q → A q := fun q h => by rw [← hAe]; exact Or.inr h
  have hS : va_S A s.heap s.heap [] := va_S.rf
  have hCW9 := hCW
  obtain ⟨ad, fd, fk, g1, g2, g3, p1, p2, k1, k2, us, ss, lw1, lw2, hW9, ho, ⟨hdr, htk, hk1, hk2⟩, hab, hw, ht, ⟨hus, hss⟩, ⟨hUO, hSO⟩, ⟨hL1, hL2⟩, hn1, hn2⟩ := hCW
  subst hW9
  subst ho
  have hP : PP g ([ob (ad 0) 9 [.ref (ad 1), .ref (ad 3), .ref (ad 5), .ref (ad 6), .ref (ad 7), .ref (ad 8), .ref (ad 13), .ref (ad 16), .ref (ad 21)], ob (ad 1) 6 [.ref (ad 2), vi (S.1.length : Int)], aI g (ad 2) 60 fd, ob (ad 3) 6 [.ref (ad 4), vi (S.2.1.length : Int)], aI g (ad 4) 60 fk, aZ g (ad 5) 100 S.2.2.1, ob (ad 6) 2 [.ref (ad 7), .ref (ad 13), .ref (ad 22)], ob (ad 7) 1 [.ref (ad 8), .ref (ad 10), .ref (ad 11), .ref (ad 12)], ob (ad 8) 8 [.ref (ad 9)], aI g (ad 9) 4 S.2.2.2.1, aI g (ad 10) 61 g1, aI g (ad 11) 61 g2, aI g (ad 12) 60 g3, ob (ad 13) 5 [.ref (ad 14), .ref (ad 15), vi (S.2.2.2.2.1.1 : Int)], aI g (ad 14) 20 S.2.2.2.2.1.2.1, aI g (ad 15) 20 S.2.2.2.2.1.2.2, ob (ad 16) 3 [.ref (ad 17), .ref (ad 19)], ob (ad 17) 6 [.ref (ad 18), vi (p1.length : Int)], aI g (ad 18) 60 k1, ob (ad 19) 6 [.ref (ad 20), vi (p2.length : Int)], aI g (ad 20) 60 k2, ob (ad 21) 0 [.ref (ad 23)]] ++ (MR g us lw1 ++ DR g ss lw2)) s.heap := hP
  have hD : va_D A ([ob (ad 0) 9 [.ref (ad 1), .ref (ad 3), .ref (ad 5), .ref (ad 6), .ref (ad 7), .ref (ad 8), .ref (ad 13), .ref (ad 16), .ref (ad 21)], ob (ad 1) 6 [.ref (ad 2), vi (S.1.length : Int)], aI g (ad 2) 60 fd, ob (ad 3) 6 [.ref (ad 4), vi (S.2.1.length : Int)], aI g (ad 4) 60 fk, aZ g (ad 5) 100 S.2.2.1, ob (ad 6) 2 [.ref (ad 7), .ref (ad 13), .ref (ad 22)], ob (ad 7) 1 [.ref (ad 8), .ref (ad 10), .ref (ad 11), .ref (ad 12)], ob (ad 8) 8 [.ref (ad 9)], aI g (ad 9) 4 S.2.2.2.1, aI g (ad 10) 61 g1, aI g (ad 11) 61 g2, aI g (ad 12) 60 g3, ob (ad 13) 5 [.ref (ad 14), .ref (ad 15), vi (S.2.2.2.2.1.1 : Int)], aI g (ad 14) 20 S.2.2.2.2.1.2.1, aI g (ad 15) 20 S.2.2.2.2.1.2.2, ob (ad 16) 3 [.ref (ad 17), .ref (ad 19)], ob (ad 17) 6 [.ref (ad 18), vi (p1.length : Int)], aI g (ad 18) 60 k1, ob (ad 19) 6 [.ref (ad 20), vi (p2.length : Int)], aI g (ad 20) 60 k2, ob (ad 21) 0 [.ref (ad 23)]] ++ (MR g us lw1 ++ DR g ss lw2)) := hD
  have hl : lv_has ls 2 [(0, .ref (ad 0)), (1, vi v)] := hl
  have huS := uS_uv hus
  have hsS := sS_sv hss
  have hnU : nU S = us.length := nU_l hus
  have hnS : nS S = ss.length := nS_l hss
  have hdL := hdr.len
  have htL := htk.len
  refine lv_iload_n hx hb dX10_number_0 rfl (lv_at hl 1 rfl) ?_
  refine jr_sipush hx hb dX10_number_1 (by decide) ?_
  refine jk_XSv (vx_runS (As := [vi v, vi 10000]) (rest := []) ⟨hx, hb, hml, hown, htl⟩ (m_X10_requireBelow l hsT g v 10000 hv ⟨by omega, by omega⟩) (va_cwS 2 htl lk_X10_61 rfl rfl rfl cwS_X10_requireBelow ⟨Nat.le_of_ble_eq_true rfl, Nat.le_of_ble_eq_true rfl⟩) (jp_S hKK (va_S.rf (A := jN)) jNb trivial) rfl rfl hl.1 rfl (lv_room (Nat.le_of_ble_eq_true rfl)) dX10_number_4 ⟨Nat.le_of_ble_eq_true rfl, Nat.le_of_ble_eq_true rfl⟩) htab hlk (fun E h => Or.inl (⟨h.1, by have h9 := h.2; unfold cdTok; (repeat' split) <;> omega⟩)) (by omega) (by omega) (fun hz4 => ?_)
  refine lv_aload_n hx hb dX10_number_7 rfl (lv_at hl 0 rfl) ?_
  refine jr_iconst hx hb dX10_number_8 ?_
  refine lv_iload_n hx hb dX10_number_9 rfl (lv_at hl 1 rfl) ?_
  have hDc : va_D A [ob (ad 1) 6 [.ref (ad 2), vi (S.1.length : Int)], aI g (ad 2) 60 fd] := hD.sub [1, 2] (by decide) rfl
  refine jk_XQi (vx_runV (As := [vi 1, vi v]) (rest := []) ⟨hx, hb, hml, hown, htl⟩ (m_X10_putToken l hsT g (ad 0) (ad 1) (ad 3) (ad 5) (ad 6) (ad 7) (ad 8) (ad 13) (ad 16) (ad 21) (ad 2) S.1 fd hdr 1 v (by omega) (by omega) (jdis hD [0] [1, 2] rfl rfl (by decide))) (cwV 2 htl lk_X10_65 rfl rfl rfl cwV_X10_putToken ⟨Nat.le_of_ble_eq_true rfl, Nat.le_of_ble_eq_true rfl⟩) (jp_V hKK (va_S.rf (A := jN)) jNb (va_recv hKK.k hP (ci := 9) (q0 := 0) rfl rfl) ⟨(va_P.sub hP [0] rfl), (va_P.sub hP [1, 2] rfl), hDc.weaken (fun _ q _ h => hAb _ h)⟩) rfl rfl hl.1 rfl (lv_room (Nat.le_of_ble_eq_true rfl)) dX10_number_10 ⟨Nat.le_of_ble_eq_true rfl, Nat.le_of_ble_eq_true rfl⟩) htab hlk (fun E h => Or.inr (⟨h.1, by have h9 := h.2; unfold cdTok; (repeat' split) <;> omega⟩)) (by omega) (by omega) (fun q _ h => hDc.inA h) (fun q h => hDc.inA h) (fun _ h => h) (fun z10 H1 locs hz10 hzs hks hS => ?_)
  obtain ⟨hz10, fn10, hfn10, hP1⟩ := hz10
  obtain ⟨hP, hD⟩ := jput (wc := [ob (ad 1) 6 [.ref (ad 2), vi (S.1.length : Int)], aI g (ad 2) 60 fd]) (w1 := [ob (ad 1) 6 [.ref (ad 2), vi ((S.1 ++ [1 * 10000 + v]).length : Int)], aI g (ad 2) 60 fn10]) hP hD [1, 2] rfl rfl hks (fun q _ h => h) hP1
  clear hzs hks; generalize H1 = H at hP hD hS ⊢
  have hP : PP g ([ob (ad 0) 9 [.ref (ad 1), .ref (ad 3), .ref (ad 5), .ref (ad 6), .ref (ad 7), .ref (ad 8), .ref (ad 13), .ref (ad 16), .ref (ad 21)], ob (ad 1) 6 [.ref (ad 2), vi ((S.1 ++ [1 * 10000 + v]).length : Int)], aI g (ad 2) 60 fn10, ob (ad 3) 6 [.ref (ad 4), vi (S.2.1.length : Int)], aI g (ad 4) 60 fk, aZ g (ad 5) 100 S.2.2.1, ob (ad 6) 2 [.ref (ad 7), .ref (ad 13), .ref (ad 22)], ob (ad 7) 1 [.ref (ad 8), .ref (ad 10), .ref (ad 11), .ref (ad 12)], ob (ad 8) 8 [.ref (ad 9)], aI g (ad 9) 4 S.2.2.2.1, aI g (ad 10) 61 g1, aI g (ad 11) 61 g2, aI g (ad 12) 60 g3, ob (ad 13) 5 [.ref (ad 14), .ref (ad 15), vi (S.2.2.2.2.1.1 : Int)], aI g (ad 14) 20 S.2.2.2.2.1.2.1, aI g (ad 15) 20 S.2.2.2.2.1.2.2, ob (ad 16) 3 [.ref (ad 17), .ref (ad 19)], ob (ad 17) 6 [.ref (ad 18), vi (p1.length : Int)], aI g (ad 18) 60 k1, ob (ad 19) 6 [.ref (ad 20), vi (p2.length : Int)], aI g (ad 20) 60 k2, ob (ad 21) 0 [.ref (ad 23)]] ++ (MR g us lw1 ++ DR g ss lw2)) H := hP
  have hD : va_D A ([ob (ad 0) 9 [.ref (ad 1), .ref (ad 3), .ref (ad 5), .ref (ad 6), .ref (ad 7), .ref (ad 8), .ref (ad 13), .ref (ad 16), .ref (ad 21)], ob (ad 1) 6 [.ref (ad 2), vi ((S.1 ++ [1 * 10000 + v]).length : Int)], aI g (ad 2) 60 fn10, ob (ad 3) 6 [.ref (ad 4), vi (S.2.1.length : Int)], aI g (ad 4) 60 fk, aZ g (ad 5) 100 S.2.2.1, ob (ad 6) 2 [.ref (ad 7), .ref (ad 13), .ref (ad 22)], ob (ad 7) 1 [.ref (ad 8), .ref (ad 10), .ref (ad 11), .ref (ad 12)], ob (ad 8) 8 [.ref (ad 9)], aI g (ad 9) 4 S.2.2.2.1, aI g (ad 10) 61 g1, aI g (ad 11) 61 g2, aI g (ad 12) 60 g3, ob (ad 13) 5 [.ref (ad 14), .ref (ad 15), vi (S.2.2.2.2.1.1 : Int)], aI g (ad 14) 20 S.2.2.2.2.1.2.1, aI g (ad 15) 20 S.2.2.2.2.1.2.2, ob (ad 16) 3 [.ref (ad 17), .ref (ad 19)], ob (ad 17) 6 [.ref (ad 18), vi (p1.length : Int)], aI g (ad 18) 60 k1, ob (ad 19) 6 [.ref (ad 20), vi (p2.length : Int)], aI g (ad 20) 60 k2, ob (ad 21) 0 [.ref (ad 23)]] ++ (MR g us lw1 ++ DR g ss lw2)) := hD
  subst hz10
  have h8 := hfn10.len
  rw [List.length_append, List.length_singleton] at h8
  refine vx_ret ?_
  refine W.widen (k := 3) (n := 18) (by omega) (by omega) ?_
  exact je_Qi hx hb hr hlk rfl hS (⟨⟨by unfold cdTok; (repeat' split) <;> omega, rfl⟩, ⟨_, ⟨ad, fn10, fk, g1, g2, g3, p1, p2, k1, k2, us, ss, lw1, lw2, rfl, rfl, ⟨hfn10, htk, hk1, hk2⟩, hab, hw, ht, ⟨hus, hss⟩, ⟨hUO, hSO⟩, ⟨hL1, hL2⟩, hn1, hn2⟩, hP, hD⟩⟩) dX10_number_13
set_option maxHeartbeats 4000000 in
set_option maxRecDepth 100000 in
theorem m_X10_tag (l : Launch) (hsT : l.stackTraces = false) (g : GT) (o : Nat) (S : SGM) (W9 : va_W) (hCW : CW g o S W9) (sz : Nat) (v : Int) (hv : jR v) : vx_Met l yX10_tag (ws_ yX10_tag cX10_tag 2 (some .int)) (rmm 4 3 18) (jPc g [.ref o, vi v] (fun H => H.size = sz ∧ PP g W9 H ∧ va_D (fun q => gb g ≤ q) W9)) (jQi (fun z H1 => ((cdTok S (0 ≤ v ∧ v < 10)) = 0 ∧ z = (S.1.length : Int) + 1) ∧ ∃ w1 : va_W, CW g o ((S.1 ++ [2 * 10000 + v], S.2)) w1 ∧ PP g w1 H1 ∧ va_D (va_A W9 sz) w1) (va_A W9 sz)) (jX (fun E => (E = eIA ∧ (cdTok S (0 ≤ v ∧ v < 10)) = 1) ∨ (E = eIS ∧ (cdTok S (0 ≤ v ∧ v < 10)) = 2))) 3 18 (va_A W9 sz) := by
  refine jb_X (by decide) (Nat.le_of_ble_eq_true rfl) ?_
  intro p e s m below meth cq hx hb hr hml hown htl hlk htab hKK hpre ls hl
  have hown : s.vm.findClass RX10 = some m.cls := hown
  obtain ⟨hsz, hP, hD0⟩ := hpre
  subst hsz
  have hAb : ∀ q, (va_A W9 s.heap.size) q → gb g ≤ q := fun q h => h.elim (fun ⟨k, e, h⟩ => hD0.2 k _ h) (fun h => Nat.le_trans hKK.2.1 h)
  have hD : va_D (va_A W9 s.heap.size) W9 := hD0.self
  generalize hAe : va_A W9 s.heap.size = A at *
  have hA : ∀ q, s.heap.size ≤ q → A q := fun q h => by rw [← hAe]; exact Or.inr h
  have hS : va_S A s.heap s.heap [] := va_S.rf
  have hCW9 := hCW
  obtain ⟨ad, fd, fk, g1, g2, g3, p1, p2, k1, k2, us, ss, lw1, lw2, hW9, ho, ⟨hdr, htk, hk1, hk2⟩, hab, hw, ht, ⟨hus, hss⟩, ⟨hUO, hSO⟩, ⟨hL1, hL2⟩, hn1, hn2⟩ := hCW
  subst hW9
  subst ho
  have hP : PP g ([ob (ad 0) 9 [.ref (ad 1), .ref (ad 3), .ref (ad 5), .ref (ad 6), .ref (ad 7), .ref (ad 8), .ref (ad 13), .ref (ad 16), .ref (ad 21)], ob (ad 1) 6 [.ref (ad 2), vi (S.1.length : Int)], aI g (ad 2) 60 fd, ob (ad 3) 6 [.ref (ad 4), vi (S.2.1.length : Int)], aI g (ad 4) 60 fk, aZ g (ad 5) 100 S.2.2.1, ob (ad 6) 2 [.ref (ad 7), .ref (ad 13), .ref (ad 22)], ob (ad 7) 1 [.ref (ad 8), .ref (ad 10), .ref (ad 11), .ref (ad 12)], ob (ad 8) 8 [.ref (ad 9)], aI g (ad 9) 4 S.2.2.2.1, aI g (ad 10) 61 g1, aI g (ad 11) 61 g2, aI g (ad 12) 60 g3, ob (ad 13) 5 [.ref (ad 14), .ref (ad 15), vi (S.2.2.2.2.1.1 : Int)], aI g (ad 14) 20 S.2.2.2.2.1.2.1, aI g (ad 15) 20 S.2.2.2.2.1.2.2, ob (ad 16) 3 [.ref (ad 17), .ref (ad 19)], ob (ad 17) 6 [.ref (ad 18), vi (p1.length : Int)], aI g (ad 18) 60 k1, ob (ad 19) 6 [.ref (ad 20), vi (p2.length : Int)], aI g (ad 20) 60 k2, ob (ad 21) 0 [.ref (ad 23)]] ++ (MR g us lw1 ++ DR g ss lw2)) s.heap := hP
  have hD : va_D A ([ob (ad 0) 9 [.ref (ad 1), .ref (ad 3), .ref (ad 5), .ref (ad 6), .ref (ad 7), .ref (ad 8), .ref (ad 13), .ref (ad 16), .ref (ad 21)], ob (ad 1) 6 [.ref (ad 2), vi (S.1.length : Int)], aI g (ad 2) 60 fd, ob (ad 3) 6 [.ref (ad 4), vi (S.2.1.length : Int)], aI g (ad 4) 60 fk, aZ g (ad 5) 100 S.2.2.1, ob (ad 6) 2 [.ref (ad 7), .ref (ad 13), .ref (ad 22)], ob (ad 7) 1 [.ref (ad 8), .ref (ad 10), .ref (ad 11), .ref (ad 12)], ob (ad 8) 8 [.ref (ad 9)], aI g (ad 9) 4 S.2.2.2.1, aI g (ad 10) 61 g1, aI g (ad 11) 61 g2, aI g (ad 12) 60 g3, ob (ad 13) 5 [.ref (ad 14), .ref (ad 15), vi (S.2.2.2.2.1.1 : Int)], aI g (ad 14) 20 S.2.2.2.2.1.2.1, aI g (ad 15) 20 S.2.2.2.2.1.2.2, ob (ad 16) 3 [.ref (ad 17), .ref (ad 19)], ob (ad 17) 6 [.ref (ad 18), vi (p1.length : Int)], aI g (ad 18) 60 k1, ob (ad 19) 6 [.ref (ad 20), vi (p2.length : Int)], aI g (ad 20) 60 k2, ob (ad 21) 0 [.ref (ad 23)]] ++ (MR g us lw1 ++ DR g ss lw2)) := hD
  have hl : lv_has ls 2 [(0, .ref (ad 0)), (1, vi v)] := hl
  have huS := uS_uv hus
  have hsS := sS_sv hss
  have hnU : nU S = us.length := nU_l hus
  have hnS : nS S = ss.length := nS_l hss
  have hdL := hdr.len
  have htL := htk.len
  refine lv_iload_n hx hb dX10_tag_0 rfl (lv_at hl 1 rfl) ?_
  refine jr_bipush hx hb dX10_tag_1 (by decide) ?_
  refine jk_XSv (vx_runS (As := [vi v, vi 10]) (rest := []) ⟨hx, hb, hml, hown, htl⟩ (m_X10_requireBelow l hsT g v 10 hv ⟨by omega, by omega⟩) (va_cwS 2 htl lk_X10_61 rfl rfl rfl cwS_X10_requireBelow ⟨Nat.le_of_ble_eq_true rfl, Nat.le_of_ble_eq_true rfl⟩) (jp_S hKK (va_S.rf (A := jN)) jNb trivial) rfl rfl hl.1 rfl (lv_room (Nat.le_of_ble_eq_true rfl)) dX10_tag_3 ⟨Nat.le_of_ble_eq_true rfl, Nat.le_of_ble_eq_true rfl⟩) htab hlk (fun E h => Or.inl (⟨h.1, by have h9 := h.2; unfold cdTok; (repeat' split) <;> omega⟩)) (by omega) (by omega) (fun hz3 => ?_)
  refine lv_aload_n hx hb dX10_tag_6 rfl (lv_at hl 0 rfl) ?_
  refine jr_iconst hx hb dX10_tag_7 ?_
  refine lv_iload_n hx hb dX10_tag_8 rfl (lv_at hl 1 rfl) ?_
  have hDc : va_D A [ob (ad 1) 6 [.ref (ad 2), vi (S.1.length : Int)], aI g (ad 2) 60 fd] := hD.sub [1, 2] (by decide) rfl
  refine jk_XQi (vx_runV (As := [vi 2, vi v]) (rest := []) ⟨hx, hb, hml, hown, htl⟩ (m_X10_putToken l hsT g (ad 0) (ad 1) (ad 3) (ad 5) (ad 6) (ad 7) (ad 8) (ad 13) (ad 16) (ad 21) (ad 2) S.1 fd hdr 2 v (by omega) (by omega) (jdis hD [0] [1, 2] rfl rfl (by decide))) (cwV 2 htl lk_X10_65 rfl rfl rfl cwV_X10_putToken ⟨Nat.le_of_ble_eq_true rfl, Nat.le_of_ble_eq_true rfl⟩) (jp_V hKK (va_S.rf (A := jN)) jNb (va_recv hKK.k hP (ci := 9) (q0 := 0) rfl rfl) ⟨(va_P.sub hP [0] rfl), (va_P.sub hP [1, 2] rfl), hDc.weaken (fun _ q _ h => hAb _ h)⟩) rfl rfl hl.1 rfl (lv_room (Nat.le_of_ble_eq_true rfl)) dX10_tag_9 ⟨Nat.le_of_ble_eq_true rfl, Nat.le_of_ble_eq_true rfl⟩) htab hlk (fun E h => Or.inr (⟨h.1, by have h9 := h.2; unfold cdTok; (repeat' split) <;> omega⟩)) (by omega) (by omega) (fun q _ h => hDc.inA h) (fun q h => hDc.inA h) (fun _ h => h) (fun z9 H1 locs hz9 hzs hks hS => ?_)
  obtain ⟨hz9, fn9, hfn9, hP1⟩ := hz9
  obtain ⟨hP, hD⟩ := jput (wc := [ob (ad 1) 6 [.ref (ad 2), vi (S.1.length : Int)], aI g (ad 2) 60 fd]) (w1 := [ob (ad 1) 6 [.ref (ad 2), vi ((S.1 ++ [2 * 10000 + v]).length : Int)], aI g (ad 2) 60 fn9]) hP hD [1, 2] rfl rfl hks (fun q _ h => h) hP1
  clear hzs hks; generalize H1 = H at hP hD hS ⊢
  have hP : PP g ([ob (ad 0) 9 [.ref (ad 1), .ref (ad 3), .ref (ad 5), .ref (ad 6), .ref (ad 7), .ref (ad 8), .ref (ad 13), .ref (ad 16), .ref (ad 21)], ob (ad 1) 6 [.ref (ad 2), vi ((S.1 ++ [2 * 10000 + v]).length : Int)], aI g (ad 2) 60 fn9, ob (ad 3) 6 [.ref (ad 4), vi (S.2.1.length : Int)], aI g (ad 4) 60 fk, aZ g (ad 5) 100 S.2.2.1, ob (ad 6) 2 [.ref (ad 7), .ref (ad 13), .ref (ad 22)], ob (ad 7) 1 [.ref (ad 8), .ref (ad 10), .ref (ad 11), .ref (ad 12)], ob (ad 8) 8 [.ref (ad 9)], aI g (ad 9) 4 S.2.2.2.1, aI g (ad 10) 61 g1, aI g (ad 11) 61 g2, aI g (ad 12) 60 g3, ob (ad 13) 5 [.ref (ad 14), .ref (ad 15), vi (S.2.2.2.2.1.1 : Int)], aI g (ad 14) 20 S.2.2.2.2.1.2.1, aI g (ad 15) 20 S.2.2.2.2.1.2.2, ob (ad 16) 3 [.ref (ad 17), .ref (ad 19)], ob (ad 17) 6 [.ref (ad 18), vi (p1.length : Int)], aI g (ad 18) 60 k1, ob (ad 19) 6 [.ref (ad 20), vi (p2.length : Int)], aI g (ad 20) 60 k2, ob (ad 21) 0 [.ref (ad 23)]] ++ (MR g us lw1 ++ DR g ss lw2)) H := hP
  have hD : va_D A ([ob (ad 0) 9 [.ref (ad 1), .ref (ad 3), .ref (ad 5), .ref (ad 6), .ref (ad 7), .ref (ad 8), .ref (ad 13), .ref (ad 16), .ref (ad 21)], ob (ad 1) 6 [.ref (ad 2), vi ((S.1 ++ [2 * 10000 + v]).length : Int)], aI g (ad 2) 60 fn9, ob (ad 3) 6 [.ref (ad 4), vi (S.2.1.length : Int)], aI g (ad 4) 60 fk, aZ g (ad 5) 100 S.2.2.1, ob (ad 6) 2 [.ref (ad 7), .ref (ad 13), .ref (ad 22)], ob (ad 7) 1 [.ref (ad 8), .ref (ad 10), .ref (ad 11), .ref (ad 12)], ob (ad 8) 8 [.ref (ad 9)], aI g (ad 9) 4 S.2.2.2.1, aI g (ad 10) 61 g1, aI g (ad 11) 61 g2, aI g (ad 12) 60 g3, ob (ad 13) 5 [.ref (ad 14), .ref (ad 15), vi (S.2.2.2.2.1.1 : Int)], aI g (ad 14) 20 S.2.2.2.2.1.2.1, aI g (ad 15) 20 S.2.2.2.2.1.2.2, ob (ad 16) 3 [.ref (ad 17), .ref (ad 19)], ob (ad 17) 6 [.ref (ad 18), vi (p1.length : Int)], aI g (ad 18) 60 k1, ob (ad 19) 6 [.ref (ad 20), vi (p2.length : Int)], aI g (ad 20) 60 k2, ob (ad 21) 0 [.ref (ad 23)]] ++ (MR g us lw1 ++ DR g ss lw2)) := hD
  subst hz9
  have h8 := hfn9.len
  rw [List.length_append, List.length_singleton] at h8
  refine vx_ret ?_
  refine W.widen (k := 3) (n := 18) (by omega) (by omega) ?_
  exact je_Qi hx hb hr hlk rfl hS (⟨⟨by unfold cdTok; (repeat' split) <;> omega, rfl⟩, ⟨_, ⟨ad, fn9, fk, g1, g2, g3, p1, p2, k1, k2, us, ss, lw1, lw2, rfl, rfl, ⟨hfn9, htk, hk1, hk2⟩, hab, hw, ht, ⟨hus, hss⟩, ⟨hUO, hSO⟩, ⟨hL1, hL2⟩, hn1, hn2⟩, hP, hD⟩⟩) dX10_tag_12
