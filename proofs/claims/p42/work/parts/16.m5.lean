
theorem nst_0 {g : GT} {U : State} (h : KK g U) : va_Nw (.methodLinkNest RX10 9 yX6_init RX10) U := h.1.2.1 (RX10, 9, yX6_init, RX10) (List.mem_of_getElem? (i := 0) rfl)
theorem nst_1 {g : GT} {U : State} (h : KK g U) : va_Nw (.methodLinkNest RX10 25 yX2_init RX10) U := h.1.2.1 (RX10, 25, yX2_init, RX10) (List.mem_of_getElem? (i := 1) rfl)
theorem nst_2 {g : GT} {U : State} (h : KK g U) : va_Nw (.methodLinkNest RX10 49 yX3_init RX10) U := h.1.2.1 (RX10, 49, yX3_init, RX10) (List.mem_of_getElem? (i := 2) rfl)
theorem nst_3 {g : GT} {U : State} (h : KK g U) : va_Nw (.methodLinkNest RX10 56 yX0_init RX10) U := h.1.2.1 (RX10, 56, yX0_init, RX10) (List.mem_of_getElem? (i := 3) rfl)
theorem nst_4 {g : GT} {U : State} (h : KK g U) : va_Nw (.methodLinkNest RX0 49 yX4_init RX10) U := h.1.2.1 (RX0, 49, yX4_init, RX10) (List.mem_of_getElem? (i := 4) rfl)
theorem nst_5 {g : GT} {U : State} (h : KK g U) : va_Nw (.methodLinkNest RX1 11 yX9_init RX10) U := h.1.2.1 (RX1, 11, yX9_init, RX10) (List.mem_of_getElem? (i := 5) rfl)
theorem nst_6 {g : GT} {U : State} (h : KK g U) : va_Nw (.methodLinkNest RX2 11 yX1_init RX10) U := h.1.2.1 (RX2, 11, yX1_init, RX10) (List.mem_of_getElem? (i := 6) rfl)
theorem nst_7 {g : GT} {U : State} (h : KK g U) : va_Nw (.methodLinkNest RX2 20 yX5_init RX10) U := h.1.2.1 (RX2, 20, yX5_init, RX10) (List.mem_of_getElem? (i := 7) rfl)
theorem nst_8 {g : GT} {U : State} (h : KK g U) : va_Nw (.methodLinkNest RX2 44 yX8_init RX10) U := h.1.2.1 (RX2, 44, yX8_init, RX10) (List.mem_of_getElem? (i := 8) rfl)
theorem nst_9 {g : GT} {U : State} (h : KK g U) : va_Nw (.methodLinkNest RX3 11 yX6_init RX10) U := h.1.2.1 (RX3, 11, yX6_init, RX10) (List.mem_of_getElem? (i := 9) rfl)
theorem nst_10 {g : GT} {U : State} (h : KK g U) : va_Nw (.methodLinkNest RX4 11 yX6_init RX10) U := h.1.2.1 (RX4, 11, yX6_init, RX10) (List.mem_of_getElem? (i := 10) rfl)
theorem nst_11 {g : GT} {U : State} (h : KK g U) : va_Nw (.methodLinkNest RX8 9 yX6_init RX10) U := h.1.2.1 (RX8, 9, yX6_init, RX10) (List.mem_of_getElem? (i := 11) rfl)
theorem cwS_Jxa1e45_init_da8c8 : yJxa1e45_init_da8c8.cls ≠ "java/lang/invoke/MethodHandle" ∧ yJxa1e45_init_da8c8.cls ≠ "java/lang/invoke/VarHandle" ∧ (parseMethodDescriptor yJxa1e45_init_da8c8.desc).map (fun d => d.parameters.length) = some 0 := by decide +kernel
theorem cwS_Jxc12de_init_da8c8 : yJxc12de_init_da8c8.cls ≠ "java/lang/invoke/MethodHandle" ∧ yJxc12de_init_da8c8.cls ≠ "java/lang/invoke/VarHandle" ∧ (parseMethodDescriptor yJxc12de_init_da8c8.desc).map (fun d => d.parameters.length) = some 0 := by decide +kernel
theorem cwS_X9_init : yX9_init.cls ≠ "java/lang/invoke/MethodHandle" ∧ yX9_init.cls ≠ "java/lang/invoke/VarHandle" ∧ (parseMethodDescriptor yX9_init.desc).map (fun d => d.parameters.length) = some 0 := by decide +kernel
theorem cwS_X6_init : yX6_init.cls ≠ "java/lang/invoke/MethodHandle" ∧ yX6_init.cls ≠ "java/lang/invoke/VarHandle" ∧ (parseMethodDescriptor yX6_init.desc).map (fun d => d.parameters.length) = some 0 := by decide +kernel
set_option maxHeartbeats 4000000 in
set_option maxRecDepth 100000 in
theorem m_Jxa1e45_init_da8c8 (l : Launch) (g : GT) (a : Nat) (mc0 : Int) (ed0 : Value) (n0 : Int) : Met l yJxa1e45_init_da8c8 (ws_ yJxa1e45_init_da8c8 cJxa1e45_init_da8c8 1 none) (rmm 0 0 0) (jPc g [.ref a] (fun H => PP g [ob a 11 [vi mc0, ed0, vi n0]] H ∧ va_D (fun q => gb g ≤ q) [ob a 11 [vi mc0, ed0, vi n0]])) (jQv (fun H1 => PP g [ob a 11 [vi mc0, ed0, vi n0]] H1) (jA [ob a 11 [vi mc0, ed0, vi n0]])) 0 0 (jA [ob a 11 [vi mc0, ed0, vi n0]]) := by
  refine jb_M (by decide) (Nat.le_of_ble_eq_true rfl) ?_
  intro p e s m below meth cq hx hb hr hml hown htl hlk hnm hKK hpre ls hl
  have hown : s.vm.findClass RJxa1e45 = some m.cls := hown
  have hl : lv_has ls 1 [(0, .ref a)] := hl
  obtain ⟨hP, hD0⟩ := hpre
  have hD : va_D (jA [ob a 11 [vi mc0, ed0, vi n0]]) [ob a 11 [vi mc0, ed0, vi n0]] := hD0.inD
  have hAb : ∀ q, (jA [ob a 11 [vi mc0, ed0, vi n0]]) q → gb g ≤ q := fun q h => hD0.inA h
  generalize hAe : jA [ob a 11 [vi mc0, ed0, vi n0]] = A at *
  have hS : va_S A s.heap s.heap [] := va_S.rf
  suffices K : ∀ (H : Heap) (locs : List Loc), PP g [ob a 11 [vi mc0, ed0, vi n0]] H → va_D A [ob a 11 [vi mc0, ed0, vi n0]] → va_S A s.heap H locs → ∀ ls : Array Slot, lv_has ls 1 [(0, .ref a)] → W p l e (rmm 0 0 0) s m ([.ref a] : List Value).toArray below meth cq H locs 0 0 (MQ below (jQv (fun H1 => PP g [ob a 11 [vi mc0, ed0, vi n0]] H1) A) ([.ref a] : List Value).toArray s 0 0 A) (F0 m 0 ls []) from K _ _ hP hD hS _ hl
  clear hl; intro H locs hP hD hS ls hl
  refine lv_aload_n hx hb dJxa1e45_init_da8c8_0 rfl (lv_at hl 0 rfl) ?_
  refine W.objInit hx hb hown (htl _ wd_4_18) (htl _ wd_1_9) (htl _ wd_1_10) rfl (by rw [hml]; exact hl.1) rfl dJxa1e45_init_da8c8_1 (Nat.le_of_ble_eq_true rfl) (Nat.le_of_ble_eq_true rfl) ?_
  refine W.eq (g2 := F0 m 4 ls []) rfl ?_
  exact je_Qv hx hb hr hlk hS (hP) dJxa1e45_init_da8c8_4
set_option maxHeartbeats 4000000 in
set_option maxRecDepth 100000 in
theorem m_Jxc12de_init_da8c8 (l : Launch) (g : GT) (a : Nat) (mc0 : Int) (ed0 : Value) (n0 : Int) : Met l yJxc12de_init_da8c8 (ws_ yJxc12de_init_da8c8 cJxc12de_init_da8c8 1 none) (rmm 1 0 0) (jPc g [.ref a] (fun H => PP g [ob a 11 [vi mc0, ed0, vi n0]] H ∧ va_D (fun q => gb g ≤ q) [ob a 11 [vi mc0, ed0, vi n0]])) (jQv (fun H1 => PP g [ob a 11 [vi 0, ed0, vi n0]] H1) (jA [ob a 11 [vi mc0, ed0, vi n0]])) 0 0 (jA [ob a 11 [vi mc0, ed0, vi n0]]) := by
  refine jb_M (by decide) (Nat.le_of_ble_eq_true rfl) ?_
  intro p e s m below meth cq hx hb hr hml hown htl hlk hnm hKK hpre ls hl
  have hown : s.vm.findClass RJxc12de = some m.cls := hown
  have hl : lv_has ls 1 [(0, .ref a)] := hl
  obtain ⟨hP, hD0⟩ := hpre
  have hD : va_D (jA [ob a 11 [vi mc0, ed0, vi n0]]) [ob a 11 [vi mc0, ed0, vi n0]] := hD0.inD
  have hAb : ∀ q, (jA [ob a 11 [vi mc0, ed0, vi n0]]) q → gb g ≤ q := fun q h => hD0.inA h
  generalize hAe : jA [ob a 11 [vi mc0, ed0, vi n0]] = A at *
  have hS : va_S A s.heap s.heap [] := va_S.rf
  suffices K : ∀ (H : Heap) (locs : List Loc), PP g [ob a 11 [vi mc0, ed0, vi n0]] H → va_D A [ob a 11 [vi mc0, ed0, vi n0]] → va_S A s.heap H locs → ∀ ls : Array Slot, lv_has ls 1 [(0, .ref a)] → W p l e (rmm 1 0 0) s m ([.ref a] : List Value).toArray below meth cq H locs 0 0 (MQ below (jQv (fun H1 => PP g [ob a 11 [vi 0, ed0, vi n0]] H1) A) ([.ref a] : List Value).toArray s 0 0 A) (F0 m 0 ls []) from K _ _ hP hD hS _ hl
  clear hl; intro H locs hP hD hS ls hl
  refine lv_aload_n hx hb dJxc12de_init_da8c8_0 rfl (lv_at hl 0 rfl) ?_
  have hDc : va_D A [ob a 11 [vi mc0, ed0, vi n0]] := hD.sub [0] (by decide) rfl
  refine jk_Qv (va_runI (As := []) (rest := []) ⟨hx, hb, hml, hown, htl⟩ (m_Jxa1e45_init_da8c8 l g a mc0 ed0 n0) (cwI 0 htl (gd_ wd_4_17) rfl rfl rfl (htl _ wd_4_16) (htl _ wd_4_14) (htl _ wd_4_15) rfl cwS_Jxa1e45_init_da8c8 ⟨Nat.le_of_ble_eq_true rfl, Nat.le_of_ble_eq_true rfl⟩) (jp_S hKK hS hAb ⟨hP, hDc.weaken (fun _ q _ h => hAb _ h)⟩) rfl rfl hl.1 rfl (lv_room (Nat.le_of_ble_eq_true rfl)) dJxc12de_init_da8c8_1 ⟨Nat.le_of_ble_eq_true rfl, Nat.le_of_ble_eq_true rfl⟩) hS (fun q _ h => hDc.inA h) (fun q h => hDc.inA h) (fun H1 locs hz1 hzs hks hS => ?_)
  have hP1 := hz1
  obtain ⟨hP, hD⟩ := jput (wc := [ob a 11 [vi mc0, ed0, vi n0]]) (w1 := [ob a 11 [vi mc0, ed0, vi n0]]) hP hD [0] rfl rfl hks (fun q _ h => h) hP1
  clear hzs hks; generalize H1 = H at hP hD hS ⊢
  have hP : PP g [ob a 11 [vi mc0, ed0, vi n0]] H := hP
  have hD : va_D A [ob a 11 [vi mc0, ed0, vi n0]] := hD
  refine lv_aload_n hx hb dJxc12de_init_da8c8_4 rfl (lv_at hl 0 rfl) ?_
  refine jr_iconst hx hb dJxc12de_init_da8c8_5 ?_
  refine va_put (D := gD g) (ci := 11) (v := vi 0) (ty := .int) (C := RJx4a65c) (T := TJx4a65c) (N := 3) hx hb htl ck_Jx4a65c tyJx4a65c tyJx4a65c_ok nmJx4a65c hown hKK.k hP hD hS 0 rfl rfl 0 (by decide) (htl _ wd_4_13) (fun _ h9 => h9) rfl (by decide +kernel) rfl rfl (Nat.le_of_ble_eq_true rfl) dJxc12de_init_da8c8_6 (fun H locs hP hD hS => ?_)
  have hP : PP g [ob a 11 [vi 0, ed0, vi n0]] H := hP
  have hD : va_D A [ob a 11 [vi 0, ed0, vi n0]] := hD
  exact je_Qv hx hb hr hlk hS (hP) dJxc12de_init_da8c8_9
set_option maxHeartbeats 4000000 in
set_option maxRecDepth 100000 in
theorem m_Jx4a65c_init_da8c8 (l : Launch) (g : GT) (a : Nat) : Met l yJx4a65c_init_da8c8 (ws_ yJx4a65c_init_da8c8 cJx4a65c_init_da8c8 1 none) (rmm 2 0 0) (jPc g [.ref a] (fun H => PP g [ob a 11 [vi 0, .null, vi 0]] H ∧ va_D (fun q => gb g ≤ q) [ob a 11 [vi 0, .null, vi 0]])) (jQv (fun H1 => PP g [ob a 11 [vi 0, .ref (gE g), vi 0]] H1) (jA [ob a 11 [vi 0, .null, vi 0]])) 0 0 (jA [ob a 11 [vi 0, .null, vi 0]]) := by
  refine jb_M (by decide) (Nat.le_of_ble_eq_true rfl) ?_
  intro p e s m below meth cq hx hb hr hml hown htl hlk hnm hKK hpre ls hl
  have hown : s.vm.findClass RJx4a65c = some m.cls := hown
  have hl : lv_has ls 1 [(0, .ref a)] := hl
  obtain ⟨hP, hD0⟩ := hpre
  have hD : va_D (jA [ob a 11 [vi 0, .null, vi 0]]) [ob a 11 [vi 0, .null, vi 0]] := hD0.inD
  have hAb : ∀ q, (jA [ob a 11 [vi 0, .null, vi 0]]) q → gb g ≤ q := fun q h => hD0.inA h
  generalize hAe : jA [ob a 11 [vi 0, .null, vi 0]] = A at *
  have hS : va_S A s.heap s.heap [] := va_S.rf
  suffices K : ∀ (H : Heap) (locs : List Loc), PP g [ob a 11 [vi 0, .null, vi 0]] H → va_D A [ob a 11 [vi 0, .null, vi 0]] → va_S A s.heap H locs → ∀ ls : Array Slot, lv_has ls 1 [(0, .ref a)] → W p l e (rmm 2 0 0) s m ([.ref a] : List Value).toArray below meth cq H locs 0 0 (MQ below (jQv (fun H1 => PP g [ob a 11 [vi 0, .ref (gE g), vi 0]] H1) A) ([.ref a] : List Value).toArray s 0 0 A) (F0 m 0 ls []) from K _ _ hP hD hS _ hl
  clear hl; intro H locs hP hD hS ls hl
  refine lv_aload_n hx hb dJx4a65c_init_da8c8_0 rfl (lv_at hl 0 rfl) ?_
  have hDc : va_D A [ob a 11 [vi 0, .null, vi 0]] := hD.sub [0] (by decide) rfl
  refine jk_Qv (va_runI (As := []) (rest := []) ⟨hx, hb, hml, hown, htl⟩ (m_Jxc12de_init_da8c8 l g a 0 .null 0) (cwI 0 htl (gd_ wd_4_12) rfl rfl rfl (htl _ wd_4_11) (htl _ wd_4_9) (htl _ wd_4_10) rfl cwS_Jxc12de_init_da8c8 ⟨Nat.le_of_ble_eq_true rfl, Nat.le_of_ble_eq_true rfl⟩) (jp_S hKK hS hAb ⟨hP, hDc.weaken (fun _ q _ h => hAb _ h)⟩) rfl rfl hl.1 rfl (lv_room (Nat.le_of_ble_eq_true rfl)) dJx4a65c_init_da8c8_1 ⟨Nat.le_of_ble_eq_true rfl, Nat.le_of_ble_eq_true rfl⟩) hS (fun q _ h => hDc.inA h) (fun q h => hDc.inA h) (fun H1 locs hz1 hzs hks hS => ?_)
  have hP1 := hz1
  obtain ⟨hP, hD⟩ := jput (wc := [ob a 11 [vi 0, .null, vi 0]]) (w1 := [ob a 11 [vi 0, .null, vi 0]]) hP hD [0] rfl rfl hks (fun q _ h => h) hP1
  clear hzs hks; generalize H1 = H at hP hD hS ⊢
  have hP : PP g [ob a 11 [vi 0, .null, vi 0]] H := hP
  have hD : va_D A [ob a 11 [vi 0, .null, vi 0]] := hD
  refine lv_aload_n hx hb dJx4a65c_init_da8c8_4 rfl (lv_at hl 0 rfl) ?_
  refine va_gets hx hb (hKK.2.2.2.2.1.narrow hAb) hS hown (htl _ wd_4_7) (fun _ h9 => h9) dJx4a65c_init_da8c8_5 ?_
  refine va_put (D := gD g) (ci := 11) (v := .ref (gE g)) (ty := .array (.object "java/lang/Object")) (C := RJx4a65c) (T := TJx4a65c) (N := 3) hx hb htl ck_Jx4a65c tyJx4a65c tyJx4a65c_ok nmJx4a65c hown hKK.k hP hD hS 0 rfl rfl 1 (by decide) (htl _ wd_4_8) (fun _ h9 => h9) rfl (by decide +kernel) rfl rfl (Nat.le_of_ble_eq_true rfl) dJx4a65c_init_da8c8_8 (fun H locs hP hD hS => ?_)
  have hP : PP g [ob a 11 [vi 0, .ref (gE g), vi 0]] H := hP
  have hD : va_D A [ob a 11 [vi 0, .ref (gE g), vi 0]] := hD
  exact je_Qv hx hb hr hlk hS (hP) dJx4a65c_init_da8c8_11
set_option maxHeartbeats 4000000 in
set_option maxRecDepth 100000 in
theorem m_X1_init (l : Launch) (g : GT) (a sz : Nat) : Met l yX1_init (ws_ yX1_init cX1_init 1 none) (rmm 1 6 188) (jPc g [.ref a] (fun H => H.size = sz ∧ PP g [ob a 1 [.null, .null, .null, .null]] H ∧ va_D (fun q => gb g ≤ q) [ob a 1 [.null, .null, .null, .null]])) (jQv (fun H1 => ∃ wt wa r1 r2 ri : Nat, PP g [ob a 1 [.ref wt, .ref r1, .ref r2, .ref ri], ob wt 8 [.ref wa], aI g wa 4 w0, aI g r1 61 (fun _ => 0), aI g r2 61 (fun _ => 0), aI g ri 60 (fun _ => 0)] H1 ∧ va_D (va_A [ob a 1 [.null, .null, .null, .null]] sz) [ob a 1 [.ref wt, .ref r1, .ref r2, .ref ri], ob wt 8 [.ref wa], aI g wa 4 w0, aI g r1 61 (fun _ => 0), aI g r2 61 (fun _ => 0), aI g ri 60 (fun _ => 0)]) (va_A [ob a 1 [.null, .null, .null, .null]] sz)) 6 188 (va_A [ob a 1 [.null, .null, .null, .null]] sz) := by
  refine jb_M (by decide) (Nat.le_of_ble_eq_true rfl) ?_
  intro p e s m below meth cq hx hb hr hml hown htl hlk hnm hKK hpre ls hl
  have hown : s.vm.findClass RX1 = some m.cls := hown
  have hl : lv_has ls 1 [(0, .ref a)] := hl
  obtain ⟨hsz, hP, hD0⟩ := hpre
  subst hsz
  have hD : va_D (va_A [ob a 1 [.null, .null, .null, .null]] s.heap.size) [ob a 1 [.null, .null, .null, .null]] := hD0.self
  have hAb : ∀ q, (va_A [ob a 1 [.null, .null, .null, .null]] s.heap.size) q → gb g ≤ q := fun q h => h.elim (fun ⟨k, e, h⟩ => hD0.2 k _ h) (fun h => Nat.le_trans hKK.2.1 h)
  generalize hAe : va_A [ob a 1 [.null, .null, .null, .null]] s.heap.size = A at *
  have hA : ∀ q, s.heap.size ≤ q → A q := fun q h => by rw [← hAe]; exact Or.inr h
  have hS : va_S A s.heap s.heap [] := va_S.rf
  suffices K : ∀ (H : Heap) (locs : List Loc), PP g [ob a 1 [.null, .null, .null, .null]] H → va_D A [ob a 1 [.null, .null, .null, .null]] → va_S A s.heap H locs → ∀ ls : Array Slot, lv_has ls 1 [(0, .ref a)] → W p l e (rmm 1 6 188) s m ([.ref a] : List Value).toArray below meth cq H locs 0 0 (MQ below (jQv (fun H1 => ∃ wt wa r1 r2 ri : Nat, PP g [ob a 1 [.ref wt, .ref r1, .ref r2, .ref ri], ob wt 8 [.ref wa], aI g wa 4 w0, aI g r1 61 (fun _ => 0), aI g r2 61 (fun _ => 0), aI g ri 60 (fun _ => 0)] H1 ∧ va_D (A) [ob a 1 [.ref wt, .ref r1, .ref r2, .ref ri], ob wt 8 [.ref wa], aI g wa 4 w0, aI g r1 61 (fun _ => 0), aI g r2 61 (fun _ => 0), aI g ri 60 (fun _ => 0)]) A) ([.ref a] : List Value).toArray s 6 188 A) (F0 m 0 ls []) from K _ _ hP hD hS _ hl
  clear hl; intro H locs hP hD hS ls hl
  refine lv_aload_n hx hb dX1_init_0 rfl (lv_at hl 0 rfl) ?_
  refine W.objInit hx hb hown (htl _ wd_3_10) (htl _ wd_1_9) (htl _ wd_1_10) rfl (by rw [hml]; exact hl.1) rfl dX1_init_1 (Nat.le_of_ble_eq_true rfl) (Nat.le_of_ble_eq_true rfl) ?_
  refine W.eq (g2 := F0 m 4 ls []) rfl ?_
  refine lv_aload_n hx hb dX1_init_4 rfl (lv_at hl 0 rfl) ?_
  refine va_new (ci := 8) (fs := [.null]) (C := RX9) (T := TX9) (N := 1) hx hb htl ck_X9 tyX9 tyX9_ok hown (htl _ wd_3_11) (htl _ wd_3_12) (htl _ wd_3_13) hKK.k hP hD hS hA rfl (fun j hj => by rcases (show j = 0 by omega) with rfl <;> rfl) (Nat.le_of_ble_eq_true rfl) (Nat.le_of_ble_eq_true rfl) dX1_init_5 (fun q5 H hP hD hS => ?_)
  have hP : PP g [ob a 1 [.null, .null, .null, .null], ob q5 8 [.null]] H := hP
  have hD : va_D A [ob a 1 [.null, .null, .null, .null], ob q5 8 [.null]] := hD
  refine W.widen (k := 1) (n := 1) (by omega) (by omega) ?_
  refine lv_dup hx hb dX1_init_8 rfl ?_
  have hDc : va_D A [ob q5 8 [.null]] := hD.sub [1] (by decide) rfl
  have hFc := va_free (wc := [ob q5 8 [.null]]) hD hS hA [1] rfl
  refine jk_Qv (va_runIN (As := []) (rest := [.ref q5, .ref a]) ⟨hx, hb, hml, hown, htl⟩ (m_X9_init l g q5 H.size) ⟨va_cnB 0 htl (gd_ wd_3_19) rfl rfl rfl (nst_5 hKK) (htl _ wd_3_13) cwS_X9_init ⟨Nat.le_of_ble_eq_true rfl, Nat.le_of_ble_eq_true rfl⟩, rfl, htl _ wd_3_18⟩ (jp_S hKK hS hAb ⟨rfl, (va_P.sub hP [1] rfl), hDc.weaken (fun _ q _ h => hAb _ h)⟩) rfl rfl hl.1 rfl (lv_room (Nat.le_of_ble_eq_true rfl)) dX1_init_9 ⟨Nat.le_of_ble_eq_true rfl, Nat.le_of_ble_eq_true rfl⟩) hS (fun q _ h => hFc q h) hFc (fun H1 locs hz9 hzs hks hS => ?_)
  obtain ⟨c_9, hP1, hD1⟩ := hz9
  obtain ⟨hP, hD⟩ := va_join (wr := [ob a 1 [.null, .null, .null, .null]]) (w1 := [ob q5 8 [.ref c_9], aI g c_9 4 w0]) hP hD [1] [0] rfl rfl (by decide) (by decide) hks hFc hP1 hD1
  clear hzs hks; generalize H1 = H at hP hD hS ⊢
  have hP : PP g [ob a 1 [.null, .null, .null, .null], ob q5 8 [.ref c_9], aI g c_9 4 w0] H := hP
  have hD : va_D A [ob a 1 [.null, .null, .null, .null], ob q5 8 [.ref c_9], aI g c_9 4 w0] := hD
  refine W.widen (k := 2) (n := 5) (by omega) (by omega) ?_
  refine va_putF (D := gD g) (ci := 1) (v := .ref q5) (ty := .object "Fuzzyseg$Weights") (C := RX1) (T := TX1) (N := 4) hx hb htl ck_X1 tyX1 tyX1_ok nmX1 hown hKK.k hP hD hS 0 rfl rfl 0 (by decide) (htl _ wd_3_14) (fun _ h9 => h9) rfl hnm rfl (by decide +kernel) rfl rfl (Nat.le_of_ble_eq_true rfl) dX1_init_12 (fun H locs hP hD hS => ?_)
  have hP : PP g [ob a 1 [.ref q5, .null, .null, .null], ob q5 8 [.ref c_9], aI g c_9 4 w0] H := hP
  have hD : va_D A [ob a 1 [.ref q5, .null, .null, .null], ob q5 8 [.ref c_9], aI g c_9 4 w0] := hD
  refine lv_aload_n hx hb dX1_init_15 rfl (lv_at hl 0 rfl) ?_
  refine jr_bipush hx hb dX1_init_16 (by decide) ?_
  refine va_newaK (atype := .int) hx hb (htl _ wd_1_4) (g := F0 m 18 ls [vi 61, .ref a]) rfl dX1_init_18 rfl (N := 61) (by decide) (by decide) (by decide) (Nat.le_of_ble_eq_true rfl) (Nat.le_of_ble_eq_true rfl) rfl (fun H1 cA e1 z1 o1 hAr hNm => ?_)
  obtain rfl : cA = gI g := Option.some.inj (hNm.symm.trans (hKK.k.2 0 _ rfl).2)
  obtain ⟨q18, hq18⟩ : ∃ q, q = H.size := ⟨_, rfl⟩
  rw [← hq18] at e1 ⊢
  obtain ⟨hP, hD, hS⟩ : PP g [ob a 1 [.ref q5, .null, .null, .null], ob q5 8 [.ref c_9], aI g c_9 4 w0, aI g q18 61 (fun _ => 0)] H1 ∧ va_D A [ob a 1 [.ref q5, .null, .null, .null], ob q5 8 [.ref c_9], aI g c_9 4 w0, aI g q18 61 (fun _ => 0)] ∧ va_S A s.heap H1 locs := jnew hP hD hS hA hq18 (by exact e1) z1 o1
  clear e1 z1 o1; generalize H1 = H at hP hD hS ⊢
  have hP : PP g [ob a 1 [.ref q5, .null, .null, .null], ob q5 8 [.ref c_9], aI g c_9 4 w0, aI g q18 61 (fun _ => 0)] H := hP
  refine W.widen (k := 3) (n := 66) (by omega) (by omega) ?_
  refine W.eq (g2 := F0 m 20 ls [.ref q18, .ref a]) rfl ?_
  refine va_putF (D := gD g) (ci := 1) (v := .ref q18) (ty := .array .int) (C := RX1) (T := TX1) (N := 4) hx hb htl ck_X1 tyX1 tyX1_ok nmX1 hown hKK.k hP hD hS 0 rfl rfl 1 (by decide) (htl _ wd_3_15) (fun _ h9 => h9) rfl hnm rfl (by decide +kernel) rfl rfl (Nat.le_of_ble_eq_true rfl) dX1_init_20 (fun H locs hP hD hS => ?_)
  have hP : PP g [ob a 1 [.ref q5, .ref q18, .null, .null], ob q5 8 [.ref c_9], aI g c_9 4 w0, aI g q18 61 (fun _ => 0)] H := hP
  have hD : va_D A [ob a 1 [.ref q5, .ref q18, .null, .null], ob q5 8 [.ref c_9], aI g c_9 4 w0, aI g q18 61 (fun _ => 0)] := hD
  refine lv_aload_n hx hb dX1_init_23 rfl (lv_at hl 0 rfl) ?_
  refine jr_bipush hx hb dX1_init_24 (by decide) ?_
  refine va_newaK (atype := .int) hx hb (htl _ wd_1_4) (g := F0 m 26 ls [vi 61, .ref a]) rfl dX1_init_26 rfl (N := 61) (by decide) (by decide) (by decide) (Nat.le_of_ble_eq_true rfl) (Nat.le_of_ble_eq_true rfl) rfl (fun H1 cA e1 z1 o1 hAr hNm => ?_)
  obtain rfl : cA = gI g := Option.some.inj (hNm.symm.trans (hKK.k.2 0 _ rfl).2)
  obtain ⟨q26, hq26⟩ : ∃ q, q = H.size := ⟨_, rfl⟩
  rw [← hq26] at e1 ⊢
  obtain ⟨hP, hD, hS⟩ : PP g [ob a 1 [.ref q5, .ref q18, .null, .null], ob q5 8 [.ref c_9], aI g c_9 4 w0, aI g q18 61 (fun _ => 0), aI g q26 61 (fun _ => 0)] H1 ∧ va_D A [ob a 1 [.ref q5, .ref q18, .null, .null], ob q5 8 [.ref c_9], aI g c_9 4 w0, aI g q18 61 (fun _ => 0), aI g q26 61 (fun _ => 0)] ∧ va_S A s.heap H1 locs := jnew hP hD hS hA hq26 (by exact e1) z1 o1
  clear e1 z1 o1; generalize H1 = H at hP hD hS ⊢
  have hP : PP g [ob a 1 [.ref q5, .ref q18, .null, .null], ob q5 8 [.ref c_9], aI g c_9 4 w0, aI g q18 61 (fun _ => 0), aI g q26 61 (fun _ => 0)] H := hP
  refine W.widen (k := 4) (n := 127) (by omega) (by omega) ?_
  refine W.eq (g2 := F0 m 28 ls [.ref q26, .ref a]) rfl ?_
  refine va_putF (D := gD g) (ci := 1) (v := .ref q26) (ty := .array .int) (C := RX1) (T := TX1) (N := 4) hx hb htl ck_X1 tyX1 tyX1_ok nmX1 hown hKK.k hP hD hS 0 rfl rfl 2 (by decide) (htl _ wd_3_16) (fun _ h9 => h9) rfl hnm rfl (by decide +kernel) rfl rfl (Nat.le_of_ble_eq_true rfl) dX1_init_28 (fun H locs hP hD hS => ?_)
  have hP : PP g [ob a 1 [.ref q5, .ref q18, .ref q26, .null], ob q5 8 [.ref c_9], aI g c_9 4 w0, aI g q18 61 (fun _ => 0), aI g q26 61 (fun _ => 0)] H := hP
  have hD : va_D A [ob a 1 [.ref q5, .ref q18, .ref q26, .null], ob q5 8 [.ref c_9], aI g c_9 4 w0, aI g q18 61 (fun _ => 0), aI g q26 61 (fun _ => 0)] := hD
  refine lv_aload_n hx hb dX1_init_31 rfl (lv_at hl 0 rfl) ?_
  refine jr_bipush hx hb dX1_init_32 (by decide) ?_
  refine va_newaK (atype := .int) hx hb (htl _ wd_1_4) (g := F0 m 34 ls [vi 60, .ref a]) rfl dX1_init_34 rfl (N := 60) (by decide) (by decide) (by decide) (Nat.le_of_ble_eq_true rfl) (Nat.le_of_ble_eq_true rfl) rfl (fun H1 cA e1 z1 o1 hAr hNm => ?_)
  obtain rfl : cA = gI g := Option.some.inj (hNm.symm.trans (hKK.k.2 0 _ rfl).2)
  obtain ⟨q34, hq34⟩ : ∃ q, q = H.size := ⟨_, rfl⟩
  rw [← hq34] at e1 ⊢
  obtain ⟨hP, hD, hS⟩ : PP g [ob a 1 [.ref q5, .ref q18, .ref q26, .null], ob q5 8 [.ref c_9], aI g c_9 4 w0, aI g q18 61 (fun _ => 0), aI g q26 61 (fun _ => 0), aI g q34 60 (fun _ => 0)] H1 ∧ va_D A [ob a 1 [.ref q5, .ref q18, .ref q26, .null], ob q5 8 [.ref c_9], aI g c_9 4 w0, aI g q18 61 (fun _ => 0), aI g q26 61 (fun _ => 0), aI g q34 60 (fun _ => 0)] ∧ va_S A s.heap H1 locs := jnew hP hD hS hA hq34 (by exact e1) z1 o1
  clear e1 z1 o1; generalize H1 = H at hP hD hS ⊢
  have hP : PP g [ob a 1 [.ref q5, .ref q18, .ref q26, .null], ob q5 8 [.ref c_9], aI g c_9 4 w0, aI g q18 61 (fun _ => 0), aI g q26 61 (fun _ => 0), aI g q34 60 (fun _ => 0)] H := hP
  refine W.widen (k := 5) (n := 187) (by omega) (by omega) ?_
  refine W.eq (g2 := F0 m 36 ls [.ref q34, .ref a]) rfl ?_
  refine va_putF (D := gD g) (ci := 1) (v := .ref q34) (ty := .array .int) (C := RX1) (T := TX1) (N := 4) hx hb htl ck_X1 tyX1 tyX1_ok nmX1 hown hKK.k hP hD hS 0 rfl rfl 3 (by decide) (htl _ wd_3_17) (fun _ h9 => h9) rfl hnm rfl (by decide +kernel) rfl rfl (Nat.le_of_ble_eq_true rfl) dX1_init_36 (fun H locs hP hD hS => ?_)
  have hP : PP g [ob a 1 [.ref q5, .ref q18, .ref q26, .ref q34], ob q5 8 [.ref c_9], aI g c_9 4 w0, aI g q18 61 (fun _ => 0), aI g q26 61 (fun _ => 0), aI g q34 60 (fun _ => 0)] H := hP
  have hD : va_D A [ob a 1 [.ref q5, .ref q18, .ref q26, .ref q34], ob q5 8 [.ref c_9], aI g c_9 4 w0, aI g q18 61 (fun _ => 0), aI g q26 61 (fun _ => 0), aI g q34 60 (fun _ => 0)] := hD
  refine W.widen (k := 6) (n := 188) (by omega) (by omega) ?_
  exact je_Qv hx hb hr hlk hS (⟨q5, c_9, q18, q26, q34, va_P.sub hP [0, 1, 2, 3, 4, 5] rfl, hD.sub [0, 1, 2, 3, 4, 5] (by decide) rfl⟩) dX1_init_39
set_option maxHeartbeats 4000000 in
set_option maxRecDepth 100000 in
theorem m_X3_init (l : Launch) (g : GT) (a sz : Nat) : Met l yX3_init (ws_ yX3_init cX3_init 1 none) (rmm 1 4 124) (jPc g [.ref a] (fun H => H.size = sz ∧ PP g [ob a 3 [.null, .null]] H ∧ va_D (fun q => gb g ≤ q) [ob a 3 [.null, .null]])) (jQv (fun H1 => ∃ b c d e1 : Nat, PP g [ob a 3 [.ref b, .ref d], ob b 6 [.ref c, vi 0], aI g c 60 (fun _ => 0), ob d 6 [.ref e1, vi 0], aI g e1 60 (fun _ => 0)] H1 ∧ va_D (va_A [ob a 3 [.null, .null]] sz) [ob a 3 [.ref b, .ref d], ob b 6 [.ref c, vi 0], aI g c 60 (fun _ => 0), ob d 6 [.ref e1, vi 0], aI g e1 60 (fun _ => 0)]) (va_A [ob a 3 [.null, .null]] sz)) 4 124 (va_A [ob a 3 [.null, .null]] sz) := by
  refine jb_M (by decide) (Nat.le_of_ble_eq_true rfl) ?_
  intro p e s m below meth cq hx hb hr hml hown htl hlk hnm hKK hpre ls hl
  have hown : s.vm.findClass RX3 = some m.cls := hown
  have hl : lv_has ls 1 [(0, .ref a)] := hl
  obtain ⟨hsz, hP, hD0⟩ := hpre
  subst hsz
  have hD : va_D (va_A [ob a 3 [.null, .null]] s.heap.size) [ob a 3 [.null, .null]] := hD0.self
  have hAb : ∀ q, (va_A [ob a 3 [.null, .null]] s.heap.size) q → gb g ≤ q := fun q h => h.elim (fun ⟨k, e, h⟩ => hD0.2 k _ h) (fun h => Nat.le_trans hKK.2.1 h)
  generalize hAe : va_A [ob a 3 [.null, .null]] s.heap.size = A at *
  have hA : ∀ q, s.heap.size ≤ q → A q := fun q h => by rw [← hAe]; exact Or.inr h
  have hS : va_S A s.heap s.heap [] := va_S.rf
  suffices K : ∀ (H : Heap) (locs : List Loc), PP g [ob a 3 [.null, .null]] H → va_D A [ob a 3 [.null, .null]] → va_S A s.heap H locs → ∀ ls : Array Slot, lv_has ls 1 [(0, .ref a)] → W p l e (rmm 1 4 124) s m ([.ref a] : List Value).toArray below meth cq H locs 0 0 (MQ below (jQv (fun H1 => ∃ b c d e1 : Nat, PP g [ob a 3 [.ref b, .ref d], ob b 6 [.ref c, vi 0], aI g c 60 (fun _ => 0), ob d 6 [.ref e1, vi 0], aI g e1 60 (fun _ => 0)] H1 ∧ va_D (A) [ob a 3 [.ref b, .ref d], ob b 6 [.ref c, vi 0], aI g c 60 (fun _ => 0), ob d 6 [.ref e1, vi 0], aI g e1 60 (fun _ => 0)]) A) ([.ref a] : List Value).toArray s 4 124 A) (F0 m 0 ls []) from K _ _ hP hD hS _ hl
  clear hl; intro H locs hP hD hS ls hl
  refine lv_aload_n hx hb dX3_init_0 rfl (lv_at hl 0 rfl) ?_
  refine W.objInit hx hb hown (htl _ wd_4_21) (htl _ wd_1_9) (htl _ wd_1_10) rfl (by rw [hml]; exact hl.1) rfl dX3_init_1 (Nat.le_of_ble_eq_true rfl) (Nat.le_of_ble_eq_true rfl) ?_
  refine W.eq (g2 := F0 m 4 ls []) rfl ?_
  refine lv_aload_n hx hb dX3_init_4 rfl (lv_at hl 0 rfl) ?_
  refine va_new (ci := 6) (fs := [.null, vi 0]) (C := RX6) (T := TX6) (N := 2) hx hb htl ck_X6 tyX6 tyX6_ok hown (htl _ wd_4_22) (htl _ wd_1_12) (htl _ wd_1_13) hKK.k hP hD hS hA rfl (fun j hj => by rcases (show j = 0 ∨ j = 1 by omega) with rfl | rfl <;> rfl) (Nat.le_of_ble_eq_true rfl) (Nat.le_of_ble_eq_true rfl) dX3_init_5 (fun q5 H hP hD hS => ?_)
  have hP : PP g [ob a 3 [.null, .null], ob q5 6 [.null, vi 0]] H := hP
  have hD : va_D A [ob a 3 [.null, .null], ob q5 6 [.null, vi 0]] := hD
  refine W.widen (k := 1) (n := 2) (by omega) (by omega) ?_
  refine lv_dup hx hb dX3_init_8 rfl ?_
  have hDc : va_D A [ob q5 6 [.null, vi 0]] := hD.sub [1] (by decide) rfl
  have hFc := va_free (wc := [ob q5 6 [.null, vi 0]]) hD hS hA [1] rfl
  refine jk_Qv (va_runIN (As := []) (rest := [.ref q5, .ref a]) ⟨hx, hb, hml, hown, htl⟩ (m_X6_init l g q5 H.size) ⟨va_cnB 0 htl (gd_ wd_2_13) rfl rfl rfl (nst_9 hKK) (htl _ wd_1_13) cwS_X6_init ⟨Nat.le_of_ble_eq_true rfl, Nat.le_of_ble_eq_true rfl⟩, rfl, htl _ wd_2_12⟩ (jp_S hKK hS hAb ⟨rfl, (va_P.sub hP [1] rfl), hDc.weaken (fun _ q _ h => hAb _ h)⟩) rfl rfl hl.1 rfl (lv_room (Nat.le_of_ble_eq_true rfl)) dX3_init_9 ⟨Nat.le_of_ble_eq_true rfl, Nat.le_of_ble_eq_true rfl⟩) hS (fun q _ h => hFc q h) hFc (fun H1 locs hz9 hzs hks hS => ?_)
  obtain ⟨c_9, hP1, hD1⟩ := hz9
  obtain ⟨hP, hD⟩ := va_join (wr := [ob a 3 [.null, .null]]) (w1 := [ob q5 6 [.ref c_9, vi 0], aI g c_9 60 (fun _ => 0)]) hP hD [1] [0] rfl rfl (by decide) (by decide) hks hFc hP1 hD1
  clear hzs hks; generalize H1 = H at hP hD hS ⊢
  have hP : PP g [ob a 3 [.null, .null], ob q5 6 [.ref c_9, vi 0], aI g c_9 60 (fun _ => 0)] H := hP
  have hD : va_D A [ob a 3 [.null, .null], ob q5 6 [.ref c_9, vi 0], aI g c_9 60 (fun _ => 0)] := hD
  refine W.widen (k := 2) (n := 62) (by omega) (by omega) ?_
  refine va_putF (D := gD g) (ci := 3) (v := .ref q5) (ty := .object "Fuzzyseg$Text") (C := RX3) (T := TX3) (N := 2) hx hb htl ck_X3 tyX3 tyX3_ok nmX3 hown hKK.k hP hD hS 0 rfl rfl 0 (by decide) (htl _ wd_4_23) (fun _ h9 => h9) rfl hnm rfl (by decide +kernel) rfl rfl (Nat.le_of_ble_eq_true rfl) dX3_init_12 (fun H locs hP hD hS => ?_)
  have hP : PP g [ob a 3 [.ref q5, .null], ob q5 6 [.ref c_9, vi 0], aI g c_9 60 (fun _ => 0)] H := hP
  have hD : va_D A [ob a 3 [.ref q5, .null], ob q5 6 [.ref c_9, vi 0], aI g c_9 60 (fun _ => 0)] := hD
  refine lv_aload_n hx hb dX3_init_15 rfl (lv_at hl 0 rfl) ?_
  refine va_new (ci := 6) (fs := [.null, vi 0]) (C := RX6) (T := TX6) (N := 2) hx hb htl ck_X6 tyX6 tyX6_ok hown (htl _ wd_4_22) (htl _ wd_1_12) (htl _ wd_1_13) hKK.k hP hD hS hA rfl (fun j hj => by rcases (show j = 0 ∨ j = 1 by omega) with rfl | rfl <;> rfl) (Nat.le_of_ble_eq_true rfl) (Nat.le_of_ble_eq_true rfl) dX3_init_16 (fun q16 H hP hD hS => ?_)
  have hP : PP g [ob a 3 [.ref q5, .null], ob q5 6 [.ref c_9, vi 0], aI g c_9 60 (fun _ => 0), ob q16 6 [.null, vi 0]] H := hP
  have hD : va_D A [ob a 3 [.ref q5, .null], ob q5 6 [.ref c_9, vi 0], aI g c_9 60 (fun _ => 0), ob q16 6 [.null, vi 0]] := hD
  refine W.widen (k := 3) (n := 64) (by omega) (by omega) ?_
  refine lv_dup hx hb dX3_init_19 rfl ?_
  have hDc : va_D A [ob q16 6 [.null, vi 0]] := hD.sub [3] (by decide) rfl
  have hFc := va_free (wc := [ob q16 6 [.null, vi 0]]) hD hS hA [3] rfl
  refine jk_Qv (va_runIN (As := []) (rest := [.ref q16, .ref a]) ⟨hx, hb, hml, hown, htl⟩ (m_X6_init l g q16 H.size) ⟨va_cnB 0 htl (gd_ wd_2_13) rfl rfl rfl (nst_9 hKK) (htl _ wd_1_13) cwS_X6_init ⟨Nat.le_of_ble_eq_true rfl, Nat.le_of_ble_eq_true rfl⟩, rfl, htl _ wd_2_12⟩ (jp_S hKK hS hAb ⟨rfl, (va_P.sub hP [3] rfl), hDc.weaken (fun _ q _ h => hAb _ h)⟩) rfl rfl hl.1 rfl (lv_room (Nat.le_of_ble_eq_true rfl)) dX3_init_20 ⟨Nat.le_of_ble_eq_true rfl, Nat.le_of_ble_eq_true rfl⟩) hS (fun q _ h => hFc q h) hFc (fun H1 locs hz20 hzs hks hS => ?_)
  obtain ⟨c_20, hP1, hD1⟩ := hz20
  obtain ⟨hP, hD⟩ := va_join (wr := [ob a 3 [.ref q5, .null], ob q5 6 [.ref c_9, vi 0], aI g c_9 60 (fun _ => 0)]) (w1 := [ob q16 6 [.ref c_20, vi 0], aI g c_20 60 (fun _ => 0)]) hP hD [3] [0, 1, 2] rfl rfl (by decide) (by decide) hks hFc hP1 hD1
  clear hzs hks; generalize H1 = H at hP hD hS ⊢
  have hP : PP g [ob a 3 [.ref q5, .null], ob q5 6 [.ref c_9, vi 0], aI g c_9 60 (fun _ => 0), ob q16 6 [.ref c_20, vi 0], aI g c_20 60 (fun _ => 0)] H := hP
  have hD : va_D A [ob a 3 [.ref q5, .null], ob q5 6 [.ref c_9, vi 0], aI g c_9 60 (fun _ => 0), ob q16 6 [.ref c_20, vi 0], aI g c_20 60 (fun _ => 0)] := hD
  refine W.widen (k := 4) (n := 124) (by omega) (by omega) ?_
  refine va_putF (D := gD g) (ci := 3) (v := .ref q16) (ty := .object "Fuzzyseg$Text") (C := RX3) (T := TX3) (N := 2) hx hb htl ck_X3 tyX3 tyX3_ok nmX3 hown hKK.k hP hD hS 0 rfl rfl 1 (by decide) (htl _ wd_5_0) (fun _ h9 => h9) rfl hnm rfl (by decide +kernel) rfl rfl (Nat.le_of_ble_eq_true rfl) dX3_init_23 (fun H locs hP hD hS => ?_)
  have hP : PP g [ob a 3 [.ref q5, .ref q16], ob q5 6 [.ref c_9, vi 0], aI g c_9 60 (fun _ => 0), ob q16 6 [.ref c_20, vi 0], aI g c_20 60 (fun _ => 0)] H := hP
  have hD : va_D A [ob a 3 [.ref q5, .ref q16], ob q5 6 [.ref c_9, vi 0], aI g c_9 60 (fun _ => 0), ob q16 6 [.ref c_20, vi 0], aI g c_20 60 (fun _ => 0)] := hD
  exact je_Qv hx hb hr hlk hS (⟨q5, c_9, q16, c_20, va_P.sub hP [0, 1, 2, 3, 4] rfl, hD.sub [0, 1, 2, 3, 4] (by decide) rfl⟩) dX3_init_26
set_option maxHeartbeats 4000000 in
set_option maxRecDepth 100000 in
theorem m_X8_init (l : Launch) (g : GT) (a sz : Nat) : Met l yX8_init (ws_ yX8_init cX8_init 1 none) (rmm 1 4 124) (jPc g [.ref a] (fun H => H.size = sz ∧ PP g [ob a 7 [.null, .null, vi 0]] H ∧ va_D (fun q => gb g ≤ q) [ob a 7 [.null, .null, vi 0]])) (jQv (fun H1 => ∃ b c d e1 : Nat, PP g [ob a 7 [.ref b, .ref d, vi 1], ob b 6 [.ref c, vi 0], aI g c 60 (fun _ => 0), ob d 6 [.ref e1, vi 0], aI g e1 60 (fun _ => 0)] H1 ∧ va_D (va_A [ob a 7 [.null, .null, vi 0]] sz) [ob a 7 [.ref b, .ref d, vi 1], ob b 6 [.ref c, vi 0], aI g c 60 (fun _ => 0), ob d 6 [.ref e1, vi 0], aI g e1 60 (fun _ => 0)]) (va_A [ob a 7 [.null, .null, vi 0]] sz)) 4 124 (va_A [ob a 7 [.null, .null, vi 0]] sz) := by
  refine jb_M (by decide) (Nat.le_of_ble_eq_true rfl) ?_
  intro p e s m below meth cq hx hb hr hml hown htl hlk hnm hKK hpre ls hl
  have hown : s.vm.findClass RX8 = some m.cls := hown
  have hl : lv_has ls 1 [(0, .ref a)] := hl
  obtain ⟨hsz, hP, hD0⟩ := hpre
  subst hsz
  have hD : va_D (va_A [ob a 7 [.null, .null, vi 0]] s.heap.size) [ob a 7 [.null, .null, vi 0]] := hD0.self
  have hAb : ∀ q, (va_A [ob a 7 [.null, .null, vi 0]] s.heap.size) q → gb g ≤ q := fun q h => h.elim (fun ⟨k, e, h⟩ => hD0.2 k _ h) (fun h => Nat.le_trans hKK.2.1 h)
  generalize hAe : va_A [ob a 7 [.null, .null, vi 0]] s.heap.size = A at *
  have hA : ∀ q, s.heap.size ≤ q → A q := fun q h => by rw [← hAe]; exact Or.inr h
  have hS : va_S A s.heap s.heap [] := va_S.rf
  suffices K : ∀ (H : Heap) (locs : List Loc), PP g [ob a 7 [.null, .null, vi 0]] H → va_D A [ob a 7 [.null, .null, vi 0]] → va_S A s.heap H locs → ∀ ls : Array Slot, lv_has ls 1 [(0, .ref a)] → W p l e (rmm 1 4 124) s m ([.ref a] : List Value).toArray below meth cq H locs 0 0 (MQ below (jQv (fun H1 => ∃ b c d e1 : Nat, PP g [ob a 7 [.ref b, .ref d, vi 1], ob b 6 [.ref c, vi 0], aI g c 60 (fun _ => 0), ob d 6 [.ref e1, vi 0], aI g e1 60 (fun _ => 0)] H1 ∧ va_D (A) [ob a 7 [.ref b, .ref d, vi 1], ob b 6 [.ref c, vi 0], aI g c 60 (fun _ => 0), ob d 6 [.ref e1, vi 0], aI g e1 60 (fun _ => 0)]) A) ([.ref a] : List Value).toArray s 4 124 A) (F0 m 0 ls []) from K _ _ hP hD hS _ hl
  clear hl; intro H locs hP hD hS ls hl
  refine lv_aload_n hx hb dX8_init_0 rfl (lv_at hl 0 rfl) ?_
  refine W.objInit hx hb hown (htl _ wd_14_7) (htl _ wd_1_9) (htl _ wd_1_10) rfl (by rw [hml]; exact hl.1) rfl dX8_init_1 (Nat.le_of_ble_eq_true rfl) (Nat.le_of_ble_eq_true rfl) ?_
  refine W.eq (g2 := F0 m 4 ls []) rfl ?_
  refine lv_aload_n hx hb dX8_init_4 rfl (lv_at hl 0 rfl) ?_
  refine va_new (ci := 6) (fs := [.null, vi 0]) (C := RX6) (T := TX6) (N := 2) hx hb htl ck_X6 tyX6 tyX6_ok hown (htl _ wd_14_8) (htl _ wd_1_12) (htl _ wd_1_13) hKK.k hP hD hS hA rfl (fun j hj => by rcases (show j = 0 ∨ j = 1 by omega) with rfl | rfl <;> rfl) (Nat.le_of_ble_eq_true rfl) (Nat.le_of_ble_eq_true rfl) dX8_init_5 (fun q5 H hP hD hS => ?_)
  have hP : PP g [ob a 7 [.null, .null, vi 0], ob q5 6 [.null, vi 0]] H := hP
  have hD : va_D A [ob a 7 [.null, .null, vi 0], ob q5 6 [.null, vi 0]] := hD
  refine W.widen (k := 1) (n := 2) (by omega) (by omega) ?_
  refine lv_dup hx hb dX8_init_8 rfl ?_
  have hDc : va_D A [ob q5 6 [.null, vi 0]] := hD.sub [1] (by decide) rfl
  have hFc := va_free (wc := [ob q5 6 [.null, vi 0]]) hD hS hA [1] rfl
  refine jk_Qv (va_runIN (As := []) (rest := [.ref q5, .ref a]) ⟨hx, hb, hml, hown, htl⟩ (m_X6_init l g q5 H.size) ⟨va_cnB 0 htl (gd_ wd_2_13) rfl rfl rfl (nst_11 hKK) (htl _ wd_1_13) cwS_X6_init ⟨Nat.le_of_ble_eq_true rfl, Nat.le_of_ble_eq_true rfl⟩, rfl, htl _ wd_2_12⟩ (jp_S hKK hS hAb ⟨rfl, (va_P.sub hP [1] rfl), hDc.weaken (fun _ q _ h => hAb _ h)⟩) rfl rfl hl.1 rfl (lv_room (Nat.le_of_ble_eq_true rfl)) dX8_init_9 ⟨Nat.le_of_ble_eq_true rfl, Nat.le_of_ble_eq_true rfl⟩) hS (fun q _ h => hFc q h) hFc (fun H1 locs hz9 hzs hks hS => ?_)
  obtain ⟨c_9, hP1, hD1⟩ := hz9
  obtain ⟨hP, hD⟩ := va_join (wr := [ob a 7 [.null, .null, vi 0]]) (w1 := [ob q5 6 [.ref c_9, vi 0], aI g c_9 60 (fun _ => 0)]) hP hD [1] [0] rfl rfl (by decide) (by decide) hks hFc hP1 hD1
  clear hzs hks; generalize H1 = H at hP hD hS ⊢
  have hP : PP g [ob a 7 [.null, .null, vi 0], ob q5 6 [.ref c_9, vi 0], aI g c_9 60 (fun _ => 0)] H := hP
  have hD : va_D A [ob a 7 [.null, .null, vi 0], ob q5 6 [.ref c_9, vi 0], aI g c_9 60 (fun _ => 0)] := hD
  refine W.widen (k := 2) (n := 62) (by omega) (by omega) ?_
  refine va_putF (D := gD g) (ci := 7) (v := .ref q5) (ty := .object "Fuzzyseg$Text") (C := RX8) (T := TX8) (N := 3) hx hb htl ck_X8 tyX8 tyX8_ok nmX8 hown hKK.k hP hD hS 0 rfl rfl 0 (by decide) (htl _ wd_14_9) (fun _ h9 => h9) rfl hnm rfl (by decide +kernel) rfl rfl (Nat.le_of_ble_eq_true rfl) dX8_init_12 (fun H locs hP hD hS => ?_)
  have hP : PP g [ob a 7 [.ref q5, .null, vi 0], ob q5 6 [.ref c_9, vi 0], aI g c_9 60 (fun _ => 0)] H := hP
  have hD : va_D A [ob a 7 [.ref q5, .null, vi 0], ob q5 6 [.ref c_9, vi 0], aI g c_9 60 (fun _ => 0)] := hD
  refine lv_aload_n hx hb dX8_init_15 rfl (lv_at hl 0 rfl) ?_
  refine va_new (ci := 6) (fs := [.null, vi 0]) (C := RX6) (T := TX6) (N := 2) hx hb htl ck_X6 tyX6 tyX6_ok hown (htl _ wd_14_8) (htl _ wd_1_12) (htl _ wd_1_13) hKK.k hP hD hS hA rfl (fun j hj => by rcases (show j = 0 ∨ j = 1 by omega) with rfl | rfl <;> rfl) (Nat.le_of_ble_eq_true rfl) (Nat.le_of_ble_eq_true rfl) dX8_init_16 (fun q16 H hP hD hS => ?_)
  have hP : PP g [ob a 7 [.ref q5, .null, vi 0], ob q5 6 [.ref c_9, vi 0], aI g c_9 60 (fun _ => 0), ob q16 6 [.null, vi 0]] H := hP
  have hD : va_D A [ob a 7 [.ref q5, .null, vi 0], ob q5 6 [.ref c_9, vi 0], aI g c_9 60 (fun _ => 0), ob q16 6 [.null, vi 0]] := hD
  refine W.widen (k := 3) (n := 64) (by omega) (by omega) ?_
  refine lv_dup hx hb dX8_init_19 rfl ?_
  have hDc : va_D A [ob q16 6 [.null, vi 0]] := hD.sub [3] (by decide) rfl
  have hFc := va_free (wc := [ob q16 6 [.null, vi 0]]) hD hS hA [3] rfl
  refine jk_Qv (va_runIN (As := []) (rest := [.ref q16, .ref a]) ⟨hx, hb, hml, hown, htl⟩ (m_X6_init l g q16 H.size) ⟨va_cnB 0 htl (gd_ wd_2_13) rfl rfl rfl (nst_11 hKK) (htl _ wd_1_13) cwS_X6_init ⟨Nat.le_of_ble_eq_true rfl, Nat.le_of_ble_eq_true rfl⟩, rfl, htl _ wd_2_12⟩ (jp_S hKK hS hAb ⟨rfl, (va_P.sub hP [3] rfl), hDc.weaken (fun _ q _ h => hAb _ h)⟩) rfl rfl hl.1 rfl (lv_room (Nat.le_of_ble_eq_true rfl)) dX8_init_20 ⟨Nat.le_of_ble_eq_true rfl, Nat.le_of_ble_eq_true rfl⟩) hS (fun q _ h => hFc q h) hFc (fun H1 locs hz20 hzs hks hS => ?_)
  obtain ⟨c_20, hP1, hD1⟩ := hz20
  obtain ⟨hP, hD⟩ := va_join (wr := [ob a 7 [.ref q5, .null, vi 0], ob q5 6 [.ref c_9, vi 0], aI g c_9 60 (fun _ => 0)]) (w1 := [ob q16 6 [.ref c_20, vi 0], aI g c_20 60 (fun _ => 0)]) hP hD [3] [0, 1, 2] rfl rfl (by decide) (by decide) hks hFc hP1 hD1
  clear hzs hks; generalize H1 = H at hP hD hS ⊢
  have hP : PP g [ob a 7 [.ref q5, .null, vi 0], ob q5 6 [.ref c_9, vi 0], aI g c_9 60 (fun _ => 0), ob q16 6 [.ref c_20, vi 0], aI g c_20 60 (fun _ => 0)] H := hP
  have hD : va_D A [ob a 7 [.ref q5, .null, vi 0], ob q5 6 [.ref c_9, vi 0], aI g c_9 60 (fun _ => 0), ob q16 6 [.ref c_20, vi 0], aI g c_20 60 (fun _ => 0)] := hD
  refine W.widen (k := 4) (n := 124) (by omega) (by omega) ?_
  refine va_putF (D := gD g) (ci := 7) (v := .ref q16) (ty := .object "Fuzzyseg$Text") (C := RX8) (T := TX8) (N := 3) hx hb htl ck_X8 tyX8 tyX8_ok nmX8 hown hKK.k hP hD hS 0 rfl rfl 1 (by decide) (htl _ wd_14_10) (fun _ h9 => h9) rfl hnm rfl (by decide +kernel) rfl rfl (Nat.le_of_ble_eq_true rfl) dX8_init_23 (fun H locs hP hD hS => ?_)
  have hP : PP g [ob a 7 [.ref q5, .ref q16, vi 0], ob q5 6 [.ref c_9, vi 0], aI g c_9 60 (fun _ => 0), ob q16 6 [.ref c_20, vi 0], aI g c_20 60 (fun _ => 0)] H := hP
  have hD : va_D A [ob a 7 [.ref q5, .ref q16, vi 0], ob q5 6 [.ref c_9, vi 0], aI g c_9 60 (fun _ => 0), ob q16 6 [.ref c_20, vi 0], aI g c_20 60 (fun _ => 0)] := hD
  refine lv_aload_n hx hb dX8_init_26 rfl (lv_at hl 0 rfl) ?_
  refine jr_iconst hx hb dX8_init_27 ?_
  refine va_put (D := gD g) (ci := 7) (v := vi 1) (ty := .boolean) (C := RX8) (T := TX8) (N := 3) hx hb htl ck_X8 tyX8 tyX8_ok nmX8 hown hKK.k hP hD hS 0 rfl rfl 2 (by decide) (htl _ wd_14_11) (fun _ h9 => h9) rfl (by decide +kernel) (by decide) (by decide) (Nat.le_of_ble_eq_true rfl) dX8_init_28 (fun H locs hP hD hS => ?_)
  have hP : PP g [ob a 7 [.ref q5, .ref q16, vi 1], ob q5 6 [.ref c_9, vi 0], aI g c_9 60 (fun _ => 0), ob q16 6 [.ref c_20, vi 0], aI g c_20 60 (fun _ => 0)] H := hP
  have hD : va_D A [ob a 7 [.ref q5, .ref q16, vi 1], ob q5 6 [.ref c_9, vi 0], aI g c_9 60 (fun _ => 0), ob q16 6 [.ref c_20, vi 0], aI g c_20 60 (fun _ => 0)] := hD
  exact je_Qv hx hb hr hlk hS (⟨q5, c_9, q16, c_20, va_P.sub hP [0, 1, 2, 3, 4] rfl, hD.sub [0, 1, 2, 3, 4] (by decide) rfl⟩) dX8_init_31
set_option maxHeartbeats 4000000 in
set_option maxRecDepth 100000 in
theorem m_X4_init (l : Launch) (g : GT) (a sz : Nat) : Met l yX4_init (ws_ yX4_init cX4_init 1 none) (rmm 1 4 124) (jPc g [.ref a] (fun H => H.size = sz ∧ PP g [ob a 4 [.null, .null, vi 0, vi 0, vi 0]] H ∧ va_D (fun q => gb g ≤ q) [ob a 4 [.null, .null, vi 0, vi 0, vi 0]])) (jQv (fun H1 => ∃ b c d e1 : Nat, PP g [ob a 4 [.ref b, .ref d, vi 101, vi (-1), vi 0], ob b 6 [.ref c, vi 0], aI g c 60 (fun _ => 0), ob d 6 [.ref e1, vi 0], aI g e1 60 (fun _ => 0)] H1 ∧ va_D (va_A [ob a 4 [.null, .null, vi 0, vi 0, vi 0]] sz) [ob a 4 [.ref b, .ref d, vi 101, vi (-1), vi 0], ob b 6 [.ref c, vi 0], aI g c 60 (fun _ => 0), ob d 6 [.ref e1, vi 0], aI g e1 60 (fun _ => 0)]) (va_A [ob a 4 [.null, .null, vi 0, vi 0, vi 0]] sz)) 4 124 (va_A [ob a 4 [.null, .null, vi 0, vi 0, vi 0]] sz) := by
  refine jb_M (by decide) (Nat.le_of_ble_eq_true rfl) ?_
  intro p e s m below meth cq hx hb hr hml hown htl hlk hnm hKK hpre ls hl
  have hown : s.vm.findClass RX4 = some m.cls := hown
  have hl : lv_has ls 1 [(0, .ref a)] := hl
  obtain ⟨hsz, hP, hD0⟩ := hpre
  subst hsz
  have hD : va_D (va_A [ob a 4 [.null, .null, vi 0, vi 0, vi 0]] s.heap.size) [ob a 4 [.null, .null, vi 0, vi 0, vi 0]] := hD0.self
  have hAb : ∀ q, (va_A [ob a 4 [.null, .null, vi 0, vi 0, vi 0]] s.heap.size) q → gb g ≤ q := fun q h => h.elim (fun ⟨k, e, h⟩ => hD0.2 k _ h) (fun h => Nat.le_trans hKK.2.1 h)
  generalize hAe : va_A [ob a 4 [.null, .null, vi 0, vi 0, vi 0]] s.heap.size = A at *
  have hA : ∀ q, s.heap.size ≤ q → A q := fun q h => by rw [← hAe]; exact Or.inr h
  have hS : va_S A s.heap s.heap [] := va_S.rf
  suffices K : ∀ (H : Heap) (locs : List Loc), PP g [ob a 4 [.null, .null, vi 0, vi 0, vi 0]] H → va_D A [ob a 4 [.null, .null, vi 0, vi 0, vi 0]] → va_S A s.heap H locs → ∀ ls : Array Slot, lv_has ls 1 [(0, .ref a)] → W p l e (rmm 1 4 124) s m ([.ref a] : List Value).toArray below meth cq H locs 0 0 (MQ below (jQv (fun H1 => ∃ b c d e1 : Nat, PP g [ob a 4 [.ref b, .ref d, vi 101, vi (-1), vi 0], ob b 6 [.ref c, vi 0], aI g c 60 (fun _ => 0), ob d 6 [.ref e1, vi 0], aI g e1 60 (fun _ => 0)] H1 ∧ va_D (A) [ob a 4 [.ref b, .ref d, vi 101, vi (-1), vi 0], ob b 6 [.ref c, vi 0], aI g c 60 (fun _ => 0), ob d 6 [.ref e1, vi 0], aI g e1 60 (fun _ => 0)]) A) ([.ref a] : List Value).toArray s 4 124 A) (F0 m 0 ls []) from K _ _ hP hD hS _ hl
  clear hl; intro H locs hP hD hS ls hl
  refine lv_aload_n hx hb dX4_init_0 rfl (lv_at hl 0 rfl) ?_
  refine W.objInit hx hb hown (htl _ wd_19_4) (htl _ wd_1_9) (htl _ wd_1_10) rfl (by rw [hml]; exact hl.1) rfl dX4_init_1 (Nat.le_of_ble_eq_true rfl) (Nat.le_of_ble_eq_true rfl) ?_
  refine W.eq (g2 := F0 m 4 ls []) rfl ?_
  refine lv_aload_n hx hb dX4_init_4 rfl (lv_at hl 0 rfl) ?_
  refine va_new (ci := 6) (fs := [.null, vi 0]) (C := RX6) (T := TX6) (N := 2) hx hb htl ck_X6 tyX6 tyX6_ok hown (htl _ wd_19_5) (htl _ wd_1_12) (htl _ wd_1_13) hKK.k hP hD hS hA rfl (fun j hj => by rcases (show j = 0 ∨ j = 1 by omega) with rfl | rfl <;> rfl) (Nat.le_of_ble_eq_true rfl) (Nat.le_of_ble_eq_true rfl) dX4_init_5 (fun q5 H hP hD hS => ?_)
  have hP : PP g [ob a 4 [.null, .null, vi 0, vi 0, vi 0], ob q5 6 [.null, vi 0]] H := hP
  have hD : va_D A [ob a 4 [.null, .null, vi 0, vi 0, vi 0], ob q5 6 [.null, vi 0]] := hD
  refine W.widen (k := 1) (n := 2) (by omega) (by omega) ?_
  refine lv_dup hx hb dX4_init_8 rfl ?_
  have hDc : va_D A [ob q5 6 [.null, vi 0]] := hD.sub [1] (by decide) rfl
  have hFc := va_free (wc := [ob q5 6 [.null, vi 0]]) hD hS hA [1] rfl
  refine jk_Qv (va_runIN (As := []) (rest := [.ref q5, .ref a]) ⟨hx, hb, hml, hown, htl⟩ (m_X6_init l g q5 H.size) ⟨va_cnB 0 htl (gd_ wd_2_13) rfl rfl rfl (nst_10 hKK) (htl _ wd_1_13) cwS_X6_init ⟨Nat.le_of_ble_eq_true rfl, Nat.le_of_ble_eq_true rfl⟩, rfl, htl _ wd_2_12⟩ (jp_S hKK hS hAb ⟨rfl, (va_P.sub hP [1] rfl), hDc.weaken (fun _ q _ h => hAb _ h)⟩) rfl rfl hl.1 rfl (lv_room (Nat.le_of_ble_eq_true rfl)) dX4_init_9 ⟨Nat.le_of_ble_eq_true rfl, Nat.le_of_ble_eq_true rfl⟩) hS (fun q _ h => hFc q h) hFc (fun H1 locs hz9 hzs hks hS => ?_)
  obtain ⟨c_9, hP1, hD1⟩ := hz9
  obtain ⟨hP, hD⟩ := va_join (wr := [ob a 4 [.null, .null, vi 0, vi 0, vi 0]]) (w1 := [ob q5 6 [.ref c_9, vi 0], aI g c_9 60 (fun _ => 0)]) hP hD [1] [0] rfl rfl (by decide) (by decide) hks hFc hP1 hD1
  clear hzs hks; generalize H1 = H at hP hD hS ⊢
  have hP : PP g [ob a 4 [.null, .null, vi 0, vi 0, vi 0], ob q5 6 [.ref c_9, vi 0], aI g c_9 60 (fun _ => 0)] H := hP
  have hD : va_D A [ob a 4 [.null, .null, vi 0, vi 0, vi 0], ob q5 6 [.ref c_9, vi 0], aI g c_9 60 (fun _ => 0)] := hD
  refine W.widen (k := 2) (n := 62) (by omega) (by omega) ?_
  refine va_putF (D := gD g) (ci := 4) (v := .ref q5) (ty := .object "Fuzzyseg$Text") (C := RX4) (T := TX4) (N := 5) hx hb htl ck_X4 tyX4 tyX4_ok nmX4 hown hKK.k hP hD hS 0 rfl rfl 0 (by decide) (htl _ wd_19_6) (fun _ h9 => h9) rfl hnm rfl (by decide +kernel) rfl rfl (Nat.le_of_ble_eq_true rfl) dX4_init_12 (fun H locs hP hD hS => ?_)
  have hP : PP g [ob a 4 [.ref q5, .null, vi 0, vi 0, vi 0], ob q5 6 [.ref c_9, vi 0], aI g c_9 60 (fun _ => 0)] H := hP
  have hD : va_D A [ob a 4 [.ref q5, .null, vi 0, vi 0, vi 0], ob q5 6 [.ref c_9, vi 0], aI g c_9 60 (fun _ => 0)] := hD
  refine lv_aload_n hx hb dX4_init_15 rfl (lv_at hl 0 rfl) ?_
  refine va_new (ci := 6) (fs := [.null, vi 0]) (C := RX6) (T := TX6) (N := 2) hx hb htl ck_X6 tyX6 tyX6_ok hown (htl _ wd_19_5) (htl _ wd_1_12) (htl _ wd_1_13) hKK.k hP hD hS hA rfl (fun j hj => by rcases (show j = 0 ∨ j = 1 by omega) with rfl | rfl <;> rfl) (Nat.le_of_ble_eq_true rfl) (Nat.le_of_ble_eq_true rfl) dX4_init_16 (fun q16 H hP hD hS => ?_)
  have hP : PP g [ob a 4 [.ref q5, .null, vi 0, vi 0, vi 0], ob q5 6 [.ref c_9, vi 0], aI g c_9 60 (fun _ => 0), ob q16 6 [.null, vi 0]] H := hP
  have hD : va_D A [ob a 4 [.ref q5, .null, vi 0, vi 0, vi 0], ob q5 6 [.ref c_9, vi 0], aI g c_9 60 (fun _ => 0), ob q16 6 [.null, vi 0]] := hD
  refine W.widen (k := 3) (n := 64) (by omega) (by omega) ?_
  refine lv_dup hx hb dX4_init_19 rfl ?_
  have hDc : va_D A [ob q16 6 [.null, vi 0]] := hD.sub [3] (by decide) rfl
  have hFc := va_free (wc := [ob q16 6 [.null, vi 0]]) hD hS hA [3] rfl
  refine jk_Qv (va_runIN (As := []) (rest := [.ref q16, .ref a]) ⟨hx, hb, hml, hown, htl⟩ (m_X6_init l g q16 H.size) ⟨va_cnB 0 htl (gd_ wd_2_13) rfl rfl rfl (nst_10 hKK) (htl _ wd_1_13) cwS_X6_init ⟨Nat.le_of_ble_eq_true rfl, Nat.le_of_ble_eq_true rfl⟩, rfl, htl _ wd_2_12⟩ (jp_S hKK hS hAb ⟨rfl, (va_P.sub hP [3] rfl), hDc.weaken (fun _ q _ h => hAb _ h)⟩) rfl rfl hl.1 rfl (lv_room (Nat.le_of_ble_eq_true rfl)) dX4_init_20 ⟨Nat.le_of_ble_eq_true rfl, Nat.le_of_ble_eq_true rfl⟩) hS (fun q _ h => hFc q h) hFc (fun H1 locs hz20 hzs hks hS => ?_)
  obtain ⟨c_20, hP1, hD1⟩ := hz20
  obtain ⟨hP, hD⟩ := va_join (wr := [ob a 4 [.ref q5, .null, vi 0, vi 0, vi 0], ob q5 6 [.ref c_9, vi 0], aI g c_9 60 (fun _ => 0)]) (w1 := [ob q16 6 [.ref c_20, vi 0], aI g c_20 60 (fun _ => 0)]) hP hD [3] [0, 1, 2] rfl rfl (by decide) (by decide) hks hFc hP1 hD1
  clear hzs hks; generalize H1 = H at hP hD hS ⊢
  have hP : PP g [ob a 4 [.ref q5, .null, vi 0, vi 0, vi 0], ob q5 6 [.ref c_9, vi 0], aI g c_9 60 (fun _ => 0), ob q16 6 [.ref c_20, vi 0], aI g c_20 60 (fun _ => 0)] H := hP
  have hD : va_D A [ob a 4 [.ref q5, .null, vi 0, vi 0, vi 0], ob q5 6 [.ref c_9, vi 0], aI g c_9 60 (fun _ => 0), ob q16 6 [.ref c_20, vi 0], aI g c_20 60 (fun _ => 0)] := hD
  refine W.widen (k := 4) (n := 124) (by omega) (by omega) ?_
  refine va_putF (D := gD g) (ci := 4) (v := .ref q16) (ty := .object "Fuzzyseg$Text") (C := RX4) (T := TX4) (N := 5) hx hb htl ck_X4 tyX4 tyX4_ok nmX4 hown hKK.k hP hD hS 0 rfl rfl 1 (by decide) (htl _ wd_19_7) (fun _ h9 => h9) rfl hnm rfl (by decide +kernel) rfl rfl (Nat.le_of_ble_eq_true rfl) dX4_init_23 (fun H locs hP hD hS => ?_)
  have hP : PP g [ob a 4 [.ref q5, .ref q16, vi 0, vi 0, vi 0], ob q5 6 [.ref c_9, vi 0], aI g c_9 60 (fun _ => 0), ob q16 6 [.ref c_20, vi 0], aI g c_20 60 (fun _ => 0)] H := hP
  have hD : va_D A [ob a 4 [.ref q5, .ref q16, vi 0, vi 0, vi 0], ob q5 6 [.ref c_9, vi 0], aI g c_9 60 (fun _ => 0), ob q16 6 [.ref c_20, vi 0], aI g c_20 60 (fun _ => 0)] := hD
  refine lv_aload_n hx hb dX4_init_26 rfl (lv_at hl 0 rfl) ?_
  refine jr_bipush hx hb dX4_init_27 (by decide) ?_
  refine va_put (D := gD g) (ci := 4) (v := vi 101) (ty := .char) (C := RX4) (T := TX4) (N := 5) hx hb htl ck_X4 tyX4 tyX4_ok nmX4 hown hKK.k hP hD hS 0 rfl rfl 2 (by decide) (htl _ wd_7_21) (fun _ h9 => h9) rfl (by decide +kernel) (by decide) (by decide) (Nat.le_of_ble_eq_true rfl) dX4_init_29 (fun H locs hP hD hS => ?_)
  have hP : PP g [ob a 4 [.ref q5, .ref q16, vi 101, vi 0, vi 0], ob q5 6 [.ref c_9, vi 0], aI g c_9 60 (fun _ => 0), ob q16 6 [.ref c_20, vi 0], aI g c_20 60 (fun _ => 0)] H := hP
  have hD : va_D A [ob a 4 [.ref q5, .ref q16, vi 101, vi 0, vi 0], ob q5 6 [.ref c_9, vi 0], aI g c_9 60 (fun _ => 0), ob q16 6 [.ref c_20, vi 0], aI g c_20 60 (fun _ => 0)] := hD
  refine lv_aload_n hx hb dX4_init_32 rfl (lv_at hl 0 rfl) ?_
  refine jr_iconst hx hb dX4_init_33 ?_
  refine va_put (D := gD g) (ci := 4) (v := vi (-1)) (ty := .int) (C := RX4) (T := TX4) (N := 5) hx hb htl ck_X4 tyX4 tyX4_ok nmX4 hown hKK.k hP hD hS 0 rfl rfl 3 (by decide) (htl _ wd_19_8) (fun _ h9 => h9) rfl (by decide +kernel) rfl rfl (Nat.le_of_ble_eq_true rfl) dX4_init_34 (fun H locs hP hD hS => ?_)
  have hP : PP g [ob a 4 [.ref q5, .ref q16, vi 101, vi (-1), vi 0], ob q5 6 [.ref c_9, vi 0], aI g c_9 60 (fun _ => 0), ob q16 6 [.ref c_20, vi 0], aI g c_20 60 (fun _ => 0)] H := hP
  have hD : va_D A [ob a 4 [.ref q5, .ref q16, vi 101, vi (-1), vi 0], ob q5 6 [.ref c_9, vi 0], aI g c_9 60 (fun _ => 0), ob q16 6 [.ref c_20, vi 0], aI g c_20 60 (fun _ => 0)] := hD
  refine lv_aload_n hx hb dX4_init_37 rfl (lv_at hl 0 rfl) ?_
  refine jr_iconst hx hb dX4_init_38 ?_
  refine va_put (D := gD g) (ci := 4) (v := vi 0) (ty := .int) (C := RX4) (T := TX4) (N := 5) hx hb htl ck_X4 tyX4 tyX4_ok nmX4 hown hKK.k hP hD hS 0 rfl rfl 4 (by decide) (htl _ wd_19_9) (fun _ h9 => h9) rfl (by decide +kernel) rfl rfl (Nat.le_of_ble_eq_true rfl) dX4_init_39 (fun H locs hP hD hS => ?_)
  have hP : PP g [ob a 4 [.ref q5, .ref q16, vi 101, vi (-1), vi 0], ob q5 6 [.ref c_9, vi 0], aI g c_9 60 (fun _ => 0), ob q16 6 [.ref c_20, vi 0], aI g c_20 60 (fun _ => 0)] H := hP
  have hD : va_D A [ob a 4 [.ref q5, .ref q16, vi 101, vi (-1), vi 0], ob q5 6 [.ref c_9, vi 0], aI g c_9 60 (fun _ => 0), ob q16 6 [.ref c_20, vi 0], aI g c_20 60 (fun _ => 0)] := hD
  exact je_Qv hx hb hr hlk hS (⟨q5, c_9, q16, c_20, va_P.sub hP [0, 1, 2, 3, 4] rfl, hD.sub [0, 1, 2, 3, 4] (by decide) rfl⟩) dX4_init_42
