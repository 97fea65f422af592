
theorem lk_L_214 : GoodIn WSL (va_wsS RL 214 yL_isCut (ws_ yL_isCut cL_isCut 6 (some .boolean))) := gd_app (List.forall_mem_cons.mpr ⟨wd_32_15, List.forall_mem_cons.mpr ⟨wd_32_16, List.forall_mem_cons.mpr ⟨wd_8_17, fun _ h => nomatch h⟩⟩⟩) (gd_ wd_32_17)
theorem cwS_L_isCut : yL_isCut.cls ≠ "java/lang/invoke/MethodHandle" ∧ yL_isCut.cls ≠ "java/lang/invoke/VarHandle" ∧ (parseMethodDescriptor yL_isCut.desc).map (fun d => d.parameters.length) = some 2 := by decide +kernel
theorem lk_L_217 : GoodIn WSL (va_wsS RL 217 yL_isFilled (ws_ yL_isFilled cL_isFilled 12 (some .boolean))) := gd_app (List.forall_mem_cons.mpr ⟨wd_33_7, List.forall_mem_cons.mpr ⟨wd_33_8, List.forall_mem_cons.mpr ⟨wd_8_17, fun _ h => nomatch h⟩⟩⟩) (gd_ wd_33_9)
theorem cwS_L_isFilled : yL_isFilled.cls ≠ "java/lang/invoke/MethodHandle" ∧ yL_isFilled.cls ≠ "java/lang/invoke/VarHandle" ∧ (parseMethodDescriptor yL_isFilled.desc).map (fun d => d.parameters.length) = some 3 := by decide +kernel
theorem lk_L_202 : GoodIn WSL (va_wsS RL 202 yL_text (ws_ yL_text cL_text 5 (some (.array .int)))) := gd_app (List.forall_mem_cons.mpr ⟨wd_26_5, List.forall_mem_cons.mpr ⟨wd_26_6, List.forall_mem_cons.mpr ⟨wd_8_17, fun _ h => nomatch h⟩⟩⟩) (gd_ wd_26_7)
theorem cwS_L_text : yL_text.cls ≠ "java/lang/invoke/MethodHandle" ∧ yL_text.cls ≠ "java/lang/invoke/VarHandle" ∧ (parseMethodDescriptor yL_text.desc).map (fun d => d.parameters.length) = some 3 := by decide +kernel
theorem lk_L_221 : GoodIn WSL (va_wsS RL 221 yL_isAnswered (ws_ yL_isAnswered cL_isAnswered 10 (some .boolean))) := gd_app (List.forall_mem_cons.mpr ⟨wd_33_13, List.forall_mem_cons.mpr ⟨wd_33_14, List.forall_mem_cons.mpr ⟨wd_8_17, fun _ h => nomatch h⟩⟩⟩) (gd_ wd_33_15)
theorem cwS_L_isAnswered : yL_isAnswered.cls ≠ "java/lang/invoke/MethodHandle" ∧ yL_isAnswered.cls ≠ "java/lang/invoke/VarHandle" ∧ (parseMethodDescriptor yL_isAnswered.desc).map (fun d => d.parameters.length) = some 4 := by decide +kernel
theorem lk_L_225 : GoodIn WSL (wsV RL 225 RX10 yX10_isSound (ws_ yX10_isSound cX10_isSound 2 (some .boolean))) := gd_app (List.forall_mem_cons.mpr ⟨wd_33_19, List.forall_mem_cons.mpr ⟨wd_33_20, List.forall_mem_cons.mpr ⟨wd_33_21, List.forall_mem_cons.mpr ⟨wd_1_2, fun _ h => nomatch h⟩⟩⟩⟩) (gd_ wd_33_22)
theorem cwV_X10_isSound : yX10_isSound.cls = RX10 ∧ yX10_isSound.cls ≠ "java/lang/invoke/MethodHandle" ∧ yX10_isSound.cls ≠ "java/lang/invoke/VarHandle" ∧ (parseMethodDescriptor yX10_isSound.desc).map (fun d => d.parameters.length) = some 0 := by decide +kernel
set_option maxHeartbeats 4000000 in
set_option maxRecDepth 100000 in
theorem law_571 (l : Launch) (hsT : l.stackTraces = false) {g : GT} {p : Program} {e : Env} {s : State} {m : MethodId} {b : Nat} {below : List Frame} {meth : Method} {cq : Code} {n9 : Nat} {xs : Nat → Int32} (hx : p.tables.exec = Jvm.exec) (hb : cq.code = cL_law) (hr : meth.sig.returnType = ret) (hlk : meth.locks = false) (hml : cq.maxLocals = 9) (hown : s.vm.findClass RL = some m.cls) (htl : ∀ w ∈ WSL, w.before #[Value.ref b] s = true) (hKK : KK g s) (hgb : gb g = s.heap.size) (hX : va_X b n9 xs s s.heap) (hn9 : n9 ≤ 260) (hQo : (Cond.arrayOver (.array .int)).before #[Value.ref b] s = true) (A : Nat → Prop) (hAb : ∀ q, A q → gb g ≤ q) (hA : ∀ q, s.heap.size ≤ q → A q) (hbA : ¬ A b) {aD : Nat} {doc : List Int} {fd : Nat → Int} {o : Nat} (S : SGM) (w9 : va_W) (H : Heap) (locs : List Loc) (hC : CW g o S w9) (hP : PP g ([aI g aD 61 fd] ++ w9) H) (hD : va_D A ([aI g aD 61 fd] ++ w9)) (hS : va_S A s.heap H locs) (hxd : AT doc fd) (h1 : 1 ≤ doc.length) (hUn : UNI S) (huS : nU S ≤ 7) (ls : Array Slot) (hl : lv_has ls 9 [(5, .ref aD), (2, vi 1), (1, .ref o), (0, .ref b)]) : W p l e room_1 s m #[Value.ref b] below meth cq H locs 4200 38000 (lw_Z below #[Value.ref b] s) (F0 m 571 ls []) := by
  have hbl := hX.lt
  have hdl := hxd.len
  refine lv_iload_n hx hb dL_law_571 rfl (lv_at hl 1 rfl) ?_
  refine jr_ifeq (tgt := 633) hx hb dL_law_572 (by decide) ⟨by omega, by omega⟩ (fun c572 => absurd c572 (by omega)) (fun c572 => ?_)
  refine lv_aload_n hx hb dL_law_575 rfl (lv_at hl 2 rfl) ?_
  refine lv_aload hx hb dL_law_576 (lv_at hl 0 rfl) ?_
  refine kl_Qi (cs := [aI g aD 61 fd]) (va_runS (As := [.ref o, .ref aD]) (rest := []) ⟨hx, hb, hml, hown, htl⟩ (m_L_types l hsT g o S w9 hC H.size aD doc fd hxd (kw_ne1 (cs := [aI g aD 61 fd]) hD 0 rfl)) (va_cwS 2 htl lk_L_155 rfl rfl rfl cwS_L_types ⟨Nat.le_of_ble_eq_true rfl, Nat.le_of_ble_eq_true rfl⟩) (jp_S hKK hS hAb ⟨rfl, (kw_P (cs := [aI g aD 61 fd]) hP), (hD.right (a := [aI g aD 61 fd])).weaken (fun _ q _ h => hAb _ h), (va_P.sub hP [0] rfl)⟩) rfl rfl hl.1 rfl (lv_room (Nat.le_of_ble_eq_true rfl)) dL_law_578 ⟨by show _ ≤ 600312; omega, by show _ ≤ 7293826; omega⟩) hP hD hS hA ?_
  clear hP hD hS hC; intro z578 H locs w578 hz578 hC hP hD hS
  have hP : PP g ([aI g aD 61 fd] ++ w578) H := hP
  have hD : va_D A ([aI g aD 61 fd] ++ w578) := hD
  refine W.widen (k := 4381) (n := 39086) (by omega) (by omega) ?_
  have hC : CW g o (wD S doc) w578 := hC
  have hz578 : z578 = 1 := hz578
  subst hz578
  refine jr_ifeq (tgt := 633) hx hb dL_law_581 (by decide) ⟨by omega, by omega⟩ (fun c581 => absurd c581 (by omega)) (fun c581 => ?_)
  obtain ⟨T0, hT0, hTd, hTu, hun0, hdT0, hsg0, heT, hnT, hneT, hcT⟩ := cut_all (S := S) h1 hUn
  refine lv_aload_n hx hb dL_law_584 rfl (lv_at hl 2 rfl) ?_
  refine jr_bipush hx hb dL_law_585 (by decide) ?_
  refine jr_iconst hx hb dL_law_587 ?_
  refine jr_iconst hx hb dL_law_588 ?_
  refine jr_iconst hx hb dL_law_589 ?_
  refine jr_iconst hx hb dL_law_590 ?_
  refine kl_Qi (cs := [aI g aD 61 fd]) (vx_runSW (As := [.ref o, vi 11, vi 0, vi 0, vi 0, vi 0]) (rest := []) ⟨hx, hb, hml, hown, htl⟩ (m_L_deed_open l hsT g o (wD S doc) w578 hC H.size 0 0 0 0) (vx_cwSW 6 htl lkH_L_deed rfl rfl rfl cwS_L_deed ⟨Nat.le_of_ble_eq_true rfl, Nat.le_of_ble_eq_true rfl⟩) (jp_S hKK hS hAb ⟨rfl, (kw_P (cs := [aI g aD 61 fd]) hP), (hD.right (a := [aI g aD 61 fd])).weaken (fun _ q _ h => hAb _ h)⟩) rfl rfl hl.1 rfl (lv_room (Nat.le_of_ble_eq_true rfl)) dL_law_591 ⟨by show _ ≤ 600312; omega, by show _ ≤ 7293826; omega⟩) hP hD hS hA ?_
  clear hP hD hS hC; intro z591 H locs w591 hz591 hC hP hD hS
  have hP : PP g ([aI g aD 61 fd] ++ w591) H := hP
  have hD : va_D A ([aI g aD 61 fd] ++ w591) := hD
  refine W.widen (k := 4742) (n := 52112) (by omega) (by omega) ?_
  have hC : CW g o T0 w591 := by have q := hC; rw [rS_0 (cd1_0 (by show ¬ doc.length = 0; omega)), ← hT0] at q; exact q
  have hz591 : z591 = (nS T0 : Int) := by rw [← hcT]; exact hz591.trans (rs_0 (cd1_0 (by show ¬ doc.length = 0; omega)))
  subst hz591
  have hn60 := (CW.n60 hC).2
  refine lv_aload_n hx hb dL_law_594 rfl (lv_at hl 2 rfl) ?_
  refine jk_Si (va_runV (As := []) (rest := [vi (nS T0 : Int)]) ⟨hx, hb, hml, hown, htl⟩ (m_X10_segments l hsT g o T0 w591 hC ) (cwV 0 htl lk_L_169 rfl rfl rfl cwV_X10_segments ⟨Nat.le_of_ble_eq_true rfl, Nat.le_of_ble_eq_true rfl⟩) (jp_V hKK hS hAb (CW.recv hKK hC (kw_P (cs := [aI g aD 61 fd]) hP)) (kw_P (cs := [aI g aD 61 fd]) hP)) rfl rfl hl.1 rfl (lv_room (Nat.le_of_ble_eq_true rfl)) dL_law_595 ⟨by show _ ≤ 600312; omega, by show _ ≤ 7293826; omega⟩) (fun z595 hz595 => ?_)
  have hz595 : z595 = (nS T0 : Int) := hz595
  subst hz595
  refine jr_ne (tgt := 633) hx hb dL_law_598 (by decide) ⟨by omega, by omega⟩ ⟨by omega, by omega⟩ (fun c598 => absurd c598 (by omega)) (fun c598 => ?_)
  refine lv_aload_n hx hb dL_law_601 rfl (lv_at hl 2 rfl) ?_
  refine lv_aload hx hb dL_law_602 (lv_at hl 0 rfl) ?_
  refine kl_Qi (cs := [aI g aD 61 fd]) (va_runS (As := [.ref o, .ref aD]) (rest := []) ⟨hx, hb, hml, hown, htl⟩ (m_L_isCut l hsT g o T0 w591 hC H.size aD doc fd hxd hdT0 hnT hneT heT (kw_ne1 (cs := [aI g aD 61 fd]) hD 0 rfl)) (va_cwS 2 htl lk_L_214 rfl rfl rfl cwS_L_isCut ⟨Nat.le_of_ble_eq_true rfl, Nat.le_of_ble_eq_true rfl⟩) (jp_S hKK hS hAb ⟨rfl, (kw_P (cs := [aI g aD 61 fd]) hP), (hD.right (a := [aI g aD 61 fd])).weaken (fun _ q _ h => hAb _ h), (va_P.sub hP [0] rfl)⟩) rfl rfl hl.1 rfl (lv_room (Nat.le_of_ble_eq_true rfl)) dL_law_604 ⟨by show _ ≤ 600312; omega, by show _ ≤ 7293826; omega⟩) hP hD hS hA ?_
  clear hP hD hS hC; intro z604 H locs w604 hz604 hC hP hD hS
  have hP : PP g ([aI g aD 61 fd] ++ w604) H := hP
  have hD : va_D A ([aI g aD 61 fd] ++ w604) := hD
  refine W.widen (k := 12492) (n := 98612) (by omega) (by omega) ?_
  have hz604 : z604 = 1 := hz604
  subst hz604
  refine jr_ifeq (tgt := 633) hx hb dL_law_607 (by decide) ⟨by omega, by omega⟩ (fun c607 => absurd c607 (by omega)) (fun c607 => ?_)
  refine lv_aload_n hx hb dL_law_610 rfl (lv_at hl 2 rfl) ?_
  refine lv_aload hx hb dL_law_611 (lv_at hl 0 rfl) ?_
  refine jr_iconst hx hb dL_law_613 ?_
  refine lv_aload_n hx hb dL_law_614 rfl (lv_at hl 3 rfl) ?_
  refine jr_bipush hx hb dL_law_615 (by decide) ?_
  refine jr_bipush hx hb dL_law_617 (by decide) ?_
  refine jk_Si (va_runS (As := [.ref b, vi 80, vi 100]) (rest := [vi 1, .ref aD, .ref o]) ⟨hx, hb, hml, hown, htl⟩ (m_L_pick l g b n9 xs hn9 80 (by omega) 100 (by omega)) (va_cwS 3 htl lk_L_140 rfl rfl rfl cwS_L_pick ⟨Nat.le_of_ble_eq_true rfl, Nat.le_of_ble_eq_true rfl⟩) (jp_X hKK hX hbl hbA hS hAb trivial) rfl rfl hl.1 rfl (lv_room (Nat.le_of_ble_eq_true rfl)) dL_law_619 ⟨by show _ ≤ 600312; omega, by show _ ≤ 7293826; omega⟩) (fun z619 hz619 => ?_)
  refine jr_iadd hx hb dL_law_622 ?_
  obtain ⟨T2, hT2, hn2, hu2, hd2, hdT2, hsg2, hun2, -, -, -⟩ := fill_all hsg0 hun0 (CW.wb hC) hdT0 (show (1 : Int) ≤ 1 + z619 by omega)
  refine kl_Qi (cs := [aI g aD 61 fd]) (va_runS (As := [.ref o, .ref aD, vi (1 + z619)]) (rest := []) ⟨hx, hb, hml, hown, htl⟩ (m_L_isFilled l hsT g o T0 w604 hC H.size aD doc fd hxd (1 + z619) ⟨by omega, by omega⟩ (by omega) hdT0 hsg0 hun0 (kw_ne1 (cs := [aI g aD 61 fd]) hD 0 rfl)) (va_cwS 3 htl lk_L_217 rfl rfl rfl cwS_L_isFilled ⟨Nat.le_of_ble_eq_true rfl, Nat.le_of_ble_eq_true rfl⟩) (jp_S hKK hS hAb ⟨rfl, (kw_P (cs := [aI g aD 61 fd]) hP), (hD.right (a := [aI g aD 61 fd])).weaken (fun _ q _ h => hAb _ h), (va_P.sub hP [0] rfl)⟩) rfl rfl hl.1 rfl (lv_room (Nat.le_of_ble_eq_true rfl)) dL_law_623 ⟨by show _ ≤ 600312; omega, by show _ ≤ 7293826; omega⟩) hP hD hS hA ?_
  clear hP hD hS hC; intro z623 H locs w623 hz623 hC hP hD hS
  have hP : PP g ([aI g aD 61 fd] ++ w623) H := hP
  have hD : va_D A ([aI g aD 61 fd] ++ w623) := hD
  refine W.widen (k := 243692) (n := 1686612) (by omega) (by omega) ?_
  have hC : CW g o T2 w623 := by have q := hC; rw [← hT2] at q; exact q
  have hz623 : z623 = 1 := hz623
  subst hz623
  refine jr_ifeq (tgt := 633) hx hb dL_law_626 (by decide) ⟨by omega, by omega⟩ (fun c626 => absurd c626 (by omega)) (fun c626 => ?_)
  refine jr_iconst hx hb dL_law_629 ?_
  refine lv_goto (tgt := 634) hx hb dL_law_630 (by decide) ?_
  refine lv_istore_n (lv' := [(2, vi 1), (5, .ref aD), (1, .ref o), (0, .ref b)]) hx hb dL_law_634 rfl hl (by decide) rfl (fun ls hl => ?_)
  refine lv_iload_n hx hb dL_law_635 rfl (lv_at hl 0 rfl) ?_
  refine jr_ifeq (tgt := 689) hx hb dL_law_636 (by decide) ⟨by omega, by omega⟩ (fun c636 => absurd c636 (by omega)) (fun c636 => ?_)
  refine lv_aload_n hx hb dL_law_639 rfl (lv_at hl 2 rfl) ?_
  refine lv_aload hx hb dL_law_640 (lv_at hl 1 rfl) ?_
  refine lv_aload_n hx hb dL_law_642 rfl (lv_at hl 3 rfl) ?_
  refine jr_bipush hx hb dL_law_643 (by decide) ?_
  refine lv_aload_n hx hb dL_law_645 rfl (lv_at hl 2 rfl) ?_
  refine jk_Si (va_runV (As := []) (rest := [vi 81, .ref b, .ref aD, .ref o]) ⟨hx, hb, hml, hown, htl⟩ (m_X10_segments l hsT g o T2 w623 hC ) (cwV 0 htl lk_L_169 rfl rfl rfl cwV_X10_segments ⟨Nat.le_of_ble_eq_true rfl, Nat.le_of_ble_eq_true rfl⟩) (jp_V hKK hS hAb (CW.recv hKK hC (kw_P (cs := [aI g aD 61 fd]) hP)) (kw_P (cs := [aI g aD 61 fd]) hP)) rfl rfl hl.1 rfl (lv_room (Nat.le_of_ble_eq_true rfl)) dL_law_646 ⟨by show _ ≤ 600312; omega, by show _ ≤ 7293826; omega⟩) (fun z646 hz646 => ?_)
  have hz646 : z646 = (nS T2 : Int) := hz646
  subst hz646
  refine jk_Si (va_runS (As := [.ref b, vi 81, vi (nS T2 : Int)]) (rest := [.ref aD, .ref o]) ⟨hx, hb, hml, hown, htl⟩ (m_L_pick l g b n9 xs hn9 81 (by omega) (nS T2 : Int) (by omega)) (va_cwS 3 htl lk_L_140 rfl rfl rfl cwS_L_pick ⟨Nat.le_of_ble_eq_true rfl, Nat.le_of_ble_eq_true rfl⟩) (jp_X hKK hX hbl hbA hS hAb trivial) rfl rfl hl.1 rfl (lv_room (Nat.le_of_ble_eq_true rfl)) dL_law_649 ⟨by show _ ≤ 600312; omega, by show _ ≤ 7293826; omega⟩) (fun z649 hz649 => ?_)
  obtain ⟨k, hk⟩ : ∃ k : Nat, z649 = (k : Int) := ⟨z649.toNat, by omega⟩
  refine jr_nm (b := (k : Int)) (hk) ?_
  refine lv_aload_n hx hb dL_law_652 rfl (lv_at hl 3 rfl) ?_
  refine jr_sipush hx hb dL_law_653 (by decide) ?_
  refine jr_iconst hx hb dL_law_656 ?_
  refine kl_Nr (N := fun a x => aT g a x) (va_runS (As := [.ref b, vi 2500, vi 5]) (rest := [vi (k : Int), .ref aD, .ref o]) ⟨hx, hb, hml, hown, htl⟩ (m_L_text l g b n9 xs hn9 2500 (by omega) 5 (by omega) H.size) (va_cwS 3 htl lk_L_202 rfl rfl rfl cwS_L_text ⟨Nat.le_of_ble_eq_true rfl, Nat.le_of_ble_eq_true rfl⟩) (jp_X hKK hX hbl hbA hS hAb ⟨rfl, (fun k q h => by cases h), ⟨fun i j p q h => (by cases h), fun k q h => by cases h⟩⟩) rfl rfl hl.1 rfl (lv_room (Nat.le_of_ble_eq_true rfl)) dL_law_657 ⟨by show _ ≤ 600312; omega, by show _ ≤ 7293826; omega⟩) (ws := ([aI g aD 61 fd] ++ w623)) hP hD hS hA ?_
  clear hP hD hS; intro tA x_tA H locs hz657 hP hD hS
  obtain ⟨xA, f_tA⟩ := x_tA
  obtain ⟨hx_tA, hn1_tA, hn2_tA⟩ : AT xA f_tA ∧ 1 ≤ xA.length ∧ (xA.length : Int) ≤ 5 := hz657
  have hP : PP g ([aI g tA 61 f_tA, aI g aD 61 fd] ++ w623) H := hP
  have hD : va_D A ([aI g tA 61 f_tA, aI g aD 61 fd] ++ w623) := hD
  refine W.widen (k := 243693) (n := 1686673) (by omega) (by omega) ?_
  obtain ⟨T3, hT3, hn3, hu3, hd3, hdT3, hsg3, hun3, -, -, -, -, -⟩ := ans_all (k := k) (y := xA) (S := T2) (by omega) hsg2 hun2 hdT2 hn1_tA
  refine kl_Qi (cs := [aI g tA 61 f_tA, aI g aD 61 fd]) (va_runS (As := [.ref o, .ref aD, vi (k : Int), .ref tA]) (rest := []) ⟨hx, hb, hml, hown, htl⟩ (m_L_isAnswered l hsT g o T2 w623 hC H.size aD doc fd hxd k (by omega) tA xA f_tA hx_tA hn1_tA (by rw [hd2]; exact hTd) hdT2 hsg2 hun2 (by omega) (kw_ne1 (cs := [aI g tA 61 f_tA, aI g aD 61 fd]) hD 1 rfl) (kw_ne1 (cs := [aI g tA 61 f_tA, aI g aD 61 fd]) hD 0 rfl)) (va_cwS 4 htl lk_L_221 rfl rfl rfl cwS_L_isAnswered ⟨Nat.le_of_ble_eq_true rfl, Nat.le_of_ble_eq_true rfl⟩) (jp_S hKK hS hAb ⟨rfl, (kw_P (cs := [aI g tA 61 f_tA, aI g aD 61 fd]) hP), (hD.right (a := [aI g tA 61 f_tA, aI g aD 61 fd])).weaken (fun _ q _ h => hAb _ h), (va_P.sub hP [1] rfl), (va_P.sub hP [0] rfl)⟩) rfl rfl hl.1 rfl (lv_room (Nat.le_of_ble_eq_true rfl)) dL_law_660 ⟨by show _ ≤ 600312; omega, by show _ ≤ 7293826; omega⟩) hP hD hS hA ?_
  clear hP hD hS hC; intro z660 H locs w660 hz660 hC hP hD hS
  have hP : PP g ([aI g tA 61 f_tA, aI g aD 61 fd] ++ w660) H := hP
  have hD : va_D A ([aI g tA 61 f_tA, aI g aD 61 fd] ++ w660) := hD
  refine W.widen (k := 274293) (n := 1877673) (by omega) (by omega) ?_
  have hC : CW g o T3 w660 := by have q := hC; rw [← hT3] at q; exact q
  have hz660 : z660 = 1 := hz660
  subst hz660
  refine jr_ifeq (tgt := 689) hx hb dL_law_663 (by decide) ⟨by omega, by omega⟩ (fun c663 => absurd c663 (by omega)) (fun c663 => ?_)
  refine lv_aload_n hx hb dL_law_666 rfl (lv_at hl 2 rfl) ?_
  refine lv_aload hx hb dL_law_667 (lv_at hl 1 rfl) ?_
  refine jr_iconst hx hb dL_law_669 ?_
  refine lv_aload_n hx hb dL_law_670 rfl (lv_at hl 3 rfl) ?_
  refine jr_bipush hx hb dL_law_671 (by decide) ?_
  refine jr_bipush hx hb dL_law_673 (by decide) ?_
  refine jk_Si (va_runS (As := [.ref b, vi 82, vi 100]) (rest := [vi 1, .ref aD, .ref o]) ⟨hx, hb, hml, hown, htl⟩ (m_L_pick l g b n9 xs hn9 82 (by omega) 100 (by omega)) (va_cwS 3 htl lk_L_140 rfl rfl rfl cwS_L_pick ⟨Nat.le_of_ble_eq_true rfl, Nat.le_of_ble_eq_true rfl⟩) (jp_X hKK hX hbl hbA hS hAb trivial) rfl rfl hl.1 rfl (lv_room (Nat.le_of_ble_eq_true rfl)) dL_law_675 ⟨by show _ ≤ 600312; omega, by show _ ≤ 7293826; omega⟩) (fun z675 hz675 => ?_)
  refine jr_iadd hx hb dL_law_678 ?_
  obtain ⟨T4, hT4, hn4, hu4, hd4, hdT4, hsg4, hun4, -, -, -⟩ := fill_all hsg3 hun3 (CW.wb hC) hdT3 (show (1 : Int) ≤ 1 + z675 by omega)
  refine kl_Qi (cs := [aI g tA 61 f_tA, aI g aD 61 fd]) (va_runS (As := [.ref o, .ref aD, vi (1 + z675)]) (rest := []) ⟨hx, hb, hml, hown, htl⟩ (m_L_isFilled l hsT g o T3 w660 hC H.size aD doc fd hxd (1 + z675) ⟨by omega, by omega⟩ (by omega) hdT3 hsg3 hun3 (kw_ne1 (cs := [aI g tA 61 f_tA, aI g aD 61 fd]) hD 1 rfl)) (va_cwS 3 htl lk_L_217 rfl rfl rfl cwS_L_isFilled ⟨Nat.le_of_ble_eq_true rfl, Nat.le_of_ble_eq_true rfl⟩) (jp_S hKK hS hAb ⟨rfl, (kw_P (cs := [aI g tA 61 f_tA, aI g aD 61 fd]) hP), (hD.right (a := [aI g tA 61 f_tA, aI g aD 61 fd])).weaken (fun _ q _ h => hAb _ h), (va_P.sub hP [1] rfl)⟩) rfl rfl hl.1 rfl (lv_room (Nat.le_of_ble_eq_true rfl)) dL_law_679 ⟨by show _ ≤ 600312; omega, by show _ ≤ 7293826; omega⟩) hP hD hS hA ?_
  clear hP hD hS hC; intro z679 H locs w679 hz679 hC hP hD hS
  have hP : PP g ([aI g tA 61 f_tA, aI g aD 61 fd] ++ w679) H := hP
  have hD : va_D A ([aI g tA 61 f_tA, aI g aD 61 fd] ++ w679) := hD
  refine W.widen (k := 505493) (n := 3465673) (by omega) (by omega) ?_
  have hC : CW g o T4 w679 := by have q := hC; rw [← hT4] at q; exact q
  have hz679 : z679 = 1 := hz679
  subst hz679
  refine jr_ifeq (tgt := 689) hx hb dL_law_682 (by decide) ⟨by omega, by omega⟩ (fun c682 => absurd c682 (by omega)) (fun c682 => ?_)
  refine jr_iconst hx hb dL_law_685 ?_
  refine lv_goto (tgt := 690) hx hb dL_law_686 (by decide) ?_
  refine lv_istore_n (lv' := [(2, vi 1), (5, .ref aD), (1, .ref o), (0, .ref b)]) hx hb dL_law_690 rfl hl (by decide) rfl (fun ls hl => ?_)
  refine lv_iload_n hx hb dL_law_691 rfl (lv_at hl 0 rfl) ?_
  refine jr_ifeq (tgt := 733) hx hb dL_law_692 (by decide) ⟨by omega, by omega⟩ (fun c692 => absurd c692 (by omega)) (fun c692 => ?_)
  refine lv_aload_n hx hb dL_law_695 rfl (lv_at hl 2 rfl) ?_
  refine lv_aload hx hb dL_law_696 (lv_at hl 1 rfl) ?_
  refine lv_aload_n hx hb dL_law_698 rfl (lv_at hl 3 rfl) ?_
  refine jr_bipush hx hb dL_law_699 (by decide) ?_
  refine lv_aload_n hx hb dL_law_701 rfl (lv_at hl 2 rfl) ?_
  refine jk_Si (va_runV (As := []) (rest := [vi 83, .ref b, .ref aD, .ref o]) ⟨hx, hb, hml, hown, htl⟩ (m_X10_segments l hsT g o T4 w679 hC ) (cwV 0 htl lk_L_169 rfl rfl rfl cwV_X10_segments ⟨Nat.le_of_ble_eq_true rfl, Nat.le_of_ble_eq_true rfl⟩) (jp_V hKK hS hAb (CW.recv hKK hC (kw_P (cs := [aI g tA 61 f_tA, aI g aD 61 fd]) hP)) (kw_P (cs := [aI g tA 61 f_tA, aI g aD 61 fd]) hP)) rfl rfl hl.1 rfl (lv_room (Nat.le_of_ble_eq_true rfl)) dL_law_702 ⟨by show _ ≤ 600312; omega, by show _ ≤ 7293826; omega⟩) (fun z702 hz702 => ?_)
  have hz702 : z702 = (nS T4 : Int) := hz702
  subst hz702
  refine jk_Si (va_runS (As := [.ref b, vi 83, vi (nS T4 : Int)]) (rest := [.ref aD, .ref o]) ⟨hx, hb, hml, hown, htl⟩ (m_L_pick l g b n9 xs hn9 83 (by omega) (nS T4 : Int) (by omega)) (va_cwS 3 htl lk_L_140 rfl rfl rfl cwS_L_pick ⟨Nat.le_of_ble_eq_true rfl, Nat.le_of_ble_eq_true rfl⟩) (jp_X hKK hX hbl hbA hS hAb trivial) rfl rfl hl.1 rfl (lv_room (Nat.le_of_ble_eq_true rfl)) dL_law_705 ⟨by show _ ≤ 600312; omega, by show _ ≤ 7293826; omega⟩) (fun z705 hz705 => ?_)
  obtain ⟨k2, hk2⟩ : ∃ k : Nat, z705 = (k : Int) := ⟨z705.toNat, by omega⟩
  refine jr_nm (b := (k2 : Int)) (hk2) ?_
  refine lv_aload_n hx hb dL_law_708 rfl (lv_at hl 3 rfl) ?_
  refine jr_sipush hx hb dL_law_709 (by decide) ?_
  refine jr_iconst hx hb dL_law_712 ?_
  refine kl_Nr (N := fun a x => aT g a x) (va_runS (As := [.ref b, vi 2600, vi 5]) (rest := [vi (k2 : Int), .ref aD, .ref o]) ⟨hx, hb, hml, hown, htl⟩ (m_L_text l g b n9 xs hn9 2600 (by omega) 5 (by omega) H.size) (va_cwS 3 htl lk_L_202 rfl rfl rfl cwS_L_text ⟨Nat.le_of_ble_eq_true rfl, Nat.le_of_ble_eq_true rfl⟩) (jp_X hKK hX hbl hbA hS hAb ⟨rfl, (fun k q h => by cases h), ⟨fun i j p q h => (by cases h), fun k q h => by cases h⟩⟩) rfl rfl hl.1 rfl (lv_room (Nat.le_of_ble_eq_true rfl)) dL_law_713 ⟨by show _ ≤ 600312; omega, by show _ ≤ 7293826; omega⟩) (ws := ([aI g tA 61 f_tA, aI g aD 61 fd] ++ w679)) hP hD hS hA ?_
  clear hP hD hS; intro tB x_tB H locs hz713 hP hD hS
  obtain ⟨xB, f_tB⟩ := x_tB
  obtain ⟨hx_tB, hn1_tB, hn2_tB⟩ : AT xB f_tB ∧ 1 ≤ xB.length ∧ (xB.length : Int) ≤ 5 := hz713
  have hP : PP g ([aI g tB 61 f_tB, aI g tA 61 f_tA, aI g aD 61 fd] ++ w679) H := hP
  have hD : va_D A ([aI g tB 61 f_tB, aI g tA 61 f_tA, aI g aD 61 fd] ++ w679) := hD
  refine W.widen (k := 505494) (n := 3465734) (by omega) (by omega) ?_
  obtain ⟨T5, hT5, hn5, hu5, hd5, hdT5, hsg5, hun5, -, -, -, -, -⟩ := ans_all (k := k2) (y := xB) (S := T4) (by omega) hsg4 hun4 hdT4 hn1_tB
  refine kl_Qi (cs := [aI g tB 61 f_tB, aI g tA 61 f_tA, aI g aD 61 fd]) (va_runS (As := [.ref o, .ref aD, vi (k2 : Int), .ref tB]) (rest := []) ⟨hx, hb, hml, hown, htl⟩ (m_L_isAnswered l hsT g o T4 w679 hC H.size aD doc fd hxd k2 (by omega) tB xB f_tB hx_tB hn1_tB (by rw [hd4]; exact hd3) hdT4 hsg4 hun4 (by omega) (kw_ne1 (cs := [aI g tB 61 f_tB, aI g tA 61 f_tA, aI g aD 61 fd]) hD 2 rfl) (kw_ne1 (cs := [aI g tB 61 f_tB, aI g tA 61 f_tA, aI g aD 61 fd]) hD 0 rfl)) (va_cwS 4 htl lk_L_221 rfl rfl rfl cwS_L_isAnswered ⟨Nat.le_of_ble_eq_true rfl, Nat.le_of_ble_eq_true rfl⟩) (jp_S hKK hS hAb ⟨rfl, (kw_P (cs := [aI g tB 61 f_tB, aI g tA 61 f_tA, aI g aD 61 fd]) hP), (hD.right (a := [aI g tB 61 f_tB, aI g tA 61 f_tA, aI g aD 61 fd])).weaken (fun _ q _ h => hAb _ h), (va_P.sub hP [2] rfl), (va_P.sub hP [0] rfl)⟩) rfl rfl hl.1 rfl (lv_room (Nat.le_of_ble_eq_true rfl)) dL_law_716 ⟨by show _ ≤ 600312; omega, by show _ ≤ 7293826; omega⟩) hP hD hS hA ?_
  clear hP hD hS hC; intro z716 H locs w716 hz716 hC hP hD hS
  have hP : PP g ([aI g tB 61 f_tB, aI g tA 61 f_tA, aI g aD 61 fd] ++ w716) H := hP
  have hD : va_D A ([aI g tB 61 f_tB, aI g tA 61 f_tA, aI g aD 61 fd] ++ w716) := hD
  refine W.widen (k := 536094) (n := 3656734) (by omega) (by omega) ?_
  have hC : CW g o T5 w716 := by have q := hC; rw [← hT5] at q; exact q
  have hz716 : z716 = 1 := hz716
  subst hz716
  refine jr_ifeq (tgt := 733) hx hb dL_law_719 (by decide) ⟨by omega, by omega⟩ (fun c719 => absurd c719 (by omega)) (fun c719 => ?_)
  refine lv_aload_n hx hb dL_law_722 rfl (lv_at hl 2 rfl) ?_
  refine kl_Qi (cs := [aI g tB 61 f_tB, aI g tA 61 f_tA, aI g aD 61 fd]) (va_runV (As := []) (rest := []) ⟨hx, hb, hml, hown, htl⟩ (m_X10_isSound l hsT g o T5 w716 hC H.size) (cwV 0 htl lk_L_225 rfl rfl rfl cwV_X10_isSound ⟨Nat.le_of_ble_eq_true rfl, Nat.le_of_ble_eq_true rfl⟩) (jp_V hKK hS hAb (CW.recv hKK hC (kw_P (cs := [aI g tB 61 f_tB, aI g tA 61 f_tA, aI g aD 61 fd]) hP)) ⟨rfl, (kw_P (cs := [aI g tB 61 f_tB, aI g tA 61 f_tA, aI g aD 61 fd]) hP), (hD.right (a := [aI g tB 61 f_tB, aI g tA 61 f_tA, aI g aD 61 fd])).weaken (fun _ q _ h => hAb _ h)⟩) rfl rfl hl.1 rfl (lv_room (Nat.le_of_ble_eq_true rfl)) dL_law_723 ⟨by show _ ≤ 600312; omega, by show _ ≤ 7293826; omega⟩) hP hD hS hA ?_
  clear hP hD hS hC; intro z723 H locs w723 hz723 hC hP hD hS
  have hP : PP g ([aI g tB 61 f_tB, aI g tA 61 f_tA, aI g aD 61 fd] ++ w723) H := hP
  have hD : va_D A ([aI g tB 61 f_tB, aI g tA 61 f_tA, aI g aD 61 fd] ++ w723) := hD
  refine W.widen (k := 536094) (n := 3656734) (by omega) (by omega) ?_
  have hz723 : z723 = 1 := hz723
  subst hz723
  refine jr_ifeq (tgt := 733) hx hb dL_law_726 (by decide) ⟨by omega, by omega⟩ (fun c726 => absurd c726 (by omega)) (fun c726 => ?_)
  refine jr_iconst hx hb dL_law_729 ?_
  refine lv_goto (tgt := 734) hx hb dL_law_730 (by decide) ?_
  refine va_forget (fun q h => by have h9 := hAb _ (hS.2.2 q h); omega) ?_
  refine W.widen (k := 600312) (n := 7293826) (by omega) (by omega) ?_
  exact lw_ret (d0 := s.drawn) (Drawn.sameBut.refl s.drawn lw_cs) hx hb hr hlk dL_law_734
