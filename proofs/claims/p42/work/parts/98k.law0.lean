
theorem lk_L_189 : GoodIn WSL (wsV RL 189 RX10 yX10_repeats (ws_ yX10_repeats cX10_repeats 3 (some .int))) := gd_app (List.forall_mem_cons.mpr ⟨wd_5_20, List.forall_mem_cons.mpr ⟨wd_5_21, List.forall_mem_cons.mpr ⟨wd_5_22, List.forall_mem_cons.mpr ⟨wd_1_2, fun _ h => nomatch h⟩⟩⟩⟩) (gd_ wd_5_23)
theorem cwV_X10_repeats : yX10_repeats.cls = RX10 ∧ yX10_repeats.cls ≠ "java/lang/invoke/MethodHandle" ∧ yX10_repeats.cls ≠ "java/lang/invoke/VarHandle" ∧ (parseMethodDescriptor yX10_repeats.desc).map (fun d => d.parameters.length) = some 0 := by decide +kernel
theorem lk_L_192 : GoodIn WSL (wsV RL 192 RX10 yX10_openWeight (ws_ yX10_openWeight cX10_openWeight 5 (some .long))) := gd_app (List.forall_mem_cons.mpr ⟨wd_7_10, List.forall_mem_cons.mpr ⟨wd_7_11, List.forall_mem_cons.mpr ⟨wd_7_12, List.forall_mem_cons.mpr ⟨wd_1_2, fun _ h => nomatch h⟩⟩⟩⟩) (gd_ wd_7_13)
theorem cwV_X10_openWeight : yX10_openWeight.cls = RX10 ∧ yX10_openWeight.cls ≠ "java/lang/invoke/MethodHandle" ∧ yX10_openWeight.cls ≠ "java/lang/invoke/VarHandle" ∧ (parseMethodDescriptor yX10_openWeight.desc).map (fun d => d.parameters.length) = some 0 := by decide +kernel
theorem W0_ok : WB w0 := by
  intro k hk
  unfold w0 ju
  rcases (show k = 0 ∨ k = 1 ∨ k = 2 ∨ k = 3 by omega) with rfl | rfl | rfl | rfl <;> decide
/-- the class, fresh: the constructor's cells, in the order of CW -/
theorem CW0 (g : GT) (a dr drc tk tkc ab me ed wt wa r1 r2 ri tm tb tc pa lf lfc rg rgc dc lr dl : Nat) : CW g a SG0 [ob a 9 [.ref dr, .ref tk, .ref ab, .ref me, .ref ed, .ref wt, .ref tm, .ref pa, .ref dc], ob dr 6 [.ref drc, vi 0], aI g drc 60 (fun _ => 0), ob tk 6 [.ref tkc, vi 0], aI g tkc 60 (fun _ => 0), aZ g ab 100 (fun _ => 0), ob me 2 [.ref ed, .ref tm, .ref lr], ob ed 1 [.ref wt, .ref r1, .ref r2, .ref ri], ob wt 8 [.ref wa], aI g wa 4 w0, aI g r1 61 (fun _ => 0), aI g r2 61 (fun _ => 0), aI g ri 60 (fun _ => 0), ob tm 5 [.ref tb, .ref tc, vi 0], aI g tb 20 (fun _ => 0), aI g tc 20 (fun _ => 0), ob pa 3 [.ref lf, .ref rg], ob lf 6 [.ref lfc, vi 0], aI g lfc 60 (fun _ => 0), ob rg 6 [.ref rgc, vi 0], aI g rgc 60 (fun _ => 0), ob dc 0 [.ref dl], ob lr 11 [vi 0, .ref (gE g), vi 0], ob dl 11 [vi 0, .ref (gE g), vi 0]] :=
  ⟨fun j => [a, dr, drc, tk, tkc, ab, me, ed, wt, wa, r1, r2, ri, tm, tb, tc, pa, lf, lfc, rg, rgc, dc, lr, dl].getD j 0, (fun _ => 0), (fun _ => 0), (fun _ => 0), (fun _ => 0), (fun _ => 0), [], [], (fun _ => 0), (fun _ => 0), [], [], [ob lr 11 [vi 0, .ref (gE g), vi 0]], [ob dl 11 [vi 0, .ref (gE g), vi 0]], rfl, rfl, ⟨TT.nil _, TT.nil _, TT.nil _, TT.nil _⟩, fun _ _ => Or.inl rfl, W0_ok, ⟨Nat.zero_le _, fun _ h => absurd h (Nat.not_lt_zero _)⟩, ⟨rfl, rfl⟩, ⟨fun _ h => (List.not_mem_nil h).elim, fun _ h => (List.not_mem_nil h).elim⟩, ⟨Or.inl ⟨rfl, 0, rfl⟩, Or.inl ⟨rfl, 0, rfl⟩⟩, Nat.zero_le _, Nat.zero_le _⟩
theorem cwS_X10_init : yX10_init.cls ≠ "java/lang/invoke/MethodHandle" ∧ yX10_init.cls ≠ "java/lang/invoke/VarHandle" ∧ (parseMethodDescriptor yX10_init.desc).map (fun d => d.parameters.length) = some 0 := by decide +kernel
theorem st_f10 : ∀ j, j < 9 → defaultValue (tyX10 j) = vp_V [.null, .null, .null, .null, .null, .null, .null, .null, .null] j := by decide +kernel
set_option maxHeartbeats 4000000 in
set_option maxRecDepth 100000 in
theorem law_walk (l : Launch) (hsT : l.stackTraces = false) {g : GT} {p : Program} {e : Env} {s : State} {m : MethodId} {b : Nat} {below : List Frame} {meth : Method} {cq : Code} {n9 : Nat} {xs : Nat → Int32} (hx : p.tables.exec = Jvm.exec) (hb : cq.code = cL_law) (hr : meth.sig.returnType = ret) (hlk : meth.locks = false) (hml : cq.maxLocals = 9) (hown : s.vm.findClass RL = some m.cls) (htl : ∀ w ∈ WSL, w.before #[Value.ref b] s = true) (hKK : KK g s) (hgb : gb g = s.heap.size) (hX : va_X b n9 xs s s.heap) (hn9 : n9 ≤ 260) (hQo : (Cond.arrayOver (.array .int)).before #[Value.ref b] s = true) (ls : Array Slot) (hl : lv_has ls 9 [(0, .ref b)]) : W p l e room_1 s m #[Value.ref b] below meth cq s.heap [] 0 0 (lw_Z below #[Value.ref b] s) (F0 m 0 ls []) := by
  obtain ⟨A, hAe⟩ : ∃ A : Nat → Prop, A = fun q => gb g ≤ q := ⟨_, rfl⟩
  have hAb : ∀ q, A q → gb g ≤ q := by rw [hAe]; exact fun _ h => h
  have hA : ∀ q, s.heap.size ≤ q → A q := by rw [hAe]; intro q h; show gb g ≤ q; rw [hgb]; exact h
  have hbl := hX.lt
  have hbA : ¬ A b := by rw [hAe]; show ¬ gb g ≤ b; omega
  clear hAe
  have hP : PP g [] s.heap := fun k q h => by cases h
  have hD : va_D A [] := ⟨fun i j p q h => (by cases h), fun k q h => by cases h⟩
  have hS : va_S A s.heap s.heap [] := va_S.rf
  refine va_new (ci := 9) (fs := [.null, .null, .null, .null, .null, .null, .null, .null, .null]) (C := RX10) (T := TX10) (N := 9) hx hb htl ck_X10 tyX10 tyX10_ok hown (htl _ wd_1_0) (htl _ wd_1_1) (htl _ wd_1_2) hKK.k hP hD hS hA rfl st_f10 (Nat.le_of_ble_eq_true rfl) (Nat.le_of_ble_eq_true rfl) dL_law_0 (fun o H hP hD hS => ?_)
  have hP : PP g [ob o 9 [.null, .null, .null, .null, .null, .null, .null, .null, .null]] H := hP
  have hD : va_D A [ob o 9 [.null, .null, .null, .null, .null, .null, .null, .null, .null]] := hD
  refine W.widen (k := 1) (n := 9) (by omega) (by omega) ?_
  refine lv_dup hx hb dL_law_3 rfl ?_
  have hFc := va_free (wc := [ob o 9 [.null, .null, .null, .null, .null, .null, .null, .null, .null]]) hD hS hA [0] rfl
  refine jk_Qv (va_runI (As := []) (rest := [.ref o]) ⟨hx, hb, hml, hown, htl⟩ (m_X10_init l g o H.size) (cwI 0 htl (gd_ wd_1_7) rfl rfl rfl (htl _ wd_1_2) (htl _ wd_1_5) (htl _ wd_1_6) rfl cwS_X10_init ⟨Nat.le_of_ble_eq_true rfl, Nat.le_of_ble_eq_true rfl⟩) (jp_S hKK hS hAb ⟨rfl, hP, hD.weaken (fun _ q _ h => hAb _ h)⟩) rfl rfl hl.1 rfl (lv_room (Nat.le_of_ble_eq_true rfl)) dL_law_4 ⟨Nat.le_of_ble_eq_true rfl, Nat.le_of_ble_eq_true rfl⟩) hS (fun q _ h => hFc q h) hFc (fun H1 locs hz4 hzs hks hS => ?_)
  obtain ⟨dr, drc, tk, tkc, ab, me, ed, wt, wa, r1, r2, ri, tm, tb, tc, lr, pa, lf, lfc, rg, rgc, dc, dl, hP1, hD1⟩ := hz4
  obtain ⟨hP, hD⟩ := va_join (wr := []) (w1 := [ob o 9 [.ref dr, .ref tk, .ref ab, .ref me, .ref ed, .ref wt, .ref tm, .ref pa, .ref dc], ob dr 6 [.ref drc, vi 0], aI g drc 60 (fun _ => 0), ob tk 6 [.ref tkc, vi 0], aI g tkc 60 (fun _ => 0), aZ g ab 100 (fun _ => 0), ob me 2 [.ref ed, .ref tm, .ref lr], ob ed 1 [.ref wt, .ref r1, .ref r2, .ref ri], ob wt 8 [.ref wa], aI g wa 4 w0, aI g r1 61 (fun _ => 0), aI g r2 61 (fun _ => 0), aI g ri 60 (fun _ => 0), ob tm 5 [.ref tb, .ref tc, vi 0], aI g tb 20 (fun _ => 0), aI g tc 20 (fun _ => 0), ob lr 11 [vi 0, .ref (gE g), vi 0], ob pa 3 [.ref lf, .ref rg], ob lf 6 [.ref lfc, vi 0], aI g lfc 60 (fun _ => 0), ob rg 6 [.ref rgc, vi 0], aI g rgc 60 (fun _ => 0), ob dc 0 [.ref dl], ob dl 11 [vi 0, .ref (gE g), vi 0]]) hP hD [0] [] rfl rfl (by decide) (by decide) hks hFc hP1 hD1
  clear hzs hks hP1 hD1 hFc; generalize H1 = H at hP hD hS ⊢
  have hP : PP g [ob o 9 [.ref dr, .ref tk, .ref ab, .ref me, .ref ed, .ref wt, .ref tm, .ref pa, .ref dc], ob dr 6 [.ref drc, vi 0], aI g drc 60 (fun _ => 0), ob tk 6 [.ref tkc, vi 0], aI g tkc 60 (fun _ => 0), aZ g ab 100 (fun _ => 0), ob me 2 [.ref ed, .ref tm, .ref lr], ob ed 1 [.ref wt, .ref r1, .ref r2, .ref ri], ob wt 8 [.ref wa], aI g wa 4 w0, aI g r1 61 (fun _ => 0), aI g r2 61 (fun _ => 0), aI g ri 60 (fun _ => 0), ob tm 5 [.ref tb, .ref tc, vi 0], aI g tb 20 (fun _ => 0), aI g tc 20 (fun _ => 0), ob lr 11 [vi 0, .ref (gE g), vi 0], ob pa 3 [.ref lf, .ref rg], ob lf 6 [.ref lfc, vi 0], aI g lfc 60 (fun _ => 0), ob rg 6 [.ref rgc, vi 0], aI g rgc 60 (fun _ => 0), ob dc 0 [.ref dl], ob dl 11 [vi 0, .ref (gE g), vi 0]] H := hP
  have hD : va_D A [ob o 9 [.ref dr, .ref tk, .ref ab, .ref me, .ref ed, .ref wt, .ref tm, .ref pa, .ref dc], ob dr 6 [.ref drc, vi 0], aI g drc 60 (fun _ => 0), ob tk 6 [.ref tkc, vi 0], aI g tkc 60 (fun _ => 0), aZ g ab 100 (fun _ => 0), ob me 2 [.ref ed, .ref tm, .ref lr], ob ed 1 [.ref wt, .ref r1, .ref r2, .ref ri], ob wt 8 [.ref wa], aI g wa 4 w0, aI g r1 61 (fun _ => 0), aI g r2 61 (fun _ => 0), aI g ri 60 (fun _ => 0), ob tm 5 [.ref tb, .ref tc, vi 0], aI g tb 20 (fun _ => 0), aI g tc 20 (fun _ => 0), ob lr 11 [vi 0, .ref (gE g), vi 0], ob pa 3 [.ref lf, .ref rg], ob lf 6 [.ref lfc, vi 0], aI g lfc 60 (fun _ => 0), ob rg 6 [.ref rgc, vi 0], aI g rgc 60 (fun _ => 0), ob dc 0 [.ref dl], ob dl 11 [vi 0, .ref (gE g), vi 0]] := hD
  refine W.widen (k := 25) (n := 604) (by omega) (by omega) ?_
  refine lv_astore_n (lv' := [(1, .ref o), (0, .ref b)]) hx hb dL_law_7 rfl hl (by decide) rfl (fun ls hl => ?_)
  have hP : PP g [ob o 9 [.ref dr, .ref tk, .ref ab, .ref me, .ref ed, .ref wt, .ref tm, .ref pa, .ref dc], ob dr 6 [.ref drc, vi 0], aI g drc 60 (fun _ => 0), ob tk 6 [.ref tkc, vi 0], aI g tkc 60 (fun _ => 0), aZ g ab 100 (fun _ => 0), ob me 2 [.ref ed, .ref tm, .ref lr], ob ed 1 [.ref wt, .ref r1, .ref r2, .ref ri], ob wt 8 [.ref wa], aI g wa 4 w0, aI g r1 61 (fun _ => 0), aI g r2 61 (fun _ => 0), aI g ri 60 (fun _ => 0), ob tm 5 [.ref tb, .ref tc, vi 0], aI g tb 20 (fun _ => 0), aI g tc 20 (fun _ => 0), ob pa 3 [.ref lf, .ref rg], ob lf 6 [.ref lfc, vi 0], aI g lfc 60 (fun _ => 0), ob rg 6 [.ref rgc, vi 0], aI g rgc 60 (fun _ => 0), ob dc 0 [.ref dl], ob lr 11 [vi 0, .ref (gE g), vi 0], ob dl 11 [vi 0, .ref (gE g), vi 0]] H := va_P.sub hP [0, 1, 2, 3, 4, 5, 6, 7, 8, 9, 10, 11, 12, 13, 14, 15, 17, 18, 19, 20, 21, 22, 16, 23] rfl
  have hD : va_D A [ob o 9 [.ref dr, .ref tk, .ref ab, .ref me, .ref ed, .ref wt, .ref tm, .ref pa, .ref dc], ob dr 6 [.ref drc, vi 0], aI g drc 60 (fun _ => 0), ob tk 6 [.ref tkc, vi 0], aI g tkc 60 (fun _ => 0), aZ g ab 100 (fun _ => 0), ob me 2 [.ref ed, .ref tm, .ref lr], ob ed 1 [.ref wt, .ref r1, .ref r2, .ref ri], ob wt 8 [.ref wa], aI g wa 4 w0, aI g r1 61 (fun _ => 0), aI g r2 61 (fun _ => 0), aI g ri 60 (fun _ => 0), ob tm 5 [.ref tb, .ref tc, vi 0], aI g tb 20 (fun _ => 0), aI g tc 20 (fun _ => 0), ob pa 3 [.ref lf, .ref rg], ob lf 6 [.ref lfc, vi 0], aI g lfc 60 (fun _ => 0), ob rg 6 [.ref rgc, vi 0], aI g rgc 60 (fun _ => 0), ob dc 0 [.ref dl], ob lr 11 [vi 0, .ref (gE g), vi 0], ob dl 11 [vi 0, .ref (gE g), vi 0]] := hD.sub [0, 1, 2, 3, 4, 5, 6, 7, 8, 9, 10, 11, 12, 13, 14, 15, 17, 18, 19, 20, 21, 22, 16, 23] (by decide) rfl
  have hC := CW0 g o dr drc tk tkc ab me ed wt wa r1 r2 ri tm tb tc pa lf lfc rg rgc dc lr dl
  generalize hw9 : ([ob o 9 [.ref dr, .ref tk, .ref ab, .ref me, .ref ed, .ref wt, .ref tm, .ref pa, .ref dc], ob dr 6 [.ref drc, vi 0], aI g drc 60 (fun _ => 0), ob tk 6 [.ref tkc, vi 0], aI g tkc 60 (fun _ => 0), aZ g ab 100 (fun _ => 0), ob me 2 [.ref ed, .ref tm, .ref lr], ob ed 1 [.ref wt, .ref r1, .ref r2, .ref ri], ob wt 8 [.ref wa], aI g wa 4 w0, aI g r1 61 (fun _ => 0), aI g r2 61 (fun _ => 0), aI g ri 60 (fun _ => 0), ob tm 5 [.ref tb, .ref tc, vi 0], aI g tb 20 (fun _ => 0), aI g tc 20 (fun _ => 0), ob pa 3 [.ref lf, .ref rg], ob lf 6 [.ref lfc, vi 0], aI g lfc 60 (fun _ => 0), ob rg 6 [.ref rgc, vi 0], aI g rgc 60 (fun _ => 0), ob dc 0 [.ref dl], ob lr 11 [vi 0, .ref (gE g), vi 0], ob dl 11 [vi 0, .ref (gE g), vi 0]] : va_W) = w9 at hP hD hC
  clear hw9
  refine lv_aload_n hx hb dL_law_8 rfl (lv_at hl 0 rfl) ?_
  refine jk_Si (va_runV (As := []) (rest := []) ⟨hx, hb, hml, hown, htl⟩ (m_X10_segments l hsT g o SG0 w9 hC ) (cwV 0 htl lk_L_169 rfl rfl rfl cwV_X10_segments ⟨Nat.le_of_ble_eq_true rfl, Nat.le_of_ble_eq_true rfl⟩) (jp_V hKK hS hAb (CW.recv hKK hC (kw_P (cs := []) hP)) (kw_P (cs := []) hP)) rfl rfl hl.1 rfl (lv_room (Nat.le_of_ble_eq_true rfl)) dL_law_9 ⟨by show _ ≤ 600312; omega, by show _ ≤ 7293826; omega⟩) (fun z9 hz9 => ?_)
  have hz9 : z9 = 0 := hz9
  subst hz9
  refine jr_ifne (tgt := 81) hx hb dL_law_12 (by decide) ⟨by omega, by omega⟩ (fun c12 => absurd c12 (by omega)) (fun c12 => ?_)
  refine lv_aload_n hx hb dL_law_15 rfl (lv_at hl 0 rfl) ?_
  refine jk_Si (va_runV (As := []) (rest := []) ⟨hx, hb, hml, hown, htl⟩ (m_X10_repeats l hsT g o SG0 w9 hC ) (cwV 0 htl lk_L_189 rfl rfl rfl cwV_X10_repeats ⟨Nat.le_of_ble_eq_true rfl, Nat.le_of_ble_eq_true rfl⟩) (jp_V hKK hS hAb (CW.recv hKK hC (kw_P (cs := []) hP)) (kw_P (cs := []) hP)) rfl rfl hl.1 rfl (lv_room (Nat.le_of_ble_eq_true rfl)) dL_law_16 ⟨by show _ ≤ 600312; omega, by show _ ≤ 7293826; omega⟩) (fun z16 hz16 => ?_)
  have hz16 : z16 = 0 := hz16
  subst hz16
  refine jr_ifne (tgt := 81) hx hb dL_law_19 (by decide) ⟨by omega, by omega⟩ (fun c19 => absurd c19 (by omega)) (fun c19 => ?_)
  refine lv_aload_n hx hb dL_law_22 rfl (lv_at hl 0 rfl) ?_
  refine jk_Sl (va_runV (As := []) (rest := []) ⟨hx, hb, hml, hown, htl⟩ (m_X10_openWeight l hsT g o SG0 w9 hC ) (cwV 0 htl lk_L_192 rfl rfl rfl cwV_X10_openWeight ⟨Nat.le_of_ble_eq_true rfl, Nat.le_of_ble_eq_true rfl⟩) (jp_V hKK hS hAb (CW.recv hKK hC (kw_P (cs := []) hP)) (kw_P (cs := []) hP)) rfl rfl hl.1 rfl (lv_room (Nat.le_of_ble_eq_true rfl)) dL_law_23 ⟨by show _ ≤ 600312; omega, by show _ ≤ 7293826; omega⟩) (fun z23 hz23 => ?_)
  refine jr_lconst0 hx hb dL_law_26 ?_
  replace hz23 : z23 = 0 := hz23
  subst hz23
  refine W.lcmp hx hb dL_law_27 ?_
  refine lv_if_ne (tgt := 81) hx hb dL_law_28 (by decide) (fun h9 => absurd (lg_cmp_self _) h9) (fun _ => ?_)
  refine lv_aload_n hx hb dL_law_31 rfl (lv_at hl 0 rfl) ?_
  refine jr_bipush hx hb dL_law_32 (by decide) ?_
  refine jr_bipush hx hb dL_law_34 (by decide) ?_
  refine jr_iconst hx hb dL_law_36 ?_
  refine jr_iconst hx hb dL_law_37 ?_
  refine jr_iconst hx hb dL_law_38 ?_
  refine kl_Qi (cs := []) (vx_runSW (As := [.ref o, vi 12, vi 50, vi 0, vi 0, vi 0]) (rest := []) ⟨hx, hb, hml, hown, htl⟩ (m_L_deed_fill l hsT g o SG0 w9 hC H.size 50 ⟨by omega, by omega⟩ 0 0 0) (vx_cwSW 6 htl lkH_L_deed rfl rfl rfl cwS_L_deed ⟨Nat.le_of_ble_eq_true rfl, Nat.le_of_ble_eq_true rfl⟩) (jp_S hKK hS hAb ⟨rfl, (kw_P (cs := []) hP), hD.weaken (fun _ q _ h => hAb _ h)⟩) rfl rfl hl.1 rfl (lv_room (Nat.le_of_ble_eq_true rfl)) dL_law_39 ⟨by show _ ≤ 600312; omega, by show _ ≤ 7293826; omega⟩) hP hD hS hA ?_
  clear hP hD hS hC; intro z39 H locs w39 hz39 hC hP hD hS
  have hP : PP g w39 H := hP
  have hD : va_D A w39 := hD
  refine W.widen (k := 26) (n := 610) (by omega) (by omega) ?_
  have hC : CW g o SG0 w39 := by have q := hC; rw [rS_0 (cd1_0 (by omega))] at q; exact q
  have hz39 : z39 = 0 := hz39.trans (rs_0 (cd1_0 (by omega)))
  subst hz39
  refine jr_ifne (tgt := 81) hx hb dL_law_42 (by decide) ⟨by omega, by omega⟩ (fun c42 => absurd c42 (by omega)) (fun c42 => ?_)
  refine lv_aload_n hx hb dL_law_45 rfl (lv_at hl 0 rfl) ?_
  refine jr_bipush hx hb dL_law_46 (by decide) ?_
  refine jr_iconst hx hb dL_law_48 ?_
  refine jr_iconst hx hb dL_law_49 ?_
  refine jr_iconst hx hb dL_law_50 ?_
  refine jr_iconst hx hb dL_law_51 ?_
  refine kl_Qi (cs := []) (vx_runSW (As := [.ref o, vi 8, vi 0, vi 0, vi 0, vi 0]) (rest := []) ⟨hx, hb, hml, hown, htl⟩ (m_L_deed_addUnit l hsT g o SG0 w39 hC H.size 0 0 0 0) (vx_cwSW 6 htl lkH_L_deed rfl rfl rfl cwS_L_deed ⟨Nat.le_of_ble_eq_true rfl, Nat.le_of_ble_eq_true rfl⟩) (jp_S hKK hS hAb ⟨rfl, (kw_P (cs := []) hP), hD.weaken (fun _ q _ h => hAb _ h)⟩) rfl rfl hl.1 rfl (lv_room (Nat.le_of_ble_eq_true rfl)) dL_law_52 ⟨by show _ ≤ 600312; omega, by show _ ≤ 7293826; omega⟩) hP hD hS hA ?_
  clear hP hD hS hC; intro z52 H locs w52 hz52 hC hP hD hS
  have hP : PP g w52 H := hP
  have hD : va_D A w52 := hD
  refine W.widen (k := 35) (n := 843) (by omega) (by omega) ?_
  have hC : CW g o SG0 w52 := by have q := hC; rw [rS_n (cd := cdAdd SG0) (show ¬ (1 : Int) = 0 by decide)] at q; exact q
  have hz52 : z52 = -2005 := hz52.trans (rs_1 rfl)
  subst hz52
  refine jr_sipush hx hb dL_law_55 (by decide) ?_
  refine jr_ne (tgt := 81) hx hb dL_law_58 (by decide) ⟨by omega, by omega⟩ ⟨by omega, by omega⟩ (fun c58 => absurd c58 (by omega)) (fun c58 => ?_)
  refine lv_aload_n hx hb dL_law_61 rfl (lv_at hl 0 rfl) ?_
  refine jr_bipush hx hb dL_law_62 (by decide) ?_
  refine jr_iconst hx hb dL_law_64 ?_
  refine jr_iconst hx hb dL_law_65 ?_
  refine jr_iconst hx hb dL_law_66 ?_
  refine jr_iconst hx hb dL_law_67 ?_
  refine kl_Qi (cs := []) (vx_runSW (As := [.ref o, vi 11, vi 0, vi 0, vi 0, vi 0]) (rest := []) ⟨hx, hb, hml, hown, htl⟩ (m_L_deed_open l hsT g o SG0 w52 hC H.size 0 0 0 0) (vx_cwSW 6 htl lkH_L_deed rfl rfl rfl cwS_L_deed ⟨Nat.le_of_ble_eq_true rfl, Nat.le_of_ble_eq_true rfl⟩) (jp_S hKK hS hAb ⟨rfl, (kw_P (cs := []) hP), hD.weaken (fun _ q _ h => hAb _ h)⟩) rfl rfl hl.1 rfl (lv_room (Nat.le_of_ble_eq_true rfl)) dL_law_68 ⟨by show _ ≤ 600312; omega, by show _ ≤ 7293826; omega⟩) hP hD hS hA ?_
  clear hP hD hS hC; intro z68 H locs w68 hz68 hC hP hD hS
  have hP : PP g w68 H := hP
  have hD : va_D A w68 := hD
  refine W.widen (k := 396) (n := 13869) (by omega) (by omega) ?_
  have hC : CW g o SG0 w68 := by have q := hC; rw [rS_n (by rw [cd1_1 (fun q => q rfl)]; decide)] at q; exact q
  have hz68 : z68 = -2003 := hz68.trans (rs_1 (cd1_1 (fun q => q rfl)))
  subst hz68
  refine jr_sipush hx hb dL_law_71 (by decide) ?_
  refine jr_ne (tgt := 81) hx hb dL_law_74 (by decide) ⟨by omega, by omega⟩ ⟨by omega, by omega⟩ (fun c74 => absurd c74 (by omega)) (fun c74 => ?_)
  refine jr_iconst hx hb dL_law_77 ?_
  refine lv_goto (tgt := 82) hx hb dL_law_78 (by decide) ?_
  refine lv_istore_n (lv' := [(2, vi 1), (1, .ref o), (0, .ref b)]) hx hb dL_law_82 rfl hl (by decide) rfl (fun ls hl => ?_)
  refine lv_aload_n hx hb dL_law_83 rfl (lv_at hl 2 rfl) ?_
  refine jr_iconst hx hb dL_law_84 ?_
  refine jr_iconst hx hb dL_law_85 ?_
  refine jk_Si (va_runS (As := [.ref b, vi 0, vi 2]) (rest := []) ⟨hx, hb, hml, hown, htl⟩ (m_L_pick l g b n9 xs hn9 0 (by omega) 2 (by omega)) (va_cwS 3 htl lk_L_140 rfl rfl rfl cwS_L_pick ⟨Nat.le_of_ble_eq_true rfl, Nat.le_of_ble_eq_true rfl⟩) (jp_X hKK hX hbl hbA hS hAb trivial) rfl rfl hl.1 rfl (lv_room (Nat.le_of_ble_eq_true rfl)) dL_law_86 ⟨by show _ ≤ 600312; omega, by show _ ≤ 7293826; omega⟩) (fun z86 hz86 => ?_)
  refine jr_ifne (tgt := 147) hx hb dL_law_89 (by decide) ⟨by omega, by omega⟩ (fun c89 => ?_) (fun c89 => ?_)
  · refine W.widen (k := 410) (n := 14000) (by omega) (by omega) ?_
    exact law_147 l hsT hx hb hr hlk hml hown htl hKK hgb hX hn9 hQo A hAb hA hbA  SG0 _ _ _ hC hP hD hS rfl ls (lv_sub hl [0, 1, 2] rfl)
  · refine lv_iload_n hx hb dL_law_92 rfl (lv_at hl 0 rfl) ?_
    refine jr_ifeq (tgt := 145) hx hb dL_law_93 (by decide) ⟨by omega, by omega⟩ (fun c93 => absurd c93 (by omega)) (fun c93 => ?_)
    refine lv_aload_n hx hb dL_law_96 rfl (lv_at hl 1 rfl) ?_
    refine jr_iconst hx hb dL_law_97 ?_
    refine jr_iconst hx hb dL_law_98 ?_
    refine lv_aload_n hx hb dL_law_99 rfl (lv_at hl 2 rfl) ?_
    refine jr_iconst hx hb dL_law_100 ?_
    refine jr_bipush hx hb dL_law_101 (by decide) ?_
    refine jk_Si (va_runS (As := [.ref b, vi 1, vi 9]) (rest := [vi 1, vi 4, .ref o]) ⟨hx, hb, hml, hown, htl⟩ (m_L_pick l g b n9 xs hn9 1 (by omega) 9 (by omega)) (va_cwS 3 htl lk_L_140 rfl rfl rfl cwS_L_pick ⟨Nat.le_of_ble_eq_true rfl, Nat.le_of_ble_eq_true rfl⟩) (jp_X hKK hX hbl hbA hS hAb trivial) rfl rfl hl.1 rfl (lv_room (Nat.le_of_ble_eq_true rfl)) dL_law_103 ⟨by show _ ≤ 600312; omega, by show _ ≤ 7293826; omega⟩) (fun z103 hz103 => ?_)
    refine jr_iadd hx hb dL_law_106 ?_
    refine jr_iconst hx hb dL_law_107 ?_
    refine lv_aload_n hx hb dL_law_108 rfl (lv_at hl 2 rfl) ?_
    refine jr_iconst hx hb dL_law_109 ?_
    refine jr_bipush hx hb dL_law_110 (by decide) ?_
    refine jk_Si (va_runS (As := [.ref b, vi 2, vi 9]) (rest := [vi 1, vi (1 + z103), vi 4, .ref o]) ⟨hx, hb, hml, hown, htl⟩ (m_L_pick l g b n9 xs hn9 2 (by omega) 9 (by omega)) (va_cwS 3 htl lk_L_140 rfl rfl rfl cwS_L_pick ⟨Nat.le_of_ble_eq_true rfl, Nat.le_of_ble_eq_true rfl⟩) (jp_X hKK hX hbl hbA hS hAb trivial) rfl rfl hl.1 rfl (lv_room (Nat.le_of_ble_eq_true rfl)) dL_law_112 ⟨by show _ ≤ 600312; omega, by show _ ≤ 7293826; omega⟩) (fun z112 hz112 => ?_)
    refine jr_iadd hx hb dL_law_115 ?_
    refine jr_iconst hx hb dL_law_116 ?_
    refine lv_aload_n hx hb dL_law_117 rfl (lv_at hl 2 rfl) ?_
    refine jr_iconst hx hb dL_law_118 ?_
    refine jr_bipush hx hb dL_law_119 (by decide) ?_
    refine jk_Si (va_runS (As := [.ref b, vi 3, vi 9]) (rest := [vi 1, vi (1 + z112), vi (1 + z103), vi 4, .ref o]) ⟨hx, hb, hml, hown, htl⟩ (m_L_pick l g b n9 xs hn9 3 (by omega) 9 (by omega)) (va_cwS 3 htl lk_L_140 rfl rfl rfl cwS_L_pick ⟨Nat.le_of_ble_eq_true rfl, Nat.le_of_ble_eq_true rfl⟩) (jp_X hKK hX hbl hbA hS hAb trivial) rfl rfl hl.1 rfl (lv_room (Nat.le_of_ble_eq_true rfl)) dL_law_121 ⟨by show _ ≤ 600312; omega, by show _ ≤ 7293826; omega⟩) (fun z121 hz121 => ?_)
    refine jr_iadd hx hb dL_law_124 ?_
    refine jr_iconst hx hb dL_law_125 ?_
    refine lv_aload_n hx hb dL_law_126 rfl (lv_at hl 2 rfl) ?_
    refine jr_iconst hx hb dL_law_127 ?_
    refine jr_bipush hx hb dL_law_128 (by decide) ?_
    refine jk_Si (va_runS (As := [.ref b, vi 4, vi 9]) (rest := [vi 1, vi (1 + z121), vi (1 + z112), vi (1 + z103), vi 4, .ref o]) ⟨hx, hb, hml, hown, htl⟩ (m_L_pick l g b n9 xs hn9 4 (by omega) 9 (by omega)) (va_cwS 3 htl lk_L_140 rfl rfl rfl cwS_L_pick ⟨Nat.le_of_ble_eq_true rfl, Nat.le_of_ble_eq_true rfl⟩) (jp_X hKK hX hbl hbA hS hAb trivial) rfl rfl hl.1 rfl (lv_room (Nat.le_of_ble_eq_true rfl)) dL_law_130 ⟨by show _ ≤ 600312; omega, by show _ ≤ 7293826; omega⟩) (fun z130 hz130 => ?_)
    refine jr_iadd hx hb dL_law_133 ?_
    refine kl_Qi (cs := []) (vx_runSW (As := [.ref o, vi 4, vi (1 + z103), vi (1 + z112), vi (1 + z121), vi (1 + z130)]) (rest := []) ⟨hx, hb, hml, hown, htl⟩ (m_L_deed_setWeights l hsT g o SG0 w68 hC H.size (1 + z103) (1 + z112) (1 + z121) (1 + z130) ⟨by omega, by omega⟩ ⟨by omega, by omega⟩ ⟨by omega, by omega⟩ ⟨by omega, by omega⟩) (vx_cwSW 6 htl lkH_L_deed rfl rfl rfl cwS_L_deed ⟨Nat.le_of_ble_eq_true rfl, Nat.le_of_ble_eq_true rfl⟩) (jp_S hKK hS hAb ⟨rfl, (kw_P (cs := []) hP), hD.weaken (fun _ q _ h => hAb _ h)⟩) rfl rfl hl.1 rfl (lv_room (Nat.le_of_ble_eq_true rfl)) dL_law_134 ⟨by show _ ≤ 600312; omega, by show _ ≤ 7293826; omega⟩) hP hD hS hA ?_
    clear hP hD hS hC; intro z134 H locs w134 hz134 hC hP hD hS
    have hP : PP g w134 H := hP
    have hD : va_D A w134 := hD
    refine W.widen (k := 400) (n := 13893) (by omega) (by omega) ?_
    have hC : CW g o (nxW SG0 (1 + z103) (1 + z112) (1 + z121) (1 + z130)) w134 := by have q := hC; rw [rS_0 (cd1_0 ⟨⟨by omega, by omega⟩, ⟨by omega, by omega⟩, ⟨by omega, by omega⟩, by omega, by omega⟩)] at q; exact q
    have hz134 : z134 = 4 := hz134.trans ((rs_0 (cd1_0 ⟨⟨by omega, by omega⟩, ⟨by omega, by omega⟩, ⟨by omega, by omega⟩, by omega, by omega⟩)).trans wk4)
    subst hz134
    refine jr_iconst hx hb dL_law_137 ?_
    refine jr_ne (tgt := 145) hx hb dL_law_138 (by decide) ⟨by omega, by omega⟩ ⟨by omega, by omega⟩ (fun c138 => absurd c138 (by omega)) (fun c138 => ?_)
    refine jr_iconst hx hb dL_law_141 ?_
    refine lv_goto (tgt := 146) hx hb dL_law_142 (by decide) ?_
    refine lv_istore_n (lv' := [(2, vi 1), (1, .ref o), (0, .ref b)]) hx hb dL_law_146 rfl hl (by decide) rfl (fun ls hl => ?_)
    refine W.widen (k := 410) (n := 14000) (by omega) (by omega) ?_
    exact law_147 l hsT hx hb hr hlk hml hown htl hKK hgb hX hn9 hQo A hAb hA hbA  (nxW SG0 (1 + z103) (1 + z112) (1 + z121) (1 + z130)) _ _ _ hC hP hD hS rfl ls (lv_sub hl [0, 1, 2] rfl)
