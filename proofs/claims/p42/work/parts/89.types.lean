
theorem lk_L_149 : GoodIn WSL (wsV RL 149 RX10 yX10_clear (ws_ yX10_clear cX10_clear 2 (some .int))) := gd_app (List.forall_mem_cons.mpr ⟨wd_26_14, List.forall_mem_cons.mpr ⟨wd_26_15, List.forall_mem_cons.mpr ⟨wd_26_16, List.forall_mem_cons.mpr ⟨wd_1_2, fun _ h => nomatch h⟩⟩⟩⟩) (gd_ wd_26_17)
theorem cwV_X10_clear : yX10_clear.cls = RX10 ∧ yX10_clear.cls ≠ "java/lang/invoke/MethodHandle" ∧ yX10_clear.cls ≠ "java/lang/invoke/VarHandle" ∧ (parseMethodDescriptor yX10_clear.desc).map (fun d => d.parameters.length) = some 0 := by decide +kernel
theorem lkH_L_deed : GoodIn WSL (va_wsS RL 152 yL_deed ((Cond.codeWith yL_deed cL_deed 7 (some .int) [(0, 11, 12, 73), (0, 11, 18, 75), (0, 11, 24, 77), (0, 11, 30, 79), (0, 11, 36, 81)]) :: WSL)) := gd_app (List.forall_mem_cons.mpr ⟨wd_8_15, List.forall_mem_cons.mpr ⟨wd_8_16, List.forall_mem_cons.mpr ⟨wd_8_17, fun _ h => nomatch h⟩⟩⟩) (gdw wd_8_18)
theorem cwS_L_deed : yL_deed.cls ≠ "java/lang/invoke/MethodHandle" ∧ yL_deed.cls ≠ "java/lang/invoke/VarHandle" ∧ (parseMethodDescriptor yL_deed.desc).map (fun d => d.parameters.length) = some 6 := by decide +kernel
set_option maxHeartbeats 4000000 in
set_option maxRecDepth 100000 in
theorem m_L_types (l : Launch) (hsT : l.stackTraces = false) (g : GT) (o : Nat) (S : SGM) (W9 : va_W) (hCW : CW g o S W9) (sz : Nat) (a1 : Nat) (x1 : List Int) (f1 : Nat → Int) (hx1 : AT x1 f1) (hd_hP1 : ∀ x ∈ ([aI g a1 61 f1] : va_W).map (·.1), x ∉ W9.map (·.1)) : Met l yL_types (ws_ yL_types cL_types 4 (some .boolean)) (rmm 7 181 1086) (jPc g [.ref o, .ref a1] (fun H => H.size = sz ∧ PP g W9 H ∧ va_D (fun q => gb g ≤ q) W9 ∧ PP g [aI g a1 61 f1] H)) (jQi (fun z H1 => (z = 1) ∧ ∃ w1 : va_W, CW g o (wD S x1) w1 ∧ PP g w1 H1 ∧ va_D (va_A W9 sz) w1) (va_A W9 sz)) 181 1086 (va_A W9 sz) := by
  refine jb_M (by decide) (Nat.le_of_ble_eq_true rfl) ?_
  intro p e s m below meth cq hx hb hr hml hown htl hlk hnm hKK hpre ls hl
  have hown : s.vm.findClass RL = some m.cls := hown
  obtain ⟨hsz, hP, hD0, hP1⟩ := hpre
  subst hsz
  have hAb : ∀ q, (va_A W9 s.heap.size) q → gb g ≤ q := fun q h => h.elim (fun ⟨k, e, h⟩ => hD0.2 k _ h) (fun h => Nat.le_trans hKK.2.1 h)
  have hD : va_D (va_A W9 s.heap.size) W9 := hD0.self
  have ap_hP1 := japS hP1 rfl hd_hP1
  generalize hAe : va_A W9 s.heap.size = A at *
  have hA : ∀ q, s.heap.size ≤ q → A q := fun q h => by rw [← hAe]; exact Or.inr h
  have hS : va_S A s.heap s.heap [] := va_S.rf
  have hl : lv_has ls 4 [(0, .ref o), (1, .ref a1)] := hl
  have hd60 := CW.d60 hCW
  have hn60 := CW.n60 hCW
  have hl1 := hx1.len
  suffices K : ∀ (w9 : va_W) (H : Heap) (locs : List Loc), CW g o S w9 → PP g w9 H → va_D A w9 → va_S A s.heap H locs → ∀ ls : Array Slot, lv_has ls 4 [(0, .ref o), (1, .ref a1)] → W p l e (rmm 7 181 1086) s m ([.ref o, .ref a1] : List Value).toArray below meth cq H locs 0 0 (MQ below (jQi (fun z H1 => (z = 1) ∧ ∃ w1 : va_W, CW g o (wD S x1) w1 ∧ PP g w1 H1 ∧ va_D A w1) A) ([.ref o, .ref a1] : List Value).toArray s 181 1086 A) (F0 m 0 ls []) from K _ _ _ hCW hP hD hS _ hl
  clear hl hP hD hS; intro w9 H locs hC hP hD hS ls hl
  refine lv_aload_n hx hb dL_types_0 rfl (lv_at hl 0 rfl) ?_
  refine kl_Qi (cs := []) (va_runV (As := []) (rest := []) ⟨hx, hb, hml, hown, htl⟩ (m_X10_clear l hsT g o S w9 hC H.size) (cwV 0 htl lk_L_149 rfl rfl rfl cwV_X10_clear ⟨Nat.le_of_ble_eq_true rfl, Nat.le_of_ble_eq_true rfl⟩) (jp_V hKK hS hAb (CW.recv hKK hC (kw_P (cs := []) hP)) ⟨rfl, (kw_P (cs := []) hP), hD.weaken (fun _ q _ h => hAb _ h)⟩) rfl rfl hl.1 rfl (lv_room (Nat.le_of_ble_eq_true rfl)) dL_types_1 ⟨Nat.le_of_ble_eq_true rfl, Nat.le_of_ble_eq_true rfl⟩) hP hD hS hA ?_
  clear hP hD hS hC; intro z1 H locs w1 hz1 hC hP hD hS
  have hP : PP g w1 H := hP
  have hD : va_D A w1 := hD
  refine W.widen (k := 1) (n := 6) (by omega) (by omega) ?_
  have hC : CW g o (wD S (x1.take 0)) w1 := hC
  have hz1 : z1 = (S.1.length : Int) := hz1
  subst hz1
  refine jr_iflt (tgt := 11) hx hb dL_types_4 (by decide) ⟨by omega, by omega⟩ (fun c4 => absurd c4 (by omega)) (fun c4 => ?_)
  refine jr_iconst hx hb dL_types_7 ?_
  refine lv_goto (tgt := 12) hx hb dL_types_8 (by decide) ?_
  refine lv_istore_n (lv' := [(2, vi 1), (0, .ref o), (1, .ref a1)]) hx hb dL_types_12 rfl hl (by decide) rfl (fun ls hl => ?_)
  refine jr_iconst hx hb dL_types_13 ?_
  refine lv_istore_n (lv' := [(3, vi 1), (2, vi 1), (0, .ref o), (1, .ref a1)]) hx hb dL_types_14 rfl hl (by decide) rfl (fun ls hl => ?_)
  have lp15 : ∀ (N : Nat) (i : Nat) (w15 : va_W), (i ≤ x1.length) → (CW g o (wD S (x1.take i)) w15) → x1.length - i < N → ∀ (H : Heap) (locs : List Loc), PP g w15 H → va_D A w15 → va_S A s.heap H locs → ∀ ls : Array Slot, lv_has ls 4 [(3, vi ((i : Int) + 1)), (2, vi 1), (0, .ref o), (1, .ref a1)] → W p l e (rmm 7 181 1086) s m ([.ref o, .ref a1] : List Value).toArray below meth cq H locs (1 + 3 * i) (6 + 18 * i) (MQ below (jQi (fun z H1 => (z = 1) ∧ ∃ w1 : va_W, CW g o (wD S x1) w1 ∧ PP g w1 H1 ∧ va_D A w1) A) ([.ref o, .ref a1] : List Value).toArray s 181 1086 A) (F0 m 15 ls []) := by
    intro N
    induction N with
    | zero => intro i w15 hi hC hM; exact absurd hM (Nat.not_lt_zero _)
    | succ N ih15 =>
      intro i w15 hi hC hM H locs hP hD hS ls hl
      refine lv_iload_n hx hb dL_types_15 rfl (lv_at hl 0 rfl) ?_
      refine lv_aload_n hx hb dL_types_16 rfl (lv_at hl 3 rfl) ?_
      refine jr_iconst hx hb dL_types_17 ?_
      refine jr_iald hx hb hKK.k (jat hP1 hS ap_hP1) 0 rfl 0 rfl (by omega) (by omega) dL_types_18 ?_
      refine jr_nm (b := (x1.length : Int)) (by rw [hx1.n]) ?_
      refine jr_gt (tgt := 63) hx hb dL_types_19 (by decide) ⟨by omega, by omega⟩ ⟨by omega, by omega⟩ (fun c19 => ?_) (fun c19 => ?_)
      · refine lv_iload_n hx hb dL_types_63 rfl (lv_at hl 1 rfl) ?_
        refine W.widen (k := 181) (n := 1086) (by omega) (by omega) ?_
        exact je_Qi hx hb hr hlk (nz_b (by omega)).1 hS ⟨rfl, w15, by rw [List.take_of_length_le (by omega)] at hC; exact hC, (kw_P (cs := []) hP), hD⟩ dL_types_64
      · refine lv_iload_n hx hb dL_types_22 rfl (lv_at hl 1 rfl) ?_
        refine jr_ifeq (tgt := 55) hx hb dL_types_23 (by decide) ⟨by omega, by omega⟩ (fun c23 => absurd c23 (by omega)) (fun c23 => ?_)
        refine lv_aload_n hx hb dL_types_26 rfl (lv_at hl 2 rfl) ?_
        refine lv_aload_n hx hb dL_types_27 rfl (lv_at hl 3 rfl) ?_
        refine lv_iload_n hx hb dL_types_28 rfl (lv_at hl 0 rfl) ?_
        refine jr_iald hx hb hKK.k (jat hP1 hS ap_hP1) 0 rfl (i + 1) (by omega) (by omega) (by omega) dL_types_29 ?_
        refine jr_nm (b := x1.getD i 0) (hx1.s (by omega)) ?_
        have hv1 := (hx1.v (k := i) (by omega)).b
        refine jr_sipush hx hb dL_types_30 (by decide) ?_
        refine jr_idiv hx hb (by omega) (by omega) (by omega) (by omega) dL_types_33 ?_
        refine lv_aload_n hx hb dL_types_34 rfl (lv_at hl 3 rfl) ?_
        refine lv_iload_n hx hb dL_types_35 rfl (lv_at hl 0 rfl) ?_
        refine jr_iald hx hb hKK.k (jat hP1 hS ap_hP1) 0 rfl (i + 1) (by omega) (by omega) (by omega) dL_types_36 ?_
        refine jr_nm (b := x1.getD i 0) (hx1.s (by omega)) ?_
        refine jr_sipush hx hb dL_types_37 (by decide) ?_
        refine jr_irem hx hb (by omega) (by omega) (by omega) (by omega) dL_types_40 ?_
        refine jr_iconst hx hb dL_types_41 ?_
        refine jr_iconst hx hb dL_types_42 ?_
        refine jr_iconst hx hb dL_types_43 ?_
        refine kl_Qi (cs := []) (vx_runSW (As := [.ref o, vi ((x1.getD i 0) / 10000), vi ((x1.getD i 0) % 10000), vi 0, vi 0, vi 0]) (rest := []) ⟨hx, hb, hml, hown, htl⟩ (m_L_deed_tok l hsT g o (wD S (x1.take i)) w15 hC H.size (x1.getD i 0) (hx1.v (by omega)) (by show (x1.take i).length < 60; rw [List.length_take]; omega)) (vx_cwSW 6 htl lkH_L_deed rfl rfl rfl cwS_L_deed ⟨Nat.le_of_ble_eq_true rfl, Nat.le_of_ble_eq_true rfl⟩) (jp_S hKK hS hAb ⟨rfl, (kw_P (cs := []) hP), hD.weaken (fun _ q _ h => hAb _ h)⟩) rfl rfl hl.1 rfl (lv_room (Nat.le_of_ble_eq_true rfl)) dL_types_44 ⟨by show _ ≤ 181; omega, by show _ ≤ 1086; omega⟩) hP hD hS hA ?_
        clear hP hD hS hC; intro z44 H locs w44 hz44 hC hP hD hS
        have hP : PP g w44 H := hP
        have hD : va_D A w44 := hD
        refine W.widen (k := ((1 + 3 * i) + 3)) (n := ((6 + 18 * i) + 18)) (by omega) (by omega) ?_
        have hC : CW g o (wD S (x1.take (i + 1))) w44 := by rw [tk_s1 (by omega)]; exact hC
        have hz44 : z44 = ((i : Int) + 1) := by rw [hz44]; show ((x1.take i).length : Int) + 1 = _; rw [List.length_take]; omega
        subst hz44
        refine lv_iload_n hx hb dL_types_47 rfl (lv_at hl 0 rfl) ?_
        refine jr_ne (tgt := 55) hx hb dL_types_48 (by decide) ⟨by omega, by omega⟩ ⟨by omega, by omega⟩ (fun c48 => absurd c48 (by omega)) (fun c48 => ?_)
        refine jr_iconst hx hb dL_types_51 ?_
        refine lv_goto (tgt := 56) hx hb dL_types_52 (by decide) ?_
        refine lv_istore_n (lv' := [(2, vi 1), (3, vi ((i : Int) + 1)), (0, .ref o), (1, .ref a1)]) hx hb dL_types_56 rfl hl (by decide) rfl (fun ls hl => ?_)
        refine jr_iinc (lv' := [(3, vi (((i : Int) + 1) + 1)), (2, vi 1), (0, .ref o), (1, .ref a1)]) hx hb dL_types_57 hl (k := 1) rfl rfl (by decide) rfl (fun ls hl => ?_)
        refine lv_goto (tgt := 15) hx hb dL_types_60 (by decide) ?_
        refine W.widen (k := (1 + 3 * (i + 1))) (n := (6 + 18 * (i + 1))) (by omega) (by omega) ?_
        exact ih15 (i + 1) _ (by omega) (hC) (by omega) _ _ hP hD hS ls (lv_sub hl [0, 1, 2, 3] rfl)
  refine W.widen (k := 1 + 3 * 0) (n := 6 + 18 * 0) (by omega) (by omega) ?_
  exact lp15 _ 0 _ (Nat.zero_le _) (hC) (Nat.lt_succ_self _) _ _ hP hD hS ls (lv_sub hl [0, 1, 2, 3] rfl)
