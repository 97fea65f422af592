
theorem lk_L_169 : GoodIn WSL (wsV RL 169 RX10 yX10_segments (ws_ yX10_segments cX10_segments 1 (some .int))) := gd_app (List.forall_mem_cons.mpr ⟨wd_5_7, List.forall_mem_cons.mpr ⟨wd_5_8, List.forall_mem_cons.mpr ⟨wd_5_9, List.forall_mem_cons.mpr ⟨wd_1_2, fun _ h => nomatch h⟩⟩⟩⟩) (gd_ wd_5_10)
theorem cwV_X10_segments : yX10_segments.cls = RX10 ∧ yX10_segments.cls ≠ "java/lang/invoke/MethodHandle" ∧ yX10_segments.cls ≠ "java/lang/invoke/VarHandle" ∧ (parseMethodDescriptor yX10_segments.desc).map (fun d => d.parameters.length) = some 0 := by decide +kernel
theorem lk_L_176 : GoodIn WSL (wsV RL 176 RX10 yX10_filledShare (ws_ yX10_filledShare cX10_filledShare 2 (some .float))) := gd_app (List.forall_mem_cons.mpr ⟨wd_32_21, List.forall_mem_cons.mpr ⟨wd_32_22, List.forall_mem_cons.mpr ⟨wd_32_23, List.forall_mem_cons.mpr ⟨wd_1_2, fun _ h => nomatch h⟩⟩⟩⟩) (gd_ wd_33_0)
theorem cwV_X10_filledShare : yX10_filledShare.cls = RX10 ∧ yX10_filledShare.cls ≠ "java/lang/invoke/MethodHandle" ∧ yX10_filledShare.cls ≠ "java/lang/invoke/VarHandle" ∧ (parseMethodDescriptor yX10_filledShare.desc).map (fun d => d.parameters.length) = some 0 := by decide +kernel
theorem lk_L_172 : GoodIn WSL (va_wsS RL 172 yL_isSegment (ws_ yL_isSegment cL_isSegment 7 (some .boolean))) := gd_app (List.forall_mem_cons.mpr ⟨wd_32_18, List.forall_mem_cons.mpr ⟨wd_32_19, List.forall_mem_cons.mpr ⟨wd_8_17, fun _ h => nomatch h⟩⟩⟩) (gd_ wd_32_20)
theorem cwS_L_isSegment : yL_isSegment.cls ≠ "java/lang/invoke/MethodHandle" ∧ yL_isSegment.cls ≠ "java/lang/invoke/VarHandle" ∧ (parseMethodDescriptor yL_isSegment.desc).map (fun d => d.parameters.length) = some 5 := by decide +kernel
section KX
variable {p : Program} {l : Launch} {e : Env} {R : Room} {s : State} {m : MethodId} {args : Array Value} {below : List Frame} {meth : Method} {c : Code} {H : Heap} {locs : List Loc} {cells slots mc ms : Nat} {Q : State → Prop}
variable {pc : Nat} {ls : Array Slot} {rest st0 : List Value} {aa : Array Value}
/-- a call that may throw, but doesn't -/
theorem kl_XSf {NP : UInt32 → Prop} {pe : String → Prop} (hr : vx_Run p l e R s m args below meth c H locs cells slots mc ms (F0 m pc ls st0) rest (jSf NP aa) (jX pe) jN) (hno : ∀ E, ¬ pe E)
    (kk : ∀ z : UInt32, NP z → W p l e R s m args below meth c H locs (cells + mc) (slots + ms) Q (F0 m (pc + 3) ls (.float z :: rest))) : W p l e R s m args below meth c H locs cells slots Q (F0 m pc ls st0) := by
  intro T hT X
  rcases hr T hT X with ⟨v, st₀, t, T', L, h0, X', hL, e1, e2, ⟨z, hv, hp, hh⟩, st⟩ | ⟨q, st₀, t, T', L, E, ce, h0, X', hL, e1, e2, ⟨hp, hz, hk⟩, hce, hcv, hcl, st⟩
  · cases hv
    cases jN_nil hL
    rw [List.append_nil] at X'
    obtain ⟨t2, a1, b1⟩ := kk z hp T' (by rw [e1, hh, h0]) X'
    exact ⟨t2, st t2 a1, b1⟩
  · exact absurd hp (hno E)
end KX
theorem cne_0 {v : Nat → SV} {n : Nat} (h : ∀ k, k < n → (v k).2.2.1 = 101) : cne v n = 0 := by
  induction n with
  | zero => rfl
  | succ n ih => rw [cne, ih (fun k hk => h k (by omega)), if_pos (h n (by omega))]; rfl
theorem fc_all : (List.range 60).all (fun n => decide (FP.fcmp (shr 0 ((n + 1 : Nat) : Int)) FP.fconst0 = some .eq)) = true := by decide +kernel
theorem fc_0 {n : Nat} (h1 : 1 ≤ n) (h2 : n ≤ 60) : Op.cmpValue (FP.fcmp (shr 0 (n : Int)) FP.fconst0) .l = jI 0 := by
  have h := of_decide_eq_true (List.all_eq_true.mp fc_all (n - 1) (List.mem_range.mpr (by omega)))
  rw [show n - 1 + 1 = n by omega] at h
  rw [h]
  rfl

set_option maxHeartbeats 4000000 in
set_option maxRecDepth 100000 in
theorem m_L_isCut (l : Launch) (hsT : l.stackTraces = false) (g : GT) (o : Nat) (S : SGM) (W9 : va_W) (hCW : CW g o S W9) (sz : Nat) (a1 : Nat) (x1 : List Int) (f1 : Nat → Int) (hx1 : AT x1 f1) (hd : DOC S x1) (hn : 1 ≤ nS S) (hne : ∀ k, k < nS S → 1 ≤ (sS S k).1.length) (he : ∀ k, k < nS S → (sS S k).2.2.1 = 101 ∧ (sS S k).2.2.2.1 = -1) (hd_hP1 : ∀ x ∈ ([aI g a1 61 f1] : va_W).map (·.1), x ∉ W9.map (·.1)) : Met l yL_isCut (ws_ yL_isCut cL_isCut 6 (some .boolean)) (rmm 14 7750 46500) (jPc g [.ref o, .ref a1] (fun H => H.size = sz ∧ PP g W9 H ∧ va_D (fun q => gb g ≤ q) W9 ∧ PP g [aI g a1 61 f1] H)) (jQi (fun z H1 => (z = 1) ∧ ∃ w1 : va_W, CW g o S w1 ∧ PP g w1 H1 ∧ va_D (va_A W9 sz) w1) (va_A W9 sz)) 7750 46500 (va_A W9 sz) := by
  refine jb_M (by decide) (Nat.le_of_ble_eq_true rfl) ?_
  intro p e s m below meth cq hx hb hr hml hown htl hlk hnm hKK hpre ls hl
  have hown : s.vm.findClass RL = some m.cls := hown
  obtain ⟨hsz, hP, hD0, hP1⟩ := hpre
  subst hsz
  have hAb : ∀ q, (va_A W9 s.heap.size) q → gb g ≤ q := fun q h => h.elim (fun ⟨k, e, h⟩ => hD0.2 k _ h) (fun h => Nat.le_trans hKK.2.1 h)
  have hD : va_D (va_A W9 s.heap.size) W9 := hD0.self
  have ap_hP1 := japS hP1 rfl hd_hP1
  generalize hAe : va_A W9 s.heap.size = A at *
  have hA : ∀ q, s.heap.size ≤ q → A q := fun q h => by rw [← hAe]; exact Or.inr h
  have hS : va_S A s.heap s.heap [] := va_S.rf
  have hl : lv_has ls 6 [(0, .ref o), (1, .ref a1)] := hl
  have hd60 := CW.d60 hCW
  have hn60 := CW.n60 hCW
  have hl1 := hx1.len
  suffices K : ∀ (w9 : va_W) (H : Heap) (locs : List Loc), CW g o S w9 → PP g w9 H → va_D A w9 → va_S A s.heap H locs → ∀ ls : Array Slot, lv_has ls 6 [(0, .ref o), (1, .ref a1)] → W p l e (rmm 14 7750 46500) s m ([.ref o, .ref a1] : List Value).toArray below meth cq H locs 0 0 (MQ below (jQi (fun z H1 => (z = 1) ∧ ∃ w1 : va_W, CW g o S w1 ∧ PP g w1 H1 ∧ va_D A w1) A) ([.ref o, .ref a1] : List Value).toArray s 7750 46500 A) (F0 m 0 ls []) from K _ _ _ hCW hP hD hS _ hl
  clear hl hP hD hS; intro w9 H locs hC hP hD hS ls hl
  refine jr_iconst hx hb dL_isCut_0 ?_
  refine lv_istore_n (lv' := [(2, vi 1), (0, .ref o), (1, .ref a1)]) hx hb dL_isCut_1 rfl hl (by decide) rfl (fun ls hl => ?_)
  refine lv_aload_n hx hb dL_isCut_2 rfl (lv_at hl 1 rfl) ?_
  refine jk_Si (va_runV (As := []) (rest := []) ⟨hx, hb, hml, hown, htl⟩ (m_X10_segments l hsT g o S w9 hC ) (cwV 0 htl lk_L_169 rfl rfl rfl cwV_X10_segments ⟨Nat.le_of_ble_eq_true rfl, Nat.le_of_ble_eq_true rfl⟩) (jp_V hKK hS hAb (CW.recv hKK hC (kw_P (cs := []) hP)) (kw_P (cs := []) hP)) rfl rfl hl.1 rfl (lv_room (Nat.le_of_ble_eq_true rfl)) dL_isCut_3 ⟨Nat.le_of_ble_eq_true rfl, Nat.le_of_ble_eq_true rfl⟩) (fun z3 hz3 => ?_)
  have hz3 : z3 = (nS S : Int) := hz3
  subst hz3
  refine jr_ifle (tgt := 30) hx hb dL_isCut_6 (by decide) ⟨by omega, by omega⟩ (fun c6 => absurd c6 (by omega)) (fun c6 => ?_)
  refine lv_aload_n hx hb dL_isCut_9 rfl (lv_at hl 1 rfl) ?_
  refine jr_bipush hx hb dL_isCut_10 (by decide) ?_
  refine lv_aload_n hx hb dL_isCut_12 rfl (lv_at hl 1 rfl) ?_
  refine jk_Si (va_runV (As := []) (rest := [vi 12, .ref o]) ⟨hx, hb, hml, hown, htl⟩ (m_X10_segments l hsT g o S w9 hC ) (cwV 0 htl lk_L_169 rfl rfl rfl cwV_X10_segments ⟨Nat.le_of_ble_eq_true rfl, Nat.le_of_ble_eq_true rfl⟩) (jp_V hKK hS hAb (CW.recv hKK hC (kw_P (cs := []) hP)) (kw_P (cs := []) hP)) rfl rfl hl.1 rfl (lv_room (Nat.le_of_ble_eq_true rfl)) dL_isCut_13 ⟨Nat.le_of_ble_eq_true rfl, Nat.le_of_ble_eq_true rfl⟩) (fun z13 hz13 => ?_)
  have hz13 : z13 = (nS S : Int) := hz13
  subst hz13
  refine jr_iconst hx hb dL_isCut_16 ?_
  refine kl_Qi (cs := []) (vx_runSW (As := [.ref o, vi 12, vi (nS S : Int), vi 0]) (rest := []) ⟨hx, hb, hml, hown, htl⟩ (m_L_ask_segmentLength l hsT g o S w9 hC H.size (nS S : Int) ⟨by omega, by omega⟩ 0) (vx_cwSW 4 htl lkH_L_ask rfl rfl rfl cwS_L_ask ⟨Nat.le_of_ble_eq_true rfl, Nat.le_of_ble_eq_true rfl⟩) (jp_S hKK hS hAb ⟨rfl, (kw_P (cs := []) hP), hD.weaken (fun _ q _ h => hAb _ h)⟩) rfl rfl hl.1 rfl (lv_room (Nat.le_of_ble_eq_true rfl)) dL_isCut_17 ⟨Nat.le_of_ble_eq_true rfl, Nat.le_of_ble_eq_true rfl⟩) hP hD hS hA ?_
  clear hP hD hS hC; intro z17 H locs w17 hz17 hC hP hD hS
  have hP : PP g w17 H := hP
  have hD : va_D A w17 := hD
  refine W.widen (k := 1) (n := 6) (by omega) (by omega) ?_
  have hz17 : z17 = -2001 := hz17.trans (aq12x (Nat.le_refl _))
  subst hz17
  refine jr_sipush hx hb dL_isCut_20 (by decide) ?_
  refine jr_ne (tgt := 30) hx hb dL_isCut_23 (by decide) ⟨by omega, by omega⟩ ⟨by omega, by omega⟩ (fun c23 => absurd c23 (by omega)) (fun c23 => ?_)
  refine jr_iconst hx hb dL_isCut_26 ?_
  refine lv_goto (tgt := 31) hx hb dL_isCut_27 (by decide) ?_
  refine lv_istore_n (lv' := [(3, vi 1), (2, vi 1), (0, .ref o), (1, .ref a1)]) hx hb dL_isCut_31 rfl hl (by decide) rfl (fun ls hl => ?_)
  refine jr_iconst hx hb dL_isCut_32 ?_
  refine lv_istore (lv' := [(4, vi 0), (3, vi 1), (2, vi 1), (0, .ref o), (1, .ref a1)]) hx hb dL_isCut_33 hl (by decide) rfl (fun ls hl => ?_)
  have lp35 : ∀ (N : Nat) (i : Nat) (w35 : va_W), (i ≤ nS S) → (CW g o S w35) → nS S - i < N → ∀ (H : Heap) (locs : List Loc), PP g w35 H → va_D A w35 → va_S A s.heap H locs → ∀ ls : Array Slot, lv_has ls 6 [(4, vi (i : Int)), (3, vi 1), (2, vi ((pf (sS S) i + 1 : Nat) : Int)), (0, .ref o), (1, .ref a1)] → W p l e (rmm 14 7750 46500) s m ([.ref o, .ref a1] : List Value).toArray below meth cq H locs (1 + 129 * i) (6 + 774 * i) (MQ below (jQi (fun z H1 => (z = 1) ∧ ∃ w1 : va_W, CW g o S w1 ∧ PP g w1 H1 ∧ va_D A w1) A) ([.ref o, .ref a1] : List Value).toArray s 7750 46500 A) (F0 m 35 ls []) := by
    intro N
    induction N with
    | zero => intro i w35 hi hC hM; exact absurd hM (Nat.not_lt_zero _)
    | succ N ih35 =>
      intro i w35 hi hC hM H locs hP hD hS ls hl
      have hpb : pf (sS S) i ≤ 60 := pf_b hd (by omega) hl1
      refine lv_iload hx hb dL_isCut_35 (lv_at hl 0 rfl) ?_
      refine lv_aload_n hx hb dL_isCut_37 rfl (lv_at hl 3 rfl) ?_
      refine jk_Si (va_runV (As := []) (rest := [vi (i : Int)]) ⟨hx, hb, hml, hown, htl⟩ (m_X10_segments l hsT g o S w35 hC ) (cwV 0 htl lk_L_169 rfl rfl rfl cwV_X10_segments ⟨Nat.le_of_ble_eq_true rfl, Nat.le_of_ble_eq_true rfl⟩) (jp_V hKK hS hAb (CW.recv hKK hC (kw_P (cs := []) hP)) (kw_P (cs := []) hP)) rfl rfl hl.1 rfl (lv_room (Nat.le_of_ble_eq_true rfl)) dL_isCut_38 ⟨by show _ ≤ 7750; omega, by show _ ≤ 46500; omega⟩) (fun z38 hz38 => ?_)
      have hz38 : z38 = (nS S : Int) := hz38
      subst hz38
      refine jr_ge (tgt := 150) hx hb dL_isCut_41 (by decide) ⟨by omega, by omega⟩ ⟨by omega, by omega⟩ (fun c41 => ?_) (fun c41 => ?_)
      · have hi9 : i = nS S := by omega
        have hl : lv_has ls 6 [(4, vi (i : Int)), (3, vi 1), (2, vi ((x1.length : Int) + 1)), (0, .ref o), (1, .ref a1)] := (show (((pf (sS S) i + 1 : Nat) : Int) : Int) = ((x1.length : Int) + 1) from by rw [hi9, hd.2]; omega) ▸ hl
        refine lv_iload_n hx hb dL_isCut_150 rfl (lv_at hl 1 rfl) ?_
        refine jr_ifeq (tgt := 176) hx hb dL_isCut_151 (by decide) ⟨by omega, by omega⟩ (fun c151 => absurd c151 (by omega)) (fun c151 => ?_)
        refine lv_iload_n hx hb dL_isCut_154 rfl (lv_at hl 2 rfl) ?_
        refine lv_aload_n hx hb dL_isCut_155 rfl (lv_at hl 4 rfl) ?_
        refine jr_iconst hx hb dL_isCut_156 ?_
        refine jr_iald hx hb hKK.k (jat hP1 hS ap_hP1) 0 rfl 0 rfl (by omega) (by omega) dL_isCut_157 ?_
        refine jr_nm (b := (x1.length : Int)) (by rw [hx1.n]) ?_
        refine jr_iconst hx hb dL_isCut_158 ?_
        refine jr_iadd hx hb dL_isCut_159 ?_
        refine jr_ne (tgt := 176) hx hb dL_isCut_160 (by decide) ⟨by omega, by omega⟩ ⟨by omega, by omega⟩ (fun c160 => absurd c160 (by omega)) (fun c160 => ?_)
        refine lv_aload_n hx hb dL_isCut_163 rfl (lv_at hl 3 rfl) ?_
        refine kl_XSf (vx_runV (As := []) (rest := []) ⟨hx, hb, hml, hown, htl⟩ (m_X10_filledShare l hsT g o S w35 hC ) (cwV 0 htl lk_L_176 rfl rfl rfl cwV_X10_filledShare ⟨Nat.le_of_ble_eq_true rfl, Nat.le_of_ble_eq_true rfl⟩) (jp_V hKK hS hAb (CW.recv hKK hC (kw_P (cs := []) hP)) (kw_P (cs := []) hP)) rfl rfl hl.1 rfl (lv_room (Nat.le_of_ble_eq_true rfl)) dL_isCut_164 ⟨by show _ ≤ 7750; omega, by show _ ≤ 46500; omega⟩) (fun E q => absurd q.2 (by rw [cd1_0 (by omega)]; decide)) ?_
        intro z164 hz164
        refine W.widen (k := ((1 + 129 * i) + 1)) (n := ((6 + 774 * i) + 6)) (by omega) (by omega) ?_
        have hz164 : z164 = (shr 0 (nS S : Int)) := hz164.2.trans (by rw [cne_0 (fun k hk => (he k hk).1)])
        subst hz164
        refine lv_fconst0 hx hb dL_isCut_167 ?_
        refine lv_fcmp hx hb dL_isCut_168 ?_
        rw [show Op.cmpValue (FP.fcmp (shr 0 (nS S : Int)) FP.fconst0) .l = jI (0) from fc_0 hn hn60.2]
        refine jr_ifne (tgt := 176) hx hb dL_isCut_169 (by decide) ⟨by omega, by omega⟩ (fun c169 => absurd c169 (by omega)) (fun c169 => ?_)
        refine jr_iconst hx hb dL_isCut_172 ?_
        refine lv_goto (tgt := 177) hx hb dL_isCut_173 (by decide) ?_
        refine W.widen (k := 7750) (n := 46500) (by omega) (by omega) ?_
        exact je_Qi hx hb hr hlk (nz_b (by omega)).1 hS ⟨rfl, w35, hC, (kw_P (cs := []) hP), hD⟩ dL_isCut_177
      · refine lv_iload_n hx hb dL_isCut_44 rfl (lv_at hl 1 rfl) ?_
        refine jr_ifeq (tgt := 150) hx hb dL_isCut_45 (by decide) ⟨by omega, by omega⟩ (fun c45 => absurd c45 (by omega)) (fun c45 => ?_)
        refine lv_aload_n hx hb dL_isCut_48 rfl (lv_at hl 3 rfl) ?_
        refine jr_bipush hx hb dL_isCut_49 (by decide) ?_
        refine lv_iload hx hb dL_isCut_51 (lv_at hl 0 rfl) ?_
        refine jr_iconst hx hb dL_isCut_53 ?_
        refine kl_Qi (cs := []) (vx_runSW (As := [.ref o, vi 12, vi (i : Int), vi 0]) (rest := []) ⟨hx, hb, hml, hown, htl⟩ (m_L_ask_segmentLength l hsT g o S w35 hC H.size (i : Int) ⟨by omega, by omega⟩ 0) (vx_cwSW 4 htl lkH_L_ask rfl rfl rfl cwS_L_ask ⟨Nat.le_of_ble_eq_true rfl, Nat.le_of_ble_eq_true rfl⟩) (jp_S hKK hS hAb ⟨rfl, (kw_P (cs := []) hP), hD.weaken (fun _ q _ h => hAb _ h)⟩) rfl rfl hl.1 rfl (lv_room (Nat.le_of_ble_eq_true rfl)) dL_isCut_54 ⟨by show _ ≤ 7750; omega, by show _ ≤ 46500; omega⟩) hP hD hS hA ?_
        clear hP hD hS hC; intro z54 H locs w54 hz54 hC hP hD hS
        have hP : PP g w54 H := hP
        have hD : va_D A w54 := hD
        refine W.widen (k := ((1 + 129 * i) + 1)) (n := ((6 + 774 * i) + 6)) (by omega) (by omega) ?_
        have hz54 : z54 = ((sS S i).1.length : Int) := hz54.trans (aq12 (by omega))
        subst hz54
        have hni := hne i (by omega)
        have hdi := hd.1 i (by omega)
        refine lv_istore (lv' := [(5, vi ((sS S i).1.length : Int)), (4, vi (i : Int)), (3, vi 1), (2, vi ((pf (sS S) i + 1 : Nat) : Int)), (0, .ref o), (1, .ref a1)]) hx hb dL_isCut_57 hl (by decide) rfl (fun ls hl => ?_)
        refine lv_iload hx hb dL_isCut_59 (lv_at hl 0 rfl) ?_
        refine jr_ifle (tgt := 137) hx hb dL_isCut_61 (by decide) ⟨by omega, by omega⟩ (fun c61 => absurd c61 (by omega)) (fun c61 => ?_)
        refine lv_iload_n hx hb dL_isCut_64 rfl (lv_at hl 3 rfl) ?_
        refine lv_iload hx hb dL_isCut_65 (lv_at hl 0 rfl) ?_
        refine jr_iadd hx hb dL_isCut_67 ?_
        refine lv_aload_n hx hb dL_isCut_68 rfl (lv_at hl 5 rfl) ?_
        refine jr_iconst hx hb dL_isCut_69 ?_
        refine jr_iald hx hb hKK.k (jat hP1 hS ap_hP1) 0 rfl 0 rfl (by omega) (by omega) dL_isCut_70 ?_
        refine jr_nm (b := (x1.length : Int)) (by rw [hx1.n]) ?_
        refine jr_iconst hx hb dL_isCut_71 ?_
        refine jr_iadd hx hb dL_isCut_72 ?_
        refine jr_gt (tgt := 137) hx hb dL_isCut_73 (by decide) ⟨by omega, by omega⟩ ⟨by omega, by omega⟩ (fun c73 => absurd c73 (by omega)) (fun c73 => ?_)
        refine lv_aload_n hx hb dL_isCut_76 rfl (lv_at hl 4 rfl) ?_
        refine lv_iload hx hb dL_isCut_77 (lv_at hl 1 rfl) ?_
        refine lv_aload_n hx hb dL_isCut_79 rfl (lv_at hl 5 rfl) ?_
        refine lv_iload_n hx hb dL_isCut_80 rfl (lv_at hl 3 rfl) ?_
        refine lv_iload hx hb dL_isCut_81 (lv_at hl 0 rfl) ?_
        refine kl_Qi (cs := []) (va_runS (As := [.ref o, vi (i : Int), .ref a1, vi ((pf (sS S) i + 1 : Nat) : Int), vi ((sS S i).1.length : Int)]) (rest := []) ⟨hx, hb, hml, hown, htl⟩ (m_L_isSegment l hsT g o S w54 hC H.size a1 x1 f1 hx1 i (by omega) hd (kw_nR (cs := []) hD ap_hP1)) (va_cwS 5 htl lk_L_172 rfl rfl rfl cwS_L_isSegment ⟨Nat.le_of_ble_eq_true rfl, Nat.le_of_ble_eq_true rfl⟩) (jp_S hKK hS hAb ⟨rfl, (kw_P (cs := []) hP), hD.weaken (fun _ q _ h => hAb _ h), (jat hP1 hS ap_hP1)⟩) rfl rfl hl.1 rfl (lv_room (Nat.le_of_ble_eq_true rfl)) dL_isCut_83 ⟨by show _ ≤ 7750; omega, by show _ ≤ 46500; omega⟩) hP hD hS hA ?_
        clear hP hD hS hC; intro z83 H locs w83 hz83 hC hP hD hS
        have hP : PP g w83 H := hP
        have hD : va_D A w83 := hD
        refine W.widen (k := ((1 + 129 * i) + 124)) (n := ((6 + 774 * i) + 744)) (by omega) (by omega) ?_
        have hz83 : z83 = 1 := hz83
        subst hz83
        refine jr_ifeq (tgt := 137) hx hb dL_isCut_86 (by decide) ⟨by omega, by omega⟩ (fun c86 => absurd c86 (by omega)) (fun c86 => ?_)
        refine lv_aload_n hx hb dL_isCut_89 rfl (lv_at hl 4 rfl) ?_
        refine jr_bipush hx hb dL_isCut_90 (by decide) ?_
        refine lv_iload hx hb dL_isCut_92 (lv_at hl 1 rfl) ?_
        refine jr_iconst hx hb dL_isCut_94 ?_
        refine kl_Qi (cs := []) (vx_runSW (As := [.ref o, vi 9, vi (i : Int), vi 0]) (rest := []) ⟨hx, hb, hml, hown, htl⟩ (m_L_ask_stateOf l hsT g o S w83 hC H.size (i : Int) ⟨by omega, by omega⟩ 0) (vx_cwSW 4 htl lkH_L_ask rfl rfl rfl cwS_L_ask ⟨Nat.le_of_ble_eq_true rfl, Nat.le_of_ble_eq_true rfl⟩) (jp_S hKK hS hAb ⟨rfl, (kw_P (cs := []) hP), hD.weaken (fun _ q _ h => hAb _ h)⟩) rfl rfl hl.1 rfl (lv_room (Nat.le_of_ble_eq_true rfl)) dL_isCut_95 ⟨by show _ ≤ 7750; omega, by show _ ≤ 46500; omega⟩) hP hD hS hA ?_
        clear hP hD hS hC; intro z95 H locs w95 hz95 hC hP hD hS
        have hP : PP g w95 H := hP
        have hD : va_D A w95 := hD
        refine W.widen (k := ((1 + 129 * i) + 125)) (n := ((6 + 774 * i) + 750)) (by omega) (by omega) ?_
        have hz95 : z95 = 101 := hz95.trans ((aq9 (by omega)).trans (he i (by omega)).1)
        subst hz95
        refine jr_bipush hx hb dL_isCut_98 (by decide) ?_
        refine jr_ne (tgt := 137) hx hb dL_isCut_100 (by decide) ⟨by omega, by omega⟩ ⟨by omega, by omega⟩ (fun c100 => absurd c100 (by omega)) (fun c100 => ?_)
        refine lv_aload_n hx hb dL_isCut_103 rfl (lv_at hl 4 rfl) ?_
        refine jr_bipush hx hb dL_isCut_104 (by decide) ?_
        refine lv_iload hx hb dL_isCut_106 (lv_at hl 1 rfl) ?_
        refine jr_iconst hx hb dL_isCut_108 ?_
        refine kl_Qi (cs := []) (vx_runSW (As := [.ref o, vi 14, vi (i : Int), vi 0]) (rest := []) ⟨hx, hb, hml, hown, htl⟩ (m_L_ask_targetLength l hsT g o S w95 hC H.size (i : Int) ⟨by omega, by omega⟩ 0) (vx_cwSW 4 htl lkH_L_ask rfl rfl rfl cwS_L_ask ⟨Nat.le_of_ble_eq_true rfl, Nat.le_of_ble_eq_true rfl⟩) (jp_S hKK hS hAb ⟨rfl, (kw_P (cs := []) hP), hD.weaken (fun _ q _ h => hAb _ h)⟩) rfl rfl hl.1 rfl (lv_room (Nat.le_of_ble_eq_true rfl)) dL_isCut_109 ⟨by show _ ≤ 7750; omega, by show _ ≤ 46500; omega⟩) hP hD hS hA ?_
        clear hP hD hS hC; intro z109 H locs w109 hz109 hC hP hD hS
        have hP : PP g w109 H := hP
        have hD : va_D A w109 := hD
        refine W.widen (k := ((1 + 129 * i) + 127)) (n := ((6 + 774 * i) + 762)) (by omega) (by omega) ?_
        have hz109 : z109 = -2005 := hz109.trans (aq14x (by omega) (he i (by omega)).1)
        subst hz109
        refine jr_sipush hx hb dL_isCut_112 (by decide) ?_
        refine jr_ne (tgt := 137) hx hb dL_isCut_115 (by decide) ⟨by omega, by omega⟩ ⟨by omega, by omega⟩ (fun c115 => absurd c115 (by omega)) (fun c115 => ?_)
        refine lv_aload_n hx hb dL_isCut_118 rfl (lv_at hl 4 rfl) ?_
        refine jr_bipush hx hb dL_isCut_119 (by decide) ?_
        refine lv_iload hx hb dL_isCut_121 (lv_at hl 1 rfl) ?_
        refine jr_iconst hx hb dL_isCut_123 ?_
        refine kl_Qi (cs := []) (vx_runSW (As := [.ref o, vi 10, vi (i : Int), vi 0]) (rest := []) ⟨hx, hb, hml, hown, htl⟩ (m_L_ask_unitOf l hsT g o S w109 hC H.size (i : Int) ⟨by omega, by omega⟩ 0) (vx_cwSW 4 htl lkH_L_ask rfl rfl rfl cwS_L_ask ⟨Nat.le_of_ble_eq_true rfl, Nat.le_of_ble_eq_true rfl⟩) (jp_S hKK hS hAb ⟨rfl, (kw_P (cs := []) hP), hD.weaken (fun _ q _ h => hAb _ h)⟩) rfl rfl hl.1 rfl (lv_room (Nat.le_of_ble_eq_true rfl)) dL_isCut_124 ⟨by show _ ≤ 7750; omega, by show _ ≤ 46500; omega⟩) hP hD hS hA ?_
        clear hP hD hS hC; intro z124 H locs w124 hz124 hC hP hD hS
        have hP : PP g w124 H := hP
        have hD : va_D A w124 := hD
        refine W.widen (k := ((1 + 129 * i) + 129)) (n := ((6 + 774 * i) + 774)) (by omega) (by omega) ?_
        have hz124 : z124 = -2005 := hz124.trans (aq10x (by omega) (he i (by omega)).2)
        subst hz124
        refine jr_sipush hx hb dL_isCut_127 (by decide) ?_
        refine jr_ne (tgt := 137) hx hb dL_isCut_130 (by decide) ⟨by omega, by omega⟩ ⟨by omega, by omega⟩ (fun c130 => absurd c130 (by omega)) (fun c130 => ?_)
        refine jr_iconst hx hb dL_isCut_133 ?_
        refine lv_goto (tgt := 138) hx hb dL_isCut_134 (by decide) ?_
        refine lv_istore_n (lv' := [(3, vi 1), (5, vi ((sS S i).1.length : Int)), (4, vi (i : Int)), (2, vi ((pf (sS S) i + 1 : Nat) : Int)), (0, .ref o), (1, .ref a1)]) hx hb dL_isCut_138 rfl hl (by decide) rfl (fun ls hl => ?_)
        refine lv_iload_n hx hb dL_isCut_139 rfl (lv_at hl 3 rfl) ?_
        refine lv_iload hx hb dL_isCut_140 (lv_at hl 1 rfl) ?_
        refine jr_iadd hx hb dL_isCut_142 ?_
        refine lv_istore_n (lv' := [(2, vi (((pf (sS S) i + 1 : Nat) : Int) + ((sS S i).1.length : Int))), (3, vi 1), (5, vi ((sS S i).1.length : Int)), (4, vi (i : Int)), (0, .ref o), (1, .ref a1)]) hx hb dL_isCut_143 rfl hl (by decide) rfl (fun ls hl => ?_)
        have hl : lv_has ls 6 [(2, vi ((pf (sS S) (i + 1) + 1 : Nat) : Int)), (3, vi 1), (5, vi ((sS S i).1.length : Int)), (4, vi (i : Int)), (0, .ref o), (1, .ref a1)] := (show ((((pf (sS S) i + 1 : Nat) : Int) + ((sS S i).1.length : Int)) : Int) = ((pf (sS S) (i + 1) + 1 : Nat) : Int) from by rw [pf]; omega) ▸ hl
        refine jr_iinc (lv' := [(4, vi ((i : Int) + 1)), (2, vi ((pf (sS S) (i + 1) + 1 : Nat) : Int)), (3, vi 1), (5, vi ((sS S i).1.length : Int)), (0, .ref o), (1, .ref a1)]) hx hb dL_isCut_144 hl (k := 3) rfl rfl (by decide) rfl (fun ls hl => ?_)
        refine lv_goto (tgt := 35) hx hb dL_isCut_147 (by decide) ?_
        refine W.widen (k := (1 + 129 * (i + 1))) (n := (6 + 774 * (i + 1))) (by omega) (by omega) ?_
        exact ih35 (i + 1) _ (by omega) (hC) (by omega) _ _ hP hD hS ls (lv_sub hl [0, 2, 1, 4, 5] rfl)
  refine W.widen (k := 1 + 129 * 0) (n := 6 + 774 * 0) (by omega) (by omega) ?_
  exact lp35 _ 0 _ (Nat.zero_le _) (hC) (Nat.lt_succ_self _) _ _ hP hD hS ls (lv_sub hl [0, 1, 2, 3, 4] rfl)
