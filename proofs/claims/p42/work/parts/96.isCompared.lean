
theorem lk_L_162 : GoodIn WSL (wsV RL 162 RX10 yX10_units (ws_ yX10_units cX10_units 1 (some .int))) := gd_app (List.forall_mem_cons.mpr ⟨wd_26_21, List.forall_mem_cons.mpr ⟨wd_26_22, List.forall_mem_cons.mpr ⟨wd_26_23, List.forall_mem_cons.mpr ⟨wd_1_2, fun _ h => nomatch h⟩⟩⟩⟩) (gd_ wd_27_0)
theorem cwV_X10_units : yX10_units.cls = RX10 ∧ yX10_units.cls ≠ "java/lang/invoke/MethodHandle" ∧ yX10_units.cls ≠ "java/lang/invoke/VarHandle" ∧ (parseMethodDescriptor yX10_units.desc).map (fun d => d.parameters.length) = some 0 := by decide +kernel
theorem lk_L_165 : GoodIn WSL (va_wsS RL 165 yL_areSame (ws_ yL_areSame cL_areSame 4 (some .boolean))) := gd_app (List.forall_mem_cons.mpr ⟨wd_32_12, List.forall_mem_cons.mpr ⟨wd_32_13, List.forall_mem_cons.mpr ⟨wd_8_17, fun _ h => nomatch h⟩⟩⟩) (gd_ wd_32_14)
theorem cwS_L_areSame : yL_areSame.cls ≠ "java/lang/invoke/MethodHandle" ∧ yL_areSame.cls ≠ "java/lang/invoke/VarHandle" ∧ (parseMethodDescriptor yL_areSame.desc).map (fun d => d.parameters.length) = some 2 := by decide +kernel
theorem AT.ct {x : List Int} {f : Nat → Int} (h : AT x f) : CT x := ⟨h.len, fun j hj => (h.v hj).b⟩
theorem best_f {z b B : Int} (h : z = if B = -1 then -2005 else B) (e : B = b) : (b = -1 ∧ z = -2005) ∨ (¬ b = -1 ∧ z = b) := by
  subst e
  by_cases q : B = -1
  · rw [if_pos q] at h; exact Or.inl ⟨q, h⟩
  · rw [if_neg q] at h; exact Or.inr ⟨q, h⟩
set_option maxHeartbeats 4000000 in
set_option maxRecDepth 100000 in
theorem m_L_isCompared (l : Launch) (hsT : l.stackTraces = false) (g : GT) (o : Nat) (S : SGM) (W9 : va_W) (hCW : CW g o S W9) (sz : Nat) (a1 : Nat) (x1 : List Int) (f1 : Nat → Int) (hx1 : AT x1 f1) (h1 : 1 ≤ x1.length) (aQ : Nat) (fq : Nat → Option Nat) (ar : va_W) (sa : Nat → Nat) (xs : Nat → List Int) (ff : Nat → Nat → Int) (hsrc : SRC g S fq ar sa xs ff) (hn16 : nU S ≤ 16) (hd_hP1 : ∀ x ∈ ([aI g a1 61 f1] : va_W).map (·.1), x ∉ W9.map (·.1)) (hd_hPQ : ∀ x ∈ ([aQ2 g aQ fq] : va_W).map (·.1), x ∉ W9.map (·.1)) (hd_hPx : ∀ x ∈ (ar : va_W).map (·.1), x ∉ W9.map (·.1)) : Met l yL_isCompared (ws_ yL_isCompared cL_isCompared 12 (some .boolean)) (rmm 12 800 4800) (jPc g [.ref o, .ref a1, .ref aQ] (fun H => H.size = sz ∧ PP g W9 H ∧ va_D (fun q => gb g ≤ q) W9 ∧ PP g [aI g a1 61 f1] H ∧ PP g [aQ2 g aQ fq] H ∧ PP g ar H)) (jQi (fun z H1 => (z = 1) ∧ ∃ w1 : va_W, CW g o (wD S []) w1 ∧ PP g w1 H1 ∧ va_D (va_A W9 sz) w1) (va_A W9 sz)) 800 4800 (va_A W9 sz) := by
  refine jb_M (by decide) (Nat.le_of_ble_eq_true rfl) ?_
  intro p e s m below meth cq hx hb hr hml hown htl hlk hnm hKK hpre ls hl
  have hown : s.vm.findClass RL = some m.cls := hown
  obtain ⟨hsz, hP, hD0, hP1, hPQ, hPx⟩ := hpre
  subst hsz
  have hAb : ∀ q, (va_A W9 s.heap.size) q → gb g ≤ q := fun q h => h.elim (fun ⟨k, e, h⟩ => hD0.2 k _ h) (fun h => Nat.le_trans hKK.2.1 h)
  have hD : va_D (va_A W9 s.heap.size) W9 := hD0.self
  have ap_hP1 := japS hP1 rfl hd_hP1
  have ap_hPQ := japS hPQ rfl hd_hPQ
  have ap_hPx := japS hPx rfl hd_hPx
  generalize hAe : va_A W9 s.heap.size = A at *
  have hA : ∀ q, s.heap.size ≤ q → A q := fun q h => by rw [← hAe]; exact Or.inr h
  have hS : va_S A s.heap s.heap [] := va_S.rf
  have hl : lv_has ls 12 [(0, .ref o), (1, .ref a1), (2, .ref aQ)] := hl
  have hd60 := CW.d60 hCW
  have hn60 := CW.n60 hCW
  have hl1 := hx1.len
  have hw := CW.wb hCW
  have ht20 := CW.tm20 hCW
  have hxc := hx1.ct
  suffices K : ∀ (w9 : va_W) (H : Heap) (locs : List Loc), CW g o S w9 → PP g w9 H → va_D A w9 → va_S A s.heap H locs → ∀ ls : Array Slot, lv_has ls 12 [(0, .ref o), (1, .ref a1), (2, .ref aQ)] → W p l e (rmm 12 800 4800) s m ([.ref o, .ref a1, .ref aQ] : List Value).toArray below meth cq H locs 0 0 (MQ below (jQi (fun z H1 => (z = 1) ∧ ∃ w1 : va_W, CW g o (wD S []) w1 ∧ PP g w1 H1 ∧ va_D A w1) A) ([.ref o, .ref a1, .ref aQ] : List Value).toArray s 800 4800 A) (F0 m 0 ls []) from K _ _ _ hCW hP hD hS _ hl
  clear hl hP hD hS; intro w9 H locs hC hP hD hS ls hl
  refine lv_aload_n hx hb dL_isCompared_0 rfl (lv_at hl 0 rfl) ?_
  refine lv_aload_n hx hb dL_isCompared_1 rfl (lv_at hl 1 rfl) ?_
  refine kl_Qi (cs := []) (va_runS (As := [.ref o, .ref a1]) (rest := []) ⟨hx, hb, hml, hown, htl⟩ (m_L_types l hsT g o S w9 hC H.size a1 x1 f1 hx1 (kw_nR (cs := []) hD ap_hP1)) (va_cwS 2 htl lk_L_155 rfl rfl rfl cwS_L_types ⟨Nat.le_of_ble_eq_true rfl, Nat.le_of_ble_eq_true rfl⟩) (jp_S hKK hS hAb ⟨rfl, (kw_P (cs := []) hP), hD.weaken (fun _ q _ h => hAb _ h), (jat hP1 hS ap_hP1)⟩) rfl rfl hl.1 rfl (lv_room (Nat.le_of_ble_eq_true rfl)) dL_isCompared_2 ⟨Nat.le_of_ble_eq_true rfl, Nat.le_of_ble_eq_true rfl⟩) hP hD hS hA ?_
  clear hP hD hS hC; intro z2 H locs w2 hz2 hC hP hD hS
  have hP : PP g w2 H := hP
  have hD : va_D A w2 := hD
  refine W.widen (k := 181) (n := 1086) (by omega) (by omega) ?_
  have hC : CW g o (wD S x1) w2 := hC
  have hz2 : z2 = 1 := hz2
  subst hz2
  refine lv_istore_n (lv' := [(3, vi 1), (0, .ref o), (1, .ref a1), (2, .ref aQ)]) hx hb dL_isCompared_5 rfl hl (by decide) rfl (fun ls hl => ?_)
  refine jr_iconst hx hb dL_isCompared_6 ?_
  refine lv_istore (lv' := [(4, vi (-1)), (3, vi 1), (0, .ref o), (1, .ref a1), (2, .ref aQ)]) hx hb dL_isCompared_7 hl (by decide) rfl (fun ls hl => ?_)
  refine jr_iconst hx hb dL_isCompared_9 ?_
  refine lv_istore (lv' := [(5, vi 0), (4, vi (-1)), (3, vi 1), (0, .ref o), (1, .ref a1), (2, .ref aQ)]) hx hb dL_isCompared_10 hl (by decide) rfl (fun ls hl => ?_)
  refine jr_iconst hx hb dL_isCompared_12 ?_
  refine lv_istore (lv' := [(6, vi 0), (5, vi 0), (4, vi (-1)), (3, vi 1), (0, .ref o), (1, .ref a1), (2, .ref aQ)]) hx hb dL_isCompared_13 hl (by decide) rfl (fun ls hl => ?_)
  refine jr_iconst hx hb dL_isCompared_15 ?_
  refine lv_istore (lv' := [(7, vi 0), (6, vi 0), (5, vi 0), (4, vi (-1)), (3, vi 1), (0, .ref o), (1, .ref a1), (2, .ref aQ)]) hx hb dL_isCompared_16 hl (by decide) rfl (fun ls hl => ?_)
  have lp18 : ∀ (N : Nat) (i : Nat) (b bs bl : Int) (w18 : va_W), (i ≤ nU S) → ((b, bs, bl) = fa S.2.2.2.1 S.2.2.2.2.1 x1 (uS S) i) → (CW g o (wD S x1) w18) → nU S - i < N → ∀ (H : Heap) (locs : List Loc), PP g w18 H → va_D A w18 → va_S A s.heap H locs → ∀ ls : Array Slot, lv_has ls 12 [(7, vi (i : Int)), (6, vi bl), (5, vi bs), (4, vi b), (3, vi 1), (0, .ref o), (1, .ref a1), (2, .ref aQ)] → W p l e (rmm 12 800 4800) s m ([.ref o, .ref a1, .ref aQ] : List Value).toArray below meth cq H locs (181 + 15 * i) (1086 + 90 * i) (MQ below (jQi (fun z H1 => (z = 1) ∧ ∃ w1 : va_W, CW g o (wD S []) w1 ∧ PP g w1 H1 ∧ va_D A w1) A) ([.ref o, .ref a1, .ref aQ] : List Value).toArray s 800 4800 A) (F0 m 18 ls []) := by
    intro N
    induction N with
    | zero => intro i b bs bl w18 hi hF hC hM; exact absurd hM (Nat.not_lt_zero _)
    | succ N ih18 =>
      intro i b bs bl w18 hi hF hC hM H locs hP hD hS ls hl
      have hfb := fa_b hw S.2.2.2.2.1 x1 (uS S) i
      rw [← hF] at hfb
      obtain ⟨hb1, hb2, hb3⟩ : (-1 ≤ b ∧ b < (i : Int)) ∧ (0 ≤ bs ∧ bs ≤ 100) ∧ 0 ≤ bl ∧ bl ≤ 100 := hfb
      have hnU1 : nU (wD S x1) = nU S := rfl
      refine lv_iload hx hb dL_isCompared_18 (lv_at hl 0 rfl) ?_
      refine lv_aload_n hx hb dL_isCompared_20 rfl (lv_at hl 5 rfl) ?_
      refine jk_Si (va_runV (As := []) (rest := [vi (i : Int)]) ⟨hx, hb, hml, hown, htl⟩ (m_X10_units l hsT g o (wD S x1) w18 hC ) (cwV 0 htl lk_L_162 rfl rfl rfl cwV_X10_units ⟨Nat.le_of_ble_eq_true rfl, Nat.le_of_ble_eq_true rfl⟩) (jp_V hKK hS hAb (CW.recv hKK hC (kw_P (cs := []) hP)) (kw_P (cs := []) hP)) rfl rfl hl.1 rfl (lv_room (Nat.le_of_ble_eq_true rfl)) dL_isCompared_21 ⟨by show _ ≤ 800; omega, by show _ ≤ 4800; omega⟩) (fun z21 hz21 => ?_)
      have hz21 : z21 = (nU (wD S x1) : Int) := hz21
      subst hz21
      refine jr_ge (tgt := 272) hx hb dL_isCompared_24 (by decide) ⟨by omega, by omega⟩ ⟨by omega, by omega⟩ (fun c24 => ?_) (fun c24 => ?_)
      · have hbe : bsU (wD S x1) x1 = b := by show (fa S.2.2.2.1 S.2.2.2.2.1 x1 (uS S) (nU S)).1 = b; rw [show nU S = i by omega, ← hF]
        refine lv_iload_n hx hb dL_isCompared_272 rfl (lv_at hl 4 rfl) ?_
        refine jr_ifeq (tgt := 330) hx hb dL_isCompared_273 (by decide) ⟨by omega, by omega⟩ (fun c273 => absurd c273 (by omega)) (fun c273 => ?_)
        refine lv_aload_n hx hb dL_isCompared_276 rfl (lv_at hl 5 rfl) ?_
        refine jr_bipush hx hb dL_isCompared_277 (by decide) ?_
        refine jr_iconst hx hb dL_isCompared_279 ?_
        refine jr_iconst hx hb dL_isCompared_280 ?_
        refine kl_Qi (cs := []) (vx_runSW (As := [.ref o, vi 6, vi 0, vi 0]) (rest := []) ⟨hx, hb, hml, hown, htl⟩ (m_L_ask_best l hsT g o (wD S x1) w18 hC H.size 0 0) (vx_cwSW 4 htl lkH_L_ask rfl rfl rfl cwS_L_ask ⟨Nat.le_of_ble_eq_true rfl, Nat.le_of_ble_eq_true rfl⟩) (jp_S hKK hS hAb ⟨rfl, (kw_P (cs := []) hP), hD.weaken (fun _ q _ h => hAb _ h)⟩) rfl rfl hl.1 rfl (lv_room (Nat.le_of_ble_eq_true rfl)) dL_isCompared_281 ⟨by show _ ≤ 800; omega, by show _ ≤ 4800; omega⟩) hP hD hS hA ?_
        clear hP hD hS hC; intro z281 H locs w281 hz281 hC hP hD hS
        have hP : PP g w281 H := hP
        have hD : va_D A w281 := hD
        refine W.widen (k := ((181 + 15 * i) + 2)) (n := ((1086 + 90 * i) + 12)) (by omega) (by omega) ?_
        have hz281 := best_f (hz281.trans (aq6 (S := wD S x1) (by show ¬ x1.length = 0; omega))) hbe
        refine lv_iload hx hb dL_isCompared_284 (lv_at hl 3 rfl) ?_
        refine jr_iconst hx hb dL_isCompared_286 ?_
        refine jr_ne (tgt := 296) hx hb dL_isCompared_287 (by decide) ⟨by omega, by omega⟩ ⟨by omega, by omega⟩ (fun c287 => ?_) (fun c287 => ?_)
        · refine lv_iload hx hb dL_isCompared_296 (lv_at hl 3 rfl) ?_
          refine jr_ne (tgt := 330) hx hb dL_isCompared_298 (by decide) ⟨by omega, by omega⟩ ⟨by omega, by omega⟩ (fun c298 => absurd c298 (by omega)) (fun c298 => ?_)
          refine lv_aload_n hx hb dL_isCompared_301 rfl (lv_at hl 5 rfl) ?_
          refine jr_bipush hx hb dL_isCompared_302 (by decide) ?_
          refine jr_iconst hx hb dL_isCompared_304 ?_
          refine jr_iconst hx hb dL_isCompared_305 ?_
          refine kl_Qi (cs := []) (vx_runSW (As := [.ref o, vi 7, vi 0, vi 0]) (rest := []) ⟨hx, hb, hml, hown, htl⟩ (m_L_ask_bestOfAll l hsT g o (wD S x1) w281 hC H.size 0 0) (vx_cwSW 4 htl lkH_L_ask rfl rfl rfl cwS_L_ask ⟨Nat.le_of_ble_eq_true rfl, Nat.le_of_ble_eq_true rfl⟩) (jp_S hKK hS hAb ⟨rfl, (kw_P (cs := []) hP), hD.weaken (fun _ q _ h => hAb _ h)⟩) rfl rfl hl.1 rfl (lv_room (Nat.le_of_ble_eq_true rfl)) dL_isCompared_306 ⟨by show _ ≤ 800; omega, by show _ ≤ 4800; omega⟩) hP hD hS hA ?_
          clear hP hD hS hC; intro z306 H locs w306 hz306 hC hP hD hS
          have hP : PP g w306 H := hP
          have hD : va_D A w306 := hD
          refine W.widen (k := ((181 + 15 * i) + 4)) (n := ((1086 + 90 * i) + 24)) (by omega) (by omega) ?_
          have hz306 := best_f (hz306.trans (aq6 (S := wD S x1) (by show ¬ x1.length = 0; omega))) hbe
          refine lv_iload hx hb dL_isCompared_309 (lv_at hl 3 rfl) ?_
          refine jr_iconst hx hb dL_isCompared_311 ?_
          refine jr_ne (tgt := 321) hx hb dL_isCompared_312 (by decide) ⟨by omega, by omega⟩ ⟨by omega, by omega⟩ (fun c312 => ?_) (fun c312 => ?_)
          · refine lv_iload hx hb dL_isCompared_321 (lv_at hl 3 rfl) ?_
            refine jr_ne (tgt := 330) hx hb dL_isCompared_323 (by decide) ⟨by omega, by omega⟩ ⟨by omega, by omega⟩ (fun c323 => absurd c323 (by omega)) (fun c323 => ?_)
            refine jr_iconst hx hb dL_isCompared_326 ?_
            refine lv_goto (tgt := 331) hx hb dL_isCompared_327 (by decide) ?_
            refine lv_istore_n (lv' := [(3, vi 1), (7, vi (i : Int)), (6, vi bl), (5, vi bs), (4, vi b), (0, .ref o), (1, .ref a1), (2, .ref aQ)]) hx hb dL_isCompared_331 rfl hl (by decide) rfl (fun ls hl => ?_)
            refine lv_iload_n hx hb dL_isCompared_332 rfl (lv_at hl 0 rfl) ?_
            refine jr_ifeq (tgt := 380) hx hb dL_isCompared_333 (by decide) ⟨by omega, by omega⟩ (fun c333 => absurd c333 (by omega)) (fun c333 => ?_)
            have hnU2 : nU (wD S []) = nU S := rfl
            refine lv_aload_n hx hb dL_isCompared_336 rfl (lv_at hl 5 rfl) ?_
            refine kl_Qi (cs := []) (va_runV (As := []) (rest := []) ⟨hx, hb, hml, hown, htl⟩ (m_X10_clear l hsT g o (wD S x1) w306 hC H.size) (cwV 0 htl lk_L_149 rfl rfl rfl cwV_X10_clear ⟨Nat.le_of_ble_eq_true rfl, Nat.le_of_ble_eq_true rfl⟩) (jp_V hKK hS hAb (CW.recv hKK hC (kw_P (cs := []) hP)) ⟨rfl, (kw_P (cs := []) hP), hD.weaken (fun _ q _ h => hAb _ h)⟩) rfl rfl hl.1 rfl (lv_room (Nat.le_of_ble_eq_true rfl)) dL_isCompared_337 ⟨by show _ ≤ 800; omega, by show _ ≤ 4800; omega⟩) hP hD hS hA ?_
            clear hP hD hS hC; intro z337 H locs w337 hz337 hC hP hD hS
            have hP : PP g w337 H := hP
            have hD : va_D A w337 := hD
            refine W.widen (k := ((181 + 15 * i) + 5)) (n := ((1086 + 90 * i) + 30)) (by omega) (by omega) ?_
            have hC : CW g o (wD S []) w337 := hC
            have hz337 : z337 = (x1.length : Int) := hz337
            subst hz337
            refine lv_aload_n hx hb dL_isCompared_340 rfl (lv_at hl 6 rfl) ?_
            refine jr_iconst hx hb dL_isCompared_341 ?_
            refine jr_iald hx hb hKK.k (jat hP1 hS ap_hP1) 0 rfl 0 rfl (by omega) (by omega) dL_isCompared_342 ?_
            refine jr_nm (b := (x1.length : Int)) (by rw [hx1.n]) ?_
            refine jr_ne (tgt := 380) hx hb dL_isCompared_343 (by decide) ⟨by omega, by omega⟩ ⟨by omega, by omega⟩ (fun c343 => absurd c343 (by omega)) (fun c343 => ?_)
            refine lv_aload_n hx hb dL_isCompared_346 rfl (lv_at hl 5 rfl) ?_
            refine jr_bipush hx hb dL_isCompared_347 (by decide) ?_
            refine jr_iconst hx hb dL_isCompared_349 ?_
            refine jr_iconst hx hb dL_isCompared_350 ?_
            refine kl_Qi (cs := []) (vx_runSW (As := [.ref o, vi 6, vi 0, vi 0]) (rest := []) ⟨hx, hb, hml, hown, htl⟩ (m_L_ask_best l hsT g o (wD S []) w337 hC H.size 0 0) (vx_cwSW 4 htl lkH_L_ask rfl rfl rfl cwS_L_ask ⟨Nat.le_of_ble_eq_true rfl, Nat.le_of_ble_eq_true rfl⟩) (jp_S hKK hS hAb ⟨rfl, (kw_P (cs := []) hP), hD.weaken (fun _ q _ h => hAb _ h)⟩) rfl rfl hl.1 rfl (lv_room (Nat.le_of_ble_eq_true rfl)) dL_isCompared_351 ⟨by show _ ≤ 800; omega, by show _ ≤ 4800; omega⟩) hP hD hS hA ?_
            clear hP hD hS hC; intro z351 H locs w351 hz351 hC hP hD hS
            have hP : PP g w351 H := hP
            have hD : va_D A w351 := hD
            refine W.widen (k := ((181 + 15 * i) + 7)) (n := ((1086 + 90 * i) + 42)) (by omega) (by omega) ?_
            have hz351 : z351 = -2003 := hz351.trans (aq6x rfl)
            subst hz351
            refine jr_sipush hx hb dL_isCompared_354 (by decide) ?_
            refine jr_ne (tgt := 380) hx hb dL_isCompared_357 (by decide) ⟨by omega, by omega⟩ ⟨by omega, by omega⟩ (fun c357 => absurd c357 (by omega)) (fun c357 => ?_)
            refine lv_aload_n hx hb dL_isCompared_360 rfl (lv_at hl 5 rfl) ?_
            refine jr_iconst hx hb dL_isCompared_361 ?_
            refine lv_aload_n hx hb dL_isCompared_362 rfl (lv_at hl 5 rfl) ?_
            refine jk_Si (va_runV (As := []) (rest := [vi 0, .ref o]) ⟨hx, hb, hml, hown, htl⟩ (m_X10_units l hsT g o (wD S []) w351 hC ) (cwV 0 htl lk_L_162 rfl rfl rfl cwV_X10_units ⟨Nat.le_of_ble_eq_true rfl, Nat.le_of_ble_eq_true rfl⟩) (jp_V hKK hS hAb (CW.recv hKK hC (kw_P (cs := []) hP)) (kw_P (cs := []) hP)) rfl rfl hl.1 rfl (lv_room (Nat.le_of_ble_eq_true rfl)) dL_isCompared_363 ⟨by show _ ≤ 800; omega, by show _ ≤ 4800; omega⟩) (fun z363 hz363 => ?_)
            have hz363 : z363 = (nU (wD S []) : Int) := hz363
            subst hz363
            refine jr_iconst hx hb dL_isCompared_366 ?_
            refine kl_Qi (cs := []) (vx_runSW (As := [.ref o, vi 0, vi (nU (wD S []) : Int), vi 0]) (rest := []) ⟨hx, hb, hml, hown, htl⟩ (m_L_ask_cost l hsT g o (wD S []) w351 hC H.size (nU (wD S []) : Int) ⟨by omega, by omega⟩ 0) (vx_cwSW 4 htl lkH_L_ask rfl rfl rfl cwS_L_ask ⟨Nat.le_of_ble_eq_true rfl, Nat.le_of_ble_eq_true rfl⟩) (jp_S hKK hS hAb ⟨rfl, (kw_P (cs := []) hP), hD.weaken (fun _ q _ h => hAb _ h)⟩) rfl rfl hl.1 rfl (lv_room (Nat.le_of_ble_eq_true rfl)) dL_isCompared_367 ⟨by show _ ≤ 800; omega, by show _ ≤ 4800; omega⟩) hP hD hS hA ?_
            clear hP hD hS hC; intro z367 H locs w367 hz367 hC hP hD hS
            have hP : PP g w367 H := hP
            have hD : va_D A w367 := hD
            refine W.widen (k := ((181 + 15 * i) + 9)) (n := ((1086 + 90 * i) + 54)) (by omega) (by omega) ?_
            have hz367 : z367 = -2005 := hz367.trans (aqUx (Nat.le_refl _))
            subst hz367
            refine jr_sipush hx hb dL_isCompared_370 (by decide) ?_
            refine jr_ne (tgt := 380) hx hb dL_isCompared_373 (by decide) ⟨by omega, by omega⟩ ⟨by omega, by omega⟩ (fun c373 => absurd c373 (by omega)) (fun c373 => ?_)
            refine jr_iconst hx hb dL_isCompared_376 ?_
            refine lv_goto (tgt := 381) hx hb dL_isCompared_377 (by decide) ?_
            refine W.widen (k := 800) (n := 4800) (by omega) (by omega) ?_
            exact je_Qi hx hb hr hlk (nz_b (by omega)).1 hS ⟨rfl, w367, hC, (kw_P (cs := []) hP), hD⟩ dL_isCompared_381
          · refine jr_sipush hx hb dL_isCompared_315 (by decide) ?_
            refine lv_goto (tgt := 323) hx hb dL_isCompared_318 (by decide) ?_
            refine jr_ne (tgt := 330) hx hb dL_isCompared_323 (by decide) ⟨by omega, by omega⟩ ⟨by omega, by omega⟩ (fun c323 => absurd c323 (by omega)) (fun c323 => ?_)
            refine jr_iconst hx hb dL_isCompared_326 ?_
            refine lv_goto (tgt := 331) hx hb dL_isCompared_327 (by decide) ?_
            refine lv_istore_n (lv' := [(3, vi 1), (7, vi (i : Int)), (6, vi bl), (5, vi bs), (4, vi b), (0, .ref o), (1, .ref a1), (2, .ref aQ)]) hx hb dL_isCompared_331 rfl hl (by decide) rfl (fun ls hl => ?_)
            refine lv_iload_n hx hb dL_isCompared_332 rfl (lv_at hl 0 rfl) ?_
            refine jr_ifeq (tgt := 380) hx hb dL_isCompared_333 (by decide) ⟨by omega, by omega⟩ (fun c333 => absurd c333 (by omega)) (fun c333 => ?_)
            have hnU2 : nU (wD S []) = nU S := rfl
            refine lv_aload_n hx hb dL_isCompared_336 rfl (lv_at hl 5 rfl) ?_
            refine kl_Qi (cs := []) (va_runV (As := []) (rest := []) ⟨hx, hb, hml, hown, htl⟩ (m_X10_clear l hsT g o (wD S x1) w306 hC H.size) (cwV 0 htl lk_L_149 rfl rfl rfl cwV_X10_clear ⟨Nat.le_of_ble_eq_true rfl, Nat.le_of_ble_eq_true rfl⟩) (jp_V hKK hS hAb (CW.recv hKK hC (kw_P (cs := []) hP)) ⟨rfl, (kw_P (cs := []) hP), hD.weaken (fun _ q _ h => hAb _ h)⟩) rfl rfl hl.1 rfl (lv_room (Nat.le_of_ble_eq_true rfl)) dL_isCompared_337 ⟨by show _ ≤ 800; omega, by show _ ≤ 4800; omega⟩) hP hD hS hA ?_
            clear hP hD hS hC; intro z337 H locs w337 hz337 hC hP hD hS
            have hP : PP g w337 H := hP
            have hD : va_D A w337 := hD
            refine W.widen (k := ((181 + 15 * i) + 5)) (n := ((1086 + 90 * i) + 30)) (by omega) (by omega) ?_
            have hC : CW g o (wD S []) w337 := hC
            have hz337 : z337 = (x1.length : Int) := hz337
            subst hz337
            refine lv_aload_n hx hb dL_isCompared_340 rfl (lv_at hl 6 rfl) ?_
            refine jr_iconst hx hb dL_isCompared_341 ?_
            refine jr_iald hx hb hKK.k (jat hP1 hS ap_hP1) 0 rfl 0 rfl (by omega) (by omega) dL_isCompared_342 ?_
            refine jr_nm (b := (x1.length : Int)) (by rw [hx1.n]) ?_
            refine jr_ne (tgt := 380) hx hb dL_isCompared_343 (by decide) ⟨by omega, by omega⟩ ⟨by omega, by omega⟩ (fun c343 => absurd c343 (by omega)) (fun c343 => ?_)
            refine lv_aload_n hx hb dL_isCompared_346 rfl (lv_at hl 5 rfl) ?_
            refine jr_bipush hx hb dL_isCompared_347 (by decide) ?_
            refine jr_iconst hx hb dL_isCompared_349 ?_
            refine jr_iconst hx hb dL_isCompared_350 ?_
            refine kl_Qi (cs := []) (vx_runSW (As := [.ref o, vi 6, vi 0, vi 0]) (rest := []) ⟨hx, hb, hml, hown, htl⟩ (m_L_ask_best l hsT g o (wD S []) w337 hC H.size 0 0) (vx_cwSW 4 htl lkH_L_ask rfl rfl rfl cwS_L_ask ⟨Nat.le_of_ble_eq_true rfl, Nat.le_of_ble_eq_true rfl⟩) (jp_S hKK hS hAb ⟨rfl, (kw_P (cs := []) hP), hD.weaken (fun _ q _ h => hAb _ h)⟩) rfl rfl hl.1 rfl (lv_room (Nat.le_of_ble_eq_true rfl)) dL_isCompared_351 ⟨by show _ ≤ 800; omega, by show _ ≤ 4800; omega⟩) hP hD hS hA ?_
            clear hP hD hS hC; intro z351 H locs w351 hz351 hC hP hD hS
            have hP : PP g w351 H := hP
            have hD : va_D A w351 := hD
            refine W.widen (k := ((181 + 15 * i) + 7)) (n := ((1086 + 90 * i) + 42)) (by omega) (by omega) ?_
            have hz351 : z351 = -2003 := hz351.trans (aq6x rfl)
            subst hz351
            refine jr_sipush hx hb dL_isCompared_354 (by decide) ?_
            refine jr_ne (tgt := 380) hx hb dL_isCompared_357 (by decide) ⟨by omega, by omega⟩ ⟨by omega, by omega⟩ (fun c357 => absurd c357 (by omega)) (fun c357 => ?_)
            refine lv_aload_n hx hb dL_isCompared_360 rfl (lv_at hl 5 rfl) ?_
            refine jr_iconst hx hb dL_isCompared_361 ?_
            refine lv_aload_n hx hb dL_isCompared_362 rfl (lv_at hl 5 rfl) ?_
            refine jk_Si (va_runV (As := []) (rest := [vi 0, .ref o]) ⟨hx, hb, hml, hown, htl⟩ (m_X10_units l hsT g o (wD S []) w351 hC ) (cwV 0 htl lk_L_162 rfl rfl rfl cwV_X10_units ⟨Nat.le_of_ble_eq_true rfl, Nat.le_of_ble_eq_true rfl⟩) (jp_V hKK hS hAb (CW.recv hKK hC (kw_P (cs := []) hP)) (kw_P (cs := []) hP)) rfl rfl hl.1 rfl (lv_room (Nat.le_of_ble_eq_true rfl)) dL_isCompared_363 ⟨by show _ ≤ 800; omega, by show _ ≤ 4800; omega⟩) (fun z363 hz363 => ?_)
            have hz363 : z363 = (nU (wD S []) : Int) := hz363
            subst hz363
            refine jr_iconst hx hb dL_isCompared_366 ?_
            refine kl_Qi (cs := []) (vx_runSW (As := [.ref o, vi 0, vi (nU (wD S []) : Int), vi 0]) (rest := []) ⟨hx, hb, hml, hown, htl⟩ (m_L_ask_cost l hsT g o (wD S []) w351 hC H.size (nU (wD S []) : Int) ⟨by omega, by omega⟩ 0) (vx_cwSW 4 htl lkH_L_ask rfl rfl rfl cwS_L_ask ⟨Nat.le_of_ble_eq_true rfl, Nat.le_of_ble_eq_true rfl⟩) (jp_S hKK hS hAb ⟨rfl, (kw_P (cs := []) hP), hD.weaken (fun _ q _ h => hAb _ h)⟩) rfl rfl hl.1 rfl (lv_room (Nat.le_of_ble_eq_true rfl)) dL_isCompared_367 ⟨by show _ ≤ 800; omega, by show _ ≤ 4800; omega⟩) hP hD hS hA ?_
            clear hP hD hS hC; intro z367 H locs w367 hz367 hC hP hD hS
            have hP : PP g w367 H := hP
            have hD : va_D A w367 := hD
            refine W.widen (k := ((181 + 15 * i) + 9)) (n := ((1086 + 90 * i) + 54)) (by omega) (by omega) ?_
            have hz367 : z367 = -2005 := hz367.trans (aqUx (Nat.le_refl _))
            subst hz367
            refine jr_sipush hx hb dL_isCompared_370 (by decide) ?_
            refine jr_ne (tgt := 380) hx hb dL_isCompared_373 (by decide) ⟨by omega, by omega⟩ ⟨by omega, by omega⟩ (fun c373 => absurd c373 (by omega)) (fun c373 => ?_)
            refine jr_iconst hx hb dL_isCompared_376 ?_
            refine lv_goto (tgt := 381) hx hb dL_isCompared_377 (by decide) ?_
            refine W.widen (k := 800) (n := 4800) (by omega) (by omega) ?_
            exact je_Qi hx hb hr hlk (nz_b (by omega)).1 hS ⟨rfl, w367, hC, (kw_P (cs := []) hP), hD⟩ dL_isCompared_381
        · refine jr_sipush hx hb dL_isCompared_290 (by decide) ?_
          refine lv_goto (tgt := 298) hx hb dL_isCompared_293 (by decide) ?_
          refine jr_ne (tgt := 330) hx hb dL_isCompared_298 (by decide) ⟨by omega, by omega⟩ ⟨by omega, by omega⟩ (fun c298 => absurd c298 (by omega)) (fun c298 => ?_)
          refine lv_aload_n hx hb dL_isCompared_301 rfl (lv_at hl 5 rfl) ?_
          refine jr_bipush hx hb dL_isCompared_302 (by decide) ?_
          refine jr_iconst hx hb dL_isCompared_304 ?_
          refine jr_iconst hx hb dL_isCompared_305 ?_
          refine kl_Qi (cs := []) (vx_runSW (As := [.ref o, vi 7, vi 0, vi 0]) (rest := []) ⟨hx, hb, hml, hown, htl⟩ (m_L_ask_bestOfAll l hsT g o (wD S x1) w281 hC H.size 0 0) (vx_cwSW 4 htl lkH_L_ask rfl rfl rfl cwS_L_ask ⟨Nat.le_of_ble_eq_true rfl, Nat.le_of_ble_eq_true rfl⟩) (jp_S hKK hS hAb ⟨rfl, (kw_P (cs := []) hP), hD.weaken (fun _ q _ h => hAb _ h)⟩) rfl rfl hl.1 rfl (lv_room (Nat.le_of_ble_eq_true rfl)) dL_isCompared_306 ⟨by show _ ≤ 800; omega, by show _ ≤ 4800; omega⟩) hP hD hS hA ?_
          clear hP hD hS hC; intro z306 H locs w306 hz306 hC hP hD hS
          have hP : PP g w306 H := hP
          have hD : va_D A w306 := hD
          refine W.widen (k := ((181 + 15 * i) + 4)) (n := ((1086 + 90 * i) + 24)) (by omega) (by omega) ?_
          have hz306 := best_f (hz306.trans (aq6 (S := wD S x1) (by show ¬ x1.length = 0; omega))) hbe
          refine lv_iload hx hb dL_isCompared_309 (lv_at hl 3 rfl) ?_
          refine jr_iconst hx hb dL_isCompared_311 ?_
          refine jr_ne (tgt := 321) hx hb dL_isCompared_312 (by decide) ⟨by omega, by omega⟩ ⟨by omega, by omega⟩ (fun c312 => ?_) (fun c312 => ?_)
          · refine lv_iload hx hb dL_isCompared_321 (lv_at hl 3 rfl) ?_
            refine jr_ne (tgt := 330) hx hb dL_isCompared_323 (by decide) ⟨by omega, by omega⟩ ⟨by omega, by omega⟩ (fun c323 => absurd c323 (by omega)) (fun c323 => ?_)
            refine jr_iconst hx hb dL_isCompared_326 ?_
            refine lv_goto (tgt := 331) hx hb dL_isCompared_327 (by decide) ?_
            refine lv_istore_n (lv' := [(3, vi 1), (7, vi (i : Int)), (6, vi bl), (5, vi bs), (4, vi b), (0, .ref o), (1, .ref a1), (2, .ref aQ)]) hx hb dL_isCompared_331 rfl hl (by decide) rfl (fun ls hl => ?_)
            refine lv_iload_n hx hb dL_isCompared_332 rfl (lv_at hl 0 rfl) ?_
            refine jr_ifeq (tgt := 380) hx hb dL_isCompared_333 (by decide) ⟨by omega, by omega⟩ (fun c333 => absurd c333 (by omega)) (fun c333 => ?_)
            have hnU2 : nU (wD S []) = nU S := rfl
            refine lv_aload_n hx hb dL_isCompared_336 rfl (lv_at hl 5 rfl) ?_
            refine kl_Qi (cs := []) (va_runV (As := []) (rest := []) ⟨hx, hb, hml, hown, htl⟩ (m_X10_clear l hsT g o (wD S x1) w306 hC H.size) (cwV 0 htl lk_L_149 rfl rfl rfl cwV_X10_clear ⟨Nat.le_of_ble_eq_true rfl, Nat.le_of_ble_eq_true rfl⟩) (jp_V hKK hS hAb (CW.recv hKK hC (kw_P (cs := []) hP)) ⟨rfl, (kw_P (cs := []) hP), hD.weaken (fun _ q _ h => hAb _ h)⟩) rfl rfl hl.1 rfl (lv_room (Nat.le_of_ble_eq_true rfl)) dL_isCompared_337 ⟨by show _ ≤ 800; omega, by show _ ≤ 4800; omega⟩) hP hD hS hA ?_
            clear hP hD hS hC; intro z337 H locs w337 hz337 hC hP hD hS
            have hP : PP g w337 H := hP
            have hD : va_D A w337 := hD
            refine W.widen (k := ((181 + 15 * i) + 5)) (n := ((1086 + 90 * i) + 30)) (by omega) (by omega) ?_
            have hC : CW g o (wD S []) w337 := hC
            have hz337 : z337 = (x1.length : Int) := hz337
            subst hz337
            refine lv_aload_n hx hb dL_isCompared_340 rfl (lv_at hl 6 rfl) ?_
            refine jr_iconst hx hb dL_isCompared_341 ?_
            refine jr_iald hx hb hKK.k (jat hP1 hS ap_hP1) 0 rfl 0 rfl (by omega) (by omega) dL_isCompared_342 ?_
            refine jr_nm (b := (x1.length : Int)) (by rw [hx1.n]) ?_
            refine jr_ne (tgt := 380) hx hb dL_isCompared_343 (by decide) ⟨by omega, by omega⟩ ⟨by omega, by omega⟩ (fun c343 => absurd c343 (by omega)) (fun c343 => ?_)
            refine lv_aload_n hx hb dL_isCompared_346 rfl (lv_at hl 5 rfl) ?_
            refine jr_bipush hx hb dL_isCompared_347 (by decide) ?_
            refine jr_iconst hx hb dL_isCompared_349 ?_
            refine jr_iconst hx hb dL_isCompared_350 ?_
            refine kl_Qi (cs := []) (vx_runSW (As := [.ref o, vi 6, vi 0, vi 0]) (rest := []) ⟨hx, hb, hml, hown, htl⟩ (m_L_ask_best l hsT g o (wD S []) w337 hC H.size 0 0) (vx_cwSW 4 htl lkH_L_ask rfl rfl rfl cwS_L_ask ⟨Nat.le_of_ble_eq_true rfl, Nat.le_of_ble_eq_true rfl⟩) (jp_S hKK hS hAb ⟨rfl, (kw_P (cs := []) hP), hD.weaken (fun _ q _ h => hAb _ h)⟩) rfl rfl hl.1 rfl (lv_room (Nat.le_of_ble_eq_true rfl)) dL_isCompared_351 ⟨by show _ ≤ 800; omega, by show _ ≤ 4800; omega⟩) hP hD hS hA ?_
            clear hP hD hS hC; intro z351 H locs w351 hz351 hC hP hD hS
            have hP : PP g w351 H := hP
            have hD : va_D A w351 := hD
            refine W.widen (k := ((181 + 15 * i) + 7)) (n := ((1086 + 90 * i) + 42)) (by omega) (by omega) ?_
            have hz351 : z351 = -2003 := hz351.trans (aq6x rfl)
            subst hz351
            refine jr_sipush hx hb dL_isCompared_354 (by decide) ?_
            refine jr_ne (tgt := 380) hx hb dL_isCompared_357 (by decide) ⟨by omega, by omega⟩ ⟨by omega, by omega⟩ (fun c357 => absurd c357 (by omega)) (fun c357 => ?_)
            refine lv_aload_n hx hb dL_isCompared_360 rfl (lv_at hl 5 rfl) ?_
            refine jr_iconst hx hb dL_isCompared_361 ?_
            refine lv_aload_n hx hb dL_isCompared_362 rfl (lv_at hl 5 rfl) ?_
            refine jk_Si (va_runV (As := []) (rest := [vi 0, .ref o]) ⟨hx, hb, hml, hown, htl⟩ (m_X10_units l hsT g o (wD S []) w351 hC ) (cwV 0 htl lk_L_162 rfl rfl rfl cwV_X10_units ⟨Nat.le_of_ble_eq_true rfl, Nat.le_of_ble_eq_true rfl⟩) (jp_V hKK hS hAb (CW.recv hKK hC (kw_P (cs := []) hP)) (kw_P (cs := []) hP)) rfl rfl hl.1 rfl (lv_room (Nat.le_of_ble_eq_true rfl)) dL_isCompared_363 ⟨by show _ ≤ 800; omega, by show _ ≤ 4800; omega⟩) (fun z363 hz363 => ?_)
            have hz363 : z363 = (nU (wD S []) : Int) := hz363
            subst hz363
            refine jr_iconst hx hb dL_isCompared_366 ?_
            refine kl_Qi (cs := []) (vx_runSW (As := [.ref o, vi 0, vi (nU (wD S []) : Int), vi 0]) (rest := []) ⟨hx, hb, hml, hown, htl⟩ (m_L_ask_cost l hsT g o (wD S []) w351 hC H.size (nU (wD S []) : Int) ⟨by omega, by omega⟩ 0) (vx_cwSW 4 htl lkH_L_ask rfl rfl rfl cwS_L_ask ⟨Nat.le_of_ble_eq_true rfl, Nat.le_of_ble_eq_true rfl⟩) (jp_S hKK hS hAb ⟨rfl, (kw_P (cs := []) hP), hD.weaken (fun _ q _ h => hAb _ h)⟩) rfl rfl hl.1 rfl (lv_room (Nat.le_of_ble_eq_true rfl)) dL_isCompared_367 ⟨by show _ ≤ 800; omega, by show _ ≤ 4800; omega⟩) hP hD hS hA ?_
            clear hP hD hS hC; intro z367 H locs w367 hz367 hC hP hD hS
            have hP : PP g w367 H := hP
            have hD : va_D A w367 := hD
            refine W.widen (k := ((181 + 15 * i) + 9)) (n := ((1086 + 90 * i) + 54)) (by omega) (by omega) ?_
            have hz367 : z367 = -2005 := hz367.trans (aqUx (Nat.le_refl _))
            subst hz367
            refine jr_sipush hx hb dL_isCompared_370 (by decide) ?_
            refine jr_ne (tgt := 380) hx hb dL_isCompared_373 (by decide) ⟨by omega, by omega⟩ ⟨by omega, by omega⟩ (fun c373 => absurd c373 (by omega)) (fun c373 => ?_)
            refine jr_iconst hx hb dL_isCompared_376 ?_
            refine lv_goto (tgt := 381) hx hb dL_isCompared_377 (by decide) ?_
            refine W.widen (k := 800) (n := 4800) (by omega) (by omega) ?_
            exact je_Qi hx hb hr hlk (nz_b (by omega)).1 hS ⟨rfl, w367, hC, (kw_P (cs := []) hP), hD⟩ dL_isCompared_381
          · refine jr_sipush hx hb dL_isCompared_315 (by decide) ?_
            refine lv_goto (tgt := 323) hx hb dL_isCompared_318 (by decide) ?_
            refine jr_ne (tgt := 330) hx hb dL_isCompared_323 (by decide) ⟨by omega, by omega⟩ ⟨by omega, by omega⟩ (fun c323 => absurd c323 (by omega)) (fun c323 => ?_)
            refine jr_iconst hx hb dL_isCompared_326 ?_
            refine lv_goto (tgt := 331) hx hb dL_isCompared_327 (by decide) ?_
            refine lv_istore_n (lv' := [(3, vi 1), (7, vi (i : Int)), (6, vi bl), (5, vi bs), (4, vi b), (0, .ref o), (1, .ref a1), (2, .ref aQ)]) hx hb dL_isCompared_331 rfl hl (by decide) rfl (fun ls hl => ?_)
            refine lv_iload_n hx hb dL_isCompared_332 rfl (lv_at hl 0 rfl) ?_
            refine jr_ifeq (tgt := 380) hx hb dL_isCompared_333 (by decide) ⟨by omega, by omega⟩ (fun c333 => absurd c333 (by omega)) (fun c333 => ?_)
            have hnU2 : nU (wD S []) = nU S := rfl
            refine lv_aload_n hx hb dL_isCompared_336 rfl (lv_at hl 5 rfl) ?_
            refine kl_Qi (cs := []) (va_runV (As := []) (rest := []) ⟨hx, hb, hml, hown, htl⟩ (m_X10_clear l hsT g o (wD S x1) w306 hC H.size) (cwV 0 htl lk_L_149 rfl rfl rfl cwV_X10_clear ⟨Nat.le_of_ble_eq_true rfl, Nat.le_of_ble_eq_true rfl⟩) (jp_V hKK hS hAb (CW.recv hKK hC (kw_P (cs := []) hP)) ⟨rfl, (kw_P (cs := []) hP), hD.weaken (fun _ q _ h => hAb _ h)⟩) rfl rfl hl.1 rfl (lv_room (Nat.le_of_ble_eq_true rfl)) dL_isCompared_337 ⟨by show _ ≤ 800; omega, by show _ ≤ 4800; omega⟩) hP hD hS hA ?_
            clear hP hD hS hC; intro z337 H locs w337 hz337 hC hP hD hS
            have hP : PP g w337 H := hP
            have hD : va_D A w337 := hD
            refine W.widen (k := ((181 + 15 * i) + 5)) (n := ((1086 + 90 * i) + 30)) (by omega) (by omega) ?_
            have hC : CW g o (wD S []) w337 := hC
            have hz337 : z337 = (x1.length : Int) := hz337
            subst hz337
            refine lv_aload_n hx hb dL_isCompared_340 rfl (lv_at hl 6 rfl) ?_
            refine jr_iconst hx hb dL_isCompared_341 ?_
            refine jr_iald hx hb hKK.k (jat hP1 hS ap_hP1) 0 rfl 0 rfl (by omega) (by omega) dL_isCompared_342 ?_
            refine jr_nm (b := (x1.length : Int)) (by rw [hx1.n]) ?_
            refine jr_ne (tgt := 380) hx hb dL_isCompared_343 (by decide) ⟨by omega, by omega⟩ ⟨by omega, by omega⟩ (fun c343 => absurd c343 (by omega)) (fun c343 => ?_)
            refine lv_aload_n hx hb dL_isCompared_346 rfl (lv_at hl 5 rfl) ?_
            refine jr_bipush hx hb dL_isCompared_347 (by decide) ?_
            refine jr_iconst hx hb dL_isCompared_349 ?_
            refine jr_iconst hx hb dL_isCompared_350 ?_
            refine kl_Qi (cs := []) (vx_runSW (As := [.ref o, vi 6, vi 0, vi 0]) (rest := []) ⟨hx, hb, hml, hown, htl⟩ (m_L_ask_best l hsT g o (wD S []) w337 hC H.size 0 0) (vx_cwSW 4 htl lkH_L_ask rfl rfl rfl cwS_L_ask ⟨Nat.le_of_ble_eq_true rfl, Nat.le_of_ble_eq_true rfl⟩) (jp_S hKK hS hAb ⟨rfl, (kw_P (cs := []) hP), hD.weaken (fun _ q _ h => hAb _ h)⟩) rfl rfl hl.1 rfl (lv_room (Nat.le_of_ble_eq_true rfl)) dL_isCompared_351 ⟨by show _ ≤ 800; omega, by show _ ≤ 4800; omega⟩) hP hD hS hA ?_
            clear hP hD hS hC; intro z351 H locs w351 hz351 hC hP hD hS
            have hP : PP g w351 H := hP
            have hD : va_D A w351 := hD
            refine W.widen (k := ((181 + 15 * i) + 7)) (n := ((1086 + 90 * i) + 42)) (by omega) (by omega) ?_
            have hz351 : z351 = -2003 := hz351.trans (aq6x rfl)
            subst hz351
            refine jr_sipush hx hb dL_isCompared_354 (by decide) ?_
            refine jr_ne (tgt := 380) hx hb dL_isCompared_357 (by decide) ⟨by omega, by omega⟩ ⟨by omega, by omega⟩ (fun c357 => absurd c357 (by omega)) (fun c357 => ?_)
            refine lv_aload_n hx hb dL_isCompared_360 rfl (lv_at hl 5 rfl) ?_
            refine jr_iconst hx hb dL_isCompared_361 ?_
            refine lv_aload_n hx hb dL_isCompared_362 rfl (lv_at hl 5 rfl) ?_
            refine jk_Si (va_runV (As := []) (rest := [vi 0, .ref o]) ⟨hx, hb, hml, hown, htl⟩ (m_X10_units l hsT g o (wD S []) w351 hC ) (cwV 0 htl lk_L_162 rfl rfl rfl cwV_X10_units ⟨Nat.le_of_ble_eq_true rfl, Nat.le_of_ble_eq_true rfl⟩) (jp_V hKK hS hAb (CW.recv hKK hC (kw_P (cs := []) hP)) (kw_P (cs := []) hP)) rfl rfl hl.1 rfl (lv_room (Nat.le_of_ble_eq_true rfl)) dL_isCompared_363 ⟨by show _ ≤ 800; omega, by show _ ≤ 4800; omega⟩) (fun z363 hz363 => ?_)
            have hz363 : z363 = (nU (wD S []) : Int) := hz363
            subst hz363
            refine jr_iconst hx hb dL_isCompared_366 ?_
            refine kl_Qi (cs := []) (vx_runSW (As := [.ref o, vi 0, vi (nU (wD S []) : Int), vi 0]) (rest := []) ⟨hx, hb, hml, hown, htl⟩ (m_L_ask_cost l hsT g o (wD S []) w351 hC H.size (nU (wD S []) : Int) ⟨by omega, by omega⟩ 0) (vx_cwSW 4 htl lkH_L_ask rfl rfl rfl cwS_L_ask ⟨Nat.le_of_ble_eq_true rfl, Nat.le_of_ble_eq_true rfl⟩) (jp_S hKK hS hAb ⟨rfl, (kw_P (cs := []) hP), hD.weaken (fun _ q _ h => hAb _ h)⟩) rfl rfl hl.1 rfl (lv_room (Nat.le_of_ble_eq_true rfl)) dL_isCompared_367 ⟨by show _ ≤ 800; omega, by show _ ≤ 4800; omega⟩) hP hD hS hA ?_
            clear hP hD hS hC; intro z367 H locs w367 hz367 hC hP hD hS
            have hP : PP g w367 H := hP
            have hD : va_D A w367 := hD
            refine W.widen (k := ((181 + 15 * i) + 9)) (n := ((1086 + 90 * i) + 54)) (by omega) (by omega) ?_
            have hz367 : z367 = -2005 := hz367.trans (aqUx (Nat.le_refl _))
            subst hz367
            refine jr_sipush hx hb dL_isCompared_370 (by decide) ?_
            refine jr_ne (tgt := 380) hx hb dL_isCompared_373 (by decide) ⟨by omega, by omega⟩ ⟨by omega, by omega⟩ (fun c373 => absurd c373 (by omega)) (fun c373 => ?_)
            refine jr_iconst hx hb dL_isCompared_376 ?_
            refine lv_goto (tgt := 381) hx hb dL_isCompared_377 (by decide) ?_
            refine W.widen (k := 800) (n := 4800) (by omega) (by omega) ?_
            exact je_Qi hx hb hr hlk (nz_b (by omega)).1 hS ⟨rfl, w367, hC, (kw_P (cs := []) hP), hD⟩ dL_isCompared_381
      · refine lv_iload_n hx hb dL_isCompared_27 rfl (lv_at hl 4 rfl) ?_
        refine jr_ifeq (tgt := 272) hx hb dL_isCompared_28 (by decide) ⟨by omega, by omega⟩ (fun c28 => absurd c28 (by omega)) (fun c28 => ?_)
        have hqi := hsrc i (by show i < nU S; omega)
        have hct : CT (uS S i).1 := (CW.uct hC i).1
        have hcm := cmp_all (tm := S.2.2.2.2.1) (y := (uS S i).1) hw hxc hct h1 (uS S i) rfl
        refine lv_aload_n hx hb dL_isCompared_31 rfl (lv_at hl 5 rfl) ?_
        refine jr_iconst hx hb dL_isCompared_32 ?_
        refine lv_iload hx hb dL_isCompared_33 (lv_at hl 0 rfl) ?_
        refine jr_iconst hx hb dL_isCompared_35 ?_
        refine kl_Qi (cs := []) (vx_runSW (As := [.ref o, vi 0, vi (i : Int), vi 0]) (rest := []) ⟨hx, hb, hml, hown, htl⟩ (m_L_ask_cost l hsT g o (wD S x1) w18 hC H.size (i : Int) ⟨by omega, by omega⟩ 0) (vx_cwSW 4 htl lkH_L_ask rfl rfl rfl cwS_L_ask ⟨Nat.le_of_ble_eq_true rfl, Nat.le_of_ble_eq_true rfl⟩) (jp_S hKK hS hAb ⟨rfl, (kw_P (cs := []) hP), hD.weaken (fun _ q _ h => hAb _ h)⟩) rfl rfl hl.1 rfl (lv_room (Nat.le_of_ble_eq_true rfl)) dL_isCompared_36 ⟨by show _ ≤ 800; omega, by show _ ≤ 4800; omega⟩) hP hD hS hA ?_
        clear hP hD hS hC; intro z36 H locs w36 hz36 hC hP hD hS
        have hP : PP g w36 H := hP
        have hD : va_D A w36 := hD
        refine W.widen (k := ((181 + 15 * i) + 2)) (n := ((1086 + 90 * i) + 12)) (by omega) (by omega) ?_
        replace hz36 : z36 = ed S.2.2.2.1 x1 (uS S i).1 := hz36.trans ((aqU (S := wD S x1) (i := i) (by show i < nU S; omega) (by show ¬ x1.length = 0; omega)).trans hcm.1)
        refine lv_istore (lv' := [(8, vi z36), (7, vi (i : Int)), (6, vi bl), (5, vi bs), (4, vi b), (3, vi 1), (0, .ref o), (1, .ref a1), (2, .ref aQ)]) hx hb dL_isCompared_39 hl (by decide) rfl (fun ls hl => ?_)
        refine lv_aload_n hx hb dL_isCompared_41 rfl (lv_at hl 6 rfl) ?_
        refine jr_iconst hx hb dL_isCompared_42 ?_
        refine lv_iload hx hb dL_isCompared_43 (lv_at hl 1 rfl) ?_
        refine jr_iconst hx hb dL_isCompared_45 ?_
        refine kl_Qi (cs := []) (vx_runSW (As := [.ref o, vi 2, vi (i : Int), vi 0]) (rest := []) ⟨hx, hb, hml, hown, htl⟩ (m_L_ask_likeness l hsT g o (wD S x1) w36 hC H.size (i : Int) ⟨by omega, by omega⟩ 0) (vx_cwSW 4 htl lkH_L_ask rfl rfl rfl cwS_L_ask ⟨Nat.le_of_ble_eq_true rfl, Nat.le_of_ble_eq_true rfl⟩) (jp_S hKK hS hAb ⟨rfl, (kw_P (cs := []) hP), hD.weaken (fun _ q _ h => hAb _ h)⟩) rfl rfl hl.1 rfl (lv_room (Nat.le_of_ble_eq_true rfl)) dL_isCompared_46 ⟨by show _ ≤ 800; omega, by show _ ≤ 4800; omega⟩) hP hD hS hA ?_
        clear hP hD hS hC; intro z46 H locs w46 hz46 hC hP hD hS
        have hP : PP g w46 H := hP
        have hD : va_D A w46 := hD
        refine W.widen (k := ((181 + 15 * i) + 4)) (n := ((1086 + 90 * i) + 24)) (by omega) (by omega) ?_
        replace hz46 : z46 = lk S.2.2.2.1 x1 (uS S i).1 := hz46.trans (aqU (S := wD S x1) (i := i) (by show i < nU S; omega) (by show ¬ x1.length = 0; omega))
        refine lv_istore (lv' := [(9, vi z46), (8, vi z36), (7, vi (i : Int)), (6, vi bl), (5, vi bs), (4, vi b), (3, vi 1), (0, .ref o), (1, .ref a1), (2, .ref aQ)]) hx hb dL_isCompared_49 hl (by decide) rfl (fun ls hl => ?_)
        refine lv_aload_n hx hb dL_isCompared_51 rfl (lv_at hl 7 rfl) ?_
        refine jr_iconst hx hb dL_isCompared_52 ?_
        refine lv_iload hx hb dL_isCompared_53 (lv_at hl 2 rfl) ?_
        refine jr_iconst hx hb dL_isCompared_55 ?_
        refine kl_Qi (cs := []) (vx_runSW (As := [.ref o, vi 3, vi (i : Int), vi 0]) (rest := []) ⟨hx, hb, hml, hown, htl⟩ (m_L_ask_missing l hsT g o (wD S x1) w46 hC H.size (i : Int) ⟨by omega, by omega⟩ 0) (vx_cwSW 4 htl lkH_L_ask rfl rfl rfl cwS_L_ask ⟨Nat.le_of_ble_eq_true rfl, Nat.le_of_ble_eq_true rfl⟩) (jp_S hKK hS hAb ⟨rfl, (kw_P (cs := []) hP), hD.weaken (fun _ q _ h => hAb _ h)⟩) rfl rfl hl.1 rfl (lv_room (Nat.le_of_ble_eq_true rfl)) dL_isCompared_56 ⟨by show _ ≤ 800; omega, by show _ ≤ 4800; omega⟩) hP hD hS hA ?_
        clear hP hD hS hC; intro z56 H locs w56 hz56 hC hP hD hS
        have hP : PP g w56 H := hP
        have hD : va_D A w56 := hD
        refine W.widen (k := ((181 + 15 * i) + 6)) (n := ((1086 + 90 * i) + 36)) (by omega) (by omega) ?_
        replace hz56 : z56 = ms S.2.2.2.2.1 x1 (uS S i).2.1 := hz56.trans (aqU (S := wD S x1) (i := i) (by show i < nU S; omega) (by show ¬ x1.length = 0; omega))
        have hms := ms_b S.2.2.2.2.1 x1 (uS S i).2.1 ht20
        refine lv_istore (lv' := [(10, vi z56), (9, vi z46), (8, vi z36), (7, vi (i : Int)), (6, vi bl), (5, vi bs), (4, vi b), (3, vi 1), (0, .ref o), (1, .ref a1), (2, .ref aQ)]) hx hb dL_isCompared_59 hl (by decide) rfl (fun ls hl => ?_)
        refine lv_aload_n hx hb dL_isCompared_61 rfl (lv_at hl 8 rfl) ?_
        refine jr_iconst hx hb dL_isCompared_62 ?_
        refine lv_iload hx hb dL_isCompared_63 (lv_at hl 3 rfl) ?_
        refine jr_iconst hx hb dL_isCompared_65 ?_
        refine kl_Qi (cs := []) (vx_runSW (As := [.ref o, vi 4, vi (i : Int), vi 0]) (rest := []) ⟨hx, hb, hml, hown, htl⟩ (m_L_ask_score l hsT g o (wD S x1) w56 hC H.size (i : Int) ⟨by omega, by omega⟩ 0) (vx_cwSW 4 htl lkH_L_ask rfl rfl rfl cwS_L_ask ⟨Nat.le_of_ble_eq_true rfl, Nat.le_of_ble_eq_true rfl⟩) (jp_S hKK hS hAb ⟨rfl, (kw_P (cs := []) hP), hD.weaken (fun _ q _ h => hAb _ h)⟩) rfl rfl hl.1 rfl (lv_room (Nat.le_of_ble_eq_true rfl)) dL_isCompared_66 ⟨by show _ ≤ 800; omega, by show _ ≤ 4800; omega⟩) hP hD hS hA ?_
        clear hP hD hS hC; intro z66 H locs w66 hz66 hC hP hD hS
        have hP : PP g w66 H := hP
        have hD : va_D A w66 := hD
        refine W.widen (k := ((181 + 15 * i) + 8)) (n := ((1086 + 90 * i) + 48)) (by omega) (by omega) ?_
        replace hz66 : z66 = rate S.2.2.2.1 S.2.2.2.2.1 x1 (uS S i) := hz66.trans (aqU (S := wD S x1) (i := i) (by show i < nU S; omega) (by show ¬ x1.length = 0; omega))
        refine lv_istore (lv' := [(11, vi z66), (10, vi z56), (9, vi z46), (8, vi z36), (7, vi (i : Int)), (6, vi bl), (5, vi bs), (4, vi b), (3, vi 1), (0, .ref o), (1, .ref a1), (2, .ref aQ)]) hx hb dL_isCompared_69 hl (by decide) rfl (fun ls hl => ?_)
        refine lv_iload hx hb dL_isCompared_71 (lv_at hl 3 rfl) ?_
        refine lv_aload_n hx hb dL_isCompared_73 rfl (lv_at hl 9 rfl) ?_
        refine jr_iconst hx hb dL_isCompared_74 ?_
        refine lv_iload hx hb dL_isCompared_75 (lv_at hl 4 rfl) ?_
        refine jr_iconst hx hb dL_isCompared_77 ?_
        refine kl_Qi (cs := []) (vx_runSW (As := [.ref o, vi 1, vi (i : Int), vi 0]) (rest := [vi z36]) ⟨hx, hb, hml, hown, htl⟩ (m_L_ask_costFromEnds l hsT g o (wD S x1) w66 hC H.size (i : Int) ⟨by omega, by omega⟩ 0) (vx_cwSW 4 htl lkH_L_ask rfl rfl rfl cwS_L_ask ⟨Nat.le_of_ble_eq_true rfl, Nat.le_of_ble_eq_true rfl⟩) (jp_S hKK hS hAb ⟨rfl, (kw_P (cs := []) hP), hD.weaken (fun _ q _ h => hAb _ h)⟩) rfl rfl hl.1 rfl (lv_room (Nat.le_of_ble_eq_true rfl)) dL_isCompared_78 ⟨by show _ ≤ 800; omega, by show _ ≤ 4800; omega⟩) hP hD hS hA ?_
        clear hP hD hS hC; intro z78 H locs w78 hz78 hC hP hD hS
        have hP : PP g w78 H := hP
        have hD : va_D A w78 := hD
        refine W.widen (k := ((181 + 15 * i) + 10)) (n := ((1086 + 90 * i) + 60)) (by omega) (by omega) ?_
        replace hz78 : z78 = ed S.2.2.2.1 x1 (uS S i).1 := hz78.trans (aqU (S := wD S x1) (i := i) (by show i < nU S; omega) (by show ¬ x1.length = 0; omega))
        obtain ⟨-, he2, he3, he4, he5, he6⟩ := hcm
        refine jr_ne (tgt := 178) hx hb dL_isCompared_81 (by decide) ⟨by omega, by omega⟩ ⟨by omega, by omega⟩ (fun c81 => absurd c81 (by omega)) (fun c81 => ?_)
        refine lv_iload hx hb dL_isCompared_84 (lv_at hl 3 rfl) ?_
        refine jr_ifne (tgt := 93) hx hb dL_isCompared_86 (by decide) ⟨by omega, by omega⟩ (fun c86 => ?_) (fun c86 => ?_)
        · refine jr_iconst hx hb dL_isCompared_93 ?_
          refine lv_aload_n hx hb dL_isCompared_94 rfl (lv_at hl 10 rfl) ?_
          refine lv_aload_n hx hb dL_isCompared_95 rfl (lv_at hl 11 rfl) ?_
          refine lv_iload hx hb dL_isCompared_96 (lv_at hl 4 rfl) ?_
          refine jr_qald hx hb hKK.k (jat hPQ hS ap_hPQ) 0 rfl i rfl (by omega) hqi.1 dL_isCompared_98 ?_
          have hPu : PP g [aI g (sa i) 61 (ff i)] s.heap := hPx.mem (fun q hq => by rw [List.mem_singleton.mp hq]; exact hqi.2.2.1)
          have ap_hPu : ∀ (k : Nat) (q : Nat × va_E), ([aI g (sa i) 61 (ff i)] : va_W)[k]? = some q → ¬ A q.1 := ap_mem ap_hPx (fun q hq => by rw [List.mem_singleton.mp hq]; exact hqi.2.2.1)
          refine jk_Si (va_runS (As := [.ref a1, .ref (sa i)]) (rest := [vi 0]) ⟨hx, hb, hml, hown, htl⟩ (m_L_areSame l g a1 (sa i) x1 (xs i) f1 (ff i) hx1 hqi.2.1) (va_cwS 2 htl lk_L_165 rfl rfl rfl cwS_L_areSame ⟨Nat.le_of_ble_eq_true rfl, Nat.le_of_ble_eq_true rfl⟩) (jp_S hKK hS hAb ⟨(jat hP1 hS ap_hP1), (jat hPu hS ap_hPu)⟩) rfl rfl hl.1 rfl (lv_room (Nat.le_of_ble_eq_true rfl)) dL_isCompared_99 ⟨by show _ ≤ 800; omega, by show _ ≤ 4800; omega⟩) (fun z99 hz99 => ?_)
          replace hz99 : z99 = i01 (x1 = (uS S i).1) := hz99.trans (by rw [hqi.2.2.2.1])
          refine jr_ne (tgt := 178) hx hb dL_isCompared_102 (by decide) ⟨by omega, by omega⟩ ⟨by omega, by omega⟩ (fun c102 => absurd c102 (by omega)) (fun c102 => ?_)
          refine lv_iload hx hb dL_isCompared_105 (lv_at hl 2 rfl) ?_
          refine jr_iflt (tgt := 178) hx hb dL_isCompared_107 (by decide) ⟨by omega, by omega⟩ (fun c107 => absurd c107 (by omega)) (fun c107 => ?_)
          refine lv_iload hx hb dL_isCompared_110 (lv_at hl 2 rfl) ?_
          refine jr_bipush hx hb dL_isCompared_112 (by decide) ?_
          refine jr_gt (tgt := 178) hx hb dL_isCompared_114 (by decide) ⟨by omega, by omega⟩ ⟨by omega, by omega⟩ (fun c114 => absurd c114 (by omega)) (fun c114 => ?_)
          refine lv_iload hx hb dL_isCompared_117 (lv_at hl 2 rfl) ?_
          refine jr_bipush hx hb dL_isCompared_119 (by decide) ?_
          refine jr_ne (tgt := 128) hx hb dL_isCompared_121 (by decide) ⟨by omega, by omega⟩ ⟨by omega, by omega⟩ (fun c121 => ?_) (fun c121 => absurd c121 (by omega))
          refine jr_iconst hx hb dL_isCompared_128 ?_
          refine lv_iload hx hb dL_isCompared_129 (lv_at hl 3 rfl) ?_
          refine jr_ifne (tgt := 138) hx hb dL_isCompared_131 (by decide) ⟨by omega, by omega⟩ (fun c131 => ?_) (fun c131 => absurd c131 (by omega))
          refine jr_iconst hx hb dL_isCompared_138 ?_
          refine jr_ne (tgt := 178) hx hb dL_isCompared_139 (by decide) ⟨by omega, by omega⟩ ⟨by omega, by omega⟩ (fun c139 => absurd c139 (by omega)) (fun c139 => ?_)
          refine lv_iload hx hb dL_isCompared_142 (lv_at hl 1 rfl) ?_
          refine jr_iflt (tgt := 178) hx hb dL_isCompared_144 (by decide) ⟨by omega, by omega⟩ (fun c144 => absurd c144 (by omega)) (fun c144 => ?_)
          refine lv_iload hx hb dL_isCompared_147 (lv_at hl 0 rfl) ?_
          refine lv_iload hx hb dL_isCompared_149 (lv_at hl 2 rfl) ?_
          refine jr_bipush hx hb dL_isCompared_151 (by decide) ?_
          refine lv_iload hx hb dL_isCompared_153 (lv_at hl 1 rfl) ?_
          refine jr_imul hx hb dL_isCompared_155 ?_
          refine jr_le (tgt := 170) hx hb dL_isCompared_156 (by decide) ⟨by omega, by omega⟩ ⟨by omega, by omega⟩ (fun c156 => ?_) (fun c156 => ?_)
          · refine jr_iconst hx hb dL_isCompared_170 ?_
            refine jr_ne (tgt := 178) hx hb dL_isCompared_171 (by decide) ⟨by omega, by omega⟩ ⟨by omega, by omega⟩ (fun c171 => absurd c171 (by omega)) (fun c171 => ?_)
            refine jr_iconst hx hb dL_isCompared_174 ?_
            refine lv_goto (tgt := 179) hx hb dL_isCompared_175 (by decide) ?_
            refine lv_istore_n (lv' := [(3, vi 1), (11, vi z66), (10, vi z56), (9, vi z46), (8, vi z36), (7, vi (i : Int)), (6, vi bl), (5, vi bs), (4, vi b), (0, .ref o), (1, .ref a1), (2, .ref aQ)]) hx hb dL_isCompared_179 rfl hl (by decide) rfl (fun ls hl => ?_)
            refine lv_iload_n hx hb dL_isCompared_180 rfl (lv_at hl 0 rfl) ?_
            refine jr_ifeq (tgt := 213) hx hb dL_isCompared_181 (by decide) ⟨by omega, by omega⟩ (fun c181 => absurd c181 (by omega)) (fun c181 => ?_)
            refine lv_aload_n hx hb dL_isCompared_184 rfl (lv_at hl 9 rfl) ?_
            refine jr_iconst hx hb dL_isCompared_185 ?_
            refine lv_iload hx hb dL_isCompared_186 (lv_at hl 5 rfl) ?_
            refine jr_iconst hx hb dL_isCompared_188 ?_
            refine kl_Qi (cs := []) (vx_runSW (As := [.ref o, vi 5, vi (i : Int), vi 0]) (rest := []) ⟨hx, hb, hml, hown, htl⟩ (m_L_ask_sharedPairs l hsT g o (wD S x1) w78 hC H.size (i : Int) ⟨by omega, by omega⟩ 0) (vx_cwSW 4 htl lkH_L_ask rfl rfl rfl cwS_L_ask ⟨Nat.le_of_ble_eq_true rfl, Nat.le_of_ble_eq_true rfl⟩) (jp_S hKK hS hAb ⟨rfl, (kw_P (cs := []) hP), hD.weaken (fun _ q _ h => hAb _ h)⟩) rfl rfl hl.1 rfl (lv_room (Nat.le_of_ble_eq_true rfl)) dL_isCompared_189 ⟨by show _ ≤ 800; omega, by show _ ≤ 4800; omega⟩) hP hD hS hA ?_
            clear hP hD hS hC; intro z189 H locs w189 hz189 hC hP hD hS
            have hP : PP g w189 H := hP
            have hD : va_D A w189 := hD
            refine W.widen (k := ((181 + 15 * i) + 12)) (n := ((1086 + 90 * i) + 72)) (by omega) (by omega) ?_
            replace hz189 : z189 = shA (pl x1) (pl (uS S i).1) ((pl x1).length - 1) := hz189.trans (aqU (S := wD S x1) (i := i) (by show i < nU S; omega) (by show ¬ x1.length = 0; omega))
            have hsh := shA_b (pl x1) (pl (uS S i).1) ((pl x1).length - 1)
            have hpl := pl_l x1
            refine jr_iflt (tgt := 213) hx hb dL_isCompared_192 (by decide) ⟨by omega, by omega⟩ (fun c192 => absurd c192 (by omega)) (fun c192 => ?_)
            refine lv_aload_n hx hb dL_isCompared_195 rfl (lv_at hl 9 rfl) ?_
            refine jr_iconst hx hb dL_isCompared_196 ?_
            refine lv_iload hx hb dL_isCompared_197 (lv_at hl 5 rfl) ?_
            refine jr_iconst hx hb dL_isCompared_199 ?_
            refine kl_Qi (cs := []) (vx_runSW (As := [.ref o, vi 5, vi (i : Int), vi 0]) (rest := []) ⟨hx, hb, hml, hown, htl⟩ (m_L_ask_sharedPairs l hsT g o (wD S x1) w189 hC H.size (i : Int) ⟨by omega, by omega⟩ 0) (vx_cwSW 4 htl lkH_L_ask rfl rfl rfl cwS_L_ask ⟨Nat.le_of_ble_eq_true rfl, Nat.le_of_ble_eq_true rfl⟩) (jp_S hKK hS hAb ⟨rfl, (kw_P (cs := []) hP), hD.weaken (fun _ q _ h => hAb _ h)⟩) rfl rfl hl.1 rfl (lv_room (Nat.le_of_ble_eq_true rfl)) dL_isCompared_200 ⟨by show _ ≤ 800; omega, by show _ ≤ 4800; omega⟩) hP hD hS hA ?_
            clear hP hD hS hC; intro z200 H locs w200 hz200 hC hP hD hS
            have hP : PP g w200 H := hP
            have hD : va_D A w200 := hD
            refine W.widen (k := ((181 + 15 * i) + 14)) (n := ((1086 + 90 * i) + 84)) (by omega) (by omega) ?_
            replace hz200 : z200 = shA (pl x1) (pl (uS S i).1) ((pl x1).length - 1) := hz200.trans (aqU (S := wD S x1) (i := i) (by show i < nU S; omega) (by show ¬ x1.length = 0; omega))
            refine lv_aload_n hx hb dL_isCompared_203 rfl (lv_at hl 10 rfl) ?_
            refine jr_iconst hx hb dL_isCompared_204 ?_
            refine jr_iald hx hb hKK.k (jat hP1 hS ap_hP1) 0 rfl 0 rfl (by omega) (by omega) dL_isCompared_205 ?_
            refine jr_nm (b := (x1.length : Int)) (by rw [hx1.n]) ?_
            refine jr_ge (tgt := 213) hx hb dL_isCompared_206 (by decide) ⟨by omega, by omega⟩ ⟨by omega, by omega⟩ (fun c206 => absurd c206 (by omega)) (fun c206 => ?_)
            refine jr_iconst hx hb dL_isCompared_209 ?_
            refine lv_goto (tgt := 214) hx hb dL_isCompared_210 (by decide) ?_
            refine lv_istore_n (lv' := [(3, vi 1), (11, vi z66), (10, vi z56), (9, vi z46), (8, vi z36), (7, vi (i : Int)), (6, vi bl), (5, vi bs), (4, vi b), (0, .ref o), (1, .ref a1), (2, .ref aQ)]) hx hb dL_isCompared_214 rfl hl (by decide) rfl (fun ls hl => ?_)
            refine lv_aload_n hx hb dL_isCompared_215 rfl (lv_at hl 9 rfl) ?_
            refine jr_bipush hx hb dL_isCompared_216 (by decide) ?_
            refine lv_iload hx hb dL_isCompared_218 (lv_at hl 5 rfl) ?_
            refine jr_iconst hx hb dL_isCompared_220 ?_
            refine kl_Qi (cs := []) (vx_runSW (As := [.ref o, vi 8, vi (i : Int), vi 0]) (rest := []) ⟨hx, hb, hml, hown, htl⟩ (m_L_ask_isLive l hsT g o (wD S x1) w200 hC H.size (i : Int) ⟨by omega, by omega⟩ 0) (vx_cwSW 4 htl lkH_L_ask rfl rfl rfl cwS_L_ask ⟨Nat.le_of_ble_eq_true rfl, Nat.le_of_ble_eq_true rfl⟩) (jp_S hKK hS hAb ⟨rfl, (kw_P (cs := []) hP), hD.weaken (fun _ q _ h => hAb _ h)⟩) rfl rfl hl.1 rfl (lv_room (Nat.le_of_ble_eq_true rfl)) dL_isCompared_221 ⟨by show _ ≤ 800; omega, by show _ ≤ 4800; omega⟩) hP hD hS hA ?_
            clear hP hD hS hC; intro z221 H locs w221 hz221 hC hP hD hS
            have hP : PP g w221 H := hP
            have hD : va_D A w221 := hD
            refine W.widen (k := ((181 + 15 * i) + 15)) (n := ((1086 + 90 * i) + 90)) (by omega) (by omega) ?_
            replace hz221 : z221 = (uS S i).2.2 := hz221.trans (aq8 (S := wD S x1) (i := i) (by show i < nU S; omega))
            have h01 : z221 = 0 ∨ z221 = 1 := by rw [hz221]; exact (CW.uct hC i).2.2
            refine jr_iconst hx hb dL_isCompared_224 ?_
            refine jr_ne (tgt := 266) hx hb dL_isCompared_225 (by decide) ⟨by omega, by omega⟩ ⟨by omega, by omega⟩ (fun c225 => ?_) (fun c225 => ?_)
            · refine jr_iinc (lv' := [(7, vi ((i : Int) + 1)), (3, vi 1), (11, vi z66), (10, vi z56), (9, vi z46), (8, vi z36), (6, vi bl), (5, vi bs), (4, vi b), (0, .ref o), (1, .ref a1), (2, .ref aQ)]) hx hb dL_isCompared_266 hl (k := 5) rfl rfl (by decide) rfl (fun ls hl => ?_)
              refine lv_goto (tgt := 18) hx hb dL_isCompared_269 (by decide) ?_
              refine W.widen (k := (181 + 15 * (i + 1))) (n := (1086 + 90 * (i + 1))) (by omega) (by omega) ?_
              exact ih18 (i + 1) b bs bl _ (by show i + 1 ≤ nU S; omega) (fa_keep hF hz66 hz46 hz221 (by omega) h01) (hC) (by omega) _ _ hP hD hS ls (lv_sub hl [0, 6, 7, 8, 1, 9, 10, 11] rfl)
            · refine lv_iload hx hb dL_isCompared_228 (lv_at hl 1 rfl) ?_
              refine jr_ifle (tgt := 266) hx hb dL_isCompared_230 (by decide) ⟨by omega, by omega⟩ (fun c230 => ?_) (fun c230 => ?_)
              · refine jr_iinc (lv' := [(7, vi ((i : Int) + 1)), (3, vi 1), (11, vi z66), (10, vi z56), (9, vi z46), (8, vi z36), (6, vi bl), (5, vi bs), (4, vi b), (0, .ref o), (1, .ref a1), (2, .ref aQ)]) hx hb dL_isCompared_266 hl (k := 5) rfl rfl (by decide) rfl (fun ls hl => ?_)
                refine lv_goto (tgt := 18) hx hb dL_isCompared_269 (by decide) ?_
                refine W.widen (k := (181 + 15 * (i + 1))) (n := (1086 + 90 * (i + 1))) (by omega) (by omega) ?_
                exact ih18 (i + 1) b bs bl _ (by show i + 1 ≤ nU S; omega) (fa_keep hF hz66 hz46 hz221 (by omega) h01) (hC) (by omega) _ _ hP hD hS ls (lv_sub hl [0, 6, 7, 8, 1, 9, 10, 11] rfl)
              · refine lv_iload hx hb dL_isCompared_233 (lv_at hl 1 rfl) ?_
                refine lv_iload hx hb dL_isCompared_235 (lv_at hl 7 rfl) ?_
                refine jr_gt (tgt := 254) hx hb dL_isCompared_237 (by decide) ⟨by omega, by omega⟩ ⟨by omega, by omega⟩ (fun c237 => ?_) (fun c237 => ?_)
                · refine lv_iload hx hb dL_isCompared_254 (lv_at hl 5 rfl) ?_
                  refine lv_istore (lv' := [(4, vi (i : Int)), (3, vi 1), (11, vi z66), (10, vi z56), (9, vi z46), (8, vi z36), (7, vi (i : Int)), (6, vi bl), (5, vi bs), (0, .ref o), (1, .ref a1), (2, .ref aQ)]) hx hb dL_isCompared_256 hl (by decide) rfl (fun ls hl => ?_)
                  refine lv_iload hx hb dL_isCompared_258 (lv_at hl 2 rfl) ?_
                  refine lv_istore (lv' := [(5, vi z66), (4, vi (i : Int)), (3, vi 1), (11, vi z66), (10, vi z56), (9, vi z46), (8, vi z36), (7, vi (i : Int)), (6, vi bl), (0, .ref o), (1, .ref a1), (2, .ref aQ)]) hx hb dL_isCompared_260 hl (by decide) rfl (fun ls hl => ?_)
                  refine lv_iload hx hb dL_isCompared_262 (lv_at hl 5 rfl) ?_
                  refine lv_istore (lv' := [(6, vi z46), (5, vi z66), (4, vi (i : Int)), (3, vi 1), (11, vi z66), (10, vi z56), (9, vi z46), (8, vi z36), (7, vi (i : Int)), (0, .ref o), (1, .ref a1), (2, .ref aQ)]) hx hb dL_isCompared_264 hl (by decide) rfl (fun ls hl => ?_)
                  refine jr_iinc (lv' := [(7, vi ((i : Int) + 1)), (6, vi z46), (5, vi z66), (4, vi (i : Int)), (3, vi 1), (11, vi z66), (10, vi z56), (9, vi z46), (8, vi z36), (0, .ref o), (1, .ref a1), (2, .ref aQ)]) hx hb dL_isCompared_266 hl (k := 8) rfl rfl (by decide) rfl (fun ls hl => ?_)
                  refine lv_goto (tgt := 18) hx hb dL_isCompared_269 (by decide) ?_
                  refine W.widen (k := (181 + 15 * (i + 1))) (n := (1086 + 90 * (i + 1))) (by omega) (by omega) ?_
                  exact ih18 (i + 1) (i : Int) z66 z46 _ (by show i + 1 ≤ nU S; omega) (fa_take hF hz66 hz46 hz221 (by omega)) (hC) (by omega) _ _ hP hD hS ls (lv_sub hl [0, 1, 2, 3, 4, 9, 10, 11] rfl)
                · refine lv_iload hx hb dL_isCompared_240 (lv_at hl 1 rfl) ?_
                  refine lv_iload hx hb dL_isCompared_242 (lv_at hl 7 rfl) ?_
                  refine jr_ne (tgt := 266) hx hb dL_isCompared_244 (by decide) ⟨by omega, by omega⟩ ⟨by omega, by omega⟩ (fun c244 => ?_) (fun c244 => ?_)
                  · refine jr_iinc (lv' := [(7, vi ((i : Int) + 1)), (3, vi 1), (11, vi z66), (10, vi z56), (9, vi z46), (8, vi z36), (6, vi bl), (5, vi bs), (4, vi b), (0, .ref o), (1, .ref a1), (2, .ref aQ)]) hx hb dL_isCompared_266 hl (k := 5) rfl rfl (by decide) rfl (fun ls hl => ?_)
                    refine lv_goto (tgt := 18) hx hb dL_isCompared_269 (by decide) ?_
                    refine W.widen (k := (181 + 15 * (i + 1))) (n := (1086 + 90 * (i + 1))) (by omega) (by omega) ?_
                    exact ih18 (i + 1) b bs bl _ (by show i + 1 ≤ nU S; omega) (fa_keep hF hz66 hz46 hz221 (by omega) h01) (hC) (by omega) _ _ hP hD hS ls (lv_sub hl [0, 6, 7, 8, 1, 9, 10, 11] rfl)
                  · refine lv_iload hx hb dL_isCompared_247 (lv_at hl 3 rfl) ?_
                    refine lv_iload hx hb dL_isCompared_249 (lv_at hl 6 rfl) ?_
                    refine jr_lt (tgt := 266) hx hb dL_isCompared_251 (by decide) ⟨by omega, by omega⟩ ⟨by omega, by omega⟩ (fun c251 => ?_) (fun c251 => ?_)
                    · refine jr_iinc (lv' := [(7, vi ((i : Int) + 1)), (3, vi 1), (11, vi z66), (10, vi z56), (9, vi z46), (8, vi z36), (6, vi bl), (5, vi bs), (4, vi b), (0, .ref o), (1, .ref a1), (2, .ref aQ)]) hx hb dL_isCompared_266 hl (k := 5) rfl rfl (by decide) rfl (fun ls hl => ?_)
                      refine lv_goto (tgt := 18) hx hb dL_isCompared_269 (by decide) ?_
                      refine W.widen (k := (181 + 15 * (i + 1))) (n := (1086 + 90 * (i + 1))) (by omega) (by omega) ?_
                      exact ih18 (i + 1) b bs bl _ (by show i + 1 ≤ nU S; omega) (fa_keep hF hz66 hz46 hz221 (by omega) h01) (hC) (by omega) _ _ hP hD hS ls (lv_sub hl [0, 6, 7, 8, 1, 9, 10, 11] rfl)
                    · refine lv_iload hx hb dL_isCompared_254 (lv_at hl 5 rfl) ?_
                      refine lv_istore (lv' := [(4, vi (i : Int)), (3, vi 1), (11, vi z66), (10, vi z56), (9, vi z46), (8, vi z36), (7, vi (i : Int)), (6, vi bl), (5, vi bs), (0, .ref o), (1, .ref a1), (2, .ref aQ)]) hx hb dL_isCompared_256 hl (by decide) rfl (fun ls hl => ?_)
                      refine lv_iload hx hb dL_isCompared_258 (lv_at hl 2 rfl) ?_
                      refine lv_istore (lv' := [(5, vi z66), (4, vi (i : Int)), (3, vi 1), (11, vi z66), (10, vi z56), (9, vi z46), (8, vi z36), (7, vi (i : Int)), (6, vi bl), (0, .ref o), (1, .ref a1), (2, .ref aQ)]) hx hb dL_isCompared_260 hl (by decide) rfl (fun ls hl => ?_)
                      refine lv_iload hx hb dL_isCompared_262 (lv_at hl 5 rfl) ?_
                      refine lv_istore (lv' := [(6, vi z46), (5, vi z66), (4, vi (i : Int)), (3, vi 1), (11, vi z66), (10, vi z56), (9, vi z46), (8, vi z36), (7, vi (i : Int)), (0, .ref o), (1, .ref a1), (2, .ref aQ)]) hx hb dL_isCompared_264 hl (by decide) rfl (fun ls hl => ?_)
                      refine jr_iinc (lv' := [(7, vi ((i : Int) + 1)), (6, vi z46), (5, vi z66), (4, vi (i : Int)), (3, vi 1), (11, vi z66), (10, vi z56), (9, vi z46), (8, vi z36), (0, .ref o), (1, .ref a1), (2, .ref aQ)]) hx hb dL_isCompared_266 hl (k := 8) rfl rfl (by decide) rfl (fun ls hl => ?_)
                      refine lv_goto (tgt := 18) hx hb dL_isCompared_269 (by decide) ?_
                      refine W.widen (k := (181 + 15 * (i + 1))) (n := (1086 + 90 * (i + 1))) (by omega) (by omega) ?_
                      exact ih18 (i + 1) (i : Int) z66 z46 _ (by show i + 1 ≤ nU S; omega) (fa_take hF hz66 hz46 hz221 (by omega)) (hC) (by omega) _ _ hP hD hS ls (lv_sub hl [0, 1, 2, 3, 4, 9, 10, 11] rfl)
          · refine lv_iload hx hb dL_isCompared_159 (lv_at hl 2 rfl) ?_
            refine jr_bipush hx hb dL_isCompared_161 (by decide) ?_
            refine lv_iload hx hb dL_isCompared_163 (lv_at hl 1 rfl) ?_
            refine jr_imul hx hb dL_isCompared_165 ?_
            refine jr_isub hx hb dL_isCompared_166 ?_
            refine lv_goto (tgt := 171) hx hb dL_isCompared_167 (by decide) ?_
            refine jr_ne (tgt := 178) hx hb dL_isCompared_171 (by decide) ⟨by omega, by omega⟩ ⟨by omega, by omega⟩ (fun c171 => absurd c171 (by omega)) (fun c171 => ?_)
            refine jr_iconst hx hb dL_isCompared_174 ?_
            refine lv_goto (tgt := 179) hx hb dL_isCompared_175 (by decide) ?_
            refine lv_istore_n (lv' := [(3, vi 1), (11, vi z66), (10, vi z56), (9, vi z46), (8, vi z36), (7, vi (i : Int)), (6, vi bl), (5, vi bs), (4, vi b), (0, .ref o), (1, .ref a1), (2, .ref aQ)]) hx hb dL_isCompared_179 rfl hl (by decide) rfl (fun ls hl => ?_)
            refine lv_iload_n hx hb dL_isCompared_180 rfl (lv_at hl 0 rfl) ?_
            refine jr_ifeq (tgt := 213) hx hb dL_isCompared_181 (by decide) ⟨by omega, by omega⟩ (fun c181 => absurd c181 (by omega)) (fun c181 => ?_)
            refine lv_aload_n hx hb dL_isCompared_184 rfl (lv_at hl 9 rfl) ?_
            refine jr_iconst hx hb dL_isCompared_185 ?_
            refine lv_iload hx hb dL_isCompared_186 (lv_at hl 5 rfl) ?_
            refine jr_iconst hx hb dL_isCompared_188 ?_
            refine kl_Qi (cs := []) (vx_runSW (As := [.ref o, vi 5, vi (i : Int), vi 0]) (rest := []) ⟨hx, hb, hml, hown, htl⟩ (m_L_ask_sharedPairs l hsT g o (wD S x1) w78 hC H.size (i : Int) ⟨by omega, by omega⟩ 0) (vx_cwSW 4 htl lkH_L_ask rfl rfl rfl cwS_L_ask ⟨Nat.le_of_ble_eq_true rfl, Nat.le_of_ble_eq_true rfl⟩) (jp_S hKK hS hAb ⟨rfl, (kw_P (cs := []) hP), hD.weaken (fun _ q _ h => hAb _ h)⟩) rfl rfl hl.1 rfl (lv_room (Nat.le_of_ble_eq_true rfl)) dL_isCompared_189 ⟨by show _ ≤ 800; omega, by show _ ≤ 4800; omega⟩) hP hD hS hA ?_
            clear hP hD hS hC; intro z189 H locs w189 hz189 hC hP hD hS
            have hP : PP g w189 H := hP
            have hD : va_D A w189 := hD
            refine W.widen (k := ((181 + 15 * i) + 12)) (n := ((1086 + 90 * i) + 72)) (by omega) (by omega) ?_
            replace hz189 : z189 = shA (pl x1) (pl (uS S i).1) ((pl x1).length - 1) := hz189.trans (aqU (S := wD S x1) (i := i) (by show i < nU S; omega) (by show ¬ x1.length = 0; omega))
            have hsh := shA_b (pl x1) (pl (uS S i).1) ((pl x1).length - 1)
            have hpl := pl_l x1
            refine jr_iflt (tgt := 213) hx hb dL_isCompared_192 (by decide) ⟨by omega, by omega⟩ (fun c192 => absurd c192 (by omega)) (fun c192 => ?_)
            refine lv_aload_n hx hb dL_isCompared_195 rfl (lv_at hl 9 rfl) ?_
            refine jr_iconst hx hb dL_isCompared_196 ?_
            refine lv_iload hx hb dL_isCompared_197 (lv_at hl 5 rfl) ?_
            refine jr_iconst hx hb dL_isCompared_199 ?_
            refine kl_Qi (cs := []) (vx_runSW (As := [.ref o, vi 5, vi (i : Int), vi 0]) (rest := []) ⟨hx, hb, hml, hown, htl⟩ (m_L_ask_sharedPairs l hsT g o (wD S x1) w189 hC H.size (i : Int) ⟨by omega, by omega⟩ 0) (vx_cwSW 4 htl lkH_L_ask rfl rfl rfl cwS_L_ask ⟨Nat.le_of_ble_eq_true rfl, Nat.le_of_ble_eq_true rfl⟩) (jp_S hKK hS hAb ⟨rfl, (kw_P (cs := []) hP), hD.weaken (fun _ q _ h => hAb _ h)⟩) rfl rfl hl.1 rfl (lv_room (Nat.le_of_ble_eq_true rfl)) dL_isCompared_200 ⟨by show _ ≤ 800; omega, by show _ ≤ 4800; omega⟩) hP hD hS hA ?_
            clear hP hD hS hC; intro z200 H locs w200 hz200 hC hP hD hS
            have hP : PP g w200 H := hP
            have hD : va_D A w200 := hD
            refine W.widen (k := ((181 + 15 * i) + 14)) (n := ((1086 + 90 * i) + 84)) (by omega) (by omega) ?_
            replace hz200 : z200 = shA (pl x1) (pl (uS S i).1) ((pl x1).length - 1) := hz200.trans (aqU (S := wD S x1) (i := i) (by show i < nU S; omega) (by show ¬ x1.length = 0; omega))
            refine lv_aload_n hx hb dL_isCompared_203 rfl (lv_at hl 10 rfl) ?_
            refine jr_iconst hx hb dL_isCompared_204 ?_
            refine jr_iald hx hb hKK.k (jat hP1 hS ap_hP1) 0 rfl 0 rfl (by omega) (by omega) dL_isCompared_205 ?_
            refine jr_nm (b := (x1.length : Int)) (by rw [hx1.n]) ?_
            refine jr_ge (tgt := 213) hx hb dL_isCompared_206 (by decide) ⟨by omega, by omega⟩ ⟨by omega, by omega⟩ (fun c206 => absurd c206 (by omega)) (fun c206 => ?_)
            refine jr_iconst hx hb dL_isCompared_209 ?_
            refine lv_goto (tgt := 214) hx hb dL_isCompared_210 (by decide) ?_
            refine lv_istore_n (lv' := [(3, vi 1), (11, vi z66), (10, vi z56), (9, vi z46), (8, vi z36), (7, vi (i : Int)), (6, vi bl), (5, vi bs), (4, vi b), (0, .ref o), (1, .ref a1), (2, .ref aQ)]) hx hb dL_isCompared_214 rfl hl (by decide) rfl (fun ls hl => ?_)
            refine lv_aload_n hx hb dL_isCompared_215 rfl (lv_at hl 9 rfl) ?_
            refine jr_bipush hx hb dL_isCompared_216 (by decide) ?_
            refine lv_iload hx hb dL_isCompared_218 (lv_at hl 5 rfl) ?_
            refine jr_iconst hx hb dL_isCompared_220 ?_
            refine kl_Qi (cs := []) (vx_runSW (As := [.ref o, vi 8, vi (i : Int), vi 0]) (rest := []) ⟨hx, hb, hml, hown, htl⟩ (m_L_ask_isLive l hsT g o (wD S x1) w200 hC H.size (i : Int) ⟨by omega, by omega⟩ 0) (vx_cwSW 4 htl lkH_L_ask rfl rfl rfl cwS_L_ask ⟨Nat.le_of_ble_eq_true rfl, Nat.le_of_ble_eq_true rfl⟩) (jp_S hKK hS hAb ⟨rfl, (kw_P (cs := []) hP), hD.weaken (fun _ q _ h => hAb _ h)⟩) rfl rfl hl.1 rfl (lv_room (Nat.le_of_ble_eq_true rfl)) dL_isCompared_221 ⟨by show _ ≤ 800; omega, by show _ ≤ 4800; omega⟩) hP hD hS hA ?_
            clear hP hD hS hC; intro z221 H locs w221 hz221 hC hP hD hS
            have hP : PP g w221 H := hP
            have hD : va_D A w221 := hD
            refine W.widen (k := ((181 + 15 * i) + 15)) (n := ((1086 + 90 * i) + 90)) (by omega) (by omega) ?_
            replace hz221 : z221 = (uS S i).2.2 := hz221.trans (aq8 (S := wD S x1) (i := i) (by show i < nU S; omega))
            have h01 : z221 = 0 ∨ z221 = 1 := by rw [hz221]; exact (CW.uct hC i).2.2
            refine jr_iconst hx hb dL_isCompared_224 ?_
            refine jr_ne (tgt := 266) hx hb dL_isCompared_225 (by decide) ⟨by omega, by omega⟩ ⟨by omega, by omega⟩ (fun c225 => ?_) (fun c225 => ?_)
            · refine jr_iinc (lv' := [(7, vi ((i : Int) + 1)), (3, vi 1), (11, vi z66), (10, vi z56), (9, vi z46), (8, vi z36), (6, vi bl), (5, vi bs), (4, vi b), (0, .ref o), (1, .ref a1), (2, .ref aQ)]) hx hb dL_isCompared_266 hl (k := 5) rfl rfl (by decide) rfl (fun ls hl => ?_)
              refine lv_goto (tgt := 18) hx hb dL_isCompared_269 (by decide) ?_
              refine W.widen (k := (181 + 15 * (i + 1))) (n := (1086 + 90 * (i + 1))) (by omega) (by omega) ?_
              exact ih18 (i + 1) b bs bl _ (by show i + 1 ≤ nU S; omega) (fa_keep hF hz66 hz46 hz221 (by omega) h01) (hC) (by omega) _ _ hP hD hS ls (lv_sub hl [0, 6, 7, 8, 1, 9, 10, 11] rfl)
            · refine lv_iload hx hb dL_isCompared_228 (lv_at hl 1 rfl) ?_
              refine jr_ifle (tgt := 266) hx hb dL_isCompared_230 (by decide) ⟨by omega, by omega⟩ (fun c230 => ?_) (fun c230 => ?_)
              · refine jr_iinc (lv' := [(7, vi ((i : Int) + 1)), (3, vi 1), (11, vi z66), (10, vi z56), (9, vi z46), (8, vi z36), (6, vi bl), (5, vi bs), (4, vi b), (0, .ref o), (1, .ref a1), (2, .ref aQ)]) hx hb dL_isCompared_266 hl (k := 5) rfl rfl (by decide) rfl (fun ls hl => ?_)
                refine lv_goto (tgt := 18) hx hb dL_isCompared_269 (by decide) ?_
                refine W.widen (k := (181 + 15 * (i + 1))) (n := (1086 + 90 * (i + 1))) (by omega) (by omega) ?_
                exact ih18 (i + 1) b bs bl _ (by show i + 1 ≤ nU S; omega) (fa_keep hF hz66 hz46 hz221 (by omega) h01) (hC) (by omega) _ _ hP hD hS ls (lv_sub hl [0, 6, 7, 8, 1, 9, 10, 11] rfl)
              · refine lv_iload hx hb dL_isCompared_233 (lv_at hl 1 rfl) ?_
                refine lv_iload hx hb dL_isCompared_235 (lv_at hl 7 rfl) ?_
                refine jr_gt (tgt := 254) hx hb dL_isCompared_237 (by decide) ⟨by omega, by omega⟩ ⟨by omega, by omega⟩ (fun c237 => ?_) (fun c237 => ?_)
                · refine lv_iload hx hb dL_isCompared_254 (lv_at hl 5 rfl) ?_
                  refine lv_istore (lv' := [(4, vi (i : Int)), (3, vi 1), (11, vi z66), (10, vi z56), (9, vi z46), (8, vi z36), (7, vi (i : Int)), (6, vi bl), (5, vi bs), (0, .ref o), (1, .ref a1), (2, .ref aQ)]) hx hb dL_isCompared_256 hl (by decide) rfl (fun ls hl => ?_)
                  refine lv_iload hx hb dL_isCompared_258 (lv_at hl 2 rfl) ?_
                  refine lv_istore (lv' := [(5, vi z66), (4, vi (i : Int)), (3, vi 1), (11, vi z66), (10, vi z56), (9, vi z46), (8, vi z36), (7, vi (i : Int)), (6, vi bl), (0, .ref o), (1, .ref a1), (2, .ref aQ)]) hx hb dL_isCompared_260 hl (by decide) rfl (fun ls hl => ?_)
                  refine lv_iload hx hb dL_isCompared_262 (lv_at hl 5 rfl) ?_
                  refine lv_istore (lv' := [(6, vi z46), (5, vi z66), (4, vi (i : Int)), (3, vi 1), (11, vi z66), (10, vi z56), (9, vi z46), (8, vi z36), (7, vi (i : Int)), (0, .ref o), (1, .ref a1), (2, .ref aQ)]) hx hb dL_isCompared_264 hl (by decide) rfl (fun ls hl => ?_)
                  refine jr_iinc (lv' := [(7, vi ((i : Int) + 1)), (6, vi z46), (5, vi z66), (4, vi (i : Int)), (3, vi 1), (11, vi z66), (10, vi z56), (9, vi z46), (8, vi z36), (0, .ref o), (1, .ref a1), (2, .ref aQ)]) hx hb dL_isCompared_266 hl (k := 8) rfl rfl (by decide) rfl (fun ls hl => ?_)
                  refine lv_goto (tgt := 18) hx hb dL_isCompared_269 (by decide) ?_
                  refine W.widen (k := (181 + 15 * (i + 1))) (n := (1086 + 90 * (i + 1))) (by omega) (by omega) ?_
                  exact ih18 (i + 1) (i : Int) z66 z46 _ (by show i + 1 ≤ nU S; omega) (fa_take hF hz66 hz46 hz221 (by omega)) (hC) (by omega) _ _ hP hD hS ls (lv_sub hl [0, 1, 2, 3, 4, 9, 10, 11] rfl)
                · refine lv_iload hx hb dL_isCompared_240 (lv_at hl 1 rfl) ?_
                  refine lv_iload hx hb dL_isCompared_242 (lv_at hl 7 rfl) ?_
                  refine jr_ne (tgt := 266) hx hb dL_isCompared_244 (by decide) ⟨by omega, by omega⟩ ⟨by omega, by omega⟩ (fun c244 => ?_) (fun c244 => ?_)
                  · refine jr_iinc (lv' := [(7, vi ((i : Int) + 1)), (3, vi 1), (11, vi z66), (10, vi z56), (9, vi z46), (8, vi z36), (6, vi bl), (5, vi bs), (4, vi b), (0, .ref o), (1, .ref a1), (2, .ref aQ)]) hx hb dL_isCompared_266 hl (k := 5) rfl rfl (by decide) rfl (fun ls hl => ?_)
                    refine lv_goto (tgt := 18) hx hb dL_isCompared_269 (by decide) ?_
                    refine W.widen (k := (181 + 15 * (i + 1))) (n := (1086 + 90 * (i + 1))) (by omega) (by omega) ?_
                    exact ih18 (i + 1) b bs bl _ (by show i + 1 ≤ nU S; omega) (fa_keep hF hz66 hz46 hz221 (by omega) h01) (hC) (by omega) _ _ hP hD hS ls (lv_sub hl [0, 6, 7, 8, 1, 9, 10, 11] rfl)
                  · refine lv_iload hx hb dL_isCompared_247 (lv_at hl 3 rfl) ?_
                    refine lv_iload hx hb dL_isCompared_249 (lv_at hl 6 rfl) ?_
                    refine jr_lt (tgt := 266) hx hb dL_isCompared_251 (by decide) ⟨by omega, by omega⟩ ⟨by omega, by omega⟩ (fun c251 => ?_) (fun c251 => ?_)
                    · refine jr_iinc (lv' := [(7, vi ((i : Int) + 1)), (3, vi 1), (11, vi z66), (10, vi z56), (9, vi z46), (8, vi z36), (6, vi bl), (5, vi bs), (4, vi b), (0, .ref o), (1, .ref a1), (2, .ref aQ)]) hx hb dL_isCompared_266 hl (k := 5) rfl rfl (by decide) rfl (fun ls hl => ?_)
                      refine lv_goto (tgt := 18) hx hb dL_isCompared_269 (by decide) ?_
                      refine W.widen (k := (181 + 15 * (i + 1))) (n := (1086 + 90 * (i + 1))) (by omega) (by omega) ?_
                      exact ih18 (i + 1) b bs bl _ (by show i + 1 ≤ nU S; omega) (fa_keep hF hz66 hz46 hz221 (by omega) h01) (hC) (by omega) _ _ hP hD hS ls (lv_sub hl [0, 6, 7, 8, 1, 9, 10, 11] rfl)
                    · refine lv_iload hx hb dL_isCompared_254 (lv_at hl 5 rfl) ?_
                      refine lv_istore (lv' := [(4, vi (i : Int)), (3, vi 1), (11, vi z66), (10, vi z56), (9, vi z46), (8, vi z36), (7, vi (i : Int)), (6, vi bl), (5, vi bs), (0, .ref o), (1, .ref a1), (2, .ref aQ)]) hx hb dL_isCompared_256 hl (by decide) rfl (fun ls hl => ?_)
                      refine lv_iload hx hb dL_isCompared_258 (lv_at hl 2 rfl) ?_
                      refine lv_istore (lv' := [(5, vi z66), (4, vi (i : Int)), (3, vi 1), (11, vi z66), (10, vi z56), (9, vi z46), (8, vi z36), (7, vi (i : Int)), (6, vi bl), (0, .ref o), (1, .ref a1), (2, .ref aQ)]) hx hb dL_isCompared_260 hl (by decide) rfl (fun ls hl => ?_)
                      refine lv_iload hx hb dL_isCompared_262 (lv_at hl 5 rfl) ?_
                      refine lv_istore (lv' := [(6, vi z46), (5, vi z66), (4, vi (i : Int)), (3, vi 1), (11, vi z66), (10, vi z56), (9, vi z46), (8, vi z36), (7, vi (i : Int)), (0, .ref o), (1, .ref a1), (2, .ref aQ)]) hx hb dL_isCompared_264 hl (by decide) rfl (fun ls hl => ?_)
                      refine jr_iinc (lv' := [(7, vi ((i : Int) + 1)), (6, vi z46), (5, vi z66), (4, vi (i : Int)), (3, vi 1), (11, vi z66), (10, vi z56), (9, vi z46), (8, vi z36), (0, .ref o), (1, .ref a1), (2, .ref aQ)]) hx hb dL_isCompared_266 hl (k := 8) rfl rfl (by decide) rfl (fun ls hl => ?_)
                      refine lv_goto (tgt := 18) hx hb dL_isCompared_269 (by decide) ?_
                      refine W.widen (k := (181 + 15 * (i + 1))) (n := (1086 + 90 * (i + 1))) (by omega) (by omega) ?_
                      exact ih18 (i + 1) (i : Int) z66 z46 _ (by show i + 1 ≤ nU S; omega) (fa_take hF hz66 hz46 hz221 (by omega)) (hC) (by omega) _ _ hP hD hS ls (lv_sub hl [0, 1, 2, 3, 4, 9, 10, 11] rfl)
        · refine jr_iconst hx hb dL_isCompared_89 ?_
          refine lv_goto (tgt := 94) hx hb dL_isCompared_90 (by decide) ?_
          refine lv_aload_n hx hb dL_isCompared_94 rfl (lv_at hl 10 rfl) ?_
          refine lv_aload_n hx hb dL_isCompared_95 rfl (lv_at hl 11 rfl) ?_
          refine lv_iload hx hb dL_isCompared_96 (lv_at hl 4 rfl) ?_
          refine jr_qald hx hb hKK.k (jat hPQ hS ap_hPQ) 0 rfl i rfl (by omega) hqi.1 dL_isCompared_98 ?_
          have hPu : PP g [aI g (sa i) 61 (ff i)] s.heap := hPx.mem (fun q hq => by rw [List.mem_singleton.mp hq]; exact hqi.2.2.1)
          have ap_hPu : ∀ (k : Nat) (q : Nat × va_E), ([aI g (sa i) 61 (ff i)] : va_W)[k]? = some q → ¬ A q.1 := ap_mem ap_hPx (fun q hq => by rw [List.mem_singleton.mp hq]; exact hqi.2.2.1)
          refine jk_Si (va_runS (As := [.ref a1, .ref (sa i)]) (rest := [vi 1]) ⟨hx, hb, hml, hown, htl⟩ (m_L_areSame l g a1 (sa i) x1 (xs i) f1 (ff i) hx1 hqi.2.1) (va_cwS 2 htl lk_L_165 rfl rfl rfl cwS_L_areSame ⟨Nat.le_of_ble_eq_true rfl, Nat.le_of_ble_eq_true rfl⟩) (jp_S hKK hS hAb ⟨(jat hP1 hS ap_hP1), (jat hPu hS ap_hPu)⟩) rfl rfl hl.1 rfl (lv_room (Nat.le_of_ble_eq_true rfl)) dL_isCompared_99 ⟨by show _ ≤ 800; omega, by show _ ≤ 4800; omega⟩) (fun z99 hz99 => ?_)
          replace hz99 : z99 = i01 (x1 = (uS S i).1) := hz99.trans (by rw [hqi.2.2.2.1])
          refine jr_ne (tgt := 178) hx hb dL_isCompared_102 (by decide) ⟨by omega, by omega⟩ ⟨by omega, by omega⟩ (fun c102 => absurd c102 (by omega)) (fun c102 => ?_)
          refine lv_iload hx hb dL_isCompared_105 (lv_at hl 2 rfl) ?_
          refine jr_iflt (tgt := 178) hx hb dL_isCompared_107 (by decide) ⟨by omega, by omega⟩ (fun c107 => absurd c107 (by omega)) (fun c107 => ?_)
          refine lv_iload hx hb dL_isCompared_110 (lv_at hl 2 rfl) ?_
          refine jr_bipush hx hb dL_isCompared_112 (by decide) ?_
          refine jr_gt (tgt := 178) hx hb dL_isCompared_114 (by decide) ⟨by omega, by omega⟩ ⟨by omega, by omega⟩ (fun c114 => absurd c114 (by omega)) (fun c114 => ?_)
          refine lv_iload hx hb dL_isCompared_117 (lv_at hl 2 rfl) ?_
          refine jr_bipush hx hb dL_isCompared_119 (by decide) ?_
          refine jr_ne (tgt := 128) hx hb dL_isCompared_121 (by decide) ⟨by omega, by omega⟩ ⟨by omega, by omega⟩ (fun c121 => absurd c121 (by omega)) (fun c121 => ?_)
          refine jr_iconst hx hb dL_isCompared_124 ?_
          refine lv_goto (tgt := 129) hx hb dL_isCompared_125 (by decide) ?_
          refine lv_iload hx hb dL_isCompared_129 (lv_at hl 3 rfl) ?_
          refine jr_ifne (tgt := 138) hx hb dL_isCompared_131 (by decide) ⟨by omega, by omega⟩ (fun c131 => absurd c131 (by omega)) (fun c131 => ?_)
          refine jr_iconst hx hb dL_isCompared_134 ?_
          refine lv_goto (tgt := 139) hx hb dL_isCompared_135 (by decide) ?_
          refine jr_ne (tgt := 178) hx hb dL_isCompared_139 (by decide) ⟨by omega, by omega⟩ ⟨by omega, by omega⟩ (fun c139 => absurd c139 (by omega)) (fun c139 => ?_)
          refine lv_iload hx hb dL_isCompared_142 (lv_at hl 1 rfl) ?_
          refine jr_iflt (tgt := 178) hx hb dL_isCompared_144 (by decide) ⟨by omega, by omega⟩ (fun c144 => absurd c144 (by omega)) (fun c144 => ?_)
          refine lv_iload hx hb dL_isCompared_147 (lv_at hl 0 rfl) ?_
          refine lv_iload hx hb dL_isCompared_149 (lv_at hl 2 rfl) ?_
          refine jr_bipush hx hb dL_isCompared_151 (by decide) ?_
          refine lv_iload hx hb dL_isCompared_153 (lv_at hl 1 rfl) ?_
          refine jr_imul hx hb dL_isCompared_155 ?_
          refine jr_le (tgt := 170) hx hb dL_isCompared_156 (by decide) ⟨by omega, by omega⟩ ⟨by omega, by omega⟩ (fun c156 => ?_) (fun c156 => ?_)
          · refine jr_iconst hx hb dL_isCompared_170 ?_
            refine jr_ne (tgt := 178) hx hb dL_isCompared_171 (by decide) ⟨by omega, by omega⟩ ⟨by omega, by omega⟩ (fun c171 => absurd c171 (by omega)) (fun c171 => ?_)
            refine jr_iconst hx hb dL_isCompared_174 ?_
            refine lv_goto (tgt := 179) hx hb dL_isCompared_175 (by decide) ?_
            refine lv_istore_n (lv' := [(3, vi 1), (11, vi z66), (10, vi z56), (9, vi z46), (8, vi z36), (7, vi (i : Int)), (6, vi bl), (5, vi bs), (4, vi b), (0, .ref o), (1, .ref a1), (2, .ref aQ)]) hx hb dL_isCompared_179 rfl hl (by decide) rfl (fun ls hl => ?_)
            refine lv_iload_n hx hb dL_isCompared_180 rfl (lv_at hl 0 rfl) ?_
            refine jr_ifeq (tgt := 213) hx hb dL_isCompared_181 (by decide) ⟨by omega, by omega⟩ (fun c181 => absurd c181 (by omega)) (fun c181 => ?_)
            refine lv_aload_n hx hb dL_isCompared_184 rfl (lv_at hl 9 rfl) ?_
            refine jr_iconst hx hb dL_isCompared_185 ?_
            refine lv_iload hx hb dL_isCompared_186 (lv_at hl 5 rfl) ?_
            refine jr_iconst hx hb dL_isCompared_188 ?_
            refine kl_Qi (cs := []) (vx_runSW (As := [.ref o, vi 5, vi (i : Int), vi 0]) (rest := []) ⟨hx, hb, hml, hown, htl⟩ (m_L_ask_sharedPairs l hsT g o (wD S x1) w78 hC H.size (i : Int) ⟨by omega, by omega⟩ 0) (vx_cwSW 4 htl lkH_L_ask rfl rfl rfl cwS_L_ask ⟨Nat.le_of_ble_eq_true rfl, Nat.le_of_ble_eq_true rfl⟩) (jp_S hKK hS hAb ⟨rfl, (kw_P (cs := []) hP), hD.weaken (fun _ q _ h => hAb _ h)⟩) rfl rfl hl.1 rfl (lv_room (Nat.le_of_ble_eq_true rfl)) dL_isCompared_189 ⟨by show _ ≤ 800; omega, by show _ ≤ 4800; omega⟩) hP hD hS hA ?_
            clear hP hD hS hC; intro z189 H locs w189 hz189 hC hP hD hS
            have hP : PP g w189 H := hP
            have hD : va_D A w189 := hD
            refine W.widen (k := ((181 + 15 * i) + 12)) (n := ((1086 + 90 * i) + 72)) (by omega) (by omega) ?_
            replace hz189 : z189 = shA (pl x1) (pl (uS S i).1) ((pl x1).length - 1) := hz189.trans (aqU (S := wD S x1) (i := i) (by show i < nU S; omega) (by show ¬ x1.length = 0; omega))
            have hsh := shA_b (pl x1) (pl (uS S i).1) ((pl x1).length - 1)
            have hpl := pl_l x1
            refine jr_iflt (tgt := 213) hx hb dL_isCompared_192 (by decide) ⟨by omega, by omega⟩ (fun c192 => absurd c192 (by omega)) (fun c192 => ?_)
            refine lv_aload_n hx hb dL_isCompared_195 rfl (lv_at hl 9 rfl) ?_
            refine jr_iconst hx hb dL_isCompared_196 ?_
            refine lv_iload hx hb dL_isCompared_197 (lv_at hl 5 rfl) ?_
            refine jr_iconst hx hb dL_isCompared_199 ?_
            refine kl_Qi (cs := []) (vx_runSW (As := [.ref o, vi 5, vi (i : Int), vi 0]) (rest := []) ⟨hx, hb, hml, hown, htl⟩ (m_L_ask_sharedPairs l hsT g o (wD S x1) w189 hC H.size (i : Int) ⟨by omega, by omega⟩ 0) (vx_cwSW 4 htl lkH_L_ask rfl rfl rfl cwS_L_ask ⟨Nat.le_of_ble_eq_true rfl, Nat.le_of_ble_eq_true rfl⟩) (jp_S hKK hS hAb ⟨rfl, (kw_P (cs := []) hP), hD.weaken (fun _ q _ h => hAb _ h)⟩) rfl rfl hl.1 rfl (lv_room (Nat.le_of_ble_eq_true rfl)) dL_isCompared_200 ⟨by show _ ≤ 800; omega, by show _ ≤ 4800; omega⟩) hP hD hS hA ?_
            clear hP hD hS hC; intro z200 H locs w200 hz200 hC hP hD hS
            have hP : PP g w200 H := hP
            have hD : va_D A w200 := hD
            refine W.widen (k := ((181 + 15 * i) + 14)) (n := ((1086 + 90 * i) + 84)) (by omega) (by omega) ?_
            replace hz200 : z200 = shA (pl x1) (pl (uS S i).1) ((pl x1).length - 1) := hz200.trans (aqU (S := wD S x1) (i := i) (by show i < nU S; omega) (by show ¬ x1.length = 0; omega))
            refine lv_aload_n hx hb dL_isCompared_203 rfl (lv_at hl 10 rfl) ?_
            refine jr_iconst hx hb dL_isCompared_204 ?_
            refine jr_iald hx hb hKK.k (jat hP1 hS ap_hP1) 0 rfl 0 rfl (by omega) (by omega) dL_isCompared_205 ?_
            refine jr_nm (b := (x1.length : Int)) (by rw [hx1.n]) ?_
            refine jr_ge (tgt := 213) hx hb dL_isCompared_206 (by decide) ⟨by omega, by omega⟩ ⟨by omega, by omega⟩ (fun c206 => absurd c206 (by omega)) (fun c206 => ?_)
            refine jr_iconst hx hb dL_isCompared_209 ?_
            refine lv_goto (tgt := 214) hx hb dL_isCompared_210 (by decide) ?_
            refine lv_istore_n (lv' := [(3, vi 1), (11, vi z66), (10, vi z56), (9, vi z46), (8, vi z36), (7, vi (i : Int)), (6, vi bl), (5, vi bs), (4, vi b), (0, .ref o), (1, .ref a1), (2, .ref aQ)]) hx hb dL_isCompared_214 rfl hl (by decide) rfl (fun ls hl => ?_)
            refine lv_aload_n hx hb dL_isCompared_215 rfl (lv_at hl 9 rfl) ?_
            refine jr_bipush hx hb dL_isCompared_216 (by decide) ?_
            refine lv_iload hx hb dL_isCompared_218 (lv_at hl 5 rfl) ?_
            refine jr_iconst hx hb dL_isCompared_220 ?_
            refine kl_Qi (cs := []) (vx_runSW (As := [.ref o, vi 8, vi (i : Int), vi 0]) (rest := []) ⟨hx, hb, hml, hown, htl⟩ (m_L_ask_isLive l hsT g o (wD S x1) w200 hC H.size (i : Int) ⟨by omega, by omega⟩ 0) (vx_cwSW 4 htl lkH_L_ask rfl rfl rfl cwS_L_ask ⟨Nat.le_of_ble_eq_true rfl, Nat.le_of_ble_eq_true rfl⟩) (jp_S hKK hS hAb ⟨rfl, (kw_P (cs := []) hP), hD.weaken (fun _ q _ h => hAb _ h)⟩) rfl rfl hl.1 rfl (lv_room (Nat.le_of_ble_eq_true rfl)) dL_isCompared_221 ⟨by show _ ≤ 800; omega, by show _ ≤ 4800; omega⟩) hP hD hS hA ?_
            clear hP hD hS hC; intro z221 H locs w221 hz221 hC hP hD hS
            have hP : PP g w221 H := hP
            have hD : va_D A w221 := hD
            refine W.widen (k := ((181 + 15 * i) + 15)) (n := ((1086 + 90 * i) + 90)) (by omega) (by omega) ?_
            replace hz221 : z221 = (uS S i).2.2 := hz221.trans (aq8 (S := wD S x1) (i := i) (by show i < nU S; omega))
            have h01 : z221 = 0 ∨ z221 = 1 := by rw [hz221]; exact (CW.uct hC i).2.2
            refine jr_iconst hx hb dL_isCompared_224 ?_
            refine jr_ne (tgt := 266) hx hb dL_isCompared_225 (by decide) ⟨by omega, by omega⟩ ⟨by omega, by omega⟩ (fun c225 => ?_) (fun c225 => ?_)
            · refine jr_iinc (lv' := [(7, vi ((i : Int) + 1)), (3, vi 1), (11, vi z66), (10, vi z56), (9, vi z46), (8, vi z36), (6, vi bl), (5, vi bs), (4, vi b), (0, .ref o), (1, .ref a1), (2, .ref aQ)]) hx hb dL_isCompared_266 hl (k := 5) rfl rfl (by decide) rfl (fun ls hl => ?_)
              refine lv_goto (tgt := 18) hx hb dL_isCompared_269 (by decide) ?_
              refine W.widen (k := (181 + 15 * (i + 1))) (n := (1086 + 90 * (i + 1))) (by omega) (by omega) ?_
              exact ih18 (i + 1) b bs bl _ (by show i + 1 ≤ nU S; omega) (fa_keep hF hz66 hz46 hz221 (by omega) h01) (hC) (by omega) _ _ hP hD hS ls (lv_sub hl [0, 6, 7, 8, 1, 9, 10, 11] rfl)
            · refine lv_iload hx hb dL_isCompared_228 (lv_at hl 1 rfl) ?_
              refine jr_ifle (tgt := 266) hx hb dL_isCompared_230 (by decide) ⟨by omega, by omega⟩ (fun c230 => ?_) (fun c230 => ?_)
              · refine jr_iinc (lv' := [(7, vi ((i : Int) + 1)), (3, vi 1), (11, vi z66), (10, vi z56), (9, vi z46), (8, vi z36), (6, vi bl), (5, vi bs), (4, vi b), (0, .ref o), (1, .ref a1), (2, .ref aQ)]) hx hb dL_isCompared_266 hl (k := 5) rfl rfl (by decide) rfl (fun ls hl => ?_)
                refine lv_goto (tgt := 18) hx hb dL_isCompared_269 (by decide) ?_
                refine W.widen (k := (181 + 15 * (i + 1))) (n := (1086 + 90 * (i + 1))) (by omega) (by omega) ?_
                exact ih18 (i + 1) b bs bl _ (by show i + 1 ≤ nU S; omega) (fa_keep hF hz66 hz46 hz221 (by omega) h01) (hC) (by omega) _ _ hP hD hS ls (lv_sub hl [0, 6, 7, 8, 1, 9, 10, 11] rfl)
              · refine lv_iload hx hb dL_isCompared_233 (lv_at hl 1 rfl) ?_
                refine lv_iload hx hb dL_isCompared_235 (lv_at hl 7 rfl) ?_
                refine jr_gt (tgt := 254) hx hb dL_isCompared_237 (by decide) ⟨by omega, by omega⟩ ⟨by omega, by omega⟩ (fun c237 => ?_) (fun c237 => ?_)
                · refine lv_iload hx hb dL_isCompared_254 (lv_at hl 5 rfl) ?_
                  refine lv_istore (lv' := [(4, vi (i : Int)), (3, vi 1), (11, vi z66), (10, vi z56), (9, vi z46), (8, vi z36), (7, vi (i : Int)), (6, vi bl), (5, vi bs), (0, .ref o), (1, .ref a1), (2, .ref aQ)]) hx hb dL_isCompared_256 hl (by decide) rfl (fun ls hl => ?_)
                  refine lv_iload hx hb dL_isCompared_258 (lv_at hl 2 rfl) ?_
                  refine lv_istore (lv' := [(5, vi z66), (4, vi (i : Int)), (3, vi 1), (11, vi z66), (10, vi z56), (9, vi z46), (8, vi z36), (7, vi (i : Int)), (6, vi bl), (0, .ref o), (1, .ref a1), (2, .ref aQ)]) hx hb dL_isCompared_260 hl (by decide) rfl (fun ls hl => ?_)
                  refine lv_iload hx hb dL_isCompared_262 (lv_at hl 5 rfl) ?_
                  refine lv_istore (lv' := [(6, vi z46), (5, vi z66), (4, vi (i : Int)), (3, vi 1), (11, vi z66), (10, vi z56), (9, vi z46), (8, vi z36), (7, vi (i : Int)), (0, .ref o), (1, .ref a1), (2, .ref aQ)]) hx hb dL_isCompared_264 hl (by decide) rfl (fun ls hl => ?_)
                  refine jr_iinc (lv' := [(7, vi ((i : Int) + 1)), (6, vi z46), (5, vi z66), (4, vi (i : Int)), (3, vi 1), (11, vi z66), (10, vi z56), (9, vi z46), (8, vi z36), (0, .ref o), (1, .ref a1), (2, .ref aQ)]) hx hb dL_isCompared_266 hl (k := 8) rfl rfl (by decide) rfl (fun ls hl => ?_)
                  refine lv_goto (tgt := 18) hx hb dL_isCompared_269 (by decide) ?_
                  refine W.widen (k := (181 + 15 * (i + 1))) (n := (1086 + 90 * (i + 1))) (by omega) (by omega) ?_
                  exact ih18 (i + 1) (i : Int) z66 z46 _ (by show i + 1 ≤ nU S; omega) (fa_take hF hz66 hz46 hz221 (by omega)) (hC) (by omega) _ _ hP hD hS ls (lv_sub hl [0, 1, 2, 3, 4, 9, 10, 11] rfl)
                · refine lv_iload hx hb dL_isCompared_240 (lv_at hl 1 rfl) ?_
                  refine lv_iload hx hb dL_isCompared_242 (lv_at hl 7 rfl) ?_
                  refine jr_ne (tgt := 266) hx hb dL_isCompared_244 (by decide) ⟨by omega, by omega⟩ ⟨by omega, by omega⟩ (fun c244 => ?_) (fun c244 => ?_)
                  · refine jr_iinc (lv' := [(7, vi ((i : Int) + 1)), (3, vi 1), (11, vi z66), (10, vi z56), (9, vi z46), (8, vi z36), (6, vi bl), (5, vi bs), (4, vi b), (0, .ref o), (1, .ref a1), (2, .ref aQ)]) hx hb dL_isCompared_266 hl (k := 5) rfl rfl (by decide) rfl (fun ls hl => ?_)
                    refine lv_goto (tgt := 18) hx hb dL_isCompared_269 (by decide) ?_
                    refine W.widen (k := (181 + 15 * (i + 1))) (n := (1086 + 90 * (i + 1))) (by omega) (by omega) ?_
                    exact ih18 (i + 1) b bs bl _ (by show i + 1 ≤ nU S; omega) (fa_keep hF hz66 hz46 hz221 (by omega) h01) (hC) (by omega) _ _ hP hD hS ls (lv_sub hl [0, 6, 7, 8, 1, 9, 10, 11] rfl)
                  · refine lv_iload hx hb dL_isCompared_247 (lv_at hl 3 rfl) ?_
                    refine lv_iload hx hb dL_isCompared_249 (lv_at hl 6 rfl) ?_
                    refine jr_lt (tgt := 266) hx hb dL_isCompared_251 (by decide) ⟨by omega, by omega⟩ ⟨by omega, by omega⟩ (fun c251 => ?_) (fun c251 => ?_)
                    · refine jr_iinc (lv' := [(7, vi ((i : Int) + 1)), (3, vi 1), (11, vi z66), (10, vi z56), (9, vi z46), (8, vi z36), (6, vi bl), (5, vi bs), (4, vi b), (0, .ref o), (1, .ref a1), (2, .ref aQ)]) hx hb dL_isCompared_266 hl (k := 5) rfl rfl (by decide) rfl (fun ls hl => ?_)
                      refine lv_goto (tgt := 18) hx hb dL_isCompared_269 (by decide) ?_
                      refine W.widen (k := (181 + 15 * (i + 1))) (n := (1086 + 90 * (i + 1))) (by omega) (by omega) ?_
                      exact ih18 (i + 1) b bs bl _ (by show i + 1 ≤ nU S; omega) (fa_keep hF hz66 hz46 hz221 (by omega) h01) (hC) (by omega) _ _ hP hD hS ls (lv_sub hl [0, 6, 7, 8, 1, 9, 10, 11] rfl)
                    · refine lv_iload hx hb dL_isCompared_254 (lv_at hl 5 rfl) ?_
                      refine lv_istore (lv' := [(4, vi (i : Int)), (3, vi 1), (11, vi z66), (10, vi z56), (9, vi z46), (8, vi z36), (7, vi (i : Int)), (6, vi bl), (5, vi bs), (0, .ref o), (1, .ref a1), (2, .ref aQ)]) hx hb dL_isCompared_256 hl (by decide) rfl (fun ls hl => ?_)
                      refine lv_iload hx hb dL_isCompared_258 (lv_at hl 2 rfl) ?_
                      refine lv_istore (lv' := [(5, vi z66), (4, vi (i : Int)), (3, vi 1), (11, vi z66), (10, vi z56), (9, vi z46), (8, vi z36), (7, vi (i : Int)), (6, vi bl), (0, .ref o), (1, .ref a1), (2, .ref aQ)]) hx hb dL_isCompared_260 hl (by decide) rfl (fun ls hl => ?_)
                      refine lv_iload hx hb dL_isCompared_262 (lv_at hl 5 rfl) ?_
                      refine lv_istore (lv' := [(6, vi z46), (5, vi z66), (4, vi (i : Int)), (3, vi 1), (11, vi z66), (10, vi z56), (9, vi z46), (8, vi z36), (7, vi (i : Int)), (0, .ref o), (1, .ref a1), (2, .ref aQ)]) hx hb dL_isCompared_264 hl (by decide) rfl (fun ls hl => ?_)
                      refine jr_iinc (lv' := [(7, vi ((i : Int) + 1)), (6, vi z46), (5, vi z66), (4, vi (i : Int)), (3, vi 1), (11, vi z66), (10, vi z56), (9, vi z46), (8, vi z36), (0, .ref o), (1, .ref a1), (2, .ref aQ)]) hx hb dL_isCompared_266 hl (k := 8) rfl rfl (by decide) rfl (fun ls hl => ?_)
                      refine lv_goto (tgt := 18) hx hb dL_isCompared_269 (by decide) ?_
                      refine W.widen (k := (181 + 15 * (i + 1))) (n := (1086 + 90 * (i + 1))) (by omega) (by omega) ?_
                      exact ih18 (i + 1) (i : Int) z66 z46 _ (by show i + 1 ≤ nU S; omega) (fa_take hF hz66 hz46 hz221 (by omega)) (hC) (by omega) _ _ hP hD hS ls (lv_sub hl [0, 1, 2, 3, 4, 9, 10, 11] rfl)
          · refine lv_iload hx hb dL_isCompared_159 (lv_at hl 2 rfl) ?_
            refine jr_bipush hx hb dL_isCompared_161 (by decide) ?_
            refine lv_iload hx hb dL_isCompared_163 (lv_at hl 1 rfl) ?_
            refine jr_imul hx hb dL_isCompared_165 ?_
            refine jr_isub hx hb dL_isCompared_166 ?_
            refine lv_goto (tgt := 171) hx hb dL_isCompared_167 (by decide) ?_
            refine jr_ne (tgt := 178) hx hb dL_isCompared_171 (by decide) ⟨by omega, by omega⟩ ⟨by omega, by omega⟩ (fun c171 => absurd c171 (by omega)) (fun c171 => ?_)
            refine jr_iconst hx hb dL_isCompared_174 ?_
            refine lv_goto (tgt := 179) hx hb dL_isCompared_175 (by decide) ?_
            refine lv_istore_n (lv' := [(3, vi 1), (11, vi z66), (10, vi z56), (9, vi z46), (8, vi z36), (7, vi (i : Int)), (6, vi bl), (5, vi bs), (4, vi b), (0, .ref o), (1, .ref a1), (2, .ref aQ)]) hx hb dL_isCompared_179 rfl hl (by decide) rfl (fun ls hl => ?_)
            refine lv_iload_n hx hb dL_isCompared_180 rfl (lv_at hl 0 rfl) ?_
            refine jr_ifeq (tgt := 213) hx hb dL_isCompared_181 (by decide) ⟨by omega, by omega⟩ (fun c181 => absurd c181 (by omega)) (fun c181 => ?_)
            refine lv_aload_n hx hb dL_isCompared_184 rfl (lv_at hl 9 rfl) ?_
            refine jr_iconst hx hb dL_isCompared_185 ?_
            refine lv_iload hx hb dL_isCompared_186 (lv_at hl 5 rfl) ?_
            refine jr_iconst hx hb dL_isCompared_188 ?_
            refine kl_Qi (cs := []) (vx_runSW (As := [.ref o, vi 5, vi (i : Int), vi 0]) (rest := []) ⟨hx, hb, hml, hown, htl⟩ (m_L_ask_sharedPairs l hsT g o (wD S x1) w78 hC H.size (i : Int) ⟨by omega, by omega⟩ 0) (vx_cwSW 4 htl lkH_L_ask rfl rfl rfl cwS_L_ask ⟨Nat.le_of_ble_eq_true rfl, Nat.le_of_ble_eq_true rfl⟩) (jp_S hKK hS hAb ⟨rfl, (kw_P (cs := []) hP), hD.weaken (fun _ q _ h => hAb _ h)⟩) rfl rfl hl.1 rfl (lv_room (Nat.le_of_ble_eq_true rfl)) dL_isCompared_189 ⟨by show _ ≤ 800; omega, by show _ ≤ 4800; omega⟩) hP hD hS hA ?_
            clear hP hD hS hC; intro z189 H locs w189 hz189 hC hP hD hS
            have hP : PP g w189 H := hP
            have hD : va_D A w189 := hD
            refine W.widen (k := ((181 + 15 * i) + 12)) (n := ((1086 + 90 * i) + 72)) (by omega) (by omega) ?_
            replace hz189 : z189 = shA (pl x1) (pl (uS S i).1) ((pl x1).length - 1) := hz189.trans (aqU (S := wD S x1) (i := i) (by show i < nU S; omega) (by show ¬ x1.length = 0; omega))
            have hsh := shA_b (pl x1) (pl (uS S i).1) ((pl x1).length - 1)
            have hpl := pl_l x1
            refine jr_iflt (tgt := 213) hx hb dL_isCompared_192 (by decide) ⟨by omega, by omega⟩ (fun c192 => absurd c192 (by omega)) (fun c192 => ?_)
            refine lv_aload_n hx hb dL_isCompared_195 rfl (lv_at hl 9 rfl) ?_
            refine jr_iconst hx hb dL_isCompared_196 ?_
            refine lv_iload hx hb dL_isCompared_197 (lv_at hl 5 rfl) ?_
            refine jr_iconst hx hb dL_isCompared_199 ?_
            refine kl_Qi (cs := []) (vx_runSW (As := [.ref o, vi 5, vi (i : Int), vi 0]) (rest := []) ⟨hx, hb, hml, hown, htl⟩ (m_L_ask_sharedPairs l hsT g o (wD S x1) w189 hC H.size (i : Int) ⟨by omega, by omega⟩ 0) (vx_cwSW 4 htl lkH_L_ask rfl rfl rfl cwS_L_ask ⟨Nat.le_of_ble_eq_true rfl, Nat.le_of_ble_eq_true rfl⟩) (jp_S hKK hS hAb ⟨rfl, (kw_P (cs := []) hP), hD.weaken (fun _ q _ h => hAb _ h)⟩) rfl rfl hl.1 rfl (lv_room (Nat.le_of_ble_eq_true rfl)) dL_isCompared_200 ⟨by show _ ≤ 800; omega, by show _ ≤ 4800; omega⟩) hP hD hS hA ?_
            clear hP hD hS hC; intro z200 H locs w200 hz200 hC hP hD hS
            have hP : PP g w200 H := hP
            have hD : va_D A w200 := hD
            refine W.widen (k := ((181 + 15 * i) + 14)) (n := ((1086 + 90 * i) + 84)) (by omega) (by omega) ?_
            replace hz200 : z200 = shA (pl x1) (pl (uS S i).1) ((pl x1).length - 1) := hz200.trans (aqU (S := wD S x1) (i := i) (by show i < nU S; omega) (by show ¬ x1.length = 0; omega))
            refine lv_aload_n hx hb dL_isCompared_203 rfl (lv_at hl 10 rfl) ?_
            refine jr_iconst hx hb dL_isCompared_204 ?_
            refine jr_iald hx hb hKK.k (jat hP1 hS ap_hP1) 0 rfl 0 rfl (by omega) (by omega) dL_isCompared_205 ?_
            refine jr_nm (b := (x1.length : Int)) (by rw [hx1.n]) ?_
            refine jr_ge (tgt := 213) hx hb dL_isCompared_206 (by decide) ⟨by omega, by omega⟩ ⟨by omega, by omega⟩ (fun c206 => absurd c206 (by omega)) (fun c206 => ?_)
            refine jr_iconst hx hb dL_isCompared_209 ?_
            refine lv_goto (tgt := 214) hx hb dL_isCompared_210 (by decide) ?_
            refine lv_istore_n (lv' := [(3, vi 1), (11, vi z66), (10, vi z56), (9, vi z46), (8, vi z36), (7, vi (i : Int)), (6, vi bl), (5, vi bs), (4, vi b), (0, .ref o), (1, .ref a1), (2, .ref aQ)]) hx hb dL_isCompared_214 rfl hl (by decide) rfl (fun ls hl => ?_)
            refine lv_aload_n hx hb dL_isCompared_215 rfl (lv_at hl 9 rfl) ?_
            refine jr_bipush hx hb dL_isCompared_216 (by decide) ?_
            refine lv_iload hx hb dL_isCompared_218 (lv_at hl 5 rfl) ?_
            refine jr_iconst hx hb dL_isCompared_220 ?_
            refine kl_Qi (cs := []) (vx_runSW (As := [.ref o, vi 8, vi (i : Int), vi 0]) (rest := []) ⟨hx, hb, hml, hown, htl⟩ (m_L_ask_isLive l hsT g o (wD S x1) w200 hC H.size (i : Int) ⟨by omega, by omega⟩ 0) (vx_cwSW 4 htl lkH_L_ask rfl rfl rfl cwS_L_ask ⟨Nat.le_of_ble_eq_true rfl, Nat.le_of_ble_eq_true rfl⟩) (jp_S hKK hS hAb ⟨rfl, (kw_P (cs := []) hP), hD.weaken (fun _ q _ h => hAb _ h)⟩) rfl rfl hl.1 rfl (lv_room (Nat.le_of_ble_eq_true rfl)) dL_isCompared_221 ⟨by show _ ≤ 800; omega, by show _ ≤ 4800; omega⟩) hP hD hS hA ?_
            clear hP hD hS hC; intro z221 H locs w221 hz221 hC hP hD hS
            have hP : PP g w221 H := hP
            have hD : va_D A w221 := hD
            refine W.widen (k := ((181 + 15 * i) + 15)) (n := ((1086 + 90 * i) + 90)) (by omega) (by omega) ?_
            replace hz221 : z221 = (uS S i).2.2 := hz221.trans (aq8 (S := wD S x1) (i := i) (by show i < nU S; omega))
            have h01 : z221 = 0 ∨ z221 = 1 := by rw [hz221]; exact (CW.uct hC i).2.2
            refine jr_iconst hx hb dL_isCompared_224 ?_
            refine jr_ne (tgt := 266) hx hb dL_isCompared_225 (by decide) ⟨by omega, by omega⟩ ⟨by omega, by omega⟩ (fun c225 => ?_) (fun c225 => ?_)
            · refine jr_iinc (lv' := [(7, vi ((i : Int) + 1)), (3, vi 1), (11, vi z66), (10, vi z56), (9, vi z46), (8, vi z36), (6, vi bl), (5, vi bs), (4, vi b), (0, .ref o), (1, .ref a1), (2, .ref aQ)]) hx hb dL_isCompared_266 hl (k := 5) rfl rfl (by decide) rfl (fun ls hl => ?_)
              refine lv_goto (tgt := 18) hx hb dL_isCompared_269 (by decide) ?_
              refine W.widen (k := (181 + 15 * (i + 1))) (n := (1086 + 90 * (i + 1))) (by omega) (by omega) ?_
              exact ih18 (i + 1) b bs bl _ (by show i + 1 ≤ nU S; omega) (fa_keep hF hz66 hz46 hz221 (by omega) h01) (hC) (by omega) _ _ hP hD hS ls (lv_sub hl [0, 6, 7, 8, 1, 9, 10, 11] rfl)
            · refine lv_iload hx hb dL_isCompared_228 (lv_at hl 1 rfl) ?_
              refine jr_ifle (tgt := 266) hx hb dL_isCompared_230 (by decide) ⟨by omega, by omega⟩ (fun c230 => ?_) (fun c230 => ?_)
              · refine jr_iinc (lv' := [(7, vi ((i : Int) + 1)), (3, vi 1), (11, vi z66), (10, vi z56), (9, vi z46), (8, vi z36), (6, vi bl), (5, vi bs), (4, vi b), (0, .ref o), (1, .ref a1), (2, .ref aQ)]) hx hb dL_isCompared_266 hl (k := 5) rfl rfl (by decide) rfl (fun ls hl => ?_)
                refine lv_goto (tgt := 18) hx hb dL_isCompared_269 (by decide) ?_
                refine W.widen (k := (181 + 15 * (i + 1))) (n := (1086 + 90 * (i + 1))) (by omega) (by omega) ?_
                exact ih18 (i + 1) b bs bl _ (by show i + 1 ≤ nU S; omega) (fa_keep hF hz66 hz46 hz221 (by omega) h01) (hC) (by omega) _ _ hP hD hS ls (lv_sub hl [0, 6, 7, 8, 1, 9, 10, 11] rfl)
              · refine lv_iload hx hb dL_isCompared_233 (lv_at hl 1 rfl) ?_
                refine lv_iload hx hb dL_isCompared_235 (lv_at hl 7 rfl) ?_
                refine jr_gt (tgt := 254) hx hb dL_isCompared_237 (by decide) ⟨by omega, by omega⟩ ⟨by omega, by omega⟩ (fun c237 => ?_) (fun c237 => ?_)
                · refine lv_iload hx hb dL_isCompared_254 (lv_at hl 5 rfl) ?_
                  refine lv_istore (lv' := [(4, vi (i : Int)), (3, vi 1), (11, vi z66), (10, vi z56), (9, vi z46), (8, vi z36), (7, vi (i : Int)), (6, vi bl), (5, vi bs), (0, .ref o), (1, .ref a1), (2, .ref aQ)]) hx hb dL_isCompared_256 hl (by decide) rfl (fun ls hl => ?_)
                  refine lv_iload hx hb dL_isCompared_258 (lv_at hl 2 rfl) ?_
                  refine lv_istore (lv' := [(5, vi z66), (4, vi (i : Int)), (3, vi 1), (11, vi z66), (10, vi z56), (9, vi z46), (8, vi z36), (7, vi (i : Int)), (6, vi bl), (0, .ref o), (1, .ref a1), (2, .ref aQ)]) hx hb dL_isCompared_260 hl (by decide) rfl (fun ls hl => ?_)
                  refine lv_iload hx hb dL_isCompared_262 (lv_at hl 5 rfl) ?_
                  refine lv_istore (lv' := [(6, vi z46), (5, vi z66), (4, vi (i : Int)), (3, vi 1), (11, vi z66), (10, vi z56), (9, vi z46), (8, vi z36), (7, vi (i : Int)), (0, .ref o), (1, .ref a1), (2, .ref aQ)]) hx hb dL_isCompared_264 hl (by decide) rfl (fun ls hl => ?_)
                  refine jr_iinc (lv' := [(7, vi ((i : Int) + 1)), (6, vi z46), (5, vi z66), (4, vi (i : Int)), (3, vi 1), (11, vi z66), (10, vi z56), (9, vi z46), (8, vi z36), (0, .ref o), (1, .ref a1), (2, .ref aQ)]) hx hb dL_isCompared_266 hl (k := 8) rfl rfl (by decide) rfl (fun ls hl => ?_)
                  refine lv_goto (tgt := 18) hx hb dL_isCompared_269 (by decide) ?_
                  refine W.widen (k := (181 + 15 * (i + 1))) (n := (1086 + 90 * (i + 1))) (by omega) (by omega) ?_
                  exact ih18 (i + 1) (i : Int) z66 z46 _ (by show i + 1 ≤ nU S; omega) (fa_take hF hz66 hz46 hz221 (by omega)) (hC) (by omega) _ _ hP hD hS ls (lv_sub hl [0, 1, 2, 3, 4, 9, 10, 11] rfl)
                · refine lv_iload hx hb dL_isCompared_240 (lv_at hl 1 rfl) ?_
                  refine lv_iload hx hb dL_isCompared_242 (lv_at hl 7 rfl) ?_
                  refine jr_ne (tgt := 266) hx hb dL_isCompared_244 (by decide) ⟨by omega, by omega⟩ ⟨by omega, by omega⟩ (fun c244 => ?_) (fun c244 => ?_)
                  · refine jr_iinc (lv' := [(7, vi ((i : Int) + 1)), (3, vi 1), (11, vi z66), (10, vi z56), (9, vi z46), (8, vi z36), (6, vi bl), (5, vi bs), (4, vi b), (0, .ref o), (1, .ref a1), (2, .ref aQ)]) hx hb dL_isCompared_266 hl (k := 5) rfl rfl (by decide) rfl (fun ls hl => ?_)
                    refine lv_goto (tgt := 18) hx hb dL_isCompared_269 (by decide) ?_
                    refine W.widen (k := (181 + 15 * (i + 1))) (n := (1086 + 90 * (i + 1))) (by omega) (by omega) ?_
                    exact ih18 (i + 1) b bs bl _ (by show i + 1 ≤ nU S; omega) (fa_keep hF hz66 hz46 hz221 (by omega) h01) (hC) (by omega) _ _ hP hD hS ls (lv_sub hl [0, 6, 7, 8, 1, 9, 10, 11] rfl)
                  · refine lv_iload hx hb dL_isCompared_247 (lv_at hl 3 rfl) ?_
                    refine lv_iload hx hb dL_isCompared_249 (lv_at hl 6 rfl) ?_
                    refine jr_lt (tgt := 266) hx hb dL_isCompared_251 (by decide) ⟨by omega, by omega⟩ ⟨by omega, by omega⟩ (fun c251 => ?_) (fun c251 => ?_)
                    · refine jr_iinc (lv' := [(7, vi ((i : Int) + 1)), (3, vi 1), (11, vi z66), (10, vi z56), (9, vi z46), (8, vi z36), (6, vi bl), (5, vi bs), (4, vi b), (0, .ref o), (1, .ref a1), (2, .ref aQ)]) hx hb dL_isCompared_266 hl (k := 5) rfl rfl (by decide) rfl (fun ls hl => ?_)
                      refine lv_goto (tgt := 18) hx hb dL_isCompared_269 (by decide) ?_
                      refine W.widen (k := (181 + 15 * (i + 1))) (n := (1086 + 90 * (i + 1))) (by omega) (by omega) ?_
                      exact ih18 (i + 1) b bs bl _ (by show i + 1 ≤ nU S; omega) (fa_keep hF hz66 hz46 hz221 (by omega) h01) (hC) (by omega) _ _ hP hD hS ls (lv_sub hl [0, 6, 7, 8, 1, 9, 10, 11] rfl)
                    · refine lv_iload hx hb dL_isCompared_254 (lv_at hl 5 rfl) ?_
                      refine lv_istore (lv' := [(4, vi (i : Int)), (3, vi 1), (11, vi z66), (10, vi z56), (9, vi z46), (8, vi z36), (7, vi (i : Int)), (6, vi bl), (5, vi bs), (0, .ref o), (1, .ref a1), (2, .ref aQ)]) hx hb dL_isCompared_256 hl (by decide) rfl (fun ls hl => ?_)
                      refine lv_iload hx hb dL_isCompared_258 (lv_at hl 2 rfl) ?_
                      refine lv_istore (lv' := [(5, vi z66), (4, vi (i : Int)), (3, vi 1), (11, vi z66), (10, vi z56), (9, vi z46), (8, vi z36), (7, vi (i : Int)), (6, vi bl), (0, .ref o), (1, .ref a1), (2, .ref aQ)]) hx hb dL_isCompared_260 hl (by decide) rfl (fun ls hl => ?_)
                      refine lv_iload hx hb dL_isCompared_262 (lv_at hl 5 rfl) ?_
                      refine lv_istore (lv' := [(6, vi z46), (5, vi z66), (4, vi (i : Int)), (3, vi 1), (11, vi z66), (10, vi z56), (9, vi z46), (8, vi z36), (7, vi (i : Int)), (0, .ref o), (1, .ref a1), (2, .ref aQ)]) hx hb dL_isCompared_264 hl (by decide) rfl (fun ls hl => ?_)
                      refine jr_iinc (lv' := [(7, vi ((i : Int) + 1)), (6, vi z46), (5, vi z66), (4, vi (i : Int)), (3, vi 1), (11, vi z66), (10, vi z56), (9, vi z46), (8, vi z36), (0, .ref o), (1, .ref a1), (2, .ref aQ)]) hx hb dL_isCompared_266 hl (k := 8) rfl rfl (by decide) rfl (fun ls hl => ?_)
                      refine lv_goto (tgt := 18) hx hb dL_isCompared_269 (by decide) ?_
                      refine W.widen (k := (181 + 15 * (i + 1))) (n := (1086 + 90 * (i + 1))) (by omega) (by omega) ?_
                      exact ih18 (i + 1) (i : Int) z66 z46 _ (by show i + 1 ≤ nU S; omega) (fa_take hF hz66 hz46 hz221 (by omega)) (hC) (by omega) _ _ hP hD hS ls (lv_sub hl [0, 1, 2, 3, 4, 9, 10, 11] rfl)
  refine W.widen (k := 181 + 15 * 0) (n := 1086 + 90 * 0) (by omega) (by omega) ?_
  exact lp18 _ 0 (-1) 0 0 _ (Nat.zero_le _) (rfl) (hC) (Nat.lt_succ_self _) _ _ hP hD hS ls (lv_sub hl [0, 1, 2, 3, 4, 5, 6, 7] rfl)
