
theorem lk_L_180 : GoodIn WSL (va_wsS RL 180 yL_segment (ws_ yL_segment cL_segment 6 (some (.array .int)))) := gd_app (List.forall_mem_cons.mpr ⟨wd_33_10, List.forall_mem_cons.mpr ⟨wd_33_11, List.forall_mem_cons.mpr ⟨wd_8_17, fun _ h => nomatch h⟩⟩⟩) (gd_ wd_33_12)
theorem cwS_L_segment : yL_segment.cls ≠ "java/lang/invoke/MethodHandle" ∧ yL_segment.cls ≠ "java/lang/invoke/VarHandle" ∧ (parseMethodDescriptor yL_segment.desc).map (fun d => d.parameters.length) = some 3 := by decide +kernel
theorem best_lt {T : SGM} {x : List Int} {z th : Int} (hw : WB T.2.2.2.1) (hz : (bsU T x = -1 ∧ z = -2005) ∨ (¬ bsU T x = -1 ∧ z = bsU T x)) (hn : ¬ z = -2005) (h : bsU T x = -1 ∨ rate T.2.2.2.1 T.2.2.2.2.1 x (ug T (bsU T x)) < th) : ∃ u : Nat, z = (u : Int) ∧ u < nU T ∧ rate T.2.2.2.1 T.2.2.2.2.1 x (uS T u) < th := by
  rcases hz with ⟨h1, h2⟩ | ⟨h1, h2⟩
  · exact absurd h2 hn
  · have hb := bsU_b hw x
    exact ⟨(bsU T x).toNat, by omega, by omega, h.resolve_left h1⟩
theorem best_g {z B : Int} (h : z = if B = -1 then -2005 else B) : (B = -1 ∧ z = -2005) ∨ (¬ B = -1 ∧ z = B) := best_f h rfl
theorem cdF_0 {v : Int} (h : 1 ≤ v ∧ v ≤ 100) : cd1 (1 ≤ v ∧ v ≤ 100) = 0 := cd1_0 h
def HASP (v : Nat → SV) (i j : Nat) : Prop := ∀ q, q < j → ¬ (q ≠ i ∧ ¬ (v q).2.2.1 = 101 ∧ (v i).1 = (v q).1)
theorem HASP.s {v : Nat → SV} {i j : Nat} (h : HASP v i j) (h1 : ¬ (j ≠ i ∧ ¬ (v j).2.2.1 = 101 ∧ (v i).1 = (v j).1)) : HASP v i (j + 1) := by
  intro q hq
  by_cases e : q = j
  · subst e; exact h1
  · exact h q (by omega)
theorem HASP.no {v : Nat → SV} {i n : Nat} (h : HASP v i n) (h1 : ∃ j, j < n ∧ j ≠ i ∧ ¬ (v j).2.2.1 = 101 ∧ (v j).1 = (v i).1) : False := by
  obtain ⟨j, h2, h3, h4, h5⟩ := h1
  exact h j h2 ⟨h3, h4, h5.symm⟩
set_option maxHeartbeats 4000000 in
set_option maxRecDepth 100000 in
theorem m_L_isFilled (l : Launch) (hsT : l.stackTraces = false) (g : GT) (o : Nat) (S : SGM) (W9 : va_W) (hCW : CW g o S W9) (sz : Nat) (a1 : Nat) (x1 : List Int) (f1 : Nat → Int) (hx1 : AT x1 f1) (v0 : Int) (hv0 : 1 ≤ v0 ∧ v0 ≤ 100) (hS0 : S.1.length = 0) (hd : DOC S x1) (hsg : SEGS S) (hun : UNI S) (hd_hP1 : ∀ x ∈ ([aI g a1 61 f1] : va_W).map (·.1), x ∉ W9.map (·.1)) : Met l yL_isFilled (ws_ yL_isFilled cL_isFilled 12 (some .boolean)) (rmm 14 231200 1588000) (jPc g [.ref o, .ref a1, vi v0] (fun H => H.size = sz ∧ PP g W9 H ∧ va_D (fun q => gb g ≤ q) W9 ∧ PP g [aI g a1 61 f1] H)) (jQi (fun z H1 => (z = 1) ∧ ∃ w1 : va_W, CW g o ((flP v0 S (nS S)).1) w1 ∧ PP g w1 H1 ∧ va_D (va_A W9 sz) w1) (va_A W9 sz)) 231200 1588000 (va_A W9 sz) := by
  refine jb_M (by decide) (Nat.le_of_ble_eq_true rfl) ?_
  intro p e s m below meth cq hx hb hr hml hown htl hlk hnm hKK hpre ls hl
  have hown : s.vm.findClass RL = some m.cls := hown
  obtain ⟨hsz, hP, hD0, hP1⟩ := hpre
  subst hsz
  have hAb : ∀ q, (va_A W9 s.heap.size) q → gb g ≤ q := fun q h => h.elim (fun ⟨k, e, h⟩ => hD0.2 k _ h) (fun h => Nat.le_trans hKK.2.1 h)
  have hD : va_D (va_A W9 s.heap.size) W9 := hD0.self
  have ap_hP1 := japS hP1 rfl hd_hP1
  generalize hAe : va_A W9 s.heap.size = A at *
  have hA : ∀ q, s.heap.size ≤ q → A q := fun q h => by rw [← hAe]; exact Or.inr h
  have hS : va_S A s.heap s.heap [] := va_S.rf
  have hl : lv_has ls 12 [(0, .ref o), (1, .ref a1), (2, vi v0)] := hl
  have hd60 := CW.d60 hCW
  have hn60 := CW.n60 hCW
  have hl1 := hx1.len
  have hw := CW.wb hCW
  have hcb0 := ce_b (sS S) (nS S)
  suffices K : ∀ (w9 : va_W) (H : Heap) (locs : List Loc), CW g o S w9 → PP g w9 H → va_D A w9 → va_S A s.heap H locs → ∀ ls : Array Slot, lv_has ls 12 [(0, .ref o), (1, .ref a1), (2, vi v0)] → W p l e (rmm 14 231200 1588000) s m ([.ref o, .ref a1, vi v0] : List Value).toArray below meth cq H locs 0 0 (MQ below (jQi (fun z H1 => (z = 1) ∧ ∃ w1 : va_W, CW g o ((flP v0 S (nS S)).1) w1 ∧ PP g w1 H1 ∧ va_D A w1) A) ([.ref o, .ref a1, vi v0] : List Value).toArray s 231200 1588000 A) (F0 m 0 ls []) from K _ _ _ hCW hP hD hS _ hl
  clear hl hP hD hS; intro w9 H locs hC hP hD hS ls hl
  refine jr_iconst hx hb dL_isFilled_0 ?_
  refine lv_istore_n (lv' := [(3, vi 0), (0, .ref o), (1, .ref a1), (2, vi v0)]) hx hb dL_isFilled_1 rfl hl (by decide) rfl (fun ls hl => ?_)
  refine jr_iconst hx hb dL_isFilled_2 ?_
  refine lv_istore (lv' := [(4, vi 0), (3, vi 0), (0, .ref o), (1, .ref a1), (2, vi v0)]) hx hb dL_isFilled_3 hl (by decide) rfl (fun ls hl => ?_)
  have lp5 : ∀ (N : Nat) (i : Nat) (w5 : va_W), (i ≤ nS S) → (CW g o S w5) → nS S - i < N → ∀ (H : Heap) (locs : List Loc), PP g w5 H → va_D A w5 → va_S A s.heap H locs → ∀ ls : Array Slot, lv_has ls 12 [(4, vi (i : Int)), (3, vi (ce (sS S) i)), (0, .ref o), (1, .ref a1), (2, vi v0)] → W p l e (rmm 14 231200 1588000) s m ([.ref o, .ref a1, vi v0] : List Value).toArray below meth cq H locs (0 + 1 * i) (0 + 6 * i) (MQ below (jQi (fun z H1 => (z = 1) ∧ ∃ w1 : va_W, CW g o ((flP v0 S (nS S)).1) w1 ∧ PP g w1 H1 ∧ va_D A w1) A) ([.ref o, .ref a1, vi v0] : List Value).toArray s 231200 1588000 A) (F0 m 5 ls []) := by
    intro N
    induction N with
    | zero => intro i w5 hi hC hM; exact absurd hM (Nat.not_lt_zero _)
    | succ N ih5 =>
      intro i w5 hi hC hM H locs hP hD hS ls hl
      have hcbi := ce_b (sS S) i
      refine lv_iload hx hb dL_isFilled_5 (lv_at hl 0 rfl) ?_
      refine lv_aload_n hx hb dL_isFilled_7 rfl (lv_at hl 2 rfl) ?_
      refine jk_Si (va_runV (As := []) (rest := [vi (i : Int)]) ⟨hx, hb, hml, hown, htl⟩ (m_X10_segments l hsT g o S w5 hC ) (cwV 0 htl lk_L_169 rfl rfl rfl cwV_X10_segments ⟨Nat.le_of_ble_eq_true rfl, Nat.le_of_ble_eq_true rfl⟩) (jp_V hKK hS hAb (CW.recv hKK hC (kw_P (cs := []) hP)) (kw_P (cs := []) hP)) rfl rfl hl.1 rfl (lv_room (Nat.le_of_ble_eq_true rfl)) dL_isFilled_8 ⟨by show _ ≤ 231200; omega, by show _ ≤ 1588000; omega⟩) (fun z8 hz8 => ?_)
      have hz8 : z8 = (nS S : Int) := hz8
      subst hz8
      refine jr_ge (tgt := 42) hx hb dL_isFilled_11 (by decide) ⟨by omega, by omega⟩ ⟨by omega, by omega⟩ (fun c11 => ?_) (fun c11 => ?_)
      · have hi9 : i = nS S := by omega
        have hl : lv_has ls 12 [(4, vi (i : Int)), (3, vi (ce (sS S) (nS S))), (0, .ref o), (1, .ref a1), (2, vi v0)] := (show ((ce (sS S) i) : Int) = (ce (sS S) (nS S)) from by rw [hi9]) ▸ hl
        refine lv_aload_n hx hb dL_isFilled_42 rfl (lv_at hl 2 rfl) ?_
        refine jr_bipush hx hb dL_isFilled_43 (by decide) ?_
        refine lv_iload_n hx hb dL_isFilled_45 rfl (lv_at hl 4 rfl) ?_
        refine jr_iconst hx hb dL_isFilled_46 ?_
        refine jr_iconst hx hb dL_isFilled_47 ?_
        refine jr_iconst hx hb dL_isFilled_48 ?_
        refine kl_Qi (cs := []) (vx_runSW (As := [.ref o, vi 12, vi v0, vi 0, vi 0, vi 0]) (rest := []) ⟨hx, hb, hml, hown, htl⟩ (m_L_deed_fill l hsT g o S w5 hC H.size v0 ⟨by omega, by omega⟩ 0 0 0) (vx_cwSW 6 htl lkH_L_deed rfl rfl rfl cwS_L_deed ⟨Nat.le_of_ble_eq_true rfl, Nat.le_of_ble_eq_true rfl⟩) (jp_S hKK hS hAb ⟨rfl, (kw_P (cs := []) hP), hD.weaken (fun _ q _ h => hAb _ h)⟩) rfl rfl hl.1 rfl (lv_room (Nat.le_of_ble_eq_true rfl)) dL_isFilled_49 ⟨by show _ ≤ 231200; omega, by show _ ≤ 1588000; omega⟩) hP hD hS hA ?_
        clear hP hD hS hC; intro z49 H locs w49 hz49 hC hP hD hS
        have hP : PP g w49 H := hP
        have hD : va_D A w49 := hD
        refine W.widen (k := ((0 + 1 * i) + 1)) (n := ((0 + 6 * i) + 6)) (by omega) (by omega) ?_
        replace hz49 : z49 = (flP v0 S (nS S)).2 := hz49.trans (rs_0 (cdF_0 hv0))
        rw [rS_0 (cdF_0 hv0)] at hC
        obtain ⟨T, hT, hTn, hTu, hTd, hdT, hsgT, huT, hcT, hthT, hfixT⟩ := fill_all hsg hun hw hd hv0.1
        rw [← hT] at hC
        have hcbT := ce_b (sS T) (nS S)
        have hwT := CW.wb hC
        refine lv_istore (lv' := [(4, vi z49), (3, vi (ce (sS S) (nS S))), (0, .ref o), (1, .ref a1), (2, vi v0)]) hx hb dL_isFilled_52 hl (by decide) rfl (fun ls hl => ?_)
        refine lv_iload hx hb dL_isFilled_54 (lv_at hl 0 rfl) ?_
        refine jr_iflt (tgt := 69) hx hb dL_isFilled_56 (by decide) ⟨by omega, by omega⟩ (fun c56 => absurd c56 (by omega)) (fun c56 => ?_)
        refine lv_iload hx hb dL_isFilled_59 (lv_at hl 0 rfl) ?_
        refine lv_iload_n hx hb dL_isFilled_61 rfl (lv_at hl 1 rfl) ?_
        refine jr_gt (tgt := 69) hx hb dL_isFilled_62 (by decide) ⟨by omega, by omega⟩ ⟨by omega, by omega⟩ (fun c62 => absurd c62 (by omega)) (fun c62 => ?_)
        refine jr_iconst hx hb dL_isFilled_65 ?_
        refine lv_goto (tgt := 70) hx hb dL_isFilled_66 (by decide) ?_
        refine lv_istore (lv' := [(5, vi 1), (4, vi z49), (3, vi (ce (sS S) (nS S))), (0, .ref o), (1, .ref a1), (2, vi v0)]) hx hb dL_isFilled_70 hl (by decide) rfl (fun ls hl => ?_)
        refine jr_iconst hx hb dL_isFilled_72 ?_
        refine lv_istore (lv' := [(6, vi 0), (5, vi 1), (4, vi z49), (3, vi (ce (sS S) (nS S))), (0, .ref o), (1, .ref a1), (2, vi v0)]) hx hb dL_isFilled_73 hl (by decide) rfl (fun ls hl => ?_)
        refine jr_iconst hx hb dL_isFilled_75 ?_
        refine lv_istore (lv' := [(7, vi 0), (6, vi 0), (5, vi 1), (4, vi z49), (3, vi (ce (sS S) (nS S))), (0, .ref o), (1, .ref a1), (2, vi v0)]) hx hb dL_isFilled_76 hl (by decide) rfl (fun ls hl => ?_)
        have lp78 : ∀ (N : Nat) (i : Nat) (w78 : va_W), (i ≤ nS S) → (CW g o T w78) → nS S - i < N → ∀ (H : Heap) (locs : List Loc), PP g w78 H → va_D A w78 → va_S A s.heap H locs → ∀ ls : Array Slot, lv_has ls 12 [(7, vi (i : Int)), (6, vi (ce (sS T) i)), (5, vi 1), (4, vi z49), (3, vi (ce (sS S) (nS S))), (0, .ref o), (1, .ref a1), (2, vi v0)] → W p l e (rmm 14 231200 1588000) s m ([.ref o, .ref a1, vi v0] : List Value).toArray below meth cq H locs (61 + 3850 * i) (366 + 26450 * i) (MQ below (jQi (fun z H1 => (z = 1) ∧ ∃ w1 : va_W, CW g o ((flP v0 S (nS S)).1) w1 ∧ PP g w1 H1 ∧ va_D A w1) A) ([.ref o, .ref a1, vi v0] : List Value).toArray s 231200 1588000 A) (F0 m 78 ls []) := by
          intro N
          induction N with
          | zero => intro i w78 hi hC hM; exact absurd hM (Nat.not_lt_zero _)
          | succ N ih78 =>
            intro i w78 hi hC hM H locs hP hD hS ls hl
            have hcbi := ce_b (sS T) i
            refine lv_iload hx hb dL_isFilled_78 (lv_at hl 0 rfl) ?_
            refine lv_aload_n hx hb dL_isFilled_80 rfl (lv_at hl 5 rfl) ?_
            refine jk_Si (va_runV (As := []) (rest := [vi (i : Int)]) ⟨hx, hb, hml, hown, htl⟩ (m_X10_segments l hsT g o T w78 hC ) (cwV 0 htl lk_L_169 rfl rfl rfl cwV_X10_segments ⟨Nat.le_of_ble_eq_true rfl, Nat.le_of_ble_eq_true rfl⟩) (jp_V hKK hS hAb (CW.recv hKK hC (kw_P (cs := []) hP)) (kw_P (cs := []) hP)) rfl rfl hl.1 rfl (lv_room (Nat.le_of_ble_eq_true rfl)) dL_isFilled_81 ⟨by show _ ≤ 231200; omega, by show _ ≤ 1588000; omega⟩) (fun z81 hz81 => ?_)
            have hz81 : z81 = (nS T : Int) := hz81
            subst hz81
            refine jr_ge (tgt := 394) hx hb dL_isFilled_84 (by decide) ⟨by omega, by omega⟩ ⟨by omega, by omega⟩ (fun c84 => ?_) (fun c84 => ?_)
            · have hi9 : i = nS S := by omega
              have hl : lv_has ls 12 [(7, vi (i : Int)), (6, vi (ce (sS T) (nS S))), (5, vi 1), (4, vi z49), (3, vi (ce (sS S) (nS S))), (0, .ref o), (1, .ref a1), (2, vi v0)] := (show ((ce (sS T) i) : Int) = (ce (sS T) (nS S)) from by rw [hi9]) ▸ hl
              refine lv_iload hx hb dL_isFilled_394 (lv_at hl 2 rfl) ?_
              refine jr_ifeq (tgt := 458) hx hb dL_isFilled_396 (by decide) ⟨by omega, by omega⟩ (fun c396 => absurd c396 (by omega)) (fun c396 => ?_)
              refine lv_iload hx hb dL_isFilled_399 (lv_at hl 1 rfl) ?_
              refine lv_iload_n hx hb dL_isFilled_401 rfl (lv_at hl 4 rfl) ?_
              refine lv_iload hx hb dL_isFilled_402 (lv_at hl 3 rfl) ?_
              refine jr_isub hx hb dL_isFilled_404 ?_
              refine jr_ne (tgt := 458) hx hb dL_isFilled_405 (by decide) ⟨by omega, by omega⟩ ⟨by omega, by omega⟩ (fun c405 => absurd c405 (by omega)) (fun c405 => ?_)
              refine lv_aload_n hx hb dL_isFilled_408 rfl (lv_at hl 5 rfl) ?_
              refine jr_bipush hx hb dL_isFilled_409 (by decide) ?_
              refine lv_iload_n hx hb dL_isFilled_411 rfl (lv_at hl 7 rfl) ?_
              refine jr_iconst hx hb dL_isFilled_412 ?_
              refine jr_iconst hx hb dL_isFilled_413 ?_
              refine jr_iconst hx hb dL_isFilled_414 ?_
              refine kl_Qi (cs := []) (vx_runSW (As := [.ref o, vi 12, vi v0, vi 0, vi 0, vi 0]) (rest := []) ⟨hx, hb, hml, hown, htl⟩ (m_L_deed_fill l hsT g o T w78 hC H.size v0 ⟨by omega, by omega⟩ 0 0 0) (vx_cwSW 6 htl lkH_L_deed rfl rfl rfl cwS_L_deed ⟨Nat.le_of_ble_eq_true rfl, Nat.le_of_ble_eq_true rfl⟩) (jp_S hKK hS hAb ⟨rfl, (kw_P (cs := []) hP), hD.weaken (fun _ q _ h => hAb _ h)⟩) rfl rfl hl.1 rfl (lv_room (Nat.le_of_ble_eq_true rfl)) dL_isFilled_415 ⟨by show _ ≤ 231200; omega, by show _ ≤ 1588000; omega⟩) hP hD hS hA ?_
              clear hP hD hS hC; intro z415 H locs w415 hz415 hC hP hD hS
              have hP : PP g w415 H := hP
              have hD : va_D A w415 := hD
              refine W.widen (k := ((61 + 3850 * i) + 1)) (n := ((366 + 26450 * i) + 6)) (by omega) (by omega) ?_
              have hC : CW g o T w415 := by have q := hC; rw [rS_0 (cdF_0 hv0), hfixT] at q; exact q
              have hz415 : z415 = 0 := hz415.trans ((rs_0 (cdF_0 hv0)).trans (by rw [hfixT]))
              subst hz415
              refine jr_ifne (tgt := 458) hx hb dL_isFilled_418 (by decide) ⟨by omega, by omega⟩ (fun c418 => absurd c418 (by omega)) (fun c418 => ?_)
              refine lv_aload_n hx hb dL_isFilled_421 rfl (lv_at hl 5 rfl) ?_
              refine jr_bipush hx hb dL_isFilled_422 (by decide) ?_
              refine jr_iconst hx hb dL_isFilled_424 ?_
              refine jr_iconst hx hb dL_isFilled_425 ?_
              refine jr_iconst hx hb dL_isFilled_426 ?_
              refine jr_iconst hx hb dL_isFilled_427 ?_
              refine kl_Qi (cs := []) (vx_runSW (As := [.ref o, vi 12, vi 0, vi 0, vi 0, vi 0]) (rest := []) ⟨hx, hb, hml, hown, htl⟩ (m_L_deed_fill l hsT g o T w415 hC H.size 0 ⟨by omega, by omega⟩ 0 0 0) (vx_cwSW 6 htl lkH_L_deed rfl rfl rfl cwS_L_deed ⟨Nat.le_of_ble_eq_true rfl, Nat.le_of_ble_eq_true rfl⟩) (jp_S hKK hS hAb ⟨rfl, (kw_P (cs := []) hP), hD.weaken (fun _ q _ h => hAb _ h)⟩) rfl rfl hl.1 rfl (lv_room (Nat.le_of_ble_eq_true rfl)) dL_isFilled_428 ⟨by show _ ≤ 231200; omega, by show _ ≤ 1588000; omega⟩) hP hD hS hA ?_
              clear hP hD hS hC; intro z428 H locs w428 hz428 hC hP hD hS
              have hP : PP g w428 H := hP
              have hD : va_D A w428 := hD
              refine W.widen (k := ((61 + 3850 * i) + 2)) (n := ((366 + 26450 * i) + 12)) (by omega) (by omega) ?_
              have hC : CW g o T w428 := by have q := hC; rw [rS_n (by rw [cd1_1 (by omega)]; decide)] at q; exact q
              have hz428 : z428 = -2002 := hz428.trans (rs_1 (cd1_1 (by omega)))
              subst hz428
              refine jr_sipush hx hb dL_isFilled_431 (by decide) ?_
              refine jr_ne (tgt := 458) hx hb dL_isFilled_434 (by decide) ⟨by omega, by omega⟩ ⟨by omega, by omega⟩ (fun c434 => absurd c434 (by omega)) (fun c434 => ?_)
              refine lv_aload_n hx hb dL_isFilled_437 rfl (lv_at hl 5 rfl) ?_
              refine jr_bipush hx hb dL_isFilled_438 (by decide) ?_
              refine jr_bipush hx hb dL_isFilled_440 (by decide) ?_
              refine jr_iconst hx hb dL_isFilled_442 ?_
              refine jr_iconst hx hb dL_isFilled_443 ?_
              refine jr_iconst hx hb dL_isFilled_444 ?_
              refine kl_Qi (cs := []) (vx_runSW (As := [.ref o, vi 12, vi 101, vi 0, vi 0, vi 0]) (rest := []) ⟨hx, hb, hml, hown, htl⟩ (m_L_deed_fill l hsT g o T w428 hC H.size 101 ⟨by omega, by omega⟩ 0 0 0) (vx_cwSW 6 htl lkH_L_deed rfl rfl rfl cwS_L_deed ⟨Nat.le_of_ble_eq_true rfl, Nat.le_of_ble_eq_true rfl⟩) (jp_S hKK hS hAb ⟨rfl, (kw_P (cs := []) hP), hD.weaken (fun _ q _ h => hAb _ h)⟩) rfl rfl hl.1 rfl (lv_room (Nat.le_of_ble_eq_true rfl)) dL_isFilled_445 ⟨by show _ ≤ 231200; omega, by show _ ≤ 1588000; omega⟩) hP hD hS hA ?_
              clear hP hD hS hC; intro z445 H locs w445 hz445 hC hP hD hS
              have hP : PP g w445 H := hP
              have hD : va_D A w445 := hD
              refine W.widen (k := ((61 + 3850 * i) + 3)) (n := ((366 + 26450 * i) + 18)) (by omega) (by omega) ?_
              have hC : CW g o T w445 := by have q := hC; rw [rS_n (by rw [cd1_1 (by omega)]; decide)] at q; exact q
              have hz445 : z445 = -2002 := hz445.trans (rs_1 (cd1_1 (by omega)))
              subst hz445
              refine jr_sipush hx hb dL_isFilled_448 (by decide) ?_
              refine jr_ne (tgt := 458) hx hb dL_isFilled_451 (by decide) ⟨by omega, by omega⟩ ⟨by omega, by omega⟩ (fun c451 => absurd c451 (by omega)) (fun c451 => ?_)
              refine jr_iconst hx hb dL_isFilled_454 ?_
              refine lv_goto (tgt := 459) hx hb dL_isFilled_455 (by decide) ?_
              refine W.widen (k := 231200) (n := 1588000) (by omega) (by omega) ?_
              exact je_Qi hx hb hr hlk (nz_b (by omega)).1 hS ⟨rfl, w445, by rw [← hT]; exact hC, (kw_P (cs := []) hP), hD⟩ dL_isFilled_459
            · refine lv_iload hx hb dL_isFilled_87 (lv_at hl 2 rfl) ?_
              refine jr_ifeq (tgt := 394) hx hb dL_isFilled_89 (by decide) ⟨by omega, by omega⟩ (fun c89 => absurd c89 (by omega)) (fun c89 => ?_)
              refine lv_aload_n hx hb dL_isFilled_92 rfl (lv_at hl 5 rfl) ?_
              refine jr_bipush hx hb dL_isFilled_93 (by decide) ?_
              refine lv_iload hx hb dL_isFilled_95 (lv_at hl 0 rfl) ?_
              refine jr_iconst hx hb dL_isFilled_97 ?_
              refine kl_Qi (cs := []) (vx_runSW (As := [.ref o, vi 9, vi (i : Int), vi 0]) (rest := []) ⟨hx, hb, hml, hown, htl⟩ (m_L_ask_stateOf l hsT g o T w78 hC H.size (i : Int) ⟨by omega, by omega⟩ 0) (vx_cwSW 4 htl lkH_L_ask rfl rfl rfl cwS_L_ask ⟨Nat.le_of_ble_eq_true rfl, Nat.le_of_ble_eq_true rfl⟩) (jp_S hKK hS hAb ⟨rfl, (kw_P (cs := []) hP), hD.weaken (fun _ q _ h => hAb _ h)⟩) rfl rfl hl.1 rfl (lv_room (Nat.le_of_ble_eq_true rfl)) dL_isFilled_98 ⟨by show _ ≤ 231200; omega, by show _ ≤ 1588000; omega⟩) hP hD hS hA ?_
              clear hP hD hS hC; intro z98 H locs w98 hz98 hC hP hD hS
              have hP : PP g w98 H := hP
              have hD : va_D A w98 := hD
              refine W.widen (k := ((61 + 3850 * i) + 1)) (n := ((366 + 26450 * i) + 6)) (by omega) (by omega) ?_
              replace hz98 : z98 = (sS T i).2.2.1 := hz98.trans (aq9 (by omega))
              have hst9 : 0 ≤ (sS T i).2.2.1 ∧ (sS T i).2.2.1 < 65536 := (CW.sct hC i).2.2.1
              have hseg := hsgT i (by omega)
              have hlx := hseg.1
              have hlx2 : (sS T i).1.length ≤ 60 := (CW.sct hC i).1.1
              refine lv_istore (lv' := [(8, vi z98), (7, vi (i : Int)), (6, vi (ce (sS T) i)), (5, vi 1), (4, vi z49), (3, vi (ce (sS S) (nS S))), (0, .ref o), (1, .ref a1), (2, vi v0)]) hx hb dL_isFilled_101 hl (by decide) rfl (fun ls hl => ?_)
              refine lv_aload_n hx hb dL_isFilled_103 rfl (lv_at hl 6 rfl) ?_
              refine lv_aload_n hx hb dL_isFilled_104 rfl (lv_at hl 7 rfl) ?_
              refine lv_iload hx hb dL_isFilled_105 (lv_at hl 1 rfl) ?_
              refine kl_Qr (N := fun a x => aT g a x) (cs := []) (va_runS (As := [.ref o, .ref a1, vi (i : Int)]) (rest := []) ⟨hx, hb, hml, hown, htl⟩ (m_L_segment l hsT g o T w98 hC H.size a1 x1 f1 hx1 i (by omega) hdT (kw_nR (cs := []) hD ap_hP1)) (va_cwS 3 htl lk_L_180 rfl rfl rfl cwS_L_segment ⟨Nat.le_of_ble_eq_true rfl, Nat.le_of_ble_eq_true rfl⟩) (jp_S hKK hS hAb ⟨rfl, (kw_P (cs := []) hP), hD.weaken (fun _ q _ h => hAb _ h), (jat hP1 hS ap_hP1)⟩) rfl rfl hl.1 rfl (lv_room (Nat.le_of_ble_eq_true rfl)) dL_isFilled_107 ⟨by show _ ≤ 231200; omega, by show _ ≤ 1588000; omega⟩) hP hD hS hA ?_
              clear hP hD hS hC; intro t107 x_t107 H locs w107 hz107 hC hP hD hS
              obtain ⟨x9, f_t107⟩ := x_t107
              obtain ⟨hx_t107, hq_t107⟩ : AT x9 f_t107 ∧ x9 = (sS T i).1 := hz107
              subst hq_t107
              have hP : PP g ([aI g t107 61 f_t107] ++ w107) H := hP
              have hD : va_D A ([aI g t107 61 f_t107] ++ w107) := hD
              refine W.widen (k := ((61 + 3850 * i) + 63)) (n := ((366 + 26450 * i) + 433)) (by omega) (by omega) ?_
              refine lv_astore (lv' := [(9, .ref t107), (8, vi z98), (7, vi (i : Int)), (6, vi (ce (sS T) i)), (5, vi 1), (4, vi z49), (3, vi (ce (sS S) (nS S))), (0, .ref o), (1, .ref a1), (2, vi v0)]) hx hb dL_isFilled_110 hl (by decide) rfl (fun ls hl => ?_)
              refine lv_iload hx hb dL_isFilled_112 (lv_at hl 1 rfl) ?_
              refine jr_bipush hx hb dL_isFilled_114 (by decide) ?_
              refine jr_ne (tgt := 186) hx hb dL_isFilled_116 (by decide) ⟨by omega, by omega⟩ ⟨by omega, by omega⟩ (fun c116 => ?_) (fun c116 => ?_)
              · have hnot := hseg.2.resolve_left (by omega)
                refine lv_iload hx hb dL_isFilled_186 (lv_at hl 1 rfl) ?_
                refine jr_bipush hx hb dL_isFilled_188 (by decide) ?_
                refine jr_ne (tgt := 304) hx hb dL_isFilled_190 (by decide) ⟨by omega, by omega⟩ ⟨by omega, by omega⟩ (fun c190 => ?_) (fun c190 => ?_)
                · refine lv_iload hx hb dL_isFilled_304 (lv_at hl 1 rfl) ?_
                  refine jr_bipush hx hb dL_isFilled_306 (by decide) ?_
                  refine jr_eq (tgt := 381) hx hb dL_isFilled_308 (by decide) ⟨by omega, by omega⟩ ⟨by omega, by omega⟩ (fun c308 => ?_) (fun c308 => ?_)
                  · refine jr_iconst hx hb dL_isFilled_381 ?_
                    refine lv_goto (tgt := 386) hx hb dL_isFilled_382 (by decide) ?_
                    refine lv_istore (lv' := [(5, vi 1), (9, .ref t107), (8, vi z98), (7, vi (i : Int)), (6, vi (ce (sS T) i)), (4, vi z49), (3, vi (ce (sS S) (nS S))), (0, .ref o), (1, .ref a1), (2, vi v0)]) hx hb dL_isFilled_386 hl (by decide) rfl (fun ls hl => ?_)
                    have hl : lv_has ls 12 [(5, vi 1), (9, .ref t107), (8, vi z98), (7, vi (i : Int)), (6, vi (ce (sS T) (i + 1))), (4, vi z49), (3, vi (ce (sS S) (nS S))), (0, .ref o), (1, .ref a1), (2, vi v0)] := (show ((ce (sS T) i) : Int) = (ce (sS T) (i + 1)) from by rw [ce, if_neg (by omega), Int.add_zero]) ▸ hl
                    refine jr_iinc (lv' := [(7, vi ((i : Int) + 1)), (5, vi 1), (9, .ref t107), (8, vi z98), (6, vi (ce (sS T) (i + 1))), (4, vi z49), (3, vi (ce (sS S) (nS S))), (0, .ref o), (1, .ref a1), (2, vi v0)]) hx hb dL_isFilled_388 hl (k := 3) rfl rfl (by decide) rfl (fun ls hl => ?_)
                    refine lv_goto (tgt := 78) hx hb dL_isFilled_391 (by decide) ?_
                    have hP : PP g w107 H := hP.tl
                    have hD : va_D A w107 := hD.tl
                    refine W.widen (k := (61 + 3850 * (i + 1))) (n := (366 + 26450 * (i + 1))) (by omega) (by omega) ?_
                    exact ih78 (i + 1) _ (by omega) (hC) (by omega) _ _ hP hD hS ls (lv_sub hl [0, 4, 1, 5, 6, 7, 8, 9] rfl)
                  · have hxf := (hnot.2.resolve_left (by omega)).resolve_left (fun q => by omega)
                    refine lv_aload_n hx hb dL_isFilled_311 rfl (lv_at hl 7 rfl) ?_
                    refine jr_bipush hx hb dL_isFilled_312 (by decide) ?_
                    refine lv_iload hx hb dL_isFilled_314 (lv_at hl 2 rfl) ?_
                    refine jr_iconst hx hb dL_isFilled_316 ?_
                    refine kl_Qi (cs := [aI g t107 61 f_t107]) (vx_runSW (As := [.ref o, vi 10, vi (i : Int), vi 0]) (rest := []) ⟨hx, hb, hml, hown, htl⟩ (m_L_ask_unitOf l hsT g o T w107 hC H.size (i : Int) ⟨by omega, by omega⟩ 0) (vx_cwSW 4 htl lkH_L_ask rfl rfl rfl cwS_L_ask ⟨Nat.le_of_ble_eq_true rfl, Nat.le_of_ble_eq_true rfl⟩) (jp_S hKK hS hAb ⟨rfl, (kw_P (cs := [aI g t107 61 f_t107]) hP), (hD.right (a := [aI g t107 61 f_t107])).weaken (fun _ q _ h => hAb _ h)⟩) rfl rfl hl.1 rfl (lv_room (Nat.le_of_ble_eq_true rfl)) dL_isFilled_317 ⟨by show _ ≤ 231200; omega, by show _ ≤ 1588000; omega⟩) hP hD hS hA ?_
                    clear hP hD hS hC; intro z317 H locs w317 hz317 hC hP hD hS
                    have hP : PP g ([aI g t107 61 f_t107] ++ w317) H := hP
                    have hD : va_D A ([aI g t107 61 f_t107] ++ w317) := hD
                    refine W.widen (k := ((61 + 3850 * i) + 65)) (n := ((366 + 26450 * i) + 445)) (by omega) (by omega) ?_
                    replace hz317 : z317 = (sS T i).2.2.2.1 := hz317.trans (aq10 (by omega) (by omega))
                    have hub := (CW.sct hC i).2.2.2.1
                    refine jr_iflt (tgt := 385) hx hb dL_isFilled_320 (by decide) ⟨by omega, by omega⟩ (fun c320 => absurd c320 (by omega)) (fun c320 => ?_)
                    refine lv_aload_n hx hb dL_isFilled_323 rfl (lv_at hl 7 rfl) ?_
                    refine jr_bipush hx hb dL_isFilled_324 (by decide) ?_
                    refine lv_iload hx hb dL_isFilled_326 (lv_at hl 2 rfl) ?_
                    refine jr_iconst hx hb dL_isFilled_328 ?_
                    refine kl_Qi (cs := [aI g t107 61 f_t107]) (vx_runSW (As := [.ref o, vi 11, vi (i : Int), vi 0]) (rest := []) ⟨hx, hb, hml, hown, htl⟩ (m_L_ask_scoreOf l hsT g o T w317 hC H.size (i : Int) ⟨by omega, by omega⟩ 0) (vx_cwSW 4 htl lkH_L_ask rfl rfl rfl cwS_L_ask ⟨Nat.le_of_ble_eq_true rfl, Nat.le_of_ble_eq_true rfl⟩) (jp_S hKK hS hAb ⟨rfl, (kw_P (cs := [aI g t107 61 f_t107]) hP), (hD.right (a := [aI g t107 61 f_t107])).weaken (fun _ q _ h => hAb _ h)⟩) rfl rfl hl.1 rfl (lv_room (Nat.le_of_ble_eq_true rfl)) dL_isFilled_329 ⟨by show _ ≤ 231200; omega, by show _ ≤ 1588000; omega⟩) hP hD hS hA ?_
                    clear hP hD hS hC; intro z329 H locs w329 hz329 hC hP hD hS
                    have hP : PP g ([aI g t107 61 f_t107] ++ w329) H := hP
                    have hD : va_D A ([aI g t107 61 f_t107] ++ w329) := hD
                    refine W.widen (k := ((61 + 3850 * i) + 67)) (n := ((366 + 26450 * i) + 457)) (by omega) (by omega) ?_
                    replace hz329 : z329 = (sS T i).2.2.2.2 := hz329.trans (aq11 (by omega) (by omega))
                    have hsb := (CW.sct hC i).2.2.2.2
                    refine jr_ifle (tgt := 385) hx hb dL_isFilled_332 (by decide) ⟨by omega, by omega⟩ (fun c332 => absurd c332 (by omega)) (fun c332 => ?_)
                    refine lv_iload hx hb dL_isFilled_335 (lv_at hl 1 rfl) ?_
                    refine jr_bipush hx hb dL_isFilled_337 (by decide) ?_
                    refine jr_ne (tgt := 346) hx hb dL_isFilled_339 (by decide) ⟨by omega, by omega⟩ ⟨by omega, by omega⟩ (fun c339 => ?_) (fun c339 => ?_)
                    · refine jr_iconst hx hb dL_isFilled_346 ?_
                      refine lv_aload_n hx hb dL_isFilled_347 rfl (lv_at hl 7 rfl) ?_
                      refine jr_bipush hx hb dL_isFilled_348 (by decide) ?_
                      refine lv_iload hx hb dL_isFilled_350 (lv_at hl 2 rfl) ?_
                      refine jr_iconst hx hb dL_isFilled_352 ?_
                      refine kl_Qi (cs := [aI g t107 61 f_t107]) (vx_runSW (As := [.ref o, vi 11, vi (i : Int), vi 0]) (rest := [vi 0]) ⟨hx, hb, hml, hown, htl⟩ (m_L_ask_scoreOf l hsT g o T w329 hC H.size (i : Int) ⟨by omega, by omega⟩ 0) (vx_cwSW 4 htl lkH_L_ask rfl rfl rfl cwS_L_ask ⟨Nat.le_of_ble_eq_true rfl, Nat.le_of_ble_eq_true rfl⟩) (jp_S hKK hS hAb ⟨rfl, (kw_P (cs := [aI g t107 61 f_t107]) hP), (hD.right (a := [aI g t107 61 f_t107])).weaken (fun _ q _ h => hAb _ h)⟩) rfl rfl hl.1 rfl (lv_room (Nat.le_of_ble_eq_true rfl)) dL_isFilled_353 ⟨by show _ ≤ 231200; omega, by show _ ≤ 1588000; omega⟩) hP hD hS hA ?_
                      clear hP hD hS hC; intro z353 H locs w353 hz353 hC hP hD hS
                      have hP : PP g ([aI g t107 61 f_t107] ++ w353) H := hP
                      have hD : va_D A ([aI g t107 61 f_t107] ++ w353) := hD
                      refine W.widen (k := ((61 + 3850 * i) + 69)) (n := ((366 + 26450 * i) + 469)) (by omega) (by omega) ?_
                      replace hz353 : z353 = (sS T i).2.2.2.2 := hz353.trans (aq11 (by omega) (by omega))
                      refine jr_bipush hx hb dL_isFilled_356 (by decide) ?_
                      refine jr_ne (tgt := 365) hx hb dL_isFilled_358 (by decide) ⟨by omega, by omega⟩ ⟨by omega, by omega⟩ (fun c358 => ?_) (fun c358 => absurd c358 (by omega))
                      refine jr_iconst hx hb dL_isFilled_365 ?_
                      refine jr_ne (tgt := 385) hx hb dL_isFilled_366 (by decide) ⟨by omega, by omega⟩ ⟨by omega, by omega⟩ (fun c366 => absurd c366 (by omega)) (fun c366 => ?_)
                      refine lv_aload_n hx hb dL_isFilled_369 rfl (lv_at hl 7 rfl) ?_
                      refine jr_bipush hx hb dL_isFilled_370 (by decide) ?_
                      refine lv_iload hx hb dL_isFilled_372 (lv_at hl 2 rfl) ?_
                      refine jr_iconst hx hb dL_isFilled_374 ?_
                      refine kl_Qi (cs := [aI g t107 61 f_t107]) (vx_runSW (As := [.ref o, vi 14, vi (i : Int), vi 0]) (rest := []) ⟨hx, hb, hml, hown, htl⟩ (m_L_ask_targetLength l hsT g o T w353 hC H.size (i : Int) ⟨by omega, by omega⟩ 0) (vx_cwSW 4 htl lkH_L_ask rfl rfl rfl cwS_L_ask ⟨Nat.le_of_ble_eq_true rfl, Nat.le_of_ble_eq_true rfl⟩) (jp_S hKK hS hAb ⟨rfl, (kw_P (cs := [aI g t107 61 f_t107]) hP), (hD.right (a := [aI g t107 61 f_t107])).weaken (fun _ q _ h => hAb _ h)⟩) rfl rfl hl.1 rfl (lv_room (Nat.le_of_ble_eq_true rfl)) dL_isFilled_375 ⟨by show _ ≤ 231200; omega, by show _ ≤ 1588000; omega⟩) hP hD hS hA ?_
                      clear hP hD hS hC; intro z375 H locs w375 hz375 hC hP hD hS
                      have hP : PP g ([aI g t107 61 f_t107] ++ w375) H := hP
                      have hD : va_D A ([aI g t107 61 f_t107] ++ w375) := hD
                      refine W.widen (k := ((61 + 3850 * i) + 71)) (n := ((366 + 26450 * i) + 481)) (by omega) (by omega) ?_
                      replace hz375 : z375 = ((sS T i).2.1.length : Int) := hz375.trans (aq14 (by omega) (by omega))
                      have hl60 := (CW.sct hC i).2.1.1
                      have hl61 := hseg.tgt (by omega)
                      refine jr_ifle (tgt := 385) hx hb dL_isFilled_378 (by decide) ⟨by omega, by omega⟩ (fun c378 => absurd c378 (by omega)) (fun c378 => ?_)
                      refine jr_iconst hx hb dL_isFilled_381 ?_
                      refine lv_goto (tgt := 386) hx hb dL_isFilled_382 (by decide) ?_
                      refine lv_istore (lv' := [(5, vi 1), (9, .ref t107), (8, vi z98), (7, vi (i : Int)), (6, vi (ce (sS T) i)), (4, vi z49), (3, vi (ce (sS S) (nS S))), (0, .ref o), (1, .ref a1), (2, vi v0)]) hx hb dL_isFilled_386 hl (by decide) rfl (fun ls hl => ?_)
                      have hl : lv_has ls 12 [(5, vi 1), (9, .ref t107), (8, vi z98), (7, vi (i : Int)), (6, vi (ce (sS T) (i + 1))), (4, vi z49), (3, vi (ce (sS S) (nS S))), (0, .ref o), (1, .ref a1), (2, vi v0)] := (show ((ce (sS T) i) : Int) = (ce (sS T) (i + 1)) from by rw [ce, if_neg (by omega), Int.add_zero]) ▸ hl
                      refine jr_iinc (lv' := [(7, vi ((i : Int) + 1)), (5, vi 1), (9, .ref t107), (8, vi z98), (6, vi (ce (sS T) (i + 1))), (4, vi z49), (3, vi (ce (sS S) (nS S))), (0, .ref o), (1, .ref a1), (2, vi v0)]) hx hb dL_isFilled_388 hl (k := 3) rfl rfl (by decide) rfl (fun ls hl => ?_)
                      refine lv_goto (tgt := 78) hx hb dL_isFilled_391 (by decide) ?_
                      have hP : PP g w375 H := hP.tl
                      have hD : va_D A w375 := hD.tl
                      refine W.widen (k := (61 + 3850 * (i + 1))) (n := (366 + 26450 * (i + 1))) (by omega) (by omega) ?_
                      exact ih78 (i + 1) _ (by omega) (hC) (by omega) _ _ hP hD hS ls (lv_sub hl [0, 4, 1, 5, 6, 7, 8, 9] rfl)
                    · refine jr_iconst hx hb dL_isFilled_342 ?_
                      refine lv_goto (tgt := 347) hx hb dL_isFilled_343 (by decide) ?_
                      refine lv_aload_n hx hb dL_isFilled_347 rfl (lv_at hl 7 rfl) ?_
                      refine jr_bipush hx hb dL_isFilled_348 (by decide) ?_
                      refine lv_iload hx hb dL_isFilled_350 (lv_at hl 2 rfl) ?_
                      refine jr_iconst hx hb dL_isFilled_352 ?_
                      refine kl_Qi (cs := [aI g t107 61 f_t107]) (vx_runSW (As := [.ref o, vi 11, vi (i : Int), vi 0]) (rest := [vi 1]) ⟨hx, hb, hml, hown, htl⟩ (m_L_ask_scoreOf l hsT g o T w329 hC H.size (i : Int) ⟨by omega, by omega⟩ 0) (vx_cwSW 4 htl lkH_L_ask rfl rfl rfl cwS_L_ask ⟨Nat.le_of_ble_eq_true rfl, Nat.le_of_ble_eq_true rfl⟩) (jp_S hKK hS hAb ⟨rfl, (kw_P (cs := [aI g t107 61 f_t107]) hP), (hD.right (a := [aI g t107 61 f_t107])).weaken (fun _ q _ h => hAb _ h)⟩) rfl rfl hl.1 rfl (lv_room (Nat.le_of_ble_eq_true rfl)) dL_isFilled_353 ⟨by show _ ≤ 231200; omega, by show _ ≤ 1588000; omega⟩) hP hD hS hA ?_
                      clear hP hD hS hC; intro z353 H locs w353 hz353 hC hP hD hS
                      have hP : PP g ([aI g t107 61 f_t107] ++ w353) H := hP
                      have hD : va_D A ([aI g t107 61 f_t107] ++ w353) := hD
                      refine W.widen (k := ((61 + 3850 * i) + 69)) (n := ((366 + 26450 * i) + 469)) (by omega) (by omega) ?_
                      replace hz353 : z353 = (sS T i).2.2.2.2 := hz353.trans (aq11 (by omega) (by omega))
                      refine jr_bipush hx hb dL_isFilled_356 (by decide) ?_
                      refine jr_ne (tgt := 365) hx hb dL_isFilled_358 (by decide) ⟨by omega, by omega⟩ ⟨by omega, by omega⟩ (fun c358 => absurd c358 (by omega)) (fun c358 => ?_)
                      refine jr_iconst hx hb dL_isFilled_361 ?_
                      refine lv_goto (tgt := 366) hx hb dL_isFilled_362 (by decide) ?_
                      refine jr_ne (tgt := 385) hx hb dL_isFilled_366 (by decide) ⟨by omega, by omega⟩ ⟨by omega, by omega⟩ (fun c366 => absurd c366 (by omega)) (fun c366 => ?_)
                      refine lv_aload_n hx hb dL_isFilled_369 rfl (lv_at hl 7 rfl) ?_
                      refine jr_bipush hx hb dL_isFilled_370 (by decide) ?_
                      refine lv_iload hx hb dL_isFilled_372 (lv_at hl 2 rfl) ?_
                      refine jr_iconst hx hb dL_isFilled_374 ?_
                      refine kl_Qi (cs := [aI g t107 61 f_t107]) (vx_runSW (As := [.ref o, vi 14, vi (i : Int), vi 0]) (rest := []) ⟨hx, hb, hml, hown, htl⟩ (m_L_ask_targetLength l hsT g o T w353 hC H.size (i : Int) ⟨by omega, by omega⟩ 0) (vx_cwSW 4 htl lkH_L_ask rfl rfl rfl cwS_L_ask ⟨Nat.le_of_ble_eq_true rfl, Nat.le_of_ble_eq_true rfl⟩) (jp_S hKK hS hAb ⟨rfl, (kw_P (cs := [aI g t107 61 f_t107]) hP), (hD.right (a := [aI g t107 61 f_t107])).weaken (fun _ q _ h => hAb _ h)⟩) rfl rfl hl.1 rfl (lv_room (Nat.le_of_ble_eq_true rfl)) dL_isFilled_375 ⟨by show _ ≤ 231200; omega, by show _ ≤ 1588000; omega⟩) hP hD hS hA ?_
                      clear hP hD hS hC; intro z375 H locs w375 hz375 hC hP hD hS
                      have hP : PP g ([aI g t107 61 f_t107] ++ w375) H := hP
                      have hD : va_D A ([aI g t107 61 f_t107] ++ w375) := hD
                      refine W.widen (k := ((61 + 3850 * i) + 71)) (n := ((366 + 26450 * i) + 481)) (by omega) (by omega) ?_
                      replace hz375 : z375 = ((sS T i).2.1.length : Int) := hz375.trans (aq14 (by omega) (by omega))
                      have hl60 := (CW.sct hC i).2.1.1
                      have hl61 := hseg.tgt (by omega)
                      refine jr_ifle (tgt := 385) hx hb dL_isFilled_378 (by decide) ⟨by omega, by omega⟩ (fun c378 => absurd c378 (by omega)) (fun c378 => ?_)
                      refine jr_iconst hx hb dL_isFilled_381 ?_
                      refine lv_goto (tgt := 386) hx hb dL_isFilled_382 (by decide) ?_
                      refine lv_istore (lv' := [(5, vi 1), (9, .ref t107), (8, vi z98), (7, vi (i : Int)), (6, vi (ce (sS T) i)), (4, vi z49), (3, vi (ce (sS S) (nS S))), (0, .ref o), (1, .ref a1), (2, vi v0)]) hx hb dL_isFilled_386 hl (by decide) rfl (fun ls hl => ?_)
                      have hl : lv_has ls 12 [(5, vi 1), (9, .ref t107), (8, vi z98), (7, vi (i : Int)), (6, vi (ce (sS T) (i + 1))), (4, vi z49), (3, vi (ce (sS S) (nS S))), (0, .ref o), (1, .ref a1), (2, vi v0)] := (show ((ce (sS T) i) : Int) = (ce (sS T) (i + 1)) from by rw [ce, if_neg (by omega), Int.add_zero]) ▸ hl
                      refine jr_iinc (lv' := [(7, vi ((i : Int) + 1)), (5, vi 1), (9, .ref t107), (8, vi z98), (6, vi (ce (sS T) (i + 1))), (4, vi z49), (3, vi (ce (sS S) (nS S))), (0, .ref o), (1, .ref a1), (2, vi v0)]) hx hb dL_isFilled_388 hl (k := 3) rfl rfl (by decide) rfl (fun ls hl => ?_)
                      refine lv_goto (tgt := 78) hx hb dL_isFilled_391 (by decide) ?_
                      have hP : PP g w375 H := hP.tl
                      have hD : va_D A w375 := hD.tl
                      refine W.widen (k := (61 + 3850 * (i + 1))) (n := (366 + 26450 * (i + 1))) (by omega) (by omega) ?_
                      exact ih78 (i + 1) _ (by omega) (hC) (by omega) _ _ hP hD hS ls (lv_sub hl [0, 4, 1, 5, 6, 7, 8, 9] rfl)
                · obtain ⟨-, hr2, hr3⟩ : (sS T i).2.2.1 = 114 ∧ (sS T i).2.2.2.1 = -1 ∧ ∃ j, j < nS T ∧ j ≠ i ∧ ¬ (sS T j).2.2.1 = 101 ∧ (sS T j).1 = (sS T i).1 := by
                    rcases hnot.2 with q | q | q
                    · omega
                    · exact q
                    · omega
                  refine jr_iconst hx hb dL_isFilled_193 ?_
                  refine lv_istore (lv' := [(10, vi 0), (9, .ref t107), (8, vi z98), (7, vi (i : Int)), (6, vi (ce (sS T) i)), (5, vi 1), (4, vi z49), (3, vi (ce (sS S) (nS S))), (0, .ref o), (1, .ref a1), (2, vi v0)]) hx hb dL_isFilled_194 hl (by decide) rfl (fun ls hl => ?_)
                  refine jr_iconst hx hb dL_isFilled_196 ?_
                  refine lv_istore (lv' := [(11, vi 0), (10, vi 0), (9, .ref t107), (8, vi z98), (7, vi (i : Int)), (6, vi (ce (sS T) i)), (5, vi 1), (4, vi z49), (3, vi (ce (sS S) (nS S))), (0, .ref o), (1, .ref a1), (2, vi v0)]) hx hb dL_isFilled_197 hl (by decide) rfl (fun ls hl => ?_)
                  have lp199 : ∀ (N : Nat) (j : Nat) (b : Int) (w199 : va_W), (j ≤ nS S) → (b = 1 ∨ (b = 0 ∧ HASP (sS T) i j)) → (CW g o T w199) → nS S - j < N → ∀ (H : Heap) (locs : List Loc), PP g ([aI g t107 61 f_t107] ++ w199) H → va_D A ([aI g t107 61 f_t107] ++ w199) → va_S A s.heap H locs → ∀ ls : Array Slot, lv_has ls 12 [(11, vi (j : Int)), (10, vi b), (9, .ref t107), (8, vi z98), (7, vi (i : Int)), (6, vi (ce (sS T) i)), (5, vi 1), (4, vi z49), (3, vi (ce (sS S) (nS S))), (0, .ref o), (1, .ref a1), (2, vi v0)] → W p l e (rmm 14 231200 1588000) s m ([.ref o, .ref a1, vi v0] : List Value).toArray below meth cq H locs ((61 + 3850 * i) + 63 + 63 * j) ((366 + 26450 * i) + 433 + 433 * j) (MQ below (jQi (fun z H1 => (z = 1) ∧ ∃ w1 : va_W, CW g o ((flP v0 S (nS S)).1) w1 ∧ PP g w1 H1 ∧ va_D A w1) A) ([.ref o, .ref a1, vi v0] : List Value).toArray s 231200 1588000 A) (F0 m 199 ls []) := by
                    intro N
                    induction N with
                    | zero => intro j b w199 hj hF hC hM; exact absurd hM (Nat.not_lt_zero _)
                    | succ N ih199 =>
                      intro j b w199 hj hF hC hM H locs hP hD hS ls hl
                      refine lv_iload hx hb dL_isFilled_199 (lv_at hl 0 rfl) ?_
                      refine lv_aload_n hx hb dL_isFilled_201 rfl (lv_at hl 9 rfl) ?_
                      refine jk_Si (va_runV (As := []) (rest := [vi (j : Int)]) ⟨hx, hb, hml, hown, htl⟩ (m_X10_segments l hsT g o T w199 hC ) (cwV 0 htl lk_L_169 rfl rfl rfl cwV_X10_segments ⟨Nat.le_of_ble_eq_true rfl, Nat.le_of_ble_eq_true rfl⟩) (jp_V hKK hS hAb (CW.recv hKK hC (kw_P (cs := [aI g t107 61 f_t107]) hP)) (kw_P (cs := [aI g t107 61 f_t107]) hP)) rfl rfl hl.1 rfl (lv_room (Nat.le_of_ble_eq_true rfl)) dL_isFilled_202 ⟨by show _ ≤ 231200; omega, by show _ ≤ 1588000; omega⟩) (fun z202 hz202 => ?_)
                      have hz202 : z202 = (nS T : Int) := hz202
                      subst hz202
                      refine jr_ge (tgt := 262) hx hb dL_isFilled_205 (by decide) ⟨by omega, by omega⟩ ⟨by omega, by omega⟩ (fun c205 => ?_) (fun c205 => ?_)
                      · have hb1 : b = 1 := by rcases hF with q | ⟨q, hP0⟩; exact q; exact (hP0.no (by rw [show j = nS T by omega]; exact hr3)).elim
                        refine lv_iload hx hb dL_isFilled_262 (lv_at hl 1 rfl) ?_
                        refine jr_ifeq (tgt := 298) hx hb dL_isFilled_264 (by decide) ⟨by omega, by omega⟩ (fun c264 => absurd c264 (by omega)) (fun c264 => ?_)
                        refine lv_aload_n hx hb dL_isFilled_267 rfl (lv_at hl 9 rfl) ?_
                        refine jr_bipush hx hb dL_isFilled_268 (by decide) ?_
                        refine lv_iload hx hb dL_isFilled_270 (lv_at hl 4 rfl) ?_
                        refine jr_iconst hx hb dL_isFilled_272 ?_
                        refine kl_Qi (cs := [aI g t107 61 f_t107]) (vx_runSW (As := [.ref o, vi 10, vi (i : Int), vi 0]) (rest := []) ⟨hx, hb, hml, hown, htl⟩ (m_L_ask_unitOf l hsT g o T w199 hC H.size (i : Int) ⟨by omega, by omega⟩ 0) (vx_cwSW 4 htl lkH_L_ask rfl rfl rfl cwS_L_ask ⟨Nat.le_of_ble_eq_true rfl, Nat.le_of_ble_eq_true rfl⟩) (jp_S hKK hS hAb ⟨rfl, (kw_P (cs := [aI g t107 61 f_t107]) hP), (hD.right (a := [aI g t107 61 f_t107])).weaken (fun _ q _ h => hAb _ h)⟩) rfl rfl hl.1 rfl (lv_room (Nat.le_of_ble_eq_true rfl)) dL_isFilled_273 ⟨by show _ ≤ 231200; omega, by show _ ≤ 1588000; omega⟩) hP hD hS hA ?_
                        clear hP hD hS hC; intro z273 H locs w273 hz273 hC hP hD hS
                        have hP : PP g ([aI g t107 61 f_t107] ++ w273) H := hP
                        have hD : va_D A ([aI g t107 61 f_t107] ++ w273) := hD
                        refine W.widen (k := (((61 + 3850 * i) + 63 + 63 * j) + 2)) (n := (((366 + 26450 * i) + 433 + 433 * j) + 12)) (by omega) (by omega) ?_
                        have hz273 : z273 = -2005 := hz273.trans (aq10x (by omega) hr2)
                        subst hz273
                        refine jr_sipush hx hb dL_isFilled_276 (by decide) ?_
                        refine jr_ne (tgt := 298) hx hb dL_isFilled_279 (by decide) ⟨by omega, by omega⟩ ⟨by omega, by omega⟩ (fun c279 => absurd c279 (by omega)) (fun c279 => ?_)
                        refine lv_aload_n hx hb dL_isFilled_282 rfl (lv_at hl 9 rfl) ?_
                        refine jr_bipush hx hb dL_isFilled_283 (by decide) ?_
                        refine lv_iload hx hb dL_isFilled_285 (lv_at hl 4 rfl) ?_
                        refine jr_iconst hx hb dL_isFilled_287 ?_
                        refine kl_Qi (cs := [aI g t107 61 f_t107]) (vx_runSW (As := [.ref o, vi 14, vi (i : Int), vi 0]) (rest := []) ⟨hx, hb, hml, hown, htl⟩ (m_L_ask_targetLength l hsT g o T w273 hC H.size (i : Int) ⟨by omega, by omega⟩ 0) (vx_cwSW 4 htl lkH_L_ask rfl rfl rfl cwS_L_ask ⟨Nat.le_of_ble_eq_true rfl, Nat.le_of_ble_eq_true rfl⟩) (jp_S hKK hS hAb ⟨rfl, (kw_P (cs := [aI g t107 61 f_t107]) hP), (hD.right (a := [aI g t107 61 f_t107])).weaken (fun _ q _ h => hAb _ h)⟩) rfl rfl hl.1 rfl (lv_room (Nat.le_of_ble_eq_true rfl)) dL_isFilled_288 ⟨by show _ ≤ 231200; omega, by show _ ≤ 1588000; omega⟩) hP hD hS hA ?_
                        clear hP hD hS hC; intro z288 H locs w288 hz288 hC hP hD hS
                        have hP : PP g ([aI g t107 61 f_t107] ++ w288) H := hP
                        have hD : va_D A ([aI g t107 61 f_t107] ++ w288) := hD
                        refine W.widen (k := (((61 + 3850 * i) + 63 + 63 * j) + 4)) (n := (((366 + 26450 * i) + 433 + 433 * j) + 24)) (by omega) (by omega) ?_
                        replace hz288 : z288 = ((sS T i).2.1.length : Int) := hz288.trans (aq14 (by omega) (by omega))
                        have hl60 := (CW.sct hC i).2.1.1
                        have hl61 := hseg.tgt (by omega)
                        refine jr_ifle (tgt := 298) hx hb dL_isFilled_291 (by decide) ⟨by omega, by omega⟩ (fun c291 => absurd c291 (by omega)) (fun c291 => ?_)
                        refine jr_iconst hx hb dL_isFilled_294 ?_
                        refine lv_goto (tgt := 299) hx hb dL_isFilled_295 (by decide) ?_
                        refine lv_istore (lv' := [(5, vi 1), (11, vi (j : Int)), (10, vi b), (9, .ref t107), (8, vi z98), (7, vi (i : Int)), (6, vi (ce (sS T) i)), (4, vi z49), (3, vi (ce (sS S) (nS S))), (0, .ref o), (1, .ref a1), (2, vi v0)]) hx hb dL_isFilled_299 hl (by decide) rfl (fun ls hl => ?_)
                        refine lv_goto (tgt := 388) hx hb dL_isFilled_301 (by decide) ?_
                        have hl : lv_has ls 12 [(5, vi 1), (11, vi (j : Int)), (10, vi b), (9, .ref t107), (8, vi z98), (7, vi (i : Int)), (6, vi (ce (sS T) (i + 1))), (4, vi z49), (3, vi (ce (sS S) (nS S))), (0, .ref o), (1, .ref a1), (2, vi v0)] := (show ((ce (sS T) i) : Int) = (ce (sS T) (i + 1)) from by rw [ce, if_neg (by omega), Int.add_zero]) ▸ hl
                        refine jr_iinc (lv' := [(7, vi ((i : Int) + 1)), (5, vi 1), (11, vi (j : Int)), (10, vi b), (9, .ref t107), (8, vi z98), (6, vi (ce (sS T) (i + 1))), (4, vi z49), (3, vi (ce (sS S) (nS S))), (0, .ref o), (1, .ref a1), (2, vi v0)]) hx hb dL_isFilled_388 hl (k := 5) rfl rfl (by decide) rfl (fun ls hl => ?_)
                        refine lv_goto (tgt := 78) hx hb dL_isFilled_391 (by decide) ?_
                        have hP : PP g w288 H := hP.tl
                        have hD : va_D A w288 := hD.tl
                        refine W.widen (k := (61 + 3850 * (i + 1))) (n := (366 + 26450 * (i + 1))) (by omega) (by omega) ?_
                        exact ih78 (i + 1) _ (by omega) (hC) (by omega) _ _ hP hD hS ls (lv_sub hl [0, 6, 1, 7, 8, 9, 10, 11] rfl)
                      · refine lv_iload hx hb dL_isFilled_208 (lv_at hl 1 rfl) ?_
                        refine jr_ifne (tgt := 249) hx hb dL_isFilled_210 (by decide) ⟨by omega, by omega⟩ (fun c210 => ?_) (fun c210 => ?_)
                        · refine jr_iconst hx hb dL_isFilled_249 ?_
                          refine lv_goto (tgt := 254) hx hb dL_isFilled_250 (by decide) ?_
                          refine lv_istore (lv' := [(10, vi 1), (11, vi (j : Int)), (9, .ref t107), (8, vi z98), (7, vi (i : Int)), (6, vi (ce (sS T) i)), (5, vi 1), (4, vi z49), (3, vi (ce (sS S) (nS S))), (0, .ref o), (1, .ref a1), (2, vi v0)]) hx hb dL_isFilled_254 hl (by decide) rfl (fun ls hl => ?_)
                          refine jr_iinc (lv' := [(11, vi ((j : Int) + 1)), (10, vi 1), (9, .ref t107), (8, vi z98), (7, vi (i : Int)), (6, vi (ce (sS T) i)), (5, vi 1), (4, vi z49), (3, vi (ce (sS S) (nS S))), (0, .ref o), (1, .ref a1), (2, vi v0)]) hx hb dL_isFilled_256 hl (k := 1) rfl rfl (by decide) rfl (fun ls hl => ?_)
                          refine lv_goto (tgt := 199) hx hb dL_isFilled_259 (by decide) ?_
                          refine W.widen (k := ((61 + 3850 * i) + 63 + 63 * (j + 1))) (n := ((366 + 26450 * i) + 433 + 433 * (j + 1))) (by omega) (by omega) ?_
                          exact ih199 (j + 1) 1 _ (by omega) (Or.inl rfl) (hC) (by omega) _ _ hP hD hS ls (lv_sub hl [0, 1, 2, 3, 4, 5, 6, 7, 8, 9, 10, 11] rfl)
                        · have hP0 := (hF.resolve_left (by omega)).2
                          refine lv_iload hx hb dL_isFilled_213 (lv_at hl 0 rfl) ?_
                          refine lv_iload hx hb dL_isFilled_215 (lv_at hl 4 rfl) ?_
                          refine jr_eq (tgt := 253) hx hb dL_isFilled_217 (by decide) ⟨by omega, by omega⟩ ⟨by omega, by omega⟩ (fun c217 => ?_) (fun c217 => ?_)
                          · refine jr_iconst hx hb dL_isFilled_253 ?_
                            refine lv_istore (lv' := [(10, vi 0), (11, vi (j : Int)), (9, .ref t107), (8, vi z98), (7, vi (i : Int)), (6, vi (ce (sS T) i)), (5, vi 1), (4, vi z49), (3, vi (ce (sS S) (nS S))), (0, .ref o), (1, .ref a1), (2, vi v0)]) hx hb dL_isFilled_254 hl (by decide) rfl (fun ls hl => ?_)
                            refine jr_iinc (lv' := [(11, vi ((j : Int) + 1)), (10, vi 0), (9, .ref t107), (8, vi z98), (7, vi (i : Int)), (6, vi (ce (sS T) i)), (5, vi 1), (4, vi z49), (3, vi (ce (sS S) (nS S))), (0, .ref o), (1, .ref a1), (2, vi v0)]) hx hb dL_isFilled_256 hl (k := 1) rfl rfl (by decide) rfl (fun ls hl => ?_)
                            refine lv_goto (tgt := 199) hx hb dL_isFilled_259 (by decide) ?_
                            refine W.widen (k := ((61 + 3850 * i) + 63 + 63 * (j + 1))) (n := ((366 + 26450 * i) + 433 + 433 * (j + 1))) (by omega) (by omega) ?_
                            exact ih199 (j + 1) 0 _ (by omega) (Or.inr ⟨rfl, hP0.s (fun q => by omega)⟩) (hC) (by omega) _ _ hP hD hS ls (lv_sub hl [0, 1, 2, 3, 4, 5, 6, 7, 8, 9, 10, 11] rfl)
                          · refine lv_aload_n hx hb dL_isFilled_220 rfl (lv_at hl 9 rfl) ?_
                            refine jr_bipush hx hb dL_isFilled_221 (by decide) ?_
                            refine lv_iload hx hb dL_isFilled_223 (lv_at hl 0 rfl) ?_
                            refine jr_iconst hx hb dL_isFilled_225 ?_
                            refine kl_Qi (cs := [aI g t107 61 f_t107]) (vx_runSW (As := [.ref o, vi 9, vi (j : Int), vi 0]) (rest := []) ⟨hx, hb, hml, hown, htl⟩ (m_L_ask_stateOf l hsT g o T w199 hC H.size (j : Int) ⟨by omega, by omega⟩ 0) (vx_cwSW 4 htl lkH_L_ask rfl rfl rfl cwS_L_ask ⟨Nat.le_of_ble_eq_true rfl, Nat.le_of_ble_eq_true rfl⟩) (jp_S hKK hS hAb ⟨rfl, (kw_P (cs := [aI g t107 61 f_t107]) hP), (hD.right (a := [aI g t107 61 f_t107])).weaken (fun _ q _ h => hAb _ h)⟩) rfl rfl hl.1 rfl (lv_room (Nat.le_of_ble_eq_true rfl)) dL_isFilled_226 ⟨by show _ ≤ 231200; omega, by show _ ≤ 1588000; omega⟩) hP hD hS hA ?_
                            clear hP hD hS hC; intro z226 H locs w226 hz226 hC hP hD hS
                            have hP : PP g ([aI g t107 61 f_t107] ++ w226) H := hP
                            have hD : va_D A ([aI g t107 61 f_t107] ++ w226) := hD
                            refine W.widen (k := (((61 + 3850 * i) + 63 + 63 * j) + 1)) (n := (((366 + 26450 * i) + 433 + 433 * j) + 6)) (by omega) (by omega) ?_
                            replace hz226 : z226 = (sS T j).2.2.1 := hz226.trans (aq9 (by omega))
                            have hst8 : 0 ≤ (sS T j).2.2.1 ∧ (sS T j).2.2.1 < 65536 := (CW.sct hC j).2.2.1
                            refine jr_bipush hx hb dL_isFilled_229 (by decide) ?_
                            refine jr_eq (tgt := 253) hx hb dL_isFilled_231 (by decide) ⟨by omega, by omega⟩ ⟨by omega, by omega⟩ (fun c231 => ?_) (fun c231 => ?_)
                            · refine jr_iconst hx hb dL_isFilled_253 ?_
                              refine lv_istore (lv' := [(10, vi 0), (11, vi (j : Int)), (9, .ref t107), (8, vi z98), (7, vi (i : Int)), (6, vi (ce (sS T) i)), (5, vi 1), (4, vi z49), (3, vi (ce (sS S) (nS S))), (0, .ref o), (1, .ref a1), (2, vi v0)]) hx hb dL_isFilled_254 hl (by decide) rfl (fun ls hl => ?_)
                              refine jr_iinc (lv' := [(11, vi ((j : Int) + 1)), (10, vi 0), (9, .ref t107), (8, vi z98), (7, vi (i : Int)), (6, vi (ce (sS T) i)), (5, vi 1), (4, vi z49), (3, vi (ce (sS S) (nS S))), (0, .ref o), (1, .ref a1), (2, vi v0)]) hx hb dL_isFilled_256 hl (k := 1) rfl rfl (by decide) rfl (fun ls hl => ?_)
                              refine lv_goto (tgt := 199) hx hb dL_isFilled_259 (by decide) ?_
                              refine W.widen (k := ((61 + 3850 * i) + 63 + 63 * (j + 1))) (n := ((366 + 26450 * i) + 433 + 433 * (j + 1))) (by omega) (by omega) ?_
                              exact ih199 (j + 1) 0 _ (by omega) (Or.inr ⟨rfl, hP0.s (fun q => by omega)⟩) (hC) (by omega) _ _ hP hD hS ls (lv_sub hl [0, 1, 2, 3, 4, 5, 6, 7, 8, 9, 10, 11] rfl)
                            · refine lv_aload hx hb dL_isFilled_234 (lv_at hl 2 rfl) ?_
                              refine lv_aload_n hx hb dL_isFilled_236 rfl (lv_at hl 9 rfl) ?_
                              refine lv_aload_n hx hb dL_isFilled_237 rfl (lv_at hl 10 rfl) ?_
                              refine lv_iload hx hb dL_isFilled_238 (lv_at hl 0 rfl) ?_
                              refine kl_Qr (N := fun a x => aT g a x) (cs := [aI g t107 61 f_t107]) (va_runS (As := [.ref o, .ref a1, vi (j : Int)]) (rest := [.ref t107]) ⟨hx, hb, hml, hown, htl⟩ (m_L_segment l hsT g o T w226 hC H.size a1 x1 f1 hx1 j (by omega) hdT (kw_nR (cs := [aI g t107 61 f_t107]) hD ap_hP1)) (va_cwS 3 htl lk_L_180 rfl rfl rfl cwS_L_segment ⟨Nat.le_of_ble_eq_true rfl, Nat.le_of_ble_eq_true rfl⟩) (jp_S hKK hS hAb ⟨rfl, (kw_P (cs := [aI g t107 61 f_t107]) hP), (hD.right (a := [aI g t107 61 f_t107])).weaken (fun _ q _ h => hAb _ h), (jat hP1 hS ap_hP1)⟩) rfl rfl hl.1 rfl (lv_room (Nat.le_of_ble_eq_true rfl)) dL_isFilled_240 ⟨by show _ ≤ 231200; omega, by show _ ≤ 1588000; omega⟩) hP hD hS hA ?_
                              clear hP hD hS hC; intro t240 x_t240 H locs w240 hz240 hC hP hD hS
                              obtain ⟨x9, f_t240⟩ := x_t240
                              obtain ⟨hx_t240, hq_t240⟩ : AT x9 f_t240 ∧ x9 = (sS T j).1 := hz240
                              subst hq_t240
                              have hP : PP g ([aI g t240 61 f_t240, aI g t107 61 f_t107] ++ w240) H := hP
                              have hD : va_D A ([aI g t240 61 f_t240, aI g t107 61 f_t107] ++ w240) := hD
                              refine W.widen (k := (((61 + 3850 * i) + 63 + 63 * j) + 63)) (n := (((366 + 26450 * i) + 433 + 433 * j) + 433)) (by omega) (by omega) ?_
                              refine jk_Si (va_runS (As := [.ref t107, .ref t240]) (rest := []) ⟨hx, hb, hml, hown, htl⟩ (m_L_areSame l g t107 t240 (sS T i).1 (sS T j).1 f_t107 f_t240 hx_t107 hx_t240) (va_cwS 2 htl lk_L_165 rfl rfl rfl cwS_L_areSame ⟨Nat.le_of_ble_eq_true rfl, Nat.le_of_ble_eq_true rfl⟩) (jp_S hKK hS hAb ⟨(va_P.sub hP [1] rfl), (va_P.sub hP [0] rfl)⟩) rfl rfl hl.1 rfl (lv_room (Nat.le_of_ble_eq_true rfl)) dL_isFilled_243 ⟨by show _ ≤ 231200; omega, by show _ ≤ 1588000; omega⟩) (fun z243 hz243 => ?_)
                              have h01 : z243 = 0 ∨ z243 = 1 := by rw [hz243]; exact i01b _
                              refine jr_ifeq (tgt := 253) hx hb dL_isFilled_246 (by decide) ⟨by omega, by omega⟩ (fun c246 => ?_) (fun c246 => ?_)
                              · refine jr_iconst hx hb dL_isFilled_253 ?_
                                refine lv_istore (lv' := [(10, vi 0), (11, vi (j : Int)), (9, .ref t107), (8, vi z98), (7, vi (i : Int)), (6, vi (ce (sS T) i)), (5, vi 1), (4, vi z49), (3, vi (ce (sS S) (nS S))), (0, .ref o), (1, .ref a1), (2, vi v0)]) hx hb dL_isFilled_254 hl (by decide) rfl (fun ls hl => ?_)
                                refine jr_iinc (lv' := [(11, vi ((j : Int) + 1)), (10, vi 0), (9, .ref t107), (8, vi z98), (7, vi (i : Int)), (6, vi (ce (sS T) i)), (5, vi 1), (4, vi z49), (3, vi (ce (sS S) (nS S))), (0, .ref o), (1, .ref a1), (2, vi v0)]) hx hb dL_isFilled_256 hl (k := 1) rfl rfl (by decide) rfl (fun ls hl => ?_)
                                refine lv_goto (tgt := 199) hx hb dL_isFilled_259 (by decide) ?_
                                have hP : PP g ([aI g t107 61 f_t107] ++ w240) H := hP.tl
                                have hD : va_D A ([aI g t107 61 f_t107] ++ w240) := hD.tl
                                refine W.widen (k := ((61 + 3850 * i) + 63 + 63 * (j + 1))) (n := ((366 + 26450 * i) + 433 + 433 * (j + 1))) (by omega) (by omega) ?_
                                exact ih199 (j + 1) 0 _ (by omega) (Or.inr ⟨rfl, hP0.s (fun q => by rw [i01, if_pos q.2.2] at hz243; omega)⟩) (hC) (by omega) _ _ hP hD hS ls (lv_sub hl [0, 1, 2, 3, 4, 5, 6, 7, 8, 9, 10, 11] rfl)
                              · refine jr_iconst hx hb dL_isFilled_249 ?_
                                refine lv_goto (tgt := 254) hx hb dL_isFilled_250 (by decide) ?_
                                refine lv_istore (lv' := [(10, vi 1), (11, vi (j : Int)), (9, .ref t107), (8, vi z98), (7, vi (i : Int)), (6, vi (ce (sS T) i)), (5, vi 1), (4, vi z49), (3, vi (ce (sS S) (nS S))), (0, .ref o), (1, .ref a1), (2, vi v0)]) hx hb dL_isFilled_254 hl (by decide) rfl (fun ls hl => ?_)
                                refine jr_iinc (lv' := [(11, vi ((j : Int) + 1)), (10, vi 1), (9, .ref t107), (8, vi z98), (7, vi (i : Int)), (6, vi (ce (sS T) i)), (5, vi 1), (4, vi z49), (3, vi (ce (sS S) (nS S))), (0, .ref o), (1, .ref a1), (2, vi v0)]) hx hb dL_isFilled_256 hl (k := 1) rfl rfl (by decide) rfl (fun ls hl => ?_)
                                refine lv_goto (tgt := 199) hx hb dL_isFilled_259 (by decide) ?_
                                have hP : PP g ([aI g t107 61 f_t107] ++ w240) H := hP.tl
                                have hD : va_D A ([aI g t107 61 f_t107] ++ w240) := hD.tl
                                refine W.widen (k := ((61 + 3850 * i) + 63 + 63 * (j + 1))) (n := ((366 + 26450 * i) + 433 + 433 * (j + 1))) (by omega) (by omega) ?_
                                exact ih199 (j + 1) 1 _ (by omega) (Or.inl rfl) (hC) (by omega) _ _ hP hD hS ls (lv_sub hl [0, 1, 2, 3, 4, 5, 6, 7, 8, 9, 10, 11] rfl)
                  refine W.widen (k := (61 + 3850 * i) + 63 + 63 * 0) (n := (366 + 26450 * i) + 433 + 433 * 0) (by omega) (by omega) ?_
                  exact lp199 _ 0 0 _ (Nat.zero_le _) (Or.inr ⟨rfl, fun q h => absurd h (Nat.not_lt_zero _)⟩) (hC) (Nat.lt_succ_self _) _ _ hP hD hS ls (lv_sub hl [0, 1, 2, 3, 4, 5, 6, 7, 8, 9, 10, 11] rfl)
              · refine jr_iinc (lv' := [(6, vi ((ce (sS T) i) + 1)), (9, .ref t107), (8, vi z98), (7, vi (i : Int)), (5, vi 1), (4, vi z49), (3, vi (ce (sS S) (nS S))), (0, .ref o), (1, .ref a1), (2, vi v0)]) hx hb dL_isFilled_119 hl (k := 3) rfl rfl (by decide) rfl (fun ls hl => ?_)
                refine lv_aload_n hx hb dL_isFilled_122 rfl (lv_at hl 7 rfl) ?_
                refine lv_aload hx hb dL_isFilled_123 (lv_at hl 1 rfl) ?_
                refine kl_Qi (cs := [aI g t107 61 f_t107]) (va_runS (As := [.ref o, .ref t107]) (rest := []) ⟨hx, hb, hml, hown, htl⟩ (m_L_types l hsT g o T w107 hC H.size t107 (sS T i).1 f_t107 hx_t107 (kw_ne1 (cs := [aI g t107 61 f_t107]) hD 0 rfl)) (va_cwS 2 htl lk_L_155 rfl rfl rfl cwS_L_types ⟨Nat.le_of_ble_eq_true rfl, Nat.le_of_ble_eq_true rfl⟩) (jp_S hKK hS hAb ⟨rfl, (kw_P (cs := [aI g t107 61 f_t107]) hP), (hD.right (a := [aI g t107 61 f_t107])).weaken (fun _ q _ h => hAb _ h), (va_P.sub hP [0] rfl)⟩) rfl rfl hl.1 rfl (lv_room (Nat.le_of_ble_eq_true rfl)) dL_isFilled_125 ⟨by show _ ≤ 231200; omega, by show _ ≤ 1588000; omega⟩) hP hD hS hA ?_
                clear hP hD hS hC; intro z125 H locs w125 hz125 hC hP hD hS
                have hP : PP g ([aI g t107 61 f_t107] ++ w125) H := hP
                have hD : va_D A ([aI g t107 61 f_t107] ++ w125) := hD
                refine W.widen (k := ((61 + 3850 * i) + 244)) (n := ((366 + 26450 * i) + 1519)) (by omega) (by omega) ?_
                have hC : CW g o (wD T (sS T i).1) w125 := hC
                have hz125 : z125 = 1 := hz125
                subst hz125
                refine lv_istore (lv' := [(5, vi 1), (6, vi ((ce (sS T) i) + 1)), (9, .ref t107), (8, vi z98), (7, vi (i : Int)), (4, vi z49), (3, vi (ce (sS S) (nS S))), (0, .ref o), (1, .ref a1), (2, vi v0)]) hx hb dL_isFilled_128 hl (by decide) rfl (fun ls hl => ?_)
                refine lv_aload_n hx hb dL_isFilled_130 rfl (lv_at hl 7 rfl) ?_
                refine jr_bipush hx hb dL_isFilled_131 (by decide) ?_
                refine jr_iconst hx hb dL_isFilled_133 ?_
                refine jr_iconst hx hb dL_isFilled_134 ?_
                refine kl_Qi (cs := [aI g t107 61 f_t107]) (vx_runSW (As := [.ref o, vi 6, vi 0, vi 0]) (rest := []) ⟨hx, hb, hml, hown, htl⟩ (m_L_ask_best l hsT g o (wD T (sS T i).1) w125 hC H.size 0 0) (vx_cwSW 4 htl lkH_L_ask rfl rfl rfl cwS_L_ask ⟨Nat.le_of_ble_eq_true rfl, Nat.le_of_ble_eq_true rfl⟩) (jp_S hKK hS hAb ⟨rfl, (kw_P (cs := [aI g t107 61 f_t107]) hP), (hD.right (a := [aI g t107 61 f_t107])).weaken (fun _ q _ h => hAb _ h)⟩) rfl rfl hl.1 rfl (lv_room (Nat.le_of_ble_eq_true rfl)) dL_isFilled_135 ⟨by show _ ≤ 231200; omega, by show _ ≤ 1588000; omega⟩) hP hD hS hA ?_
                clear hP hD hS hC; intro z135 H locs w135 hz135 hC hP hD hS
                have hP : PP g ([aI g t107 61 f_t107] ++ w135) H := hP
                have hD : va_D A ([aI g t107 61 f_t107] ++ w135) := hD
                refine W.widen (k := ((61 + 3850 * i) + 246)) (n := ((366 + 26450 * i) + 1531)) (by omega) (by omega) ?_
                have hz135 := best_g (hz135.trans (aq6 (S := wD T (sS T i).1) (by show ¬ (sS T i).1.length = 0; omega)))
                have hz135 : (bsU T (sS T i).1 = -1 ∧ z135 = -2005) ∨ (¬ bsU T (sS T i).1 = -1 ∧ z135 = bsU T (sS T i).1) := hz135
                have hbT := bsU_b hwT (sS T i).1
                have hnUT := (CW.n60 hC).1
                have hnUT : nU T ≤ 40 := hnUT
                refine lv_istore (lv' := [(10, vi z135), (5, vi 1), (6, vi ((ce (sS T) i) + 1)), (9, .ref t107), (8, vi z98), (7, vi (i : Int)), (4, vi z49), (3, vi (ce (sS S) (nS S))), (0, .ref o), (1, .ref a1), (2, vi v0)]) hx hb dL_isFilled_138 hl (by decide) rfl (fun ls hl => ?_)
                refine lv_iload hx hb dL_isFilled_140 (lv_at hl 1 rfl) ?_
                refine jr_ifeq (tgt := 180) hx hb dL_isFilled_142 (by decide) ⟨by omega, by omega⟩ (fun c142 => absurd c142 (by omega)) (fun c142 => ?_)
                refine lv_iload hx hb dL_isFilled_145 (lv_at hl 0 rfl) ?_
                refine jr_sipush hx hb dL_isFilled_147 (by decide) ?_
                refine jr_eq (tgt := 165) hx hb dL_isFilled_150 (by decide) ⟨by omega, by omega⟩ ⟨by omega, by omega⟩ (fun c150 => ?_) (fun c150 => ?_)
                · refine lv_aload_n hx hb dL_isFilled_165 rfl (lv_at hl 8 rfl) ?_
                  refine kl_Qi (cs := [aI g t107 61 f_t107]) (va_runV (As := []) (rest := []) ⟨hx, hb, hml, hown, htl⟩ (m_X10_clear l hsT g o (wD T (sS T i).1) w135 hC H.size) (cwV 0 htl lk_L_149 rfl rfl rfl cwV_X10_clear ⟨Nat.le_of_ble_eq_true rfl, Nat.le_of_ble_eq_true rfl⟩) (jp_V hKK hS hAb (CW.recv hKK hC (kw_P (cs := [aI g t107 61 f_t107]) hP)) ⟨rfl, (kw_P (cs := [aI g t107 61 f_t107]) hP), (hD.right (a := [aI g t107 61 f_t107])).weaken (fun _ q _ h => hAb _ h)⟩) rfl rfl hl.1 rfl (lv_room (Nat.le_of_ble_eq_true rfl)) dL_isFilled_166 ⟨by show _ ≤ 231200; omega, by show _ ≤ 1588000; omega⟩) hP hD hS hA ?_
                  clear hP hD hS hC; intro z166 H locs w166 hz166 hC hP hD hS
                  have hP : PP g ([aI g t107 61 f_t107] ++ w166) H := hP
                  have hD : va_D A ([aI g t107 61 f_t107] ++ w166) := hD
                  refine W.widen (k := ((61 + 3850 * i) + 247)) (n := ((366 + 26450 * i) + 1537)) (by omega) (by omega) ?_
                  have hC : CW g o T w166 := by have q : CW g o (wD T []) w166 := hC; rw [wD_nil (by rw [hTd]; exact hS0)] at q; exact q
                  have hz166 : z166 = ((sS T i).1.length : Int) := hz166
                  subst hz166
                  refine lv_aload hx hb dL_isFilled_169 (lv_at hl 3 rfl) ?_
                  refine jr_iconst hx hb dL_isFilled_171 ?_
                  refine jr_iald hx hb hKK.k hP 0 rfl 0 rfl (by omega) (by omega) dL_isFilled_172 ?_
                  refine jr_nm (b := ((sS T i).1.length : Int)) (by rw [hx_t107.n]) ?_
                  refine jr_ne (tgt := 180) hx hb dL_isFilled_173 (by decide) ⟨by omega, by omega⟩ ⟨by omega, by omega⟩ (fun c173 => absurd c173 (by omega)) (fun c173 => ?_)
                  refine jr_iconst hx hb dL_isFilled_176 ?_
                  refine lv_goto (tgt := 181) hx hb dL_isFilled_177 (by decide) ?_
                  refine lv_istore (lv' := [(5, vi 1), (10, vi z135), (6, vi ((ce (sS T) i) + 1)), (9, .ref t107), (8, vi z98), (7, vi (i : Int)), (4, vi z49), (3, vi (ce (sS S) (nS S))), (0, .ref o), (1, .ref a1), (2, vi v0)]) hx hb dL_isFilled_181 hl (by decide) rfl (fun ls hl => ?_)
                  refine lv_goto (tgt := 388) hx hb dL_isFilled_183 (by decide) ?_
                  have hl : lv_has ls 12 [(5, vi 1), (10, vi z135), (6, vi (ce (sS T) (i + 1))), (9, .ref t107), (8, vi z98), (7, vi (i : Int)), (4, vi z49), (3, vi (ce (sS S) (nS S))), (0, .ref o), (1, .ref a1), (2, vi v0)] := (show (((ce (sS T) i) + 1) : Int) = (ce (sS T) (i + 1)) from by rw [ce, if_pos (by omega)]) ▸ hl
                  refine jr_iinc (lv' := [(7, vi ((i : Int) + 1)), (5, vi 1), (10, vi z135), (6, vi (ce (sS T) (i + 1))), (9, .ref t107), (8, vi z98), (4, vi z49), (3, vi (ce (sS S) (nS S))), (0, .ref o), (1, .ref a1), (2, vi v0)]) hx hb dL_isFilled_388 hl (k := 5) rfl rfl (by decide) rfl (fun ls hl => ?_)
                  refine lv_goto (tgt := 78) hx hb dL_isFilled_391 (by decide) ?_
                  have hP : PP g w166 H := hP.tl
                  have hD : va_D A w166 := hD.tl
                  refine W.widen (k := (61 + 3850 * (i + 1))) (n := (366 + 26450 * (i + 1))) (by omega) (by omega) ?_
                  exact ih78 (i + 1) _ (by omega) (hC) (by omega) _ _ hP hD hS ls (lv_sub hl [0, 3, 1, 6, 7, 8, 9, 10] rfl)
                · obtain ⟨u, hu9, hul, hlt9⟩ := best_lt hwT hz135 c150 (hthT i (by omega) (by omega))
                  have hl : lv_has ls 12 [(10, vi (u : Int)), (5, vi 1), (6, vi ((ce (sS T) i) + 1)), (9, .ref t107), (8, vi z98), (7, vi (i : Int)), (4, vi z49), (3, vi (ce (sS S) (nS S))), (0, .ref o), (1, .ref a1), (2, vi v0)] := (show (z135 : Int) = (u : Int) from hu9) ▸ hl
                  refine lv_aload_n hx hb dL_isFilled_153 rfl (lv_at hl 8 rfl) ?_
                  refine jr_iconst hx hb dL_isFilled_154 ?_
                  refine lv_iload hx hb dL_isFilled_155 (lv_at hl 0 rfl) ?_
                  refine jr_iconst hx hb dL_isFilled_157 ?_
                  refine kl_Qi (cs := [aI g t107 61 f_t107]) (vx_runSW (As := [.ref o, vi 4, vi (u : Int), vi 0]) (rest := []) ⟨hx, hb, hml, hown, htl⟩ (m_L_ask_score l hsT g o (wD T (sS T i).1) w135 hC H.size (u : Int) ⟨by omega, by omega⟩ 0) (vx_cwSW 4 htl lkH_L_ask rfl rfl rfl cwS_L_ask ⟨Nat.le_of_ble_eq_true rfl, Nat.le_of_ble_eq_true rfl⟩) (jp_S hKK hS hAb ⟨rfl, (kw_P (cs := [aI g t107 61 f_t107]) hP), (hD.right (a := [aI g t107 61 f_t107])).weaken (fun _ q _ h => hAb _ h)⟩) rfl rfl hl.1 rfl (lv_room (Nat.le_of_ble_eq_true rfl)) dL_isFilled_158 ⟨by show _ ≤ 231200; omega, by show _ ≤ 1588000; omega⟩) hP hD hS hA ?_
                  clear hP hD hS hC; intro z158 H locs w158 hz158 hC hP hD hS
                  have hP : PP g ([aI g t107 61 f_t107] ++ w158) H := hP
                  have hD : va_D A ([aI g t107 61 f_t107] ++ w158) := hD
                  refine W.widen (k := ((61 + 3850 * i) + 248)) (n := ((366 + 26450 * i) + 1543)) (by omega) (by omega) ?_
                  replace hz158 : z158 = rate T.2.2.2.1 T.2.2.2.2.1 (sS T i).1 (uS T u) := hz158.trans (aqU (S := wD T (sS T i).1) (i := u) hul (by show ¬ (sS T i).1.length = 0; omega))
                  have hrb := rate_b hwT T.2.2.2.2.1 (sS T i).1 (uS T u)
                  refine lv_iload_n hx hb dL_isFilled_161 rfl (lv_at hl 10 rfl) ?_
                  refine jr_ge (tgt := 180) hx hb dL_isFilled_162 (by decide) ⟨by omega, by omega⟩ ⟨by omega, by omega⟩ (fun c162 => absurd c162 (by omega)) (fun c162 => ?_)
                  refine lv_aload_n hx hb dL_isFilled_165 rfl (lv_at hl 8 rfl) ?_
                  refine kl_Qi (cs := [aI g t107 61 f_t107]) (va_runV (As := []) (rest := []) ⟨hx, hb, hml, hown, htl⟩ (m_X10_clear l hsT g o (wD T (sS T i).1) w158 hC H.size) (cwV 0 htl lk_L_149 rfl rfl rfl cwV_X10_clear ⟨Nat.le_of_ble_eq_true rfl, Nat.le_of_ble_eq_true rfl⟩) (jp_V hKK hS hAb (CW.recv hKK hC (kw_P (cs := [aI g t107 61 f_t107]) hP)) ⟨rfl, (kw_P (cs := [aI g t107 61 f_t107]) hP), (hD.right (a := [aI g t107 61 f_t107])).weaken (fun _ q _ h => hAb _ h)⟩) rfl rfl hl.1 rfl (lv_room (Nat.le_of_ble_eq_true rfl)) dL_isFilled_166 ⟨by show _ ≤ 231200; omega, by show _ ≤ 1588000; omega⟩) hP hD hS hA ?_
                  clear hP hD hS hC; intro z166 H locs w166 hz166 hC hP hD hS
                  have hP : PP g ([aI g t107 61 f_t107] ++ w166) H := hP
                  have hD : va_D A ([aI g t107 61 f_t107] ++ w166) := hD
                  refine W.widen (k := ((61 + 3850 * i) + 249)) (n := ((366 + 26450 * i) + 1549)) (by omega) (by omega) ?_
                  have hC : CW g o T w166 := by have q : CW g o (wD T []) w166 := hC; rw [wD_nil (by rw [hTd]; exact hS0)] at q; exact q
                  have hz166 : z166 = ((sS T i).1.length : Int) := hz166
                  subst hz166
                  refine lv_aload hx hb dL_isFilled_169 (lv_at hl 3 rfl) ?_
                  refine jr_iconst hx hb dL_isFilled_171 ?_
                  refine jr_iald hx hb hKK.k hP 0 rfl 0 rfl (by omega) (by omega) dL_isFilled_172 ?_
                  refine jr_nm (b := ((sS T i).1.length : Int)) (by rw [hx_t107.n]) ?_
                  refine jr_ne (tgt := 180) hx hb dL_isFilled_173 (by decide) ⟨by omega, by omega⟩ ⟨by omega, by omega⟩ (fun c173 => absurd c173 (by omega)) (fun c173 => ?_)
                  refine jr_iconst hx hb dL_isFilled_176 ?_
                  refine lv_goto (tgt := 181) hx hb dL_isFilled_177 (by decide) ?_
                  refine lv_istore (lv' := [(5, vi 1), (10, vi (u : Int)), (6, vi ((ce (sS T) i) + 1)), (9, .ref t107), (8, vi z98), (7, vi (i : Int)), (4, vi z49), (3, vi (ce (sS S) (nS S))), (0, .ref o), (1, .ref a1), (2, vi v0)]) hx hb dL_isFilled_181 hl (by decide) rfl (fun ls hl => ?_)
                  refine lv_goto (tgt := 388) hx hb dL_isFilled_183 (by decide) ?_
                  have hl : lv_has ls 12 [(5, vi 1), (10, vi (u : Int)), (6, vi (ce (sS T) (i + 1))), (9, .ref t107), (8, vi z98), (7, vi (i : Int)), (4, vi z49), (3, vi (ce (sS S) (nS S))), (0, .ref o), (1, .ref a1), (2, vi v0)] := (show (((ce (sS T) i) + 1) : Int) = (ce (sS T) (i + 1)) from by rw [ce, if_pos (by omega)]) ▸ hl
                  refine jr_iinc (lv' := [(7, vi ((i : Int) + 1)), (5, vi 1), (10, vi (u : Int)), (6, vi (ce (sS T) (i + 1))), (9, .ref t107), (8, vi z98), (4, vi z49), (3, vi (ce (sS S) (nS S))), (0, .ref o), (1, .ref a1), (2, vi v0)]) hx hb dL_isFilled_388 hl (k := 5) rfl rfl (by decide) rfl (fun ls hl => ?_)
                  refine lv_goto (tgt := 78) hx hb dL_isFilled_391 (by decide) ?_
                  have hP : PP g w166 H := hP.tl
                  have hD : va_D A w166 := hD.tl
                  refine W.widen (k := (61 + 3850 * (i + 1))) (n := (366 + 26450 * (i + 1))) (by omega) (by omega) ?_
                  exact ih78 (i + 1) _ (by omega) (hC) (by omega) _ _ hP hD hS ls (lv_sub hl [0, 3, 1, 6, 7, 8, 9, 10] rfl)
        refine W.widen (k := 61 + 3850 * 0) (n := 366 + 26450 * 0) (by omega) (by omega) ?_
        exact lp78 _ 0 _ (Nat.zero_le _) (hC) (Nat.lt_succ_self _) _ _ hP hD hS ls (lv_sub hl [0, 1, 2, 3, 4, 5, 6, 7] rfl)
      · refine lv_iload_n hx hb dL_isFilled_14 rfl (lv_at hl 1 rfl) ?_
        refine lv_aload_n hx hb dL_isFilled_15 rfl (lv_at hl 2 rfl) ?_
        refine jr_bipush hx hb dL_isFilled_16 (by decide) ?_
        refine lv_iload hx hb dL_isFilled_18 (lv_at hl 0 rfl) ?_
        refine jr_iconst hx hb dL_isFilled_20 ?_
        refine kl_Qi (cs := []) (vx_runSW (As := [.ref o, vi 9, vi (i : Int), vi 0]) (rest := [vi (ce (sS S) i)]) ⟨hx, hb, hml, hown, htl⟩ (m_L_ask_stateOf l hsT g o S w5 hC H.size (i : Int) ⟨by omega, by omega⟩ 0) (vx_cwSW 4 htl lkH_L_ask rfl rfl rfl cwS_L_ask ⟨Nat.le_of_ble_eq_true rfl, Nat.le_of_ble_eq_true rfl⟩) (jp_S hKK hS hAb ⟨rfl, (kw_P (cs := []) hP), hD.weaken (fun _ q _ h => hAb _ h)⟩) rfl rfl hl.1 rfl (lv_room (Nat.le_of_ble_eq_true rfl)) dL_isFilled_21 ⟨by show _ ≤ 231200; omega, by show _ ≤ 1588000; omega⟩) hP hD hS hA ?_
        clear hP hD hS hC; intro z21 H locs w21 hz21 hC hP hD hS
        have hP : PP g w21 H := hP
        have hD : va_D A w21 := hD
        refine W.widen (k := ((0 + 1 * i) + 1)) (n := ((0 + 6 * i) + 6)) (by omega) (by omega) ?_
        replace hz21 : z21 = (sS S i).2.2.1 := hz21.trans (aq9 (by omega))
        have hst9 := (CW.sct hC i).2.2.1
        refine jr_bipush hx hb dL_isFilled_24 (by decide) ?_
        refine jr_ne (tgt := 33) hx hb dL_isFilled_26 (by decide) ⟨by omega, by omega⟩ ⟨by omega, by omega⟩ (fun c26 => ?_) (fun c26 => ?_)
        · refine jr_iconst hx hb dL_isFilled_33 ?_
          refine jr_iadd hx hb dL_isFilled_34 ?_
          refine lv_istore_n (lv' := [(3, vi ((ce (sS S) i) + 0)), (4, vi (i : Int)), (0, .ref o), (1, .ref a1), (2, vi v0)]) hx hb dL_isFilled_35 rfl hl (by decide) rfl (fun ls hl => ?_)
          have hl : lv_has ls 12 [(3, vi (ce (sS S) (i + 1))), (4, vi (i : Int)), (0, .ref o), (1, .ref a1), (2, vi v0)] := (show (((ce (sS S) i) + 0) : Int) = (ce (sS S) (i + 1)) from by rw [ce, if_neg (by omega)]) ▸ hl
          refine jr_iinc (lv' := [(4, vi ((i : Int) + 1)), (3, vi (ce (sS S) (i + 1))), (0, .ref o), (1, .ref a1), (2, vi v0)]) hx hb dL_isFilled_36 hl (k := 1) rfl rfl (by decide) rfl (fun ls hl => ?_)
          refine lv_goto (tgt := 5) hx hb dL_isFilled_39 (by decide) ?_
          refine W.widen (k := (0 + 1 * (i + 1))) (n := (0 + 6 * (i + 1))) (by omega) (by omega) ?_
          exact ih5 (i + 1) _ (by omega) (hC) (by omega) _ _ hP hD hS ls (lv_sub hl [0, 1, 2, 3, 4] rfl)
        · refine jr_iconst hx hb dL_isFilled_29 ?_
          refine lv_goto (tgt := 34) hx hb dL_isFilled_30 (by decide) ?_
          refine jr_iadd hx hb dL_isFilled_34 ?_
          refine lv_istore_n (lv' := [(3, vi ((ce (sS S) i) + 1)), (4, vi (i : Int)), (0, .ref o), (1, .ref a1), (2, vi v0)]) hx hb dL_isFilled_35 rfl hl (by decide) rfl (fun ls hl => ?_)
          have hl : lv_has ls 12 [(3, vi (ce (sS S) (i + 1))), (4, vi (i : Int)), (0, .ref o), (1, .ref a1), (2, vi v0)] := (show (((ce (sS S) i) + 1) : Int) = (ce (sS S) (i + 1)) from by rw [ce, if_pos (by omega)]) ▸ hl
          refine jr_iinc (lv' := [(4, vi ((i : Int) + 1)), (3, vi (ce (sS S) (i + 1))), (0, .ref o), (1, .ref a1), (2, vi v0)]) hx hb dL_isFilled_36 hl (k := 1) rfl rfl (by decide) rfl (fun ls hl => ?_)
          refine lv_goto (tgt := 5) hx hb dL_isFilled_39 (by decide) ?_
          refine W.widen (k := (0 + 1 * (i + 1))) (n := (0 + 6 * (i + 1))) (by omega) (by omega) ?_
          exact ih5 (i + 1) _ (by omega) (hC) (by omega) _ _ hP hD hS ls (lv_sub hl [0, 1, 2, 3, 4] rfl)
  refine W.widen (k := 0 + 1 * 0) (n := 0 + 6 * 0) (by omega) (by omega) ?_
  exact lp5 _ 0 _ (Nat.zero_le _) (hC) (Nat.lt_succ_self _) _ _ hP hD hS ls (lv_sub hl [0, 1, 2, 3, 4] rfl)
