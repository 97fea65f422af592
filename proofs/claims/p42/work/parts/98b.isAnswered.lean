
theorem lk_L_184 : GoodIn WSL (va_wsS RL 184 yL_isTarget (ws_ yL_isTarget cL_isTarget 6 (some .boolean))) := gd_app (List.forall_mem_cons.mpr ⟨wd_33_16, List.forall_mem_cons.mpr ⟨wd_33_17, List.forall_mem_cons.mpr ⟨wd_8_17, fun _ h => nomatch h⟩⟩⟩) (gd_ wd_33_18)
theorem cwS_L_isTarget : yL_isTarget.cls ≠ "java/lang/invoke/MethodHandle" ∧ yL_isTarget.cls ≠ "java/lang/invoke/VarHandle" ∧ (parseMethodDescriptor yL_isTarget.desc).map (fun d => d.parameters.length) = some 3 := by decide +kernel
set_option maxHeartbeats 4000000 in
set_option maxRecDepth 100000 in
theorem m_L_isAnswered (l : Launch) (hsT : l.stackTraces = false) (g : GT) (o : Nat) (S : SGM) (W9 : va_W) (hCW : CW g o S W9) (sz : Nat) (a1 : Nat) (x1 : List Int) (f1 : Nat → Int) (hx1 : AT x1 f1) (k : Nat) (hk : k < nS S) (a2 : Nat) (x2 : List Int) (f2 : Nat → Int) (hx2 : AT x2 f2) (h2 : 1 ≤ x2.length) (hS0 : S.1.length = 0) (hd : DOC S x1) (hsg : SEGS S) (hun : UNI S) (hu : nU S < 39) (hd_hP1 : ∀ x ∈ ([aI g a1 61 f1] : va_W).map (·.1), x ∉ W9.map (·.1)) (hd_hP2 : ∀ x ∈ ([aI g a2 61 f2] : va_W).map (·.1), x ∉ W9.map (·.1)) : Met l yL_isAnswered (ws_ yL_isAnswered cL_isAnswered 10 (some .boolean)) (rmm 14 30600 191000) (jPc g [.ref o, .ref a1, vi (k : Int), .ref a2] (fun H => H.size = sz ∧ PP g W9 H ∧ va_D (fun q => gb g ≤ q) W9 ∧ PP g [aI g a1 61 f1] H ∧ PP g [aI g a2 61 f2] H)) (jQi (fun z H1 => (z = 1) ∧ ∃ w1 : va_W, CW g o (nxAns (wD S x2) (k : Int)) w1 ∧ PP g w1 H1 ∧ va_D (va_A W9 sz) w1) (va_A W9 sz)) 30600 191000 (va_A W9 sz) := by
  refine jb_M (by decide) (Nat.le_of_ble_eq_true rfl) ?_
  intro p e s m below meth cq hx hb hr hml hown htl hlk hnm hKK hpre ls hl
  have hown : s.vm.findClass RL = some m.cls := hown
  obtain ⟨hsz, hP, hD0, hP1, hP2⟩ := hpre
  subst hsz
  have hAb : ∀ q, (va_A W9 s.heap.size) q → gb g ≤ q := fun q h => h.elim (fun ⟨k, e, h⟩ => hD0.2 k _ h) (fun h => Nat.le_trans hKK.2.1 h)
  have hD : va_D (va_A W9 s.heap.size) W9 := hD0.self
  have ap_hP1 := japS hP1 rfl hd_hP1
  have ap_hP2 := japS hP2 rfl hd_hP2
  generalize hAe : va_A W9 s.heap.size = A at *
  have hA : ∀ q, s.heap.size ≤ q → A q := fun q h => by rw [← hAe]; exact Or.inr h
  have hS : va_S A s.heap s.heap [] := va_S.rf
  have hl : lv_has ls 10 [(0, .ref o), (1, .ref a1), (2, vi (k : Int)), (3, .ref a2)] := hl
  have hd60 := CW.d60 hCW
  have hn60 := CW.n60 hCW
  have hl1 := hx1.len
  have hl2 := hx2.len
  have hw := CW.wb hCW
  have hlk1 := (hsg k hk).1
  have hck := (CW.sct hCW k).1
  have hlk2 := hck.1
  have hcob := co_b (sS S) k (sS S k).1 (nS S)
  suffices K : ∀ (w9 : va_W) (H : Heap) (locs : List Loc), CW g o S w9 → PP g w9 H → va_D A w9 → va_S A s.heap H locs → ∀ ls : Array Slot, lv_has ls 10 [(0, .ref o), (1, .ref a1), (2, vi (k : Int)), (3, .ref a2)] → W p l e (rmm 14 30600 191000) s m ([.ref o, .ref a1, vi (k : Int), .ref a2] : List Value).toArray below meth cq H locs 0 0 (MQ below (jQi (fun z H1 => (z = 1) ∧ ∃ w1 : va_W, CW g o (nxAns (wD S x2) (k : Int)) w1 ∧ PP g w1 H1 ∧ va_D A w1) A) ([.ref o, .ref a1, vi (k : Int), .ref a2] : List Value).toArray s 30600 191000 A) (F0 m 0 ls []) from K _ _ _ hCW hP hD hS _ hl
  clear hl hP hD hS; intro w9 H locs hC hP hD hS ls hl
  refine lv_aload_n hx hb dL_isAnswered_0 rfl (lv_at hl 0 rfl) ?_
  refine lv_aload_n hx hb dL_isAnswered_1 rfl (lv_at hl 1 rfl) ?_
  refine lv_iload_n hx hb dL_isAnswered_2 rfl (lv_at hl 2 rfl) ?_
  refine kl_Qr (N := fun a x => aT g a x) (cs := []) (va_runS (As := [.ref o, .ref a1, vi (k : Int)]) (rest := []) ⟨hx, hb, hml, hown, htl⟩ (m_L_segment l hsT g o S w9 hC H.size a1 x1 f1 hx1 k hk hd (kw_nR (cs := []) hD ap_hP1)) (va_cwS 3 htl lk_L_180 rfl rfl rfl cwS_L_segment ⟨Nat.le_of_ble_eq_true rfl, Nat.le_of_ble_eq_true rfl⟩) (jp_S hKK hS hAb ⟨rfl, (kw_P (cs := []) hP), hD.weaken (fun _ q _ h => hAb _ h), (jat hP1 hS ap_hP1)⟩) rfl rfl hl.1 rfl (lv_room (Nat.le_of_ble_eq_true rfl)) dL_isAnswered_3 ⟨Nat.le_of_ble_eq_true rfl, Nat.le_of_ble_eq_true rfl⟩) hP hD hS hA ?_
  clear hP hD hS hC; intro t3 x_t3 H locs w3 hz3 hC hP hD hS
  obtain ⟨x9, f_t3⟩ := x_t3
  obtain ⟨hx_t3, hq_t3⟩ : AT x9 f_t3 ∧ x9 = (sS S k).1 := hz3
  subst hq_t3
  have hP : PP g ([aI g t3 61 f_t3] ++ w3) H := hP
  have hD : va_D A ([aI g t3 61 f_t3] ++ w3) := hD
  refine W.widen (k := 62) (n := 427) (by omega) (by omega) ?_
  refine lv_astore (lv' := [(4, .ref t3), (0, .ref o), (1, .ref a1), (2, vi (k : Int)), (3, .ref a2)]) hx hb dL_isAnswered_6 hl (by decide) rfl (fun ls hl => ?_)
  refine lv_aload_n hx hb dL_isAnswered_8 rfl (lv_at hl 1 rfl) ?_
  refine jk_Si (va_runV (As := []) (rest := []) ⟨hx, hb, hml, hown, htl⟩ (m_X10_units l hsT g o S w3 hC ) (cwV 0 htl lk_L_162 rfl rfl rfl cwV_X10_units ⟨Nat.le_of_ble_eq_true rfl, Nat.le_of_ble_eq_true rfl⟩) (jp_V hKK hS hAb (CW.recv hKK hC (kw_P (cs := [aI g t3 61 f_t3]) hP)) (kw_P (cs := [aI g t3 61 f_t3]) hP)) rfl rfl hl.1 rfl (lv_room (Nat.le_of_ble_eq_true rfl)) dL_isAnswered_9 ⟨Nat.le_of_ble_eq_true rfl, Nat.le_of_ble_eq_true rfl⟩) (fun z9 hz9 => ?_)
  have hz9 : z9 = (nU S : Int) := hz9
  subst hz9
  refine lv_istore (lv' := [(5, vi (nU S : Int)), (4, .ref t3), (0, .ref o), (1, .ref a1), (2, vi (k : Int)), (3, .ref a2)]) hx hb dL_isAnswered_12 hl (by decide) rfl (fun ls hl => ?_)
  refine jr_iconst hx hb dL_isAnswered_14 ?_
  refine lv_istore (lv' := [(6, vi 0), (5, vi (nU S : Int)), (4, .ref t3), (0, .ref o), (1, .ref a1), (2, vi (k : Int)), (3, .ref a2)]) hx hb dL_isAnswered_15 hl (by decide) rfl (fun ls hl => ?_)
  refine jr_iconst hx hb dL_isAnswered_17 ?_
  refine lv_istore (lv' := [(7, vi 0), (6, vi 0), (5, vi (nU S : Int)), (4, .ref t3), (0, .ref o), (1, .ref a1), (2, vi (k : Int)), (3, .ref a2)]) hx hb dL_isAnswered_18 hl (by decide) rfl (fun ls hl => ?_)
  have lp20 : ∀ (N : Nat) (i : Nat) (w20 : va_W), (i ≤ nS S) → (CW g o S w20) → nS S - i < N → ∀ (H : Heap) (locs : List Loc), PP g ([aI g t3 61 f_t3] ++ w20) H → va_D A ([aI g t3 61 f_t3] ++ w20) → va_S A s.heap H locs → ∀ ls : Array Slot, lv_has ls 10 [(7, vi (i : Int)), (6, vi (co (sS S) k (sS S k).1 i)), (5, vi (nU S : Int)), (4, .ref t3), (0, .ref o), (1, .ref a1), (2, vi (k : Int)), (3, .ref a2)] → W p l e (rmm 14 30600 191000) s m ([.ref o, .ref a1, vi (k : Int), .ref a2] : List Value).toArray below meth cq H locs (62 + 63 * i) (427 + 433 * i) (MQ below (jQi (fun z H1 => (z = 1) ∧ ∃ w1 : va_W, CW g o (nxAns (wD S x2) (k : Int)) w1 ∧ PP g w1 H1 ∧ va_D A w1) A) ([.ref o, .ref a1, vi (k : Int), .ref a2] : List Value).toArray s 30600 191000 A) (F0 m 20 ls []) := by
    intro N
    induction N with
    | zero => intro i w20 hi hC hM; exact absurd hM (Nat.not_lt_zero _)
    | succ N ih20 =>
      intro i w20 hi hC hM H locs hP hD hS ls hl
      have hcbi := co_b (sS S) k (sS S k).1 i
      refine lv_iload hx hb dL_isAnswered_20 (lv_at hl 0 rfl) ?_
      refine lv_aload_n hx hb dL_isAnswered_22 rfl (lv_at hl 4 rfl) ?_
      refine jk_Si (va_runV (As := []) (rest := [vi (i : Int)]) ⟨hx, hb, hml, hown, htl⟩ (m_X10_segments l hsT g o S w20 hC ) (cwV 0 htl lk_L_169 rfl rfl rfl cwV_X10_segments ⟨Nat.le_of_ble_eq_true rfl, Nat.le_of_ble_eq_true rfl⟩) (jp_V hKK hS hAb (CW.recv hKK hC (kw_P (cs := [aI g t3 61 f_t3]) hP)) (kw_P (cs := [aI g t3 61 f_t3]) hP)) rfl rfl hl.1 rfl (lv_room (Nat.le_of_ble_eq_true rfl)) dL_isAnswered_23 ⟨by show _ ≤ 30600; omega, by show _ ≤ 191000; omega⟩) (fun z23 hz23 => ?_)
      have hz23 : z23 = (nS S : Int) := hz23
      subst hz23
      refine jr_ge (tgt := 80) hx hb dL_isAnswered_26 (by decide) ⟨by omega, by omega⟩ ⟨by omega, by omega⟩ (fun c26 => ?_) (fun c26 => ?_)
      · have hi9 : i = nS S := by omega
        have hl : lv_has ls 10 [(7, vi (i : Int)), (6, vi (co (sS S) k (sS S k).1 (nS S))), (5, vi (nU S : Int)), (4, .ref t3), (0, .ref o), (1, .ref a1), (2, vi (k : Int)), (3, .ref a2)] := (show ((co (sS S) k (sS S k).1 i) : Int) = (co (sS S) k (sS S k).1 (nS S)) from by rw [hi9]) ▸ hl
        refine lv_aload_n hx hb dL_isAnswered_80 rfl (lv_at hl 4 rfl) ?_
        refine jr_bipush hx hb dL_isAnswered_81 (by decide) ?_
        refine lv_iload_n hx hb dL_isAnswered_83 rfl (lv_at hl 6 rfl) ?_
        refine jr_iconst hx hb dL_isAnswered_84 ?_
        refine jr_iconst hx hb dL_isAnswered_85 ?_
        refine jr_iconst hx hb dL_isAnswered_86 ?_
        refine kl_Qi (cs := [aI g t3 61 f_t3]) (vx_runSW (As := [.ref o, vi 13, vi (k : Int), vi 0, vi 0, vi 0]) (rest := []) ⟨hx, hb, hml, hown, htl⟩ (m_L_deed_answer l hsT g o S w20 hC H.size (k : Int) ⟨by omega, by omega⟩ 0 0 0) (vx_cwSW 6 htl lkH_L_deed rfl rfl rfl cwS_L_deed ⟨Nat.le_of_ble_eq_true rfl, Nat.le_of_ble_eq_true rfl⟩) (jp_S hKK hS hAb ⟨rfl, (kw_P (cs := [aI g t3 61 f_t3]) hP), (hD.right (a := [aI g t3 61 f_t3])).weaken (fun _ q _ h => hAb _ h)⟩) rfl rfl hl.1 rfl (lv_room (Nat.le_of_ble_eq_true rfl)) dL_isAnswered_87 ⟨by show _ ≤ 30600; omega, by show _ ≤ 191000; omega⟩) hP hD hS hA ?_
        clear hP hD hS hC; intro z87 H locs w87 hz87 hC hP hD hS
        have hP : PP g ([aI g t3 61 f_t3] ++ w87) H := hP
        have hD : va_D A ([aI g t3 61 f_t3] ++ w87) := hD
        refine W.widen (k := ((62 + 63 * i) + 9)) (n := ((427 + 433 * i) + 233)) (by omega) (by omega) ?_
        have hC : CW g o S w87 := by have q := hC; rw [rS_n (by rw [cdA_2 hk hS0]; decide)] at q; exact q
        have hz87 : z87 = -2003 := hz87.trans (rs_2 (cdA_2 hk hS0))
        subst hz87
        refine jr_sipush hx hb dL_isAnswered_90 (by decide) ?_
        refine jr_ne (tgt := 142) hx hb dL_isAnswered_93 (by decide) ⟨by omega, by omega⟩ ⟨by omega, by omega⟩ (fun c93 => absurd c93 (by omega)) (fun c93 => ?_)
        refine lv_aload_n hx hb dL_isAnswered_96 rfl (lv_at hl 4 rfl) ?_
        refine lv_aload_n hx hb dL_isAnswered_97 rfl (lv_at hl 7 rfl) ?_
        refine kl_Qi (cs := [aI g t3 61 f_t3]) (va_runS (As := [.ref o, .ref a2]) (rest := []) ⟨hx, hb, hml, hown, htl⟩ (m_L_types l hsT g o S w87 hC H.size a2 x2 f2 hx2 (kw_nR (cs := [aI g t3 61 f_t3]) hD ap_hP2)) (va_cwS 2 htl lk_L_155 rfl rfl rfl cwS_L_types ⟨Nat.le_of_ble_eq_true rfl, Nat.le_of_ble_eq_true rfl⟩) (jp_S hKK hS hAb ⟨rfl, (kw_P (cs := [aI g t3 61 f_t3]) hP), (hD.right (a := [aI g t3 61 f_t3])).weaken (fun _ q _ h => hAb _ h), (jat hP2 hS ap_hP2)⟩) rfl rfl hl.1 rfl (lv_room (Nat.le_of_ble_eq_true rfl)) dL_isAnswered_98 ⟨by show _ ≤ 30600; omega, by show _ ≤ 191000; omega⟩) hP hD hS hA ?_
        clear hP hD hS hC; intro z98 H locs w98 hz98 hC hP hD hS
        have hP : PP g ([aI g t3 61 f_t3] ++ w98) H := hP
        have hD : va_D A ([aI g t3 61 f_t3] ++ w98) := hD
        refine W.widen (k := ((62 + 63 * i) + 190)) (n := ((427 + 433 * i) + 1319)) (by omega) (by omega) ?_
        have hC : CW g o (wD S x2) w98 := hC
        have hz98 : z98 = 1 := hz98
        subst hz98
        have hnS2 : nS (wD S x2) = nS S := rfl
        refine jr_ifeq (tgt := 142) hx hb dL_isAnswered_101 (by decide) ⟨by omega, by omega⟩ (fun c101 => absurd c101 (by omega)) (fun c101 => ?_)
        obtain ⟨T, hT, hTn, hTu, hTd, hdT, hsgT, huT, hTul, hTk, hTx, hTs, hvl⟩ := ans_all hk hsg hun hd h2
        refine lv_aload_n hx hb dL_isAnswered_104 rfl (lv_at hl 4 rfl) ?_
        refine jr_bipush hx hb dL_isAnswered_105 (by decide) ?_
        refine lv_aload_n hx hb dL_isAnswered_107 rfl (lv_at hl 4 rfl) ?_
        refine jk_Si (va_runV (As := []) (rest := [vi 13, .ref o]) ⟨hx, hb, hml, hown, htl⟩ (m_X10_segments l hsT g o (wD S x2) w98 hC ) (cwV 0 htl lk_L_169 rfl rfl rfl cwV_X10_segments ⟨Nat.le_of_ble_eq_true rfl, Nat.le_of_ble_eq_true rfl⟩) (jp_V hKK hS hAb (CW.recv hKK hC (kw_P (cs := [aI g t3 61 f_t3]) hP)) (kw_P (cs := [aI g t3 61 f_t3]) hP)) rfl rfl hl.1 rfl (lv_room (Nat.le_of_ble_eq_true rfl)) dL_isAnswered_108 ⟨by show _ ≤ 30600; omega, by show _ ≤ 191000; omega⟩) (fun z108 hz108 => ?_)
        have hz108 : z108 = (nS (wD S x2) : Int) := hz108
        subst hz108
        refine jr_iconst hx hb dL_isAnswered_111 ?_
        refine jr_iconst hx hb dL_isAnswered_112 ?_
        refine jr_iconst hx hb dL_isAnswered_113 ?_
        refine kl_Qi (cs := [aI g t3 61 f_t3]) (vx_runSW (As := [.ref o, vi 13, vi (nS (wD S x2) : Int), vi 0, vi 0, vi 0]) (rest := []) ⟨hx, hb, hml, hown, htl⟩ (m_L_deed_answer l hsT g o (wD S x2) w98 hC H.size (nS (wD S x2) : Int) ⟨by omega, by omega⟩ 0 0 0) (vx_cwSW 6 htl lkH_L_deed rfl rfl rfl cwS_L_deed ⟨Nat.le_of_ble_eq_true rfl, Nat.le_of_ble_eq_true rfl⟩) (jp_S hKK hS hAb ⟨rfl, (kw_P (cs := [aI g t3 61 f_t3]) hP), (hD.right (a := [aI g t3 61 f_t3])).weaken (fun _ q _ h => hAb _ h)⟩) rfl rfl hl.1 rfl (lv_room (Nat.le_of_ble_eq_true rfl)) dL_isAnswered_114 ⟨by show _ ≤ 30600; omega, by show _ ≤ 191000; omega⟩) hP hD hS hA ?_
        clear hP hD hS hC; intro z114 H locs w114 hz114 hC hP hD hS
        have hP : PP g ([aI g t3 61 f_t3] ++ w114) H := hP
        have hD : va_D A ([aI g t3 61 f_t3] ++ w114) := hD
        refine W.widen (k := ((62 + 63 * i) + 199)) (n := ((427 + 433 * i) + 1552)) (by omega) (by omega) ?_
        have hC : CW g o (wD S x2) w114 := by have q := hC; rw [rS_n (by rw [cdA_1 (Nat.le_refl _)]; decide)] at q; exact q
        have hz114 : z114 = -2001 := hz114.trans (rs_1 (cdA_1 (Nat.le_refl _)))
        subst hz114
        refine jr_sipush hx hb dL_isAnswered_117 (by decide) ?_
        refine jr_ne (tgt := 142) hx hb dL_isAnswered_120 (by decide) ⟨by omega, by omega⟩ ⟨by omega, by omega⟩ (fun c120 => absurd c120 (by omega)) (fun c120 => ?_)
        refine lv_aload_n hx hb dL_isAnswered_123 rfl (lv_at hl 4 rfl) ?_
        refine jr_bipush hx hb dL_isAnswered_124 (by decide) ?_
        refine lv_iload_n hx hb dL_isAnswered_126 rfl (lv_at hl 6 rfl) ?_
        refine jr_iconst hx hb dL_isAnswered_127 ?_
        refine jr_iconst hx hb dL_isAnswered_128 ?_
        refine jr_iconst hx hb dL_isAnswered_129 ?_
        refine kl_Qi (cs := [aI g t3 61 f_t3]) (vx_runSW (As := [.ref o, vi 13, vi (k : Int), vi 0, vi 0, vi 0]) (rest := []) ⟨hx, hb, hml, hown, htl⟩ (m_L_deed_answer l hsT g o (wD S x2) w114 hC H.size (k : Int) ⟨by omega, by omega⟩ 0 0 0) (vx_cwSW 6 htl lkH_L_deed rfl rfl rfl cwS_L_deed ⟨Nat.le_of_ble_eq_true rfl, Nat.le_of_ble_eq_true rfl⟩) (jp_S hKK hS hAb ⟨rfl, (kw_P (cs := [aI g t3 61 f_t3]) hP), (hD.right (a := [aI g t3 61 f_t3])).weaken (fun _ q _ h => hAb _ h)⟩) rfl rfl hl.1 rfl (lv_room (Nat.le_of_ble_eq_true rfl)) dL_isAnswered_130 ⟨by show _ ≤ 30600; omega, by show _ ≤ 191000; omega⟩) hP hD hS hA ?_
        clear hP hD hS hC; intro z130 H locs w130 hz130 hC hP hD hS
        have hP : PP g ([aI g t3 61 f_t3] ++ w130) H := hP
        have hD : va_D A ([aI g t3 61 f_t3] ++ w130) := hD
        refine W.widen (k := ((62 + 63 * i) + 208)) (n := ((427 + 433 * i) + 1785)) (by omega) (by omega) ?_
        have hC : CW g o T w130 := by have q := hC; rw [rS_0 (cdA_0 (S := wD S x2) hk h2 (by show nU S < 40; omega)), ← hT] at q; exact q
        have hz130 : z130 = (co (sS S) k (sS S k).1 (nS S)) := hz130.trans ((rs_0 (cdA_0 (S := wD S x2) hk h2 (by show nU S < 40; omega))).trans hvl)
        subst hz130
        have hwT := CW.wb hC
        refine lv_iload hx hb dL_isAnswered_133 (lv_at hl 1 rfl) ?_
        refine jr_ne (tgt := 142) hx hb dL_isAnswered_135 (by decide) ⟨by omega, by omega⟩ ⟨by omega, by omega⟩ (fun c135 => absurd c135 (by omega)) (fun c135 => ?_)
        refine jr_iconst hx hb dL_isAnswered_138 ?_
        refine lv_goto (tgt := 143) hx hb dL_isAnswered_139 (by decide) ?_
        refine lv_istore (lv' := [(7, vi 1), (6, vi (co (sS S) k (sS S k).1 (nS S))), (5, vi (nU S : Int)), (4, .ref t3), (0, .ref o), (1, .ref a1), (2, vi (k : Int)), (3, .ref a2)]) hx hb dL_isAnswered_143 hl (by decide) rfl (fun ls hl => ?_)
        refine lv_iload hx hb dL_isAnswered_145 (lv_at hl 0 rfl) ?_
        refine jr_ifeq (tgt := 187) hx hb dL_isAnswered_147 (by decide) ⟨by omega, by omega⟩ (fun c147 => absurd c147 (by omega)) (fun c147 => ?_)
        refine lv_aload_n hx hb dL_isAnswered_150 rfl (lv_at hl 4 rfl) ?_
        refine jk_Si (va_runV (As := []) (rest := []) ⟨hx, hb, hml, hown, htl⟩ (m_X10_units l hsT g o T w130 hC ) (cwV 0 htl lk_L_162 rfl rfl rfl cwV_X10_units ⟨Nat.le_of_ble_eq_true rfl, Nat.le_of_ble_eq_true rfl⟩) (jp_V hKK hS hAb (CW.recv hKK hC (kw_P (cs := [aI g t3 61 f_t3]) hP)) (kw_P (cs := [aI g t3 61 f_t3]) hP)) rfl rfl hl.1 rfl (lv_room (Nat.le_of_ble_eq_true rfl)) dL_isAnswered_151 ⟨by show _ ≤ 30600; omega, by show _ ≤ 191000; omega⟩) (fun z151 hz151 => ?_)
        have hz151 : z151 = (nU T : Int) := hz151
        subst hz151
        refine lv_iload hx hb dL_isAnswered_154 (lv_at hl 2 rfl) ?_
        refine jr_iconst hx hb dL_isAnswered_156 ?_
        refine jr_iadd hx hb dL_isAnswered_157 ?_
        refine jr_ne (tgt := 187) hx hb dL_isAnswered_158 (by decide) ⟨by omega, by omega⟩ ⟨by omega, by omega⟩ (fun c158 => absurd c158 (by omega)) (fun c158 => ?_)
        refine lv_aload_n hx hb dL_isAnswered_161 rfl (lv_at hl 4 rfl) ?_
        refine jr_bipush hx hb dL_isAnswered_162 (by decide) ?_
        refine lv_iload_n hx hb dL_isAnswered_164 rfl (lv_at hl 6 rfl) ?_
        refine jr_iconst hx hb dL_isAnswered_165 ?_
        refine kl_Qi (cs := [aI g t3 61 f_t3]) (vx_runSW (As := [.ref o, vi 9, vi (k : Int), vi 0]) (rest := []) ⟨hx, hb, hml, hown, htl⟩ (m_L_ask_stateOf l hsT g o T w130 hC H.size (k : Int) ⟨by omega, by omega⟩ 0) (vx_cwSW 4 htl lkH_L_ask rfl rfl rfl cwS_L_ask ⟨Nat.le_of_ble_eq_true rfl, Nat.le_of_ble_eq_true rfl⟩) (jp_S hKK hS hAb ⟨rfl, (kw_P (cs := [aI g t3 61 f_t3]) hP), (hD.right (a := [aI g t3 61 f_t3])).weaken (fun _ q _ h => hAb _ h)⟩) rfl rfl hl.1 rfl (lv_room (Nat.le_of_ble_eq_true rfl)) dL_isAnswered_166 ⟨by show _ ≤ 30600; omega, by show _ ≤ 191000; omega⟩) hP hD hS hA ?_
        clear hP hD hS hC; intro z166 H locs w166 hz166 hC hP hD hS
        have hP : PP g ([aI g t3 61 f_t3] ++ w166) H := hP
        have hD : va_D A ([aI g t3 61 f_t3] ++ w166) := hD
        refine W.widen (k := ((62 + 63 * i) + 209)) (n := ((427 + 433 * i) + 1791)) (by omega) (by omega) ?_
        have hz166 : z166 = 97 := hz166.trans ((aq9 (by omega)).trans hTk.2)
        subst hz166
        refine jr_bipush hx hb dL_isAnswered_169 (by decide) ?_
        refine jr_ne (tgt := 187) hx hb dL_isAnswered_171 (by decide) ⟨by omega, by omega⟩ ⟨by omega, by omega⟩ (fun c171 => absurd c171 (by omega)) (fun c171 => ?_)
        refine lv_aload_n hx hb dL_isAnswered_174 rfl (lv_at hl 4 rfl) ?_
        refine lv_iload_n hx hb dL_isAnswered_175 rfl (lv_at hl 6 rfl) ?_
        refine lv_aload_n hx hb dL_isAnswered_176 rfl (lv_at hl 7 rfl) ?_
        refine kl_Qi (cs := [aI g t3 61 f_t3]) (va_runS (As := [.ref o, vi (k : Int), .ref a2]) (rest := []) ⟨hx, hb, hml, hown, htl⟩ (m_L_isTarget l hsT g o T w166 hC H.size a2 x2 f2 hx2 k (by omega) (by omega) hTk.1 (kw_nR (cs := [aI g t3 61 f_t3]) hD ap_hP2)) (va_cwS 3 htl lk_L_184 rfl rfl rfl cwS_L_isTarget ⟨Nat.le_of_ble_eq_true rfl, Nat.le_of_ble_eq_true rfl⟩) (jp_S hKK hS hAb ⟨rfl, (kw_P (cs := [aI g t3 61 f_t3]) hP), (hD.right (a := [aI g t3 61 f_t3])).weaken (fun _ q _ h => hAb _ h), (jat hP2 hS ap_hP2)⟩) rfl rfl hl.1 rfl (lv_room (Nat.le_of_ble_eq_true rfl)) dL_isAnswered_177 ⟨by show _ ≤ 30600; omega, by show _ ≤ 191000; omega⟩) hP hD hS hA ?_
        clear hP hD hS hC; intro z177 H locs w177 hz177 hC hP hD hS
        have hP : PP g ([aI g t3 61 f_t3] ++ w177) H := hP
        have hD : va_D A ([aI g t3 61 f_t3] ++ w177) := hD
        refine W.widen (k := ((62 + 63 * i) + 577)) (n := ((427 + 433 * i) + 3999)) (by omega) (by omega) ?_
        have hz177 : z177 = 1 := hz177
        subst hz177
        refine jr_ifeq (tgt := 187) hx hb dL_isAnswered_180 (by decide) ⟨by omega, by omega⟩ (fun c180 => absurd c180 (by omega)) (fun c180 => ?_)
        refine jr_iconst hx hb dL_isAnswered_183 ?_
        refine lv_goto (tgt := 188) hx hb dL_isAnswered_184 (by decide) ?_
        refine lv_istore (lv' := [(7, vi 1), (6, vi (co (sS S) k (sS S k).1 (nS S))), (5, vi (nU S : Int)), (4, .ref t3), (0, .ref o), (1, .ref a1), (2, vi (k : Int)), (3, .ref a2)]) hx hb dL_isAnswered_188 hl (by decide) rfl (fun ls hl => ?_)
        refine jr_iconst hx hb dL_isAnswered_190 ?_
        refine lv_istore (lv' := [(8, vi 0), (7, vi 1), (6, vi (co (sS S) k (sS S k).1 (nS S))), (5, vi (nU S : Int)), (4, .ref t3), (0, .ref o), (1, .ref a1), (2, vi (k : Int)), (3, .ref a2)]) hx hb dL_isAnswered_191 hl (by decide) rfl (fun ls hl => ?_)
        have lp193 : ∀ (N : Nat) (j : Nat) (w193 : va_W), (j ≤ nS S) → (CW g o T w193) → nS S - j < N → ∀ (H : Heap) (locs : List Loc), PP g ([aI g t3 61 f_t3] ++ w193) H → va_D A ([aI g t3 61 f_t3] ++ w193) → va_S A s.heap H locs → ∀ ls : Array Slot, lv_has ls 10 [(8, vi (j : Int)), (7, vi 1), (6, vi (co (sS S) k (sS S k).1 (nS S))), (5, vi (nU S : Int)), (4, .ref t3), (0, .ref o), (1, .ref a1), (2, vi (k : Int)), (3, .ref a2)] → W p l e (rmm 14 30600 191000) s m ([.ref o, .ref a1, vi (k : Int), .ref a2] : List Value).toArray below meth cq H locs (4500 + 431 * j) (31000 + 2641 * j) (MQ below (jQi (fun z H1 => (z = 1) ∧ ∃ w1 : va_W, CW g o (nxAns (wD S x2) (k : Int)) w1 ∧ PP g w1 H1 ∧ va_D A w1) A) ([.ref o, .ref a1, vi (k : Int), .ref a2] : List Value).toArray s 30600 191000 A) (F0 m 193 ls []) := by
          intro N
          induction N with
          | zero => intro j w193 hj hC hM; exact absurd hM (Nat.not_lt_zero _)
          | succ N ih193 =>
            intro j w193 hj hC hM H locs hP hD hS ls hl
            refine lv_iload hx hb dL_isAnswered_193 (lv_at hl 0 rfl) ?_
            refine lv_aload_n hx hb dL_isAnswered_195 rfl (lv_at hl 5 rfl) ?_
            refine jk_Si (va_runV (As := []) (rest := [vi (j : Int)]) ⟨hx, hb, hml, hown, htl⟩ (m_X10_segments l hsT g o T w193 hC ) (cwV 0 htl lk_L_169 rfl rfl rfl cwV_X10_segments ⟨Nat.le_of_ble_eq_true rfl, Nat.le_of_ble_eq_true rfl⟩) (jp_V hKK hS hAb (CW.recv hKK hC (kw_P (cs := [aI g t3 61 f_t3]) hP)) (kw_P (cs := [aI g t3 61 f_t3]) hP)) rfl rfl hl.1 rfl (lv_room (Nat.le_of_ble_eq_true rfl)) dL_isAnswered_196 ⟨by show _ ≤ 30600; omega, by show _ ≤ 191000; omega⟩) (fun z196 hz196 => ?_)
            have hz196 : z196 = (nS T : Int) := hz196
            subst hz196
            refine jr_ge (tgt := 270) hx hb dL_isAnswered_199 (by decide) ⟨by omega, by omega⟩ ⟨by omega, by omega⟩ (fun c199 => ?_) (fun c199 => ?_)
            · refine lv_iload hx hb dL_isAnswered_270 (lv_at hl 1 rfl) ?_
              refine jr_ifeq (tgt := 323) hx hb dL_isAnswered_272 (by decide) ⟨by omega, by omega⟩ (fun c272 => absurd c272 (by omega)) (fun c272 => ?_)
              refine lv_aload_n hx hb dL_isAnswered_275 rfl (lv_at hl 5 rfl) ?_
              refine lv_aload hx hb dL_isAnswered_276 (lv_at hl 4 rfl) ?_
              refine kl_Qi (cs := [aI g t3 61 f_t3]) (va_runS (As := [.ref o, .ref t3]) (rest := []) ⟨hx, hb, hml, hown, htl⟩ (m_L_types l hsT g o T w193 hC H.size t3 (sS S k).1 f_t3 hx_t3 (kw_ne1 (cs := [aI g t3 61 f_t3]) hD 0 rfl)) (va_cwS 2 htl lk_L_155 rfl rfl rfl cwS_L_types ⟨Nat.le_of_ble_eq_true rfl, Nat.le_of_ble_eq_true rfl⟩) (jp_S hKK hS hAb ⟨rfl, (kw_P (cs := [aI g t3 61 f_t3]) hP), (hD.right (a := [aI g t3 61 f_t3])).weaken (fun _ q _ h => hAb _ h), (va_P.sub hP [0] rfl)⟩) rfl rfl hl.1 rfl (lv_room (Nat.le_of_ble_eq_true rfl)) dL_isAnswered_278 ⟨by show _ ≤ 30600; omega, by show _ ≤ 191000; omega⟩) hP hD hS hA ?_
              clear hP hD hS hC; intro z278 H locs w278 hz278 hC hP hD hS
              have hP : PP g ([aI g t3 61 f_t3] ++ w278) H := hP
              have hD : va_D A ([aI g t3 61 f_t3] ++ w278) := hD
              refine W.widen (k := ((4500 + 431 * j) + 181)) (n := ((31000 + 2641 * j) + 1086)) (by omega) (by omega) ?_
              have hC : CW g o (wD T (sS S k).1) w278 := hC
              have hz278 : z278 = 1 := hz278
              subst hz278
              obtain ⟨hse1, hse2⟩ := self_all hwT hck hlk1 (uS T (nU S)) (by rw [hTul])
              have hn0 : ¬ (wD T (sS S k).1).1.length = 0 := by show ¬ (sS S k).1.length = 0; omega
              refine jr_ifeq (tgt := 323) hx hb dL_isAnswered_281 (by decide) ⟨by omega, by omega⟩ (fun c281 => absurd c281 (by omega)) (fun c281 => ?_)
              refine lv_aload_n hx hb dL_isAnswered_284 rfl (lv_at hl 5 rfl) ?_
              refine jr_iconst hx hb dL_isAnswered_285 ?_
              refine lv_iload hx hb dL_isAnswered_286 (lv_at hl 3 rfl) ?_
              refine jr_iconst hx hb dL_isAnswered_288 ?_
              refine kl_Qi (cs := [aI g t3 61 f_t3]) (vx_runSW (As := [.ref o, vi 2, vi (nU S : Int), vi 0]) (rest := []) ⟨hx, hb, hml, hown, htl⟩ (m_L_ask_likeness l hsT g o (wD T (sS S k).1) w278 hC H.size (nU S : Int) ⟨by omega, by omega⟩ 0) (vx_cwSW 4 htl lkH_L_ask rfl rfl rfl cwS_L_ask ⟨Nat.le_of_ble_eq_true rfl, Nat.le_of_ble_eq_true rfl⟩) (jp_S hKK hS hAb ⟨rfl, (kw_P (cs := [aI g t3 61 f_t3]) hP), (hD.right (a := [aI g t3 61 f_t3])).weaken (fun _ q _ h => hAb _ h)⟩) rfl rfl hl.1 rfl (lv_room (Nat.le_of_ble_eq_true rfl)) dL_isAnswered_289 ⟨by show _ ≤ 30600; omega, by show _ ≤ 191000; omega⟩) hP hD hS hA ?_
              clear hP hD hS hC; intro z289 H locs w289 hz289 hC hP hD hS
              have hP : PP g ([aI g t3 61 f_t3] ++ w289) H := hP
              have hD : va_D A ([aI g t3 61 f_t3] ++ w289) := hD
              refine W.widen (k := ((4500 + 431 * j) + 183)) (n := ((31000 + 2641 * j) + 1098)) (by omega) (by omega) ?_
              have hz289 : z289 = 100 := hz289.trans ((aqU (S := wD T (sS S k).1) (i := nU S) (by show nU S < nU T; omega) hn0).trans hse1)
              subst hz289
              refine jr_bipush hx hb dL_isAnswered_292 (by decide) ?_
              refine jr_ne (tgt := 323) hx hb dL_isAnswered_294 (by decide) ⟨by omega, by omega⟩ ⟨by omega, by omega⟩ (fun c294 => absurd c294 (by omega)) (fun c294 => ?_)
              refine lv_aload_n hx hb dL_isAnswered_297 rfl (lv_at hl 5 rfl) ?_
              refine jr_iconst hx hb dL_isAnswered_298 ?_
              refine lv_iload hx hb dL_isAnswered_299 (lv_at hl 3 rfl) ?_
              refine jr_iconst hx hb dL_isAnswered_301 ?_
              refine kl_Qi (cs := [aI g t3 61 f_t3]) (vx_runSW (As := [.ref o, vi 0, vi (nU S : Int), vi 0]) (rest := []) ⟨hx, hb, hml, hown, htl⟩ (m_L_ask_cost l hsT g o (wD T (sS S k).1) w289 hC H.size (nU S : Int) ⟨by omega, by omega⟩ 0) (vx_cwSW 4 htl lkH_L_ask rfl rfl rfl cwS_L_ask ⟨Nat.le_of_ble_eq_true rfl, Nat.le_of_ble_eq_true rfl⟩) (jp_S hKK hS hAb ⟨rfl, (kw_P (cs := [aI g t3 61 f_t3]) hP), (hD.right (a := [aI g t3 61 f_t3])).weaken (fun _ q _ h => hAb _ h)⟩) rfl rfl hl.1 rfl (lv_room (Nat.le_of_ble_eq_true rfl)) dL_isAnswered_302 ⟨by show _ ≤ 30600; omega, by show _ ≤ 191000; omega⟩) hP hD hS hA ?_
              clear hP hD hS hC; intro z302 H locs w302 hz302 hC hP hD hS
              have hP : PP g ([aI g t3 61 f_t3] ++ w302) H := hP
              have hD : va_D A ([aI g t3 61 f_t3] ++ w302) := hD
              refine W.widen (k := ((4500 + 431 * j) + 185)) (n := ((31000 + 2641 * j) + 1110)) (by omega) (by omega) ?_
              have hz302 : z302 = 0 := hz302.trans ((aqU (S := wD T (sS S k).1) (i := nU S) (by show nU S < nU T; omega) hn0).trans hse2)
              subst hz302
              refine jr_ifne (tgt := 323) hx hb dL_isAnswered_305 (by decide) ⟨by omega, by omega⟩ (fun c305 => absurd c305 (by omega)) (fun c305 => ?_)
              refine lv_aload_n hx hb dL_isAnswered_308 rfl (lv_at hl 5 rfl) ?_
              refine kl_Qi (cs := [aI g t3 61 f_t3]) (va_runV (As := []) (rest := []) ⟨hx, hb, hml, hown, htl⟩ (m_X10_clear l hsT g o (wD T (sS S k).1) w302 hC H.size) (cwV 0 htl lk_L_149 rfl rfl rfl cwV_X10_clear ⟨Nat.le_of_ble_eq_true rfl, Nat.le_of_ble_eq_true rfl⟩) (jp_V hKK hS hAb (CW.recv hKK hC (kw_P (cs := [aI g t3 61 f_t3]) hP)) ⟨rfl, (kw_P (cs := [aI g t3 61 f_t3]) hP), (hD.right (a := [aI g t3 61 f_t3])).weaken (fun _ q _ h => hAb _ h)⟩) rfl rfl hl.1 rfl (lv_room (Nat.le_of_ble_eq_true rfl)) dL_isAnswered_309 ⟨by show _ ≤ 30600; omega, by show _ ≤ 191000; omega⟩) hP hD hS hA ?_
              clear hP hD hS hC; intro z309 H locs w309 hz309 hC hP hD hS
              have hP : PP g ([aI g t3 61 f_t3] ++ w309) H := hP
              have hD : va_D A ([aI g t3 61 f_t3] ++ w309) := hD
              refine W.widen (k := ((4500 + 431 * j) + 186)) (n := ((31000 + 2641 * j) + 1116)) (by omega) (by omega) ?_
              have hC : CW g o T w309 := by have q : CW g o (wD T []) w309 := hC; rw [wD_nil hTd] at q; exact q
              have hz309 : z309 = ((sS S k).1.length : Int) := hz309
              subst hz309
              refine lv_aload hx hb dL_isAnswered_312 (lv_at hl 4 rfl) ?_
              refine jr_iconst hx hb dL_isAnswered_314 ?_
              refine jr_iald hx hb hKK.k hP 0 rfl 0 rfl (by omega) (by omega) dL_isAnswered_315 ?_
              refine jr_nm (b := ((sS S k).1.length : Int)) (by rw [hx_t3.n]) ?_
              refine jr_ne (tgt := 323) hx hb dL_isAnswered_316 (by decide) ⟨by omega, by omega⟩ ⟨by omega, by omega⟩ (fun c316 => absurd c316 (by omega)) (fun c316 => ?_)
              refine jr_iconst hx hb dL_isAnswered_319 ?_
              refine lv_goto (tgt := 324) hx hb dL_isAnswered_320 (by decide) ?_
              refine W.widen (k := 30600) (n := 191000) (by omega) (by omega) ?_
              exact je_Qi hx hb hr hlk (nz_b (by omega)).1 hS ⟨rfl, w309, by rw [← hT]; exact hC, (kw_P (cs := [aI g t3 61 f_t3]) hP), (hD.right (a := [aI g t3 61 f_t3]))⟩ dL_isAnswered_324
            · refine lv_iload hx hb dL_isAnswered_202 (lv_at hl 1 rfl) ?_
              refine jr_ifeq (tgt := 270) hx hb dL_isAnswered_204 (by decide) ⟨by omega, by omega⟩ (fun c204 => absurd c204 (by omega)) (fun c204 => ?_)
              refine lv_aload_n hx hb dL_isAnswered_207 rfl (lv_at hl 5 rfl) ?_
              refine jr_bipush hx hb dL_isAnswered_208 (by decide) ?_
              refine lv_iload hx hb dL_isAnswered_210 (lv_at hl 0 rfl) ?_
              refine jr_iconst hx hb dL_isAnswered_212 ?_
              refine kl_Qi (cs := [aI g t3 61 f_t3]) (vx_runSW (As := [.ref o, vi 9, vi (j : Int), vi 0]) (rest := []) ⟨hx, hb, hml, hown, htl⟩ (m_L_ask_stateOf l hsT g o T w193 hC H.size (j : Int) ⟨by omega, by omega⟩ 0) (vx_cwSW 4 htl lkH_L_ask rfl rfl rfl cwS_L_ask ⟨Nat.le_of_ble_eq_true rfl, Nat.le_of_ble_eq_true rfl⟩) (jp_S hKK hS hAb ⟨rfl, (kw_P (cs := [aI g t3 61 f_t3]) hP), (hD.right (a := [aI g t3 61 f_t3])).weaken (fun _ q _ h => hAb _ h)⟩) rfl rfl hl.1 rfl (lv_room (Nat.le_of_ble_eq_true rfl)) dL_isAnswered_213 ⟨by show _ ≤ 30600; omega, by show _ ≤ 191000; omega⟩) hP hD hS hA ?_
              clear hP hD hS hC; intro z213 H locs w213 hz213 hC hP hD hS
              have hP : PP g ([aI g t3 61 f_t3] ++ w213) H := hP
              have hD : va_D A ([aI g t3 61 f_t3] ++ w213) := hD
              refine W.widen (k := ((4500 + 431 * j) + 1)) (n := ((31000 + 2641 * j) + 6)) (by omega) (by omega) ?_
              replace hz213 : z213 = (sS T j).2.2.1 := hz213.trans (aq9 (by omega))
              have hst8 : 0 ≤ (sS T j).2.2.1 ∧ (sS T j).2.2.1 < 65536 := (CW.sct hC j).2.2.1
              refine lv_istore (lv' := [(9, vi z213), (8, vi (j : Int)), (7, vi 1), (6, vi (co (sS S) k (sS S k).1 (nS S))), (5, vi (nU S : Int)), (4, .ref t3), (0, .ref o), (1, .ref a1), (2, vi (k : Int)), (3, .ref a2)]) hx hb dL_isAnswered_216 hl (by decide) rfl (fun ls hl => ?_)
              refine lv_aload hx hb dL_isAnswered_218 (lv_at hl 5 rfl) ?_
              refine lv_aload_n hx hb dL_isAnswered_220 rfl (lv_at hl 6 rfl) ?_
              refine lv_aload_n hx hb dL_isAnswered_221 rfl (lv_at hl 7 rfl) ?_
              refine lv_iload hx hb dL_isAnswered_222 (lv_at hl 1 rfl) ?_
              refine kl_Qr (N := fun a x => aT g a x) (cs := [aI g t3 61 f_t3]) (va_runS (As := [.ref o, .ref a1, vi (j : Int)]) (rest := [.ref t3]) ⟨hx, hb, hml, hown, htl⟩ (m_L_segment l hsT g o T w213 hC H.size a1 x1 f1 hx1 j (by omega) hdT (kw_nR (cs := [aI g t3 61 f_t3]) hD ap_hP1)) (va_cwS 3 htl lk_L_180 rfl rfl rfl cwS_L_segment ⟨Nat.le_of_ble_eq_true rfl, Nat.le_of_ble_eq_true rfl⟩) (jp_S hKK hS hAb ⟨rfl, (kw_P (cs := [aI g t3 61 f_t3]) hP), (hD.right (a := [aI g t3 61 f_t3])).weaken (fun _ q _ h => hAb _ h), (jat hP1 hS ap_hP1)⟩) rfl rfl hl.1 rfl (lv_room (Nat.le_of_ble_eq_true rfl)) dL_isAnswered_224 ⟨by show _ ≤ 30600; omega, by show _ ≤ 191000; omega⟩) hP hD hS hA ?_
              clear hP hD hS hC; intro t224 x_t224 H locs w224 hz224 hC hP hD hS
              obtain ⟨x9, f_t224⟩ := x_t224
              obtain ⟨hx_t224, hq_t224⟩ : AT x9 f_t224 ∧ x9 = (sS T j).1 := hz224
              subst hq_t224
              have hP : PP g ([aI g t224 61 f_t224, aI g t3 61 f_t3] ++ w224) H := hP
              have hD : va_D A ([aI g t224 61 f_t224, aI g t3 61 f_t3] ++ w224) := hD
              refine W.widen (k := ((4500 + 431 * j) + 63)) (n := ((31000 + 2641 * j) + 433)) (by omega) (by omega) ?_
              refine jk_Si (va_runS (As := [.ref t3, .ref t224]) (rest := []) ⟨hx, hb, hml, hown, htl⟩ (m_L_areSame l g t3 t224 (sS S k).1 (sS T j).1 f_t3 f_t224 hx_t3 hx_t224) (va_cwS 2 htl lk_L_165 rfl rfl rfl cwS_L_areSame ⟨Nat.le_of_ble_eq_true rfl, Nat.le_of_ble_eq_true rfl⟩) (jp_S hKK hS hAb ⟨(va_P.sub hP [1] rfl), (va_P.sub hP [0] rfl)⟩) rfl rfl hl.1 rfl (lv_room (Nat.le_of_ble_eq_true rfl)) dL_isAnswered_227 ⟨by show _ ≤ 30600; omega, by show _ ≤ 191000; omega⟩) (fun z227 hz227 => ?_)
              have h01 : z227 = 0 ∨ z227 = 1 := by rw [hz227]; exact i01b _
              refine jr_ifeq (tgt := 257) hx hb dL_isAnswered_230 (by decide) ⟨by omega, by omega⟩ (fun c230 => ?_) (fun c230 => ?_)
              · refine jr_iconst hx hb dL_isAnswered_257 ?_
                refine lv_goto (tgt := 262) hx hb dL_isAnswered_258 (by decide) ?_
                refine lv_istore (lv' := [(7, vi 1), (9, vi z213), (8, vi (j : Int)), (6, vi (co (sS S) k (sS S k).1 (nS S))), (5, vi (nU S : Int)), (4, .ref t3), (0, .ref o), (1, .ref a1), (2, vi (k : Int)), (3, .ref a2)]) hx hb dL_isAnswered_262 hl (by decide) rfl (fun ls hl => ?_)
                refine jr_iinc (lv' := [(8, vi ((j : Int) + 1)), (7, vi 1), (9, vi z213), (6, vi (co (sS S) k (sS S k).1 (nS S))), (5, vi (nU S : Int)), (4, .ref t3), (0, .ref o), (1, .ref a1), (2, vi (k : Int)), (3, .ref a2)]) hx hb dL_isAnswered_264 hl (k := 2) rfl rfl (by decide) rfl (fun ls hl => ?_)
                refine lv_goto (tgt := 193) hx hb dL_isAnswered_267 (by decide) ?_
                have hP : PP g ([aI g t3 61 f_t3] ++ w224) H := hP.tl
                have hD : va_D A ([aI g t3 61 f_t3] ++ w224) := hD.tl
                refine W.widen (k := (4500 + 431 * (j + 1))) (n := (31000 + 2641 * (j + 1))) (by omega) (by omega) ?_
                exact ih193 (j + 1) _ (by omega) (hC) (by omega) _ _ hP hD hS ls (lv_sub hl [0, 1, 3, 4, 5, 6, 7, 8, 9] rfl)
              · have hcase := hTs j (by omega) (by rw [← hTx j]; exact (i01t (P := (sS S k).1 = (sS T j).1) (fun q => c230 (hz227.trans q))).symm)
                refine lv_iload hx hb dL_isAnswered_233 (lv_at hl 0 rfl) ?_
                refine jr_bipush hx hb dL_isAnswered_235 (by decide) ?_
                refine jr_eq (tgt := 257) hx hb dL_isAnswered_237 (by decide) ⟨by omega, by omega⟩ ⟨by omega, by omega⟩ (fun c237 => ?_) (fun c237 => ?_)
                · refine jr_iconst hx hb dL_isAnswered_257 ?_
                  refine lv_goto (tgt := 262) hx hb dL_isAnswered_258 (by decide) ?_
                  refine lv_istore (lv' := [(7, vi 1), (9, vi z213), (8, vi (j : Int)), (6, vi (co (sS S) k (sS S k).1 (nS S))), (5, vi (nU S : Int)), (4, .ref t3), (0, .ref o), (1, .ref a1), (2, vi (k : Int)), (3, .ref a2)]) hx hb dL_isAnswered_262 hl (by decide) rfl (fun ls hl => ?_)
                  refine jr_iinc (lv' := [(8, vi ((j : Int) + 1)), (7, vi 1), (9, vi z213), (6, vi (co (sS S) k (sS S k).1 (nS S))), (5, vi (nU S : Int)), (4, .ref t3), (0, .ref o), (1, .ref a1), (2, vi (k : Int)), (3, .ref a2)]) hx hb dL_isAnswered_264 hl (k := 2) rfl rfl (by decide) rfl (fun ls hl => ?_)
                  refine lv_goto (tgt := 193) hx hb dL_isAnswered_267 (by decide) ?_
                  have hP : PP g ([aI g t3 61 f_t3] ++ w224) H := hP.tl
                  have hD : va_D A ([aI g t3 61 f_t3] ++ w224) := hD.tl
                  refine W.widen (k := (4500 + 431 * (j + 1))) (n := (31000 + 2641 * (j + 1))) (by omega) (by omega) ?_
                  exact ih193 (j + 1) _ (by omega) (hC) (by omega) _ _ hP hD hS ls (lv_sub hl [0, 1, 3, 4, 5, 6, 7, 8, 9] rfl)
                · have hc2 := hcase.resolve_left (by omega)
                  refine lv_iload hx hb dL_isAnswered_240 (lv_at hl 0 rfl) ?_
                  refine jr_bipush hx hb dL_isAnswered_242 (by decide) ?_
                  refine jr_ne (tgt := 261) hx hb dL_isAnswered_244 (by decide) ⟨by omega, by omega⟩ ⟨by omega, by omega⟩ (fun c244 => absurd c244 (by omega)) (fun c244 => ?_)
                  refine lv_aload_n hx hb dL_isAnswered_247 rfl (lv_at hl 6 rfl) ?_
                  refine lv_iload hx hb dL_isAnswered_248 (lv_at hl 1 rfl) ?_
                  refine lv_aload_n hx hb dL_isAnswered_250 rfl (lv_at hl 9 rfl) ?_
                  refine kl_Qi (cs := [aI g t224 61 f_t224, aI g t3 61 f_t3]) (va_runS (As := [.ref o, vi (j : Int), .ref a2]) (rest := []) ⟨hx, hb, hml, hown, htl⟩ (m_L_isTarget l hsT g o T w224 hC H.size a2 x2 f2 hx2 j (by omega) (by omega) hc2.2 (kw_nR (cs := [aI g t224 61 f_t224, aI g t3 61 f_t3]) hD ap_hP2)) (va_cwS 3 htl lk_L_184 rfl rfl rfl cwS_L_isTarget ⟨Nat.le_of_ble_eq_true rfl, Nat.le_of_ble_eq_true rfl⟩) (jp_S hKK hS hAb ⟨rfl, (kw_P (cs := [aI g t224 61 f_t224, aI g t3 61 f_t3]) hP), (hD.right (a := [aI g t224 61 f_t224, aI g t3 61 f_t3])).weaken (fun _ q _ h => hAb _ h), (jat hP2 hS ap_hP2)⟩) rfl rfl hl.1 rfl (lv_room (Nat.le_of_ble_eq_true rfl)) dL_isAnswered_251 ⟨by show _ ≤ 30600; omega, by show _ ≤ 191000; omega⟩) hP hD hS hA ?_
                  clear hP hD hS hC; intro z251 H locs w251 hz251 hC hP hD hS
                  have hP : PP g ([aI g t224 61 f_t224, aI g t3 61 f_t3] ++ w251) H := hP
                  have hD : va_D A ([aI g t224 61 f_t224, aI g t3 61 f_t3] ++ w251) := hD
                  refine W.widen (k := ((4500 + 431 * j) + 431)) (n := ((31000 + 2641 * j) + 2641)) (by omega) (by omega) ?_
                  have hz251 : z251 = 1 := hz251
                  subst hz251
                  refine jr_ifeq (tgt := 261) hx hb dL_isAnswered_254 (by decide) ⟨by omega, by omega⟩ (fun c254 => absurd c254 (by omega)) (fun c254 => ?_)
                  refine jr_iconst hx hb dL_isAnswered_257 ?_
                  refine lv_goto (tgt := 262) hx hb dL_isAnswered_258 (by decide) ?_
                  refine lv_istore (lv' := [(7, vi 1), (9, vi z213), (8, vi (j : Int)), (6, vi (co (sS S) k (sS S k).1 (nS S))), (5, vi (nU S : Int)), (4, .ref t3), (0, .ref o), (1, .ref a1), (2, vi (k : Int)), (3, .ref a2)]) hx hb dL_isAnswered_262 hl (by decide) rfl (fun ls hl => ?_)
                  refine jr_iinc (lv' := [(8, vi ((j : Int) + 1)), (7, vi 1), (9, vi z213), (6, vi (co (sS S) k (sS S k).1 (nS S))), (5, vi (nU S : Int)), (4, .ref t3), (0, .ref o), (1, .ref a1), (2, vi (k : Int)), (3, .ref a2)]) hx hb dL_isAnswered_264 hl (k := 2) rfl rfl (by decide) rfl (fun ls hl => ?_)
                  refine lv_goto (tgt := 193) hx hb dL_isAnswered_267 (by decide) ?_
                  have hP : PP g ([aI g t3 61 f_t3] ++ w251) H := hP.tl
                  have hD : va_D A ([aI g t3 61 f_t3] ++ w251) := hD.tl
                  refine W.widen (k := (4500 + 431 * (j + 1))) (n := (31000 + 2641 * (j + 1))) (by omega) (by omega) ?_
                  exact ih193 (j + 1) _ (by omega) (hC) (by omega) _ _ hP hD hS ls (lv_sub hl [0, 1, 3, 4, 5, 6, 7, 8, 9] rfl)
        refine W.widen (k := 4500 + 431 * 0) (n := 31000 + 2641 * 0) (by omega) (by omega) ?_
        exact lp193 _ 0 _ (Nat.zero_le _) (hC) (Nat.lt_succ_self _) _ _ hP hD hS ls (lv_sub hl [0, 1, 2, 3, 4, 5, 6, 7, 8] rfl)
      · refine lv_iload hx hb dL_isAnswered_29 (lv_at hl 1 rfl) ?_
        refine lv_iload hx hb dL_isAnswered_31 (lv_at hl 0 rfl) ?_
        refine lv_iload_n hx hb dL_isAnswered_33 rfl (lv_at hl 6 rfl) ?_
        refine jr_eq (tgt := 70) hx hb dL_isAnswered_34 (by decide) ⟨by omega, by omega⟩ ⟨by omega, by omega⟩ (fun c34 => ?_) (fun c34 => ?_)
        · refine jr_iconst hx hb dL_isAnswered_70 ?_
          refine jr_iadd hx hb dL_isAnswered_71 ?_
          refine lv_istore (lv' := [(6, vi ((co (sS S) k (sS S k).1 i) + 0)), (7, vi (i : Int)), (5, vi (nU S : Int)), (4, .ref t3), (0, .ref o), (1, .ref a1), (2, vi (k : Int)), (3, .ref a2)]) hx hb dL_isAnswered_72 hl (by decide) rfl (fun ls hl => ?_)
          have hl : lv_has ls 10 [(6, vi (co (sS S) k (sS S k).1 (i + 1))), (7, vi (i : Int)), (5, vi (nU S : Int)), (4, .ref t3), (0, .ref o), (1, .ref a1), (2, vi (k : Int)), (3, .ref a2)] := (show (((co (sS S) k (sS S k).1 i) + 0) : Int) = (co (sS S) k (sS S k).1 (i + 1)) from by rw [co, if_neg (fun q => q.1 (by omega))]) ▸ hl
          refine jr_iinc (lv' := [(7, vi ((i : Int) + 1)), (6, vi (co (sS S) k (sS S k).1 (i + 1))), (5, vi (nU S : Int)), (4, .ref t3), (0, .ref o), (1, .ref a1), (2, vi (k : Int)), (3, .ref a2)]) hx hb dL_isAnswered_74 hl (k := 1) rfl rfl (by decide) rfl (fun ls hl => ?_)
          refine lv_goto (tgt := 20) hx hb dL_isAnswered_77 (by decide) ?_
          refine W.widen (k := (62 + 63 * (i + 1))) (n := (427 + 433 * (i + 1))) (by omega) (by omega) ?_
          exact ih20 (i + 1) _ (by omega) (hC) (by omega) _ _ hP hD hS ls (lv_sub hl [0, 1, 2, 3, 4, 5, 6, 7] rfl)
        · refine lv_aload_n hx hb dL_isAnswered_37 rfl (lv_at hl 4 rfl) ?_
          refine jr_bipush hx hb dL_isAnswered_38 (by decide) ?_
          refine lv_iload hx hb dL_isAnswered_40 (lv_at hl 0 rfl) ?_
          refine jr_iconst hx hb dL_isAnswered_42 ?_
          refine kl_Qi (cs := [aI g t3 61 f_t3]) (vx_runSW (As := [.ref o, vi 9, vi (i : Int), vi 0]) (rest := [vi (co (sS S) k (sS S k).1 i)]) ⟨hx, hb, hml, hown, htl⟩ (m_L_ask_stateOf l hsT g o S w20 hC H.size (i : Int) ⟨by omega, by omega⟩ 0) (vx_cwSW 4 htl lkH_L_ask rfl rfl rfl cwS_L_ask ⟨Nat.le_of_ble_eq_true rfl, Nat.le_of_ble_eq_true rfl⟩) (jp_S hKK hS hAb ⟨rfl, (kw_P (cs := [aI g t3 61 f_t3]) hP), (hD.right (a := [aI g t3 61 f_t3])).weaken (fun _ q _ h => hAb _ h)⟩) rfl rfl hl.1 rfl (lv_room (Nat.le_of_ble_eq_true rfl)) dL_isAnswered_43 ⟨by show _ ≤ 30600; omega, by show _ ≤ 191000; omega⟩) hP hD hS hA ?_
          clear hP hD hS hC; intro z43 H locs w43 hz43 hC hP hD hS
          have hP : PP g ([aI g t3 61 f_t3] ++ w43) H := hP
          have hD : va_D A ([aI g t3 61 f_t3] ++ w43) := hD
          refine W.widen (k := ((62 + 63 * i) + 1)) (n := ((427 + 433 * i) + 6)) (by omega) (by omega) ?_
          replace hz43 : z43 = (sS S i).2.2.1 := hz43.trans (aq9 (by omega))
          have hst8 := (CW.sct hC i).2.2.1
          refine jr_bipush hx hb dL_isAnswered_46 (by decide) ?_
          refine jr_eq (tgt := 70) hx hb dL_isAnswered_48 (by decide) ⟨by omega, by omega⟩ ⟨by omega, by omega⟩ (fun c48 => ?_) (fun c48 => ?_)
          · refine jr_iconst hx hb dL_isAnswered_70 ?_
            refine jr_iadd hx hb dL_isAnswered_71 ?_
            refine lv_istore (lv' := [(6, vi ((co (sS S) k (sS S k).1 i) + 0)), (7, vi (i : Int)), (5, vi (nU S : Int)), (4, .ref t3), (0, .ref o), (1, .ref a1), (2, vi (k : Int)), (3, .ref a2)]) hx hb dL_isAnswered_72 hl (by decide) rfl (fun ls hl => ?_)
            have hl : lv_has ls 10 [(6, vi (co (sS S) k (sS S k).1 (i + 1))), (7, vi (i : Int)), (5, vi (nU S : Int)), (4, .ref t3), (0, .ref o), (1, .ref a1), (2, vi (k : Int)), (3, .ref a2)] := (show (((co (sS S) k (sS S k).1 i) + 0) : Int) = (co (sS S) k (sS S k).1 (i + 1)) from by rw [co, if_neg (fun q => q.2.1 (by omega))]) ▸ hl
            refine jr_iinc (lv' := [(7, vi ((i : Int) + 1)), (6, vi (co (sS S) k (sS S k).1 (i + 1))), (5, vi (nU S : Int)), (4, .ref t3), (0, .ref o), (1, .ref a1), (2, vi (k : Int)), (3, .ref a2)]) hx hb dL_isAnswered_74 hl (k := 1) rfl rfl (by decide) rfl (fun ls hl => ?_)
            refine lv_goto (tgt := 20) hx hb dL_isAnswered_77 (by decide) ?_
            refine W.widen (k := (62 + 63 * (i + 1))) (n := (427 + 433 * (i + 1))) (by omega) (by omega) ?_
            exact ih20 (i + 1) _ (by omega) (hC) (by omega) _ _ hP hD hS ls (lv_sub hl [0, 1, 2, 3, 4, 5, 6, 7] rfl)
          · refine lv_aload hx hb dL_isAnswered_51 (lv_at hl 3 rfl) ?_
            refine lv_aload_n hx hb dL_isAnswered_53 rfl (lv_at hl 4 rfl) ?_
            refine lv_aload_n hx hb dL_isAnswered_54 rfl (lv_at hl 5 rfl) ?_
            refine lv_iload hx hb dL_isAnswered_55 (lv_at hl 0 rfl) ?_
            refine kl_Qr (N := fun a x => aT g a x) (cs := [aI g t3 61 f_t3]) (va_runS (As := [.ref o, .ref a1, vi (i : Int)]) (rest := [.ref t3, vi (co (sS S) k (sS S k).1 i)]) ⟨hx, hb, hml, hown, htl⟩ (m_L_segment l hsT g o S w43 hC H.size a1 x1 f1 hx1 i (by omega) hd (kw_nR (cs := [aI g t3 61 f_t3]) hD ap_hP1)) (va_cwS 3 htl lk_L_180 rfl rfl rfl cwS_L_segment ⟨Nat.le_of_ble_eq_true rfl, Nat.le_of_ble_eq_true rfl⟩) (jp_S hKK hS hAb ⟨rfl, (kw_P (cs := [aI g t3 61 f_t3]) hP), (hD.right (a := [aI g t3 61 f_t3])).weaken (fun _ q _ h => hAb _ h), (jat hP1 hS ap_hP1)⟩) rfl rfl hl.1 rfl (lv_room (Nat.le_of_ble_eq_true rfl)) dL_isAnswered_57 ⟨by show _ ≤ 30600; omega, by show _ ≤ 191000; omega⟩) hP hD hS hA ?_
            clear hP hD hS hC; intro t57 x_t57 H locs w57 hz57 hC hP hD hS
            obtain ⟨x9, f_t57⟩ := x_t57
            obtain ⟨hx_t57, hq_t57⟩ : AT x9 f_t57 ∧ x9 = (sS S i).1 := hz57
            subst hq_t57
            have hP : PP g ([aI g t57 61 f_t57, aI g t3 61 f_t3] ++ w57) H := hP
            have hD : va_D A ([aI g t57 61 f_t57, aI g t3 61 f_t3] ++ w57) := hD
            refine W.widen (k := ((62 + 63 * i) + 63)) (n := ((427 + 433 * i) + 433)) (by omega) (by omega) ?_
            refine jk_Si (va_runS (As := [.ref t3, .ref t57]) (rest := [vi (co (sS S) k (sS S k).1 i)]) ⟨hx, hb, hml, hown, htl⟩ (m_L_areSame l g t3 t57 (sS S k).1 (sS S i).1 f_t3 f_t57 hx_t3 hx_t57) (va_cwS 2 htl lk_L_165 rfl rfl rfl cwS_L_areSame ⟨Nat.le_of_ble_eq_true rfl, Nat.le_of_ble_eq_true rfl⟩) (jp_S hKK hS hAb ⟨(va_P.sub hP [1] rfl), (va_P.sub hP [0] rfl)⟩) rfl rfl hl.1 rfl (lv_room (Nat.le_of_ble_eq_true rfl)) dL_isAnswered_60 ⟨by show _ ≤ 30600; omega, by show _ ≤ 191000; omega⟩) (fun z60 hz60 => ?_)
            have h01 : z60 = 0 ∨ z60 = 1 := by rw [hz60]; exact i01b _
            refine jr_ifeq (tgt := 70) hx hb dL_isAnswered_63 (by decide) ⟨by omega, by omega⟩ (fun c63 => ?_) (fun c63 => ?_)
            · refine jr_iconst hx hb dL_isAnswered_70 ?_
              refine jr_iadd hx hb dL_isAnswered_71 ?_
              refine lv_istore (lv' := [(6, vi ((co (sS S) k (sS S k).1 i) + 0)), (7, vi (i : Int)), (5, vi (nU S : Int)), (4, .ref t3), (0, .ref o), (1, .ref a1), (2, vi (k : Int)), (3, .ref a2)]) hx hb dL_isAnswered_72 hl (by decide) rfl (fun ls hl => ?_)
              have hl : lv_has ls 10 [(6, vi (co (sS S) k (sS S k).1 (i + 1))), (7, vi (i : Int)), (5, vi (nU S : Int)), (4, .ref t3), (0, .ref o), (1, .ref a1), (2, vi (k : Int)), (3, .ref a2)] := (show (((co (sS S) k (sS S k).1 i) + 0) : Int) = (co (sS S) k (sS S k).1 (i + 1)) from by rw [co, if_neg (fun q => by rw [i01, if_pos q.2.2.symm] at hz60; omega)]) ▸ hl
              refine jr_iinc (lv' := [(7, vi ((i : Int) + 1)), (6, vi (co (sS S) k (sS S k).1 (i + 1))), (5, vi (nU S : Int)), (4, .ref t3), (0, .ref o), (1, .ref a1), (2, vi (k : Int)), (3, .ref a2)]) hx hb dL_isAnswered_74 hl (k := 1) rfl rfl (by decide) rfl (fun ls hl => ?_)
              refine lv_goto (tgt := 20) hx hb dL_isAnswered_77 (by decide) ?_
              have hP : PP g ([aI g t3 61 f_t3] ++ w57) H := hP.tl
              have hD : va_D A ([aI g t3 61 f_t3] ++ w57) := hD.tl
              refine W.widen (k := (62 + 63 * (i + 1))) (n := (427 + 433 * (i + 1))) (by omega) (by omega) ?_
              exact ih20 (i + 1) _ (by omega) (hC) (by omega) _ _ hP hD hS ls (lv_sub hl [0, 1, 2, 3, 4, 5, 6, 7] rfl)
            · have heq := (i01t (P := (sS S k).1 = (sS S i).1) (fun q => c63 (hz60.trans q))).symm
              refine jr_iconst hx hb dL_isAnswered_66 ?_
              refine lv_goto (tgt := 71) hx hb dL_isAnswered_67 (by decide) ?_
              refine jr_iadd hx hb dL_isAnswered_71 ?_
              refine lv_istore (lv' := [(6, vi ((co (sS S) k (sS S k).1 i) + 1)), (7, vi (i : Int)), (5, vi (nU S : Int)), (4, .ref t3), (0, .ref o), (1, .ref a1), (2, vi (k : Int)), (3, .ref a2)]) hx hb dL_isAnswered_72 hl (by decide) rfl (fun ls hl => ?_)
              have hl : lv_has ls 10 [(6, vi (co (sS S) k (sS S k).1 (i + 1))), (7, vi (i : Int)), (5, vi (nU S : Int)), (4, .ref t3), (0, .ref o), (1, .ref a1), (2, vi (k : Int)), (3, .ref a2)] := (show (((co (sS S) k (sS S k).1 i) + 1) : Int) = (co (sS S) k (sS S k).1 (i + 1)) from by rw [co, if_pos ⟨by omega, by omega, heq⟩]) ▸ hl
              refine jr_iinc (lv' := [(7, vi ((i : Int) + 1)), (6, vi (co (sS S) k (sS S k).1 (i + 1))), (5, vi (nU S : Int)), (4, .ref t3), (0, .ref o), (1, .ref a1), (2, vi (k : Int)), (3, .ref a2)]) hx hb dL_isAnswered_74 hl (k := 1) rfl rfl (by decide) rfl (fun ls hl => ?_)
              refine lv_goto (tgt := 20) hx hb dL_isAnswered_77 (by decide) ?_
              have hP : PP g ([aI g t3 61 f_t3] ++ w57) H := hP.tl
              have hD : va_D A ([aI g t3 61 f_t3] ++ w57) := hD.tl
              refine W.widen (k := (62 + 63 * (i + 1))) (n := (427 + 433 * (i + 1))) (by omega) (by omega) ?_
              exact ih20 (i + 1) _ (by omega) (hC) (by omega) _ _ hP hD hS ls (lv_sub hl [0, 1, 2, 3, 4, 5, 6, 7] rfl)
  refine W.widen (k := 62 + 63 * 0) (n := 427 + 433 * 0) (by omega) (by omega) ?_
  exact lp20 _ 0 _ (Nat.zero_le _) (hC) (Nat.lt_succ_self _) _ _ hP hD hS ls (lv_sub hl [0, 1, 2, 3, 4, 5, 6, 7] rfl)
