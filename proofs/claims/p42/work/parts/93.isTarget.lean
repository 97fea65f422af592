

set_option maxHeartbeats 4000000 in
set_option maxRecDepth 100000 in
theorem m_L_isSegment (l : Launch) (hsT : l.stackTraces = false) (g : GT) (o : Nat) (S : SGM) (W9 : va_W) (hCW : CW g o S W9) (sz : Nat) (a1 : Nat) (x1 : List Int) (f1 : Nat → Int) (hx1 : AT x1 f1) (k : Nat) (hk : k < nS S) (hd : DOC S x1) (hd_hP1 : ∀ x ∈ ([aI g a1 61 f1] : va_W).map (·.1), x ∉ W9.map (·.1)) : Met l yL_isSegment (ws_ yL_isSegment cL_isSegment 7 (some .boolean)) (rmm 13 123 738) (jPc g [.ref o, vi (k : Int), .ref a1, vi ((pf (sS S) k + 1 : Nat) : Int), vi ((sS S k).1.length : Int)] (fun H => H.size = sz ∧ PP g W9 H ∧ va_D (fun q => gb g ≤ q) W9 ∧ PP g [aI g a1 61 f1] H)) (jQi (fun z H1 => (z = 1) ∧ ∃ w1 : va_W, CW g o S w1 ∧ PP g w1 H1 ∧ va_D (va_A W9 sz) w1) (va_A W9 sz)) 123 738 (va_A W9 sz) := by
  refine jb_M (by decide) (Nat.le_of_ble_eq_true rfl) ?_
  intro p e s m below meth cq hx hb hr hml hown htl hlk hnm hKK hpre ls hl
  have hown : s.vm.findClass RL = some m.cls := hown
  obtain ⟨hsz, hP, hD0, hP1⟩ := hpre
  subst hsz
  have hAb : ∀ q, (va_A W9 s.heap.size) q → gb g ≤ q := fun q h => h.elim (fun ⟨k, e, h⟩ => hD0.2 k _ h) (fun h => Nat.le_trans hKK.2.1 h)
  have hD : va_D (va_A W9 s.heap.size) W9 := hD0.self
  have ap_hP1 := japS hP1 rfl hd_hP1
  generalize hAe : va_A W9 s.heap.size = A at *
  have hA : ∀ q, s.heap.size ≤ q → A q := fun q h => by rw [← hAe]; exact Or.inr h
  have hS : va_S A s.heap s.heap [] := va_S.rf
  have hl : lv_has ls 7 [(0, .ref o), (1, vi (k : Int)), (2, .ref a1), (3, vi ((pf (sS S) k + 1 : Nat) : Int)), (4, vi ((sS S k).1.length : Int))] := hl
  have hd60 := CW.d60 hCW
  have hn60 := CW.n60 hCW
  have hl1 := hx1.len
  have hdk := hd.1 k hk
  have hlk9 := (CW.sct hCW k).1
  suffices K : ∀ (w9 : va_W) (H : Heap) (locs : List Loc), CW g o S w9 → PP g w9 H → va_D A w9 → va_S A s.heap H locs → ∀ ls : Array Slot, lv_has ls 7 [(0, .ref o), (1, vi (k : Int)), (2, .ref a1), (3, vi ((pf (sS S) k + 1 : Nat) : Int)), (4, vi ((sS S k).1.length : Int))] → W p l e (rmm 13 123 738) s m ([.ref o, vi (k : Int), .ref a1, vi ((pf (sS S) k + 1 : Nat) : Int), vi ((sS S k).1.length : Int)] : List Value).toArray below meth cq H locs 0 0 (MQ below (jQi (fun z H1 => (z = 1) ∧ ∃ w1 : va_W, CW g o S w1 ∧ PP g w1 H1 ∧ va_D A w1) A) ([.ref o, vi (k : Int), .ref a1, vi ((pf (sS S) k + 1 : Nat) : Int), vi ((sS S k).1.length : Int)] : List Value).toArray s 123 738 A) (F0 m 0 ls []) from K _ _ _ hCW hP hD hS _ hl
  clear hl hP hD hS; intro w9 H locs hC hP hD hS ls hl
  refine lv_aload_n hx hb dL_isSegment_0 rfl (lv_at hl 0 rfl) ?_
  refine jr_bipush hx hb dL_isSegment_1 (by decide) ?_
  refine lv_iload_n hx hb dL_isSegment_3 rfl (lv_at hl 1 rfl) ?_
  refine jr_iconst hx hb dL_isSegment_4 ?_
  refine kl_Qi (cs := []) (vx_runSW (As := [.ref o, vi 12, vi (k : Int), vi 0]) (rest := []) ⟨hx, hb, hml, hown, htl⟩ (m_L_ask_segmentLength l hsT g o S w9 hC H.size (k : Int) ⟨by omega, by omega⟩ 0) (vx_cwSW 4 htl lkH_L_ask rfl rfl rfl cwS_L_ask ⟨Nat.le_of_ble_eq_true rfl, Nat.le_of_ble_eq_true rfl⟩) (jp_S hKK hS hAb ⟨rfl, (kw_P (cs := []) hP), hD.weaken (fun _ q _ h => hAb _ h)⟩) rfl rfl hl.1 rfl (lv_room (Nat.le_of_ble_eq_true rfl)) dL_isSegment_5 ⟨Nat.le_of_ble_eq_true rfl, Nat.le_of_ble_eq_true rfl⟩) hP hD hS hA ?_
  clear hP hD hS hC; intro z5 H locs w5 hz5 hC hP hD hS
  have hP : PP g w5 H := hP
  have hD : va_D A w5 := hD
  refine W.widen (k := 1) (n := 6) (by omega) (by omega) ?_
  have hz5 : z5 = ((sS S k).1.length : Int) := hz5.trans (aq12 hk)
  subst hz5
  refine lv_iload hx hb dL_isSegment_8 (lv_at hl 4 rfl) ?_
  refine jr_ne (tgt := 32) hx hb dL_isSegment_10 (by decide) ⟨by omega, by omega⟩ ⟨by omega, by omega⟩ (fun c10 => absurd c10 (by omega)) (fun c10 => ?_)
  refine lv_aload_n hx hb dL_isSegment_13 rfl (lv_at hl 0 rfl) ?_
  refine jr_bipush hx hb dL_isSegment_14 (by decide) ?_
  refine lv_iload_n hx hb dL_isSegment_16 rfl (lv_at hl 1 rfl) ?_
  refine lv_iload hx hb dL_isSegment_17 (lv_at hl 4 rfl) ?_
  refine kl_Qi (cs := []) (vx_runSW (As := [.ref o, vi 13, vi (k : Int), vi ((sS S k).1.length : Int)]) (rest := []) ⟨hx, hb, hml, hown, htl⟩ (m_L_ask_segmentToken l hsT g o S w5 hC H.size (k : Int) ⟨by omega, by omega⟩ ((sS S k).1.length : Int) ⟨by omega, by omega⟩) (vx_cwSW 4 htl lkH_L_ask rfl rfl rfl cwS_L_ask ⟨Nat.le_of_ble_eq_true rfl, Nat.le_of_ble_eq_true rfl⟩) (jp_S hKK hS hAb ⟨rfl, (kw_P (cs := []) hP), hD.weaken (fun _ q _ h => hAb _ h)⟩) rfl rfl hl.1 rfl (lv_room (Nat.le_of_ble_eq_true rfl)) dL_isSegment_19 ⟨Nat.le_of_ble_eq_true rfl, Nat.le_of_ble_eq_true rfl⟩) hP hD hS hA ?_
  clear hP hD hS hC; intro z19 H locs w19 hz19 hC hP hD hS
  have hP : PP g w19 H := hP
  have hD : va_D A w19 := hD
  refine W.widen (k := 3) (n := 18) (by omega) (by omega) ?_
  have hz19 : z19 = -2001 := hz19.trans (aq13x hk)
  subst hz19
  refine jr_sipush hx hb dL_isSegment_22 (by decide) ?_
  refine jr_ne (tgt := 32) hx hb dL_isSegment_25 (by decide) ⟨by omega, by omega⟩ ⟨by omega, by omega⟩ (fun c25 => absurd c25 (by omega)) (fun c25 => ?_)
  refine jr_iconst hx hb dL_isSegment_28 ?_
  refine lv_goto (tgt := 33) hx hb dL_isSegment_29 (by decide) ?_
  refine lv_istore (lv' := [(5, vi 1), (0, .ref o), (1, vi (k : Int)), (2, .ref a1), (3, vi ((pf (sS S) k + 1 : Nat) : Int)), (4, vi ((sS S k).1.length : Int))]) hx hb dL_isSegment_33 hl (by decide) rfl (fun ls hl => ?_)
  refine jr_iconst hx hb dL_isSegment_35 ?_
  refine lv_istore (lv' := [(6, vi 0), (5, vi 1), (0, .ref o), (1, vi (k : Int)), (2, .ref a1), (3, vi ((pf (sS S) k + 1 : Nat) : Int)), (4, vi ((sS S k).1.length : Int))]) hx hb dL_isSegment_36 hl (by decide) rfl (fun ls hl => ?_)
  have lp38 : ∀ (N : Nat) (j : Nat) (w38 : va_W), (j ≤ (sS S k).1.length) → (CW g o S w38) → (sS S k).1.length - j < N → ∀ (H : Heap) (locs : List Loc), PP g w38 H → va_D A w38 → va_S A s.heap H locs → ∀ ls : Array Slot, lv_has ls 7 [(6, vi (j : Int)), (5, vi 1), (0, .ref o), (1, vi (k : Int)), (2, .ref a1), (3, vi ((pf (sS S) k + 1 : Nat) : Int)), (4, vi ((sS S k).1.length : Int))] → W p l e (rmm 13 123 738) s m ([.ref o, vi (k : Int), .ref a1, vi ((pf (sS S) k + 1 : Nat) : Int), vi ((sS S k).1.length : Int)] : List Value).toArray below meth cq H locs (3 + 2 * j) (18 + 12 * j) (MQ below (jQi (fun z H1 => (z = 1) ∧ ∃ w1 : va_W, CW g o S w1 ∧ PP g w1 H1 ∧ va_D A w1) A) ([.ref o, vi (k : Int), .ref a1, vi ((pf (sS S) k + 1 : Nat) : Int), vi ((sS S k).1.length : Int)] : List Value).toArray s 123 738 A) (F0 m 38 ls []) := by
    intro N
    induction N with
    | zero => intro j w38 hj hC hM; exact absurd hM (Nat.not_lt_zero _)
    | succ N ih38 =>
      intro j w38 hj hC hM H locs hP hD hS ls hl
      have hlk8 := hlk9.1
      refine lv_iload hx hb dL_isSegment_38 (lv_at hl 0 rfl) ?_
      refine lv_iload hx hb dL_isSegment_40 (lv_at hl 6 rfl) ?_
      refine jr_ge (tgt := 85) hx hb dL_isSegment_42 (by decide) ⟨by omega, by omega⟩ ⟨by omega, by omega⟩ (fun c42 => ?_) (fun c42 => ?_)
      · refine lv_iload hx hb dL_isSegment_85 (lv_at hl 1 rfl) ?_
        refine W.widen (k := 123) (n := 738) (by omega) (by omega) ?_
        exact je_Qi hx hb hr hlk (nz_b (by omega)).1 hS ⟨rfl, w38, hC, (kw_P (cs := []) hP), hD⟩ dL_isSegment_87
      · refine lv_iload hx hb dL_isSegment_45 (lv_at hl 1 rfl) ?_
        refine jr_ifeq (tgt := 85) hx hb dL_isSegment_47 (by decide) ⟨by omega, by omega⟩ (fun c47 => absurd c47 (by omega)) (fun c47 => ?_)
        refine lv_aload_n hx hb dL_isSegment_50 rfl (lv_at hl 2 rfl) ?_
        refine jr_bipush hx hb dL_isSegment_51 (by decide) ?_
        refine lv_iload_n hx hb dL_isSegment_53 rfl (lv_at hl 3 rfl) ?_
        refine lv_iload hx hb dL_isSegment_54 (lv_at hl 0 rfl) ?_
        refine kl_Qi (cs := []) (vx_runSW (As := [.ref o, vi 13, vi (k : Int), vi (j : Int)]) (rest := []) ⟨hx, hb, hml, hown, htl⟩ (m_L_ask_segmentToken l hsT g o S w38 hC H.size (k : Int) ⟨by omega, by omega⟩ (j : Int) ⟨by omega, by omega⟩) (vx_cwSW 4 htl lkH_L_ask rfl rfl rfl cwS_L_ask ⟨Nat.le_of_ble_eq_true rfl, Nat.le_of_ble_eq_true rfl⟩) (jp_S hKK hS hAb ⟨rfl, (kw_P (cs := []) hP), hD.weaken (fun _ q _ h => hAb _ h)⟩) rfl rfl hl.1 rfl (lv_room (Nat.le_of_ble_eq_true rfl)) dL_isSegment_56 ⟨by show _ ≤ 123; omega, by show _ ≤ 738; omega⟩) hP hD hS hA ?_
        clear hP hD hS hC; intro z56 H locs w56 hz56 hC hP hD hS
        have hP : PP g w56 H := hP
        have hD : va_D A w56 := hD
        refine W.widen (k := ((3 + 2 * j) + 2)) (n := ((18 + 12 * j) + 12)) (by omega) (by omega) ?_
        have hz56 : z56 = ((sS S k).1.getD j 0 % 10000) := hz56.trans (aq13 hk (by omega) (hlk9.2 j (by omega)).1)
        subst hz56
        have hcj := hlk9.2 j (by omega)
        refine lv_aload_n hx hb dL_isSegment_59 rfl (lv_at hl 4 rfl) ?_
        refine lv_iload_n hx hb dL_isSegment_60 rfl (lv_at hl 5 rfl) ?_
        refine lv_iload hx hb dL_isSegment_61 (lv_at hl 0 rfl) ?_
        refine jr_iadd hx hb dL_isSegment_63 ?_
        refine jr_iald hx hb hKK.k (jat hP1 hS ap_hP1) 0 rfl (pf (sS S) k + j + 1) (by omega) (by omega) (by omega) dL_isSegment_64 ?_
        refine jr_nm (b := (sS S k).1.getD j 0) ((hx1.s (by omega)).trans (hdk.2 j (by omega)).symm) ?_
        refine jr_sipush hx hb dL_isSegment_65 (by decide) ?_
        refine jr_irem hx hb (by omega) (by omega) (by omega) (by omega) dL_isSegment_68 ?_
        refine jr_ne (tgt := 76) hx hb dL_isSegment_69 (by decide) ⟨by omega, by omega⟩ ⟨by omega, by omega⟩ (fun c69 => absurd c69 (by omega)) (fun c69 => ?_)
        refine jr_iconst hx hb dL_isSegment_72 ?_
        refine lv_goto (tgt := 77) hx hb dL_isSegment_73 (by decide) ?_
        refine lv_istore (lv' := [(5, vi 1), (6, vi (j : Int)), (0, .ref o), (1, vi (k : Int)), (2, .ref a1), (3, vi ((pf (sS S) k + 1 : Nat) : Int)), (4, vi ((sS S k).1.length : Int))]) hx hb dL_isSegment_77 hl (by decide) rfl (fun ls hl => ?_)
        refine jr_iinc (lv' := [(6, vi ((j : Int) + 1)), (5, vi 1), (0, .ref o), (1, vi (k : Int)), (2, .ref a1), (3, vi ((pf (sS S) k + 1 : Nat) : Int)), (4, vi ((sS S k).1.length : Int))]) hx hb dL_isSegment_79 hl (k := 1) rfl rfl (by decide) rfl (fun ls hl => ?_)
        refine lv_goto (tgt := 38) hx hb dL_isSegment_82 (by decide) ?_
        refine W.widen (k := (3 + 2 * (j + 1))) (n := (18 + 12 * (j + 1))) (by omega) (by omega) ?_
        exact ih38 (j + 1) _ (by omega) (hC) (by omega) _ _ hP hD hS ls (lv_sub hl [0, 1, 2, 3, 4, 5, 6] rfl)
  refine W.widen (k := 3 + 2 * 0) (n := 18 + 12 * 0) (by omega) (by omega) ?_
  exact lp38 _ 0 _ (Nat.zero_le _) (hC) (Nat.lt_succ_self _) _ _ hP hD hS ls (lv_sub hl [0, 1, 2, 3, 4, 5, 6] rfl)
set_option maxHeartbeats 4000000 in
set_option maxRecDepth 100000 in
theorem m_L_isTarget (l : Launch) (hsT : l.stackTraces = false) (g : GT) (o : Nat) (S : SGM) (W9 : va_W) (hCW : CW g o S W9) (sz : Nat) (a1 : Nat) (x1 : List Int) (f1 : Nat → Int) (hx1 : AT x1 f1) (k : Nat) (hk : k < nS S) (hst : ¬ (sS S k).2.2.1 = 101) (htg : (sS S k).2.1 = x1) (hd_hP1 : ∀ x ∈ ([aI g a1 61 f1] : va_W).map (·.1), x ∉ W9.map (·.1)) : Met l yL_isTarget (ws_ yL_isTarget cL_isTarget 6 (some .boolean)) (rmm 13 368 2208) (jPc g [.ref o, vi (k : Int), .ref a1] (fun H => H.size = sz ∧ PP g W9 H ∧ va_D (fun q => gb g ≤ q) W9 ∧ PP g [aI g a1 61 f1] H)) (jQi (fun z H1 => (z = 1) ∧ ∃ w1 : va_W, CW g o S w1 ∧ PP g w1 H1 ∧ va_D (va_A W9 sz) w1) (va_A W9 sz)) 368 2208 (va_A W9 sz) := by
  refine jb_M (by decide) (Nat.le_of_ble_eq_true rfl) ?_
  intro p e s m below meth cq hx hb hr hml hown htl hlk hnm hKK hpre ls hl
  have hown : s.vm.findClass RL = some m.cls := hown
  obtain ⟨hsz, hP, hD0, hP1⟩ := hpre
  subst hsz
  have hAb : ∀ q, (va_A W9 s.heap.size) q → gb g ≤ q := fun q h => h.elim (fun ⟨k, e, h⟩ => hD0.2 k _ h) (fun h => Nat.le_trans hKK.2.1 h)
  have hD : va_D (va_A W9 s.heap.size) W9 := hD0.self
  have ap_hP1 := japS hP1 rfl hd_hP1
  generalize hAe : va_A W9 s.heap.size = A at *
  have hA : ∀ q, s.heap.size ≤ q → A q := fun q h => by rw [← hAe]; exact Or.inr h
  have hS : va_S A s.heap s.heap [] := va_S.rf
  have hl : lv_has ls 6 [(0, .ref o), (1, vi (k : Int)), (2, .ref a1)] := hl
  have hd60 := CW.d60 hCW
  have hn60 := CW.n60 hCW
  have hl1 := hx1.len
  suffices K : ∀ (w9 : va_W) (H : Heap) (locs : List Loc), CW g o S w9 → PP g w9 H → va_D A w9 → va_S A s.heap H locs → ∀ ls : Array Slot, lv_has ls 6 [(0, .ref o), (1, vi (k : Int)), (2, .ref a1)] → W p l e (rmm 13 368 2208) s m ([.ref o, vi (k : Int), .ref a1] : List Value).toArray below meth cq H locs 0 0 (MQ below (jQi (fun z H1 => (z = 1) ∧ ∃ w1 : va_W, CW g o S w1 ∧ PP g w1 H1 ∧ va_D A w1) A) ([.ref o, vi (k : Int), .ref a1] : List Value).toArray s 368 2208 A) (F0 m 0 ls []) from K _ _ _ hCW hP hD hS _ hl
  clear hl hP hD hS; intro w9 H locs hC hP hD hS ls hl
  refine lv_aload_n hx hb dL_isTarget_0 rfl (lv_at hl 0 rfl) ?_
  refine jr_bipush hx hb dL_isTarget_1 (by decide) ?_
  refine lv_iload_n hx hb dL_isTarget_3 rfl (lv_at hl 1 rfl) ?_
  refine jr_iconst hx hb dL_isTarget_4 ?_
  refine kl_Qi (cs := []) (vx_runSW (As := [.ref o, vi 14, vi (k : Int), vi 0]) (rest := []) ⟨hx, hb, hml, hown, htl⟩ (m_L_ask_targetLength l hsT g o S w9 hC H.size (k : Int) ⟨by omega, by omega⟩ 0) (vx_cwSW 4 htl lkH_L_ask rfl rfl rfl cwS_L_ask ⟨Nat.le_of_ble_eq_true rfl, Nat.le_of_ble_eq_true rfl⟩) (jp_S hKK hS hAb ⟨rfl, (kw_P (cs := []) hP), hD.weaken (fun _ q _ h => hAb _ h)⟩) rfl rfl hl.1 rfl (lv_room (Nat.le_of_ble_eq_true rfl)) dL_isTarget_5 ⟨Nat.le_of_ble_eq_true rfl, Nat.le_of_ble_eq_true rfl⟩) hP hD hS hA ?_
  clear hP hD hS hC; intro z5 H locs w5 hz5 hC hP hD hS
  have hP : PP g w5 H := hP
  have hD : va_D A w5 := hD
  refine W.widen (k := 2) (n := 12) (by omega) (by omega) ?_
  have hz5 : z5 = (x1.length : Int) := hz5.trans ((aq14 hk hst).trans (by rw [htg]))
  subst hz5
  refine lv_aload_n hx hb dL_isTarget_8 rfl (lv_at hl 2 rfl) ?_
  refine jr_iconst hx hb dL_isTarget_9 ?_
  refine jr_iald hx hb hKK.k (jat hP1 hS ap_hP1) 0 rfl 0 rfl (by omega) (by omega) dL_isTarget_10 ?_
  refine jr_nm (b := (x1.length : Int)) (by rw [hx1.n]) ?_
  refine jr_ne (tgt := 50) hx hb dL_isTarget_11 (by decide) ⟨by omega, by omega⟩ ⟨by omega, by omega⟩ (fun c11 => absurd c11 (by omega)) (fun c11 => ?_)
  refine lv_aload_n hx hb dL_isTarget_14 rfl (lv_at hl 0 rfl) ?_
  refine jr_bipush hx hb dL_isTarget_15 (by decide) ?_
  refine lv_iload_n hx hb dL_isTarget_17 rfl (lv_at hl 1 rfl) ?_
  refine lv_aload_n hx hb dL_isTarget_18 rfl (lv_at hl 2 rfl) ?_
  refine jr_iconst hx hb dL_isTarget_19 ?_
  refine jr_iald hx hb hKK.k (jat hP1 hS ap_hP1) 0 rfl 0 rfl (by omega) (by omega) dL_isTarget_20 ?_
  refine jr_nm (b := (x1.length : Int)) (by rw [hx1.n]) ?_
  refine kl_Qi (cs := []) (vx_runSW (As := [.ref o, vi 15, vi (k : Int), vi (x1.length : Int)]) (rest := []) ⟨hx, hb, hml, hown, htl⟩ (m_L_ask_targetToken l hsT g o S w5 hC H.size (k : Int) ⟨by omega, by omega⟩ (x1.length : Int) ⟨by omega, by omega⟩) (vx_cwSW 4 htl lkH_L_ask rfl rfl rfl cwS_L_ask ⟨Nat.le_of_ble_eq_true rfl, Nat.le_of_ble_eq_true rfl⟩) (jp_S hKK hS hAb ⟨rfl, (kw_P (cs := []) hP), hD.weaken (fun _ q _ h => hAb _ h)⟩) rfl rfl hl.1 rfl (lv_room (Nat.le_of_ble_eq_true rfl)) dL_isTarget_21 ⟨Nat.le_of_ble_eq_true rfl, Nat.le_of_ble_eq_true rfl⟩) hP hD hS hA ?_
  clear hP hD hS hC; intro z21 H locs w21 hz21 hC hP hD hS
  have hP : PP g w21 H := hP
  have hD : va_D A w21 := hD
  refine W.widen (k := 5) (n := 30) (by omega) (by omega) ?_
  have hz21 : z21 = -2005 := hz21.trans (by rw [← htg]; exact aqTx hk)
  subst hz21
  refine jr_sipush hx hb dL_isTarget_24 (by decide) ?_
  refine jr_ne (tgt := 50) hx hb dL_isTarget_27 (by decide) ⟨by omega, by omega⟩ ⟨by omega, by omega⟩ (fun c27 => absurd c27 (by omega)) (fun c27 => ?_)
  refine lv_aload_n hx hb dL_isTarget_30 rfl (lv_at hl 0 rfl) ?_
  refine jr_bipush hx hb dL_isTarget_31 (by decide) ?_
  refine lv_iload_n hx hb dL_isTarget_33 rfl (lv_at hl 1 rfl) ?_
  refine lv_aload_n hx hb dL_isTarget_34 rfl (lv_at hl 2 rfl) ?_
  refine jr_iconst hx hb dL_isTarget_35 ?_
  refine jr_iald hx hb hKK.k (jat hP1 hS ap_hP1) 0 rfl 0 rfl (by omega) (by omega) dL_isTarget_36 ?_
  refine jr_nm (b := (x1.length : Int)) (by rw [hx1.n]) ?_
  refine kl_Qi (cs := []) (vx_runSW (As := [.ref o, vi 16, vi (k : Int), vi (x1.length : Int)]) (rest := []) ⟨hx, hb, hml, hown, htl⟩ (m_L_ask_targetKind l hsT g o S w21 hC H.size (k : Int) ⟨by omega, by omega⟩ (x1.length : Int) ⟨by omega, by omega⟩) (vx_cwSW 4 htl lkH_L_ask rfl rfl rfl cwS_L_ask ⟨Nat.le_of_ble_eq_true rfl, Nat.le_of_ble_eq_true rfl⟩) (jp_S hKK hS hAb ⟨rfl, (kw_P (cs := []) hP), hD.weaken (fun _ q _ h => hAb _ h)⟩) rfl rfl hl.1 rfl (lv_room (Nat.le_of_ble_eq_true rfl)) dL_isTarget_37 ⟨Nat.le_of_ble_eq_true rfl, Nat.le_of_ble_eq_true rfl⟩) hP hD hS hA ?_
  clear hP hD hS hC; intro z37 H locs w37 hz37 hC hP hD hS
  have hP : PP g w37 H := hP
  have hD : va_D A w37 := hD
  refine W.widen (k := 8) (n := 48) (by omega) (by omega) ?_
  have hz37 : z37 = -2005 := hz37.trans (by rw [← htg]; exact aqTx hk)
  subst hz37
  refine jr_sipush hx hb dL_isTarget_40 (by decide) ?_
  refine jr_ne (tgt := 50) hx hb dL_isTarget_43 (by decide) ⟨by omega, by omega⟩ ⟨by omega, by omega⟩ (fun c43 => absurd c43 (by omega)) (fun c43 => ?_)
  refine jr_iconst hx hb dL_isTarget_46 ?_
  refine lv_goto (tgt := 51) hx hb dL_isTarget_47 (by decide) ?_
  refine lv_istore_n (lv' := [(3, vi 1), (0, .ref o), (1, vi (k : Int)), (2, .ref a1)]) hx hb dL_isTarget_51 rfl hl (by decide) rfl (fun ls hl => ?_)
  refine jr_iconst hx hb dL_isTarget_52 ?_
  refine lv_istore (lv' := [(4, vi 0), (3, vi 1), (0, .ref o), (1, vi (k : Int)), (2, .ref a1)]) hx hb dL_isTarget_53 hl (by decide) rfl (fun ls hl => ?_)
  have lp55 : ∀ (N : Nat) (i : Nat) (w55 : va_W), (i ≤ x1.length) → (CW g o S w55) → x1.length - i < N → ∀ (H : Heap) (locs : List Loc), PP g w55 H → va_D A w55 → va_S A s.heap H locs → ∀ ls : Array Slot, lv_has ls 6 [(4, vi (i : Int)), (3, vi 1), (0, .ref o), (1, vi (k : Int)), (2, .ref a1)] → W p l e (rmm 13 368 2208) s m ([.ref o, vi (k : Int), .ref a1] : List Value).toArray below meth cq H locs (8 + 6 * i) (48 + 36 * i) (MQ below (jQi (fun z H1 => (z = 1) ∧ ∃ w1 : va_W, CW g o S w1 ∧ PP g w1 H1 ∧ va_D A w1) A) ([.ref o, vi (k : Int), .ref a1] : List Value).toArray s 368 2208 A) (F0 m 55 ls []) := by
    intro N
    induction N with
    | zero => intro i w55 hi hC hM; exact absurd hM (Nat.not_lt_zero _)
    | succ N ih55 =>
      intro i w55 hi hC hM H locs hP hD hS ls hl
      refine lv_iload hx hb dL_isTarget_55 (lv_at hl 0 rfl) ?_
      refine lv_aload_n hx hb dL_isTarget_57 rfl (lv_at hl 4 rfl) ?_
      refine jr_iconst hx hb dL_isTarget_58 ?_
      refine jr_iald hx hb hKK.k (jat hP1 hS ap_hP1) 0 rfl 0 rfl (by omega) (by omega) dL_isTarget_59 ?_
      refine jr_nm (b := (x1.length : Int)) (by rw [hx1.n]) ?_
      refine jr_ge (tgt := 159) hx hb dL_isTarget_60 (by decide) ⟨by omega, by omega⟩ ⟨by omega, by omega⟩ (fun c60 => ?_) (fun c60 => ?_)
      · refine lv_iload_n hx hb dL_isTarget_159 rfl (lv_at hl 1 rfl) ?_
        refine W.widen (k := 368) (n := 2208) (by omega) (by omega) ?_
        exact je_Qi hx hb hr hlk (nz_b (by omega)).1 hS ⟨rfl, w55, hC, (kw_P (cs := []) hP), hD⟩ dL_isTarget_160
      · refine lv_iload_n hx hb dL_isTarget_63 rfl (lv_at hl 1 rfl) ?_
        refine jr_ifeq (tgt := 159) hx hb dL_isTarget_64 (by decide) ⟨by omega, by omega⟩ (fun c64 => absurd c64 (by omega)) (fun c64 => ?_)
        refine lv_aload_n hx hb dL_isTarget_67 rfl (lv_at hl 4 rfl) ?_
        refine lv_iload hx hb dL_isTarget_68 (lv_at hl 0 rfl) ?_
        refine jr_iconst hx hb dL_isTarget_70 ?_
        refine jr_iadd hx hb dL_isTarget_71 ?_
        refine jr_iald hx hb hKK.k (jat hP1 hS ap_hP1) 0 rfl (i + 1) (by omega) (by omega) (by omega) dL_isTarget_72 ?_
        refine jr_nm (b := x1.getD i 0) (hx1.s (by omega)) ?_
        have hv1 := (hx1.v (k := i) (by omega)).b
        refine jr_sipush hx hb dL_isTarget_73 (by decide) ?_
        refine jr_idiv hx hb (by omega) (by omega) (by omega) (by omega) dL_isTarget_76 ?_
        refine lv_istore (lv' := [(5, vi ((x1.getD i 0) / 10000)), (4, vi (i : Int)), (3, vi 1), (0, .ref o), (1, vi (k : Int)), (2, .ref a1)]) hx hb dL_isTarget_77 hl (by decide) rfl (fun ls hl => ?_)
        refine lv_aload_n hx hb dL_isTarget_79 rfl (lv_at hl 3 rfl) ?_
        refine jr_bipush hx hb dL_isTarget_80 (by decide) ?_
        refine lv_iload_n hx hb dL_isTarget_82 rfl (lv_at hl 4 rfl) ?_
        refine lv_iload hx hb dL_isTarget_83 (lv_at hl 1 rfl) ?_
        refine kl_Qi (cs := []) (vx_runSW (As := [.ref o, vi 15, vi (k : Int), vi (i : Int)]) (rest := []) ⟨hx, hb, hml, hown, htl⟩ (m_L_ask_targetToken l hsT g o S w55 hC H.size (k : Int) ⟨by omega, by omega⟩ (i : Int) ⟨by omega, by omega⟩) (vx_cwSW 4 htl lkH_L_ask rfl rfl rfl cwS_L_ask ⟨Nat.le_of_ble_eq_true rfl, Nat.le_of_ble_eq_true rfl⟩) (jp_S hKK hS hAb ⟨rfl, (kw_P (cs := []) hP), hD.weaken (fun _ q _ h => hAb _ h)⟩) rfl rfl hl.1 rfl (lv_room (Nat.le_of_ble_eq_true rfl)) dL_isTarget_85 ⟨by show _ ≤ 368; omega, by show _ ≤ 2208; omega⟩) hP hD hS hA ?_
        clear hP hD hS hC; intro z85 H locs w85 hz85 hC hP hD hS
        have hP : PP g w85 H := hP
        have hD : va_D A w85 := hD
        refine W.widen (k := ((8 + 6 * i) + 3)) (n := ((48 + 36 * i) + 18)) (by omega) (by omega) ?_
        have hz85 : z85 = (x1.getD i 0 % 10000) := hz85.trans ((aq15 hk hst (by rw [htg]; omega) (by rw [htg]; exact hv1.1)).trans (by rw [htg]))
        subst hz85
        refine lv_aload_n hx hb dL_isTarget_88 rfl (lv_at hl 5 rfl) ?_
        refine lv_iload hx hb dL_isTarget_89 (lv_at hl 1 rfl) ?_
        refine jr_iconst hx hb dL_isTarget_91 ?_
        refine jr_iadd hx hb dL_isTarget_92 ?_
        refine jr_iald hx hb hKK.k (jat hP1 hS ap_hP1) 0 rfl (i + 1) (by omega) (by omega) (by omega) dL_isTarget_93 ?_
        refine jr_nm (b := x1.getD i 0) (hx1.s (by omega)) ?_
        refine jr_sipush hx hb dL_isTarget_94 (by decide) ?_
        refine jr_irem hx hb (by omega) (by omega) (by omega) (by omega) dL_isTarget_97 ?_
        refine jr_ne (tgt := 151) hx hb dL_isTarget_98 (by decide) ⟨by omega, by omega⟩ ⟨by omega, by omega⟩ (fun c98 => absurd c98 (by omega)) (fun c98 => ?_)
        refine lv_aload_n hx hb dL_isTarget_101 rfl (lv_at hl 3 rfl) ?_
        refine jr_bipush hx hb dL_isTarget_102 (by decide) ?_
        refine lv_iload_n hx hb dL_isTarget_104 rfl (lv_at hl 4 rfl) ?_
        refine lv_iload hx hb dL_isTarget_105 (lv_at hl 1 rfl) ?_
        refine kl_Qi (cs := []) (vx_runSW (As := [.ref o, vi 16, vi (k : Int), vi (i : Int)]) (rest := []) ⟨hx, hb, hml, hown, htl⟩ (m_L_ask_targetKind l hsT g o S w85 hC H.size (k : Int) ⟨by omega, by omega⟩ (i : Int) ⟨by omega, by omega⟩) (vx_cwSW 4 htl lkH_L_ask rfl rfl rfl cwS_L_ask ⟨Nat.le_of_ble_eq_true rfl, Nat.le_of_ble_eq_true rfl⟩) (jp_S hKK hS hAb ⟨rfl, (kw_P (cs := []) hP), hD.weaken (fun _ q _ h => hAb _ h)⟩) rfl rfl hl.1 rfl (lv_room (Nat.le_of_ble_eq_true rfl)) dL_isTarget_107 ⟨by show _ ≤ 368; omega, by show _ ≤ 2208; omega⟩) hP hD hS hA ?_
        clear hP hD hS hC; intro z107 H locs w107 hz107 hC hP hD hS
        have hP : PP g w107 H := hP
        have hD : va_D A w107 := hD
        refine W.widen (k := ((8 + 6 * i) + 6)) (n := ((48 + 36 * i) + 36)) (by omega) (by omega) ?_
        have hz107 : z107 = (ltr (x1.getD i 0)) := hz107.trans ((aq16 hk hst (by rw [htg]; omega)).trans (by rw [htg]))
        subst hz107
        have hlt := ltr_k hv1.1
        have hltb := ltr_b (x1.getD i 0)
        refine lv_iload hx hb dL_isTarget_110 (lv_at hl 0 rfl) ?_
        refine jr_ifne (tgt := 120) hx hb dL_isTarget_112 (by decide) ⟨by omega, by omega⟩ (fun c112 => ?_) (fun c112 => ?_)
        · refine lv_iload hx hb dL_isTarget_120 (lv_at hl 0 rfl) ?_
          refine jr_iconst hx hb dL_isTarget_122 ?_
          refine jr_ne (tgt := 131) hx hb dL_isTarget_123 (by decide) ⟨by omega, by omega⟩ ⟨by omega, by omega⟩ (fun c123 => ?_) (fun c123 => ?_)
          · refine lv_iload hx hb dL_isTarget_131 (lv_at hl 0 rfl) ?_
            refine jr_iconst hx hb dL_isTarget_133 ?_
            refine jr_ne (tgt := 142) hx hb dL_isTarget_134 (by decide) ⟨by omega, by omega⟩ ⟨by omega, by omega⟩ (fun c134 => ?_) (fun c134 => ?_)
            · refine jr_bipush hx hb dL_isTarget_142 (by decide) ?_
              refine jr_ne (tgt := 151) hx hb dL_isTarget_144 (by decide) ⟨by omega, by omega⟩ ⟨by omega, by omega⟩ (fun c144 => absurd c144 (fun q => q (hlt.2.2.2 (by omega)))) (fun c144 => ?_)
              refine jr_iconst hx hb dL_isTarget_147 ?_
              refine lv_goto (tgt := 152) hx hb dL_isTarget_148 (by decide) ?_
              refine lv_istore_n (lv' := [(3, vi 1), (5, vi ((x1.getD i 0) / 10000)), (4, vi (i : Int)), (0, .ref o), (1, vi (k : Int)), (2, .ref a1)]) hx hb dL_isTarget_152 rfl hl (by decide) rfl (fun ls hl => ?_)
              refine jr_iinc (lv' := [(4, vi ((i : Int) + 1)), (3, vi 1), (5, vi ((x1.getD i 0) / 10000)), (0, .ref o), (1, vi (k : Int)), (2, .ref a1)]) hx hb dL_isTarget_153 hl (k := 2) rfl rfl (by decide) rfl (fun ls hl => ?_)
              refine lv_goto (tgt := 55) hx hb dL_isTarget_156 (by decide) ?_
              refine W.widen (k := (8 + 6 * (i + 1))) (n := (48 + 36 * (i + 1))) (by omega) (by omega) ?_
              exact ih55 (i + 1) _ (by omega) (hC) (by omega) _ _ hP hD hS ls (lv_sub hl [0, 1, 3, 4, 5] rfl)
            · refine jr_bipush hx hb dL_isTarget_137 (by decide) ?_
              refine lv_goto (tgt := 144) hx hb dL_isTarget_139 (by decide) ?_
              refine jr_ne (tgt := 151) hx hb dL_isTarget_144 (by decide) ⟨by omega, by omega⟩ ⟨by omega, by omega⟩ (fun c144 => absurd c144 (fun q => q (hlt.2.2.1 (by omega)))) (fun c144 => ?_)
              refine jr_iconst hx hb dL_isTarget_147 ?_
              refine lv_goto (tgt := 152) hx hb dL_isTarget_148 (by decide) ?_
              refine lv_istore_n (lv' := [(3, vi 1), (5, vi ((x1.getD i 0) / 10000)), (4, vi (i : Int)), (0, .ref o), (1, vi (k : Int)), (2, .ref a1)]) hx hb dL_isTarget_152 rfl hl (by decide) rfl (fun ls hl => ?_)
              refine jr_iinc (lv' := [(4, vi ((i : Int) + 1)), (3, vi 1), (5, vi ((x1.getD i 0) / 10000)), (0, .ref o), (1, vi (k : Int)), (2, .ref a1)]) hx hb dL_isTarget_153 hl (k := 2) rfl rfl (by decide) rfl (fun ls hl => ?_)
              refine lv_goto (tgt := 55) hx hb dL_isTarget_156 (by decide) ?_
              refine W.widen (k := (8 + 6 * (i + 1))) (n := (48 + 36 * (i + 1))) (by omega) (by omega) ?_
              exact ih55 (i + 1) _ (by omega) (hC) (by omega) _ _ hP hD hS ls (lv_sub hl [0, 1, 3, 4, 5] rfl)
          · refine jr_bipush hx hb dL_isTarget_126 (by decide) ?_
            refine lv_goto (tgt := 144) hx hb dL_isTarget_128 (by decide) ?_
            refine jr_ne (tgt := 151) hx hb dL_isTarget_144 (by decide) ⟨by omega, by omega⟩ ⟨by omega, by omega⟩ (fun c144 => absurd c144 (fun q => q (hlt.2.1 (by omega)))) (fun c144 => ?_)
            refine jr_iconst hx hb dL_isTarget_147 ?_
            refine lv_goto (tgt := 152) hx hb dL_isTarget_148 (by decide) ?_
            refine lv_istore_n (lv' := [(3, vi 1), (5, vi ((x1.getD i 0) / 10000)), (4, vi (i : Int)), (0, .ref o), (1, vi (k : Int)), (2, .ref a1)]) hx hb dL_isTarget_152 rfl hl (by decide) rfl (fun ls hl => ?_)
            refine jr_iinc (lv' := [(4, vi ((i : Int) + 1)), (3, vi 1), (5, vi ((x1.getD i 0) / 10000)), (0, .ref o), (1, vi (k : Int)), (2, .ref a1)]) hx hb dL_isTarget_153 hl (k := 2) rfl rfl (by decide) rfl (fun ls hl => ?_)
            refine lv_goto (tgt := 55) hx hb dL_isTarget_156 (by decide) ?_
            refine W.widen (k := (8 + 6 * (i + 1))) (n := (48 + 36 * (i + 1))) (by omega) (by omega) ?_
            exact ih55 (i + 1) _ (by omega) (hC) (by omega) _ _ hP hD hS ls (lv_sub hl [0, 1, 3, 4, 5] rfl)
        · refine jr_bipush hx hb dL_isTarget_115 (by decide) ?_
          refine lv_goto (tgt := 144) hx hb dL_isTarget_117 (by decide) ?_
          refine jr_ne (tgt := 151) hx hb dL_isTarget_144 (by decide) ⟨by omega, by omega⟩ ⟨by omega, by omega⟩ (fun c144 => absurd c144 (fun q => q (hlt.1 (by omega)))) (fun c144 => ?_)
          refine jr_iconst hx hb dL_isTarget_147 ?_
          refine lv_goto (tgt := 152) hx hb dL_isTarget_148 (by decide) ?_
          refine lv_istore_n (lv' := [(3, vi 1), (5, vi ((x1.getD i 0) / 10000)), (4, vi (i : Int)), (0, .ref o), (1, vi (k : Int)), (2, .ref a1)]) hx hb dL_isTarget_152 rfl hl (by decide) rfl (fun ls hl => ?_)
          refine jr_iinc (lv' := [(4, vi ((i : Int) + 1)), (3, vi 1), (5, vi ((x1.getD i 0) / 10000)), (0, .ref o), (1, vi (k : Int)), (2, .ref a1)]) hx hb dL_isTarget_153 hl (k := 2) rfl rfl (by decide) rfl (fun ls hl => ?_)
          refine lv_goto (tgt := 55) hx hb dL_isTarget_156 (by decide) ?_
          refine W.widen (k := (8 + 6 * (i + 1))) (n := (48 + 36 * (i + 1))) (by omega) (by omega) ?_
          exact ih55 (i + 1) _ (by omega) (hC) (by omega) _ _ hP hD hS ls (lv_sub hl [0, 1, 3, 4, 5] rfl)
  refine W.widen (k := 8 + 6 * 0) (n := 48 + 36 * 0) (by omega) (by omega) ?_
  exact lp55 _ 0 _ (Nat.zero_le _) (hC) (Nat.lt_succ_self _) _ _ hP hD hS ls (lv_sub hl [0, 1, 2, 3, 4] rfl)
