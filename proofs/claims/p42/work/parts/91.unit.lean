
theorem lk_L_155 : GoodIn WSL (va_wsS RL 155 yL_types (ws_ yL_types cL_types 4 (some .boolean))) := gd_app (List.forall_mem_cons.mpr ⟨wd_26_11, List.forall_mem_cons.mpr ⟨wd_26_12, List.forall_mem_cons.mpr ⟨wd_8_17, fun _ h => nomatch h⟩⟩⟩) (gd_ wd_26_13)
theorem cwS_L_types : yL_types.cls ≠ "java/lang/invoke/MethodHandle" ∧ yL_types.cls ≠ "java/lang/invoke/VarHandle" ∧ (parseMethodDescriptor yL_types.desc).map (fun d => d.parameters.length) = some 2 := by decide +kernel
theorem cadd_0 {S : SGM} {x y : List Int} (h1 : 1 ≤ x.length) (h2 : 1 ≤ y.length) (hu : nU S < 40) : cdAdd (wD (nxTake (wD S x)) y) = 0 := by
  unfold cdAdd
  rw [if_neg (by show ¬ x.length = 0; omega), if_neg (by show ¬ (y.length = 0 ∨ 40 ≤ nU S); omega)]
set_option maxHeartbeats 4000000 in
set_option maxRecDepth 100000 in
theorem m_L_unit (l : Launch) (hsT : l.stackTraces = false) (g : GT) (o : Nat) (S : SGM) (W9 : va_W) (hCW : CW g o S W9) (sz : Nat) (a1 : Nat) (x1 : List Int) (f1 : Nat → Int) (hx1 : AT x1 f1) (a2 : Nat) (x2 : List Int) (f2 : Nat → Int) (hx2 : AT x2 f2) (h1 : 1 ≤ x1.length) (h2 : 1 ≤ x2.length) (hu : nU S < 40) (hd_hP1 : ∀ x ∈ ([aI g a1 61 f1] : va_W).map (·.1), x ∉ W9.map (·.1)) (hd_hP2 : ∀ x ∈ ([aI g a2 61 f2] : va_W).map (·.1), x ∉ W9.map (·.1)) : Met l yL_unit (ws_ yL_unit cL_unit 4 (some .int)) (rmm 11 372 2411) (jPc g [.ref o, .ref a1, .ref a2] (fun H => H.size = sz ∧ PP g W9 H ∧ va_D (fun q => gb g ≤ q) W9 ∧ PP g [aI g a1 61 f1] H ∧ PP g [aI g a2 61 f2] H)) (jQi (fun z H1 => (z = (nU S : Int)) ∧ ∃ w1 : va_W, CW g o (nxUnit S x1 x2) w1 ∧ PP g w1 H1 ∧ va_D (va_A W9 sz) w1) (va_A W9 sz)) 372 2411 (va_A W9 sz) := by
  refine jb_M (by decide) (Nat.le_of_ble_eq_true rfl) ?_
  intro p e s m below meth cq hx hb hr hml hown htl hlk hnm hKK hpre ls hl
  have hown : s.vm.findClass RL = some m.cls := hown
  obtain ⟨hsz, hP, hD0, hP1, hP2⟩ := hpre
  subst hsz
  have hAb : ∀ q, (va_A W9 s.heap.size) q → gb g ≤ q := fun q h => h.elim (fun ⟨k, e, h⟩ => hD0.2 k _ h) (fun h => Nat.le_trans hKK.2.1 h)
  have hD : va_D (va_A W9 s.heap.size) W9 := hD0.self
  have ap_hP1 := japS hP1 rfl hd_hP1
  have ap_hP2 := japS hP2 rfl hd_hP2
  generalize hAe : va_A W9 s.heap.size = A at *
  have hA : ∀ q, s.heap.size ≤ q → A q := fun q h => by rw [← hAe]; exact Or.inr h
  have hS : va_S A s.heap s.heap [] := va_S.rf
  have hl : lv_has ls 4 [(0, .ref o), (1, .ref a1), (2, .ref a2)] := hl
  have hd60 := CW.d60 hCW
  have hn60 := CW.n60 hCW
  have hl1 := hx1.len
  suffices K : ∀ (w9 : va_W) (H : Heap) (locs : List Loc), CW g o S w9 → PP g w9 H → va_D A w9 → va_S A s.heap H locs → ∀ ls : Array Slot, lv_has ls 4 [(0, .ref o), (1, .ref a1), (2, .ref a2)] → W p l e (rmm 11 372 2411) s m ([.ref o, .ref a1, .ref a2] : List Value).toArray below meth cq H locs 0 0 (MQ below (jQi (fun z H1 => (z = (nU S : Int)) ∧ ∃ w1 : va_W, CW g o (nxUnit S x1 x2) w1 ∧ PP g w1 H1 ∧ va_D A w1) A) ([.ref o, .ref a1, .ref a2] : List Value).toArray s 372 2411 A) (F0 m 0 ls []) from K _ _ _ hCW hP hD hS _ hl
  clear hl hP hD hS; intro w9 H locs hC hP hD hS ls hl
  refine lv_aload_n hx hb dL_unit_0 rfl (lv_at hl 0 rfl) ?_
  refine lv_aload_n hx hb dL_unit_1 rfl (lv_at hl 1 rfl) ?_
  refine kl_Qi (cs := []) (va_runS (As := [.ref o, .ref a1]) (rest := []) ⟨hx, hb, hml, hown, htl⟩ (m_L_types l hsT g o S w9 hC H.size a1 x1 f1 hx1 (kw_nR (cs := []) hD ap_hP1)) (va_cwS 2 htl lk_L_155 rfl rfl rfl cwS_L_types ⟨Nat.le_of_ble_eq_true rfl, Nat.le_of_ble_eq_true rfl⟩) (jp_S hKK hS hAb ⟨rfl, (kw_P (cs := []) hP), hD.weaken (fun _ q _ h => hAb _ h), (jat hP1 hS ap_hP1)⟩) rfl rfl hl.1 rfl (lv_room (Nat.le_of_ble_eq_true rfl)) dL_unit_2 ⟨Nat.le_of_ble_eq_true rfl, Nat.le_of_ble_eq_true rfl⟩) hP hD hS hA ?_
  clear hP hD hS hC; intro z2 H locs w2 hz2 hC hP hD hS
  have hP : PP g w2 H := hP
  have hD : va_D A w2 := hD
  refine W.widen (k := 181) (n := 1086) (by omega) (by omega) ?_
  have hC : CW g o (wD S x1) w2 := hC
  have hz2 : z2 = 1 := hz2
  subst hz2
  refine jr_ifeq (tgt := 36) hx hb dL_unit_5 (by decide) ⟨by omega, by omega⟩ (fun c5 => absurd c5 (by omega)) (fun c5 => ?_)
  refine lv_aload_n hx hb dL_unit_8 rfl (lv_at hl 0 rfl) ?_
  refine jr_bipush hx hb dL_unit_9 (by decide) ?_
  refine jr_iconst hx hb dL_unit_11 ?_
  refine jr_iconst hx hb dL_unit_12 ?_
  refine jr_iconst hx hb dL_unit_13 ?_
  refine jr_iconst hx hb dL_unit_14 ?_
  refine kl_Qi (cs := []) (vx_runSW (As := [.ref o, vi 7, vi 0, vi 0, vi 0, vi 0]) (rest := []) ⟨hx, hb, hml, hown, htl⟩ (m_L_deed_takeSource l hsT g o (wD S x1) w2 hC H.size 0 0 0 0) (vx_cwSW 6 htl lkH_L_deed rfl rfl rfl cwS_L_deed ⟨Nat.le_of_ble_eq_true rfl, Nat.le_of_ble_eq_true rfl⟩) (jp_S hKK hS hAb ⟨rfl, (kw_P (cs := []) hP), hD.weaken (fun _ q _ h => hAb _ h)⟩) rfl rfl hl.1 rfl (lv_room (Nat.le_of_ble_eq_true rfl)) dL_unit_15 ⟨Nat.le_of_ble_eq_true rfl, Nat.le_of_ble_eq_true rfl⟩) hP hD hS hA ?_
  clear hP hD hS hC; intro z15 H locs w15 hz15 hC hP hD hS
  have hP : PP g w15 H := hP
  have hD : va_D A w15 := hD
  refine W.widen (k := 182) (n := 1092) (by omega) (by omega) ?_
  have hC : CW g o (nxTake (wD S x1)) w15 := by have q := hC; rw [rS_0 (cd1_0 (by show ¬ x1.length = 0; omega))] at q; exact q
  have hz15 : z15 = (x1.length : Int) := by rw [hz15]; exact rs_0 (cd1_0 (by show ¬ x1.length = 0; omega))
  subst hz15
  refine lv_aload_n hx hb dL_unit_18 rfl (lv_at hl 1 rfl) ?_
  refine jr_iconst hx hb dL_unit_19 ?_
  refine jr_iald hx hb hKK.k (jat hP1 hS ap_hP1) 0 rfl 0 rfl (by omega) (by omega) dL_unit_20 ?_
  refine jr_nm (b := (x1.length : Int)) (by rw [hx1.n]) ?_
  refine jr_ne (tgt := 36) hx hb dL_unit_21 (by decide) ⟨by omega, by omega⟩ ⟨by omega, by omega⟩ (fun c21 => absurd c21 (by omega)) (fun c21 => ?_)
  refine lv_aload_n hx hb dL_unit_24 rfl (lv_at hl 0 rfl) ?_
  refine lv_aload_n hx hb dL_unit_25 rfl (lv_at hl 2 rfl) ?_
  refine kl_Qi (cs := []) (va_runS (As := [.ref o, .ref a2]) (rest := []) ⟨hx, hb, hml, hown, htl⟩ (m_L_types l hsT g o (nxTake (wD S x1)) w15 hC H.size a2 x2 f2 hx2 (kw_nR (cs := []) hD ap_hP2)) (va_cwS 2 htl lk_L_155 rfl rfl rfl cwS_L_types ⟨Nat.le_of_ble_eq_true rfl, Nat.le_of_ble_eq_true rfl⟩) (jp_S hKK hS hAb ⟨rfl, (kw_P (cs := []) hP), hD.weaken (fun _ q _ h => hAb _ h), (jat hP2 hS ap_hP2)⟩) rfl rfl hl.1 rfl (lv_room (Nat.le_of_ble_eq_true rfl)) dL_unit_26 ⟨Nat.le_of_ble_eq_true rfl, Nat.le_of_ble_eq_true rfl⟩) hP hD hS hA ?_
  clear hP hD hS hC; intro z26 H locs w26 hz26 hC hP hD hS
  have hP : PP g w26 H := hP
  have hD : va_D A w26 := hD
  refine W.widen (k := 363) (n := 2178) (by omega) (by omega) ?_
  have hC : CW g o (wD (nxTake (wD S x1)) x2) w26 := hC
  have hz26 : z26 = 1 := hz26
  subst hz26
  refine jr_ifeq (tgt := 36) hx hb dL_unit_29 (by decide) ⟨by omega, by omega⟩ (fun c29 => absurd c29 (by omega)) (fun c29 => ?_)
  refine jr_iconst hx hb dL_unit_32 ?_
  refine lv_goto (tgt := 37) hx hb dL_unit_33 (by decide) ?_
  refine lv_istore_n (lv' := [(3, vi 1), (0, .ref o), (1, .ref a1), (2, .ref a2)]) hx hb dL_unit_37 rfl hl (by decide) rfl (fun ls hl => ?_)
  refine lv_iload_n hx hb dL_unit_38 rfl (lv_at hl 0 rfl) ?_
  refine jr_ifeq (tgt := 55) hx hb dL_unit_39 (by decide) ⟨by omega, by omega⟩ (fun c39 => absurd c39 (by omega)) (fun c39 => ?_)
  refine lv_aload_n hx hb dL_unit_42 rfl (lv_at hl 1 rfl) ?_
  refine jr_bipush hx hb dL_unit_43 (by decide) ?_
  refine jr_iconst hx hb dL_unit_45 ?_
  refine jr_iconst hx hb dL_unit_46 ?_
  refine jr_iconst hx hb dL_unit_47 ?_
  refine jr_iconst hx hb dL_unit_48 ?_
  refine kl_Qi (cs := []) (vx_runSW (As := [.ref o, vi 8, vi 0, vi 0, vi 0, vi 0]) (rest := []) ⟨hx, hb, hml, hown, htl⟩ (m_L_deed_addUnit l hsT g o (wD (nxTake (wD S x1)) x2) w26 hC H.size 0 0 0 0) (vx_cwSW 6 htl lkH_L_deed rfl rfl rfl cwS_L_deed ⟨Nat.le_of_ble_eq_true rfl, Nat.le_of_ble_eq_true rfl⟩) (jp_S hKK hS hAb ⟨rfl, (kw_P (cs := []) hP), hD.weaken (fun _ q _ h => hAb _ h)⟩) rfl rfl hl.1 rfl (lv_room (Nat.le_of_ble_eq_true rfl)) dL_unit_49 ⟨Nat.le_of_ble_eq_true rfl, Nat.le_of_ble_eq_true rfl⟩) hP hD hS hA ?_
  clear hP hD hS hC; intro z49 H locs w49 hz49 hC hP hD hS
  have hP : PP g w49 H := hP
  have hD : va_D A w49 := hD
  refine W.widen (k := 372) (n := 2411) (by omega) (by omega) ?_
  have hC : CW g o (nxUnit S x1 x2) w49 := by have q := hC; rw [rS_0 (cadd_0 h1 h2 hu)] at q; exact q
  have hz49 : z49 = (nU S : Int) := by rw [hz49]; exact rs_0 (cadd_0 h1 h2 hu)
  subst hz49
  refine lv_goto (tgt := 57) hx hb dL_unit_52 (by decide) ?_
  refine W.widen (k := 372) (n := 2411) (by omega) (by omega) ?_
  exact je_Qi hx hb hr hlk rfl hS ⟨rfl, w49, hC, (kw_P (cs := []) hP), hD⟩ dL_unit_57
