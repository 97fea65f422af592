
theorem lk_X11_179 : GoodIn WSL (va_wsS RX11 179 yX11_numbers (ws_ yX11_numbers cX11_numbers 5 (some .int))) := gd_app (List.forall_mem_cons.mpr ⟨wd_39_13, List.forall_mem_cons.mpr ⟨wd_39_14, List.forall_mem_cons.mpr ⟨wd_1_5, fun _ h => nomatch h⟩⟩⟩) (gd_ wd_39_15)
theorem cwS_X11_numbers : yX11_numbers.cls ≠ "java/lang/invoke/MethodHandle" ∧ yX11_numbers.cls ≠ "java/lang/invoke/VarHandle" ∧ (parseMethodDescriptor yX11_numbers.desc).map (fun d => d.parameters.length) = some 3 := by decide +kernel
theorem lk_X11_183 : GoodIn WSL (wsV RX11 183 RX11 yX11_placeOf (ws_ yX11_placeOf cX11_placeOf 6 (some .int))) := gd_app (List.forall_mem_cons.mpr ⟨wd_39_16, List.forall_mem_cons.mpr ⟨wd_39_17, List.forall_mem_cons.mpr ⟨wd_39_18, List.forall_mem_cons.mpr ⟨wd_1_5, fun _ h => nomatch h⟩⟩⟩⟩) (gd_ wd_39_19)
theorem cwV_X11_placeOf : yX11_placeOf.cls = RX11 ∧ yX11_placeOf.cls ≠ "java/lang/invoke/MethodHandle" ∧ yX11_placeOf.cls ≠ "java/lang/invoke/VarHandle" ∧ (parseMethodDescriptor yX11_placeOf.desc).map (fun d => d.parameters.length) = some 2 := by decide +kernel
theorem lk_X11_186 : GoodIn WSL (va_wsS RX11 186 yX11_numberAt (ws_ yX11_numberAt cX11_numberAt 5 (some .int))) := gd_app (List.forall_mem_cons.mpr ⟨wd_39_20, List.forall_mem_cons.mpr ⟨wd_39_21, List.forall_mem_cons.mpr ⟨wd_1_5, fun _ h => nomatch h⟩⟩⟩) (gd_ wd_39_22)
theorem cwS_X11_numberAt : yX11_numberAt.cls ≠ "java/lang/invoke/MethodHandle" ∧ yX11_numberAt.cls ≠ "java/lang/invoke/VarHandle" ∧ (parseMethodDescriptor yX11_numberAt.desc).map (fun d => d.parameters.length) = some 3 := by decide +kernel
theorem lk_X11_165 : GoodIn WSL (va_wsS RX11 165 yX11_isMark (ws_ yX11_isMark cX11_isMark 2 (some .boolean))) := gd_app (List.forall_mem_cons.mpr ⟨wd_35_2, List.forall_mem_cons.mpr ⟨wd_35_3, List.forall_mem_cons.mpr ⟨wd_1_5, fun _ h => nomatch h⟩⟩⟩) (gd_ wd_35_4)
theorem cwS_X11_isMark : yX11_isMark.cls ≠ "java/lang/invoke/MethodHandle" ∧ yX11_isMark.cls ≠ "java/lang/invoke/VarHandle" ∧ (parseMethodDescriptor yX11_isMark.desc).map (fun d => d.parameters.length) = some 2 := by decide +kernel
set_option maxHeartbeats 4000000 in
set_option maxRecDepth 100000 in
theorem m_X11_fillBy (l : Launch) (g : GT) (ad : Nat → Nat) (th dn nt tn nu ns tz : Int) (f7 f8 f9 f10 f12 f13 f14 f15 f16 f17 f18 : Nat → Int) (s0 u b : Nat) (t x y : List Int) (sc : Int) (hs0 : s0 < 60) (hu : u < 40) (h13 : f13 s0 = (b : Int)) (h13b : f13 (s0 + 1) = ((b + t.length : Nat) : Int)) (hbb : b + t.length ≤ 60) (h12 : RWS f12 b t) (h8 : f8 u = (x.length : Int)) (hx9 : RWS f7 (60 * u) x) (h10 : f10 u = (y.length : Int)) (hy : RWS f9 (60 * u) y) (hsc : 0 ≤ sc ∧ sc ≤ 100) : Met l yX11_fillBy (ws_ yX11_fillBy cX11_fillBy 8 none) (rmm 3 0 0) (jPc g [.ref (ad 0), vi (s0 : Int), vi (u : Int), vi sc] (fun H => PP g [ob (ad 0) 10 [vi th, .ref (ad 1), vi dn, .ref (ad 2), .ref (ad 3), vi nt, .ref (ad 4), .ref (ad 5), .ref (ad 6), vi tn, vi nu, .ref (ad 7), .ref (ad 8), .ref (ad 9), .ref (ad 10), .ref (ad 11), .ref (ad 12), vi ns, .ref (ad 13), .ref (ad 14), .ref (ad 15), .ref (ad 16), .ref (ad 17), .ref (ad 18), .ref (ad 19), vi tz, .ref (ad 20), .ref (ad 21), .ref (ad 22)], aI g (ad 7) 2400 f7, aI g (ad 8) 40 f8, aI g (ad 9) 2400 f9, aI g (ad 10) 40 f10, aI g (ad 12) 60 f12, aI g (ad 13) 61 f13, aC g (ad 14) 60 f14, aI g (ad 15) 60 f15, aI g (ad 16) 60 f16, aI g (ad 17) 3600 f17, aI g (ad 18) 60 f18] H ∧ va_D (fun q => gb g ≤ q) [ob (ad 0) 10 [vi th, .ref (ad 1), vi dn, .ref (ad 2), .ref (ad 3), vi nt, .ref (ad 4), .ref (ad 5), .ref (ad 6), vi tn, vi nu, .ref (ad 7), .ref (ad 8), .ref (ad 9), .ref (ad 10), .ref (ad 11), .ref (ad 12), vi ns, .ref (ad 13), .ref (ad 14), .ref (ad 15), .ref (ad 16), .ref (ad 17), .ref (ad 18), .ref (ad 19), vi tz, .ref (ad 20), .ref (ad 21), .ref (ad 22)], aI g (ad 7) 2400 f7, aI g (ad 8) 40 f8, aI g (ad 9) 2400 f9, aI g (ad 10) 40 f10, aI g (ad 12) 60 f12, aI g (ad 13) 61 f13, aC g (ad 14) 60 f14, aI g (ad 15) 60 f15, aI g (ad 16) 60 f16, aI g (ad 17) 3600 f17, aI g (ad 18) 60 f18])) (jQv (fun H1 => ∃ g17 : Nat → Int, (∀ q, q < 60 * s0 ∨ 60 * s0 + 60 ≤ q → g17 q = f17 q) ∧ RWS g17 (60 * s0) (fl1 t x y) ∧ PP g [ob (ad 0) 10 [vi th, .ref (ad 1), vi dn, .ref (ad 2), .ref (ad 3), vi nt, .ref (ad 4), .ref (ad 5), .ref (ad 6), vi tn, vi nu, .ref (ad 7), .ref (ad 8), .ref (ad 9), .ref (ad 10), .ref (ad 11), .ref (ad 12), vi ns, .ref (ad 13), .ref (ad 14), .ref (ad 15), .ref (ad 16), .ref (ad 17), .ref (ad 18), .ref (ad 19), vi tz, .ref (ad 20), .ref (ad 21), .ref (ad 22)], aI g (ad 7) 2400 f7, aI g (ad 8) 40 f8, aI g (ad 9) 2400 f9, aI g (ad 10) 40 f10, aI g (ad 12) 60 f12, aI g (ad 13) 61 f13, aC g (ad 14) 60 (ju f14 s0 (if sc = 100 then 120 else 102)), aI g (ad 15) 60 (ju f15 s0 (u : Int)), aI g (ad 16) 60 (ju f16 s0 sc), aI g (ad 17) 3600 g17, aI g (ad 18) 60 (ju f18 s0 (f10 u))] H1) (jA [ob (ad 0) 10 [vi th, .ref (ad 1), vi dn, .ref (ad 2), .ref (ad 3), vi nt, .ref (ad 4), .ref (ad 5), .ref (ad 6), vi tn, vi nu, .ref (ad 7), .ref (ad 8), .ref (ad 9), .ref (ad 10), .ref (ad 11), .ref (ad 12), vi ns, .ref (ad 13), .ref (ad 14), .ref (ad 15), .ref (ad 16), .ref (ad 17), .ref (ad 18), .ref (ad 19), vi tz, .ref (ad 20), .ref (ad 21), .ref (ad 22)], aI g (ad 7) 2400 f7, aI g (ad 8) 40 f8, aI g (ad 9) 2400 f9, aI g (ad 10) 40 f10, aI g (ad 12) 60 f12, aI g (ad 13) 61 f13, aC g (ad 14) 60 f14, aI g (ad 15) 60 f15, aI g (ad 16) 60 f16, aI g (ad 17) 3600 f17, aI g (ad 18) 60 f18])) 0 0 (jA [ob (ad 0) 10 [vi th, .ref (ad 1), vi dn, .ref (ad 2), .ref (ad 3), vi nt, .ref (ad 4), .ref (ad 5), .ref (ad 6), vi tn, vi nu, .ref (ad 7), .ref (ad 8), .ref (ad 9), .ref (ad 10), .ref (ad 11), .ref (ad 12), vi ns, .ref (ad 13), .ref (ad 14), .ref (ad 15), .ref (ad 16), .ref (ad 17), .ref (ad 18), .ref (ad 19), vi tz, .ref (ad 20), .ref (ad 21), .ref (ad 22)], aI g (ad 7) 2400 f7, aI g (ad 8) 40 f8, aI g (ad 9) 2400 f9, aI g (ad 10) 40 f10, aI g (ad 12) 60 f12, aI g (ad 13) 61 f13, aC g (ad 14) 60 f14, aI g (ad 15) 60 f15, aI g (ad 16) 60 f16, aI g (ad 17) 3600 f17, aI g (ad 18) 60 f18]) := by
  refine jb_M (by decide) (Nat.le_of_ble_eq_true rfl) ?_
  intro p e s m below meth cq hx hb hr hml hown htl hlk hnm hKK hpre ls hl
  have hown : s.vm.findClass RX11 = some m.cls := hown
  have hl : lv_has ls 8 [(0, .ref (ad 0)), (1, vi (s0 : Int)), (2, vi (u : Int)), (3, vi sc)] := hl
  obtain ⟨hP, hD0⟩ := hpre
  have htl0 := h12.len
  have hxl := hx9.len
  have hyl := hy.len
  have tct := cntA_b t 1 0
  have tcx := cntA_b x 1 0
  have hD : va_D (jA [ob (ad 0) 10 [vi th, .ref (ad 1), vi dn, .ref (ad 2), .ref (ad 3), vi nt, .ref (ad 4), .ref (ad 5), .ref (ad 6), vi tn, vi nu, .ref (ad 7), .ref (ad 8), .ref (ad 9), .ref (ad 10), .ref (ad 11), .ref (ad 12), vi ns, .ref (ad 13), .ref (ad 14), .ref (ad 15), .ref (ad 16), .ref (ad 17), .ref (ad 18), .ref (ad 19), vi tz, .ref (ad 20), .ref (ad 21), .ref (ad 22)], aI g (ad 7) 2400 f7, aI g (ad 8) 40 f8, aI g (ad 9) 2400 f9, aI g (ad 10) 40 f10, aI g (ad 12) 60 f12, aI g (ad 13) 61 f13, aC g (ad 14) 60 f14, aI g (ad 15) 60 f15, aI g (ad 16) 60 f16, aI g (ad 17) 3600 f17, aI g (ad 18) 60 f18]) [ob (ad 0) 10 [vi th, .ref (ad 1), vi dn, .ref (ad 2), .ref (ad 3), vi nt, .ref (ad 4), .ref (ad 5), .ref (ad 6), vi tn, vi nu, .ref (ad 7), .ref (ad 8), .ref (ad 9), .ref (ad 10), .ref (ad 11), .ref (ad 12), vi ns, .ref (ad 13), .ref (ad 14), .ref (ad 15), .ref (ad 16), .ref (ad 17), .ref (ad 18), .ref (ad 19), vi tz, .ref (ad 20), .ref (ad 21), .ref (ad 22)], aI g (ad 7) 2400 f7, aI g (ad 8) 40 f8, aI g (ad 9) 2400 f9, aI g (ad 10) 40 f10, aI g (ad 12) 60 f12, aI g (ad 13) 61 f13, aC g (ad 14) 60 f14, aI g (ad 15) 60 f15, aI g (ad 16) 60 f16, aI g (ad 17) 3600 f17, aI g (ad 18) 60 f18] := hD0.inD
  have hAb : ∀ q, (jA [ob (ad 0) 10 [vi th, .ref (ad 1), vi dn, .ref (ad 2), .ref (ad 3), vi nt, .ref (ad 4), .ref (ad 5), .ref (ad 6), vi tn, vi nu, .ref (ad 7), .ref (ad 8), .ref (ad 9), .ref (ad 10), .ref (ad 11), .ref (ad 12), vi ns, .ref (ad 13), .ref (ad 14), .ref (ad 15), .ref (ad 16), .ref (ad 17), .ref (ad 18), .ref (ad 19), vi tz, .ref (ad 20), .ref (ad 21), .ref (ad 22)], aI g (ad 7) 2400 f7, aI g (ad 8) 40 f8, aI g (ad 9) 2400 f9, aI g (ad 10) 40 f10, aI g (ad 12) 60 f12, aI g (ad 13) 61 f13, aC g (ad 14) 60 f14, aI g (ad 15) 60 f15, aI g (ad 16) 60 f16, aI g (ad 17) 3600 f17, aI g (ad 18) 60 f18]) q → gb g ≤ q := fun q h => hD0.inA h
  generalize hAe : jA [ob (ad 0) 10 [vi th, .ref (ad 1), vi dn, .ref (ad 2), .ref (ad 3), vi nt, .ref (ad 4), .ref (ad 5), .ref (ad 6), vi tn, vi nu, .ref (ad 7), .ref (ad 8), .ref (ad 9), .ref (ad 10), .ref (ad 11), .ref (ad 12), vi ns, .ref (ad 13), .ref (ad 14), .ref (ad 15), .ref (ad 16), .ref (ad 17), .ref (ad 18), .ref (ad 19), vi tz, .ref (ad 20), .ref (ad 21), .ref (ad 22)], aI g (ad 7) 2400 f7, aI g (ad 8) 40 f8, aI g (ad 9) 2400 f9, aI g (ad 10) 40 f10, aI g (ad 12) 60 f12, aI g (ad 13) 61 f13, aC g (ad 14) 60 f14, aI g (ad 15) 60 f15, aI g (ad 16) 60 f16, aI g (ad 17) 3600 f17, aI g (ad 18) 60 f18] = A at *
  have hS : va_S A s.heap s.heap [] := va_S.rf
  suffices K : ∀ (H : Heap) (locs : List Loc), PP g [ob (ad 0) 10 [vi th, .ref (ad 1), vi dn, .ref (ad 2), .ref (ad 3), vi nt, .ref (ad 4), .ref (ad 5), .ref (ad 6), vi tn, vi nu, .ref (ad 7), .ref (ad 8), .ref (ad 9), .ref (ad 10), .ref (ad 11), .ref (ad 12), vi ns, .ref (ad 13), .ref (ad 14), .ref (ad 15), .ref (ad 16), .ref (ad 17), .ref (ad 18), .ref (ad 19), vi tz, .ref (ad 20), .ref (ad 21), .ref (ad 22)], aI g (ad 7) 2400 f7, aI g (ad 8) 40 f8, aI g (ad 9) 2400 f9, aI g (ad 10) 40 f10, aI g (ad 12) 60 f12, aI g (ad 13) 61 f13, aC g (ad 14) 60 f14, aI g (ad 15) 60 f15, aI g (ad 16) 60 f16, aI g (ad 17) 3600 f17, aI g (ad 18) 60 f18] H → va_D A [ob (ad 0) 10 [vi th, .ref (ad 1), vi dn, .ref (ad 2), .ref (ad 3), vi nt, .ref (ad 4), .ref (ad 5), .ref (ad 6), vi tn, vi nu, .ref (ad 7), .ref (ad 8), .ref (ad 9), .ref (ad 10), .ref (ad 11), .ref (ad 12), vi ns, .ref (ad 13), .ref (ad 14), .ref (ad 15), .ref (ad 16), .ref (ad 17), .ref (ad 18), .ref (ad 19), vi tz, .ref (ad 20), .ref (ad 21), .ref (ad 22)], aI g (ad 7) 2400 f7, aI g (ad 8) 40 f8, aI g (ad 9) 2400 f9, aI g (ad 10) 40 f10, aI g (ad 12) 60 f12, aI g (ad 13) 61 f13, aC g (ad 14) 60 f14, aI g (ad 15) 60 f15, aI g (ad 16) 60 f16, aI g (ad 17) 3600 f17, aI g (ad 18) 60 f18] → va_S A s.heap H locs → ∀ ls : Array Slot, lv_has ls 8 [(0, .ref (ad 0)), (1, vi (s0 : Int)), (2, vi (u : Int)), (3, vi sc)] → W p l e (rmm 3 0 0) s m ([.ref (ad 0), vi (s0 : Int), vi (u : Int), vi sc] : List Value).toArray below meth cq H locs 0 0 (MQ below (jQv (fun H1 => ∃ g17 : Nat → Int, (∀ q, q < 60 * s0 ∨ 60 * s0 + 60 ≤ q → g17 q = f17 q) ∧ RWS g17 (60 * s0) (fl1 t x y) ∧ PP g [ob (ad 0) 10 [vi th, .ref (ad 1), vi dn, .ref (ad 2), .ref (ad 3), vi nt, .ref (ad 4), .ref (ad 5), .ref (ad 6), vi tn, vi nu, .ref (ad 7), .ref (ad 8), .ref (ad 9), .ref (ad 10), .ref (ad 11), .ref (ad 12), vi ns, .ref (ad 13), .ref (ad 14), .ref (ad 15), .ref (ad 16), .ref (ad 17), .ref (ad 18), .ref (ad 19), vi tz, .ref (ad 20), .ref (ad 21), .ref (ad 22)], aI g (ad 7) 2400 f7, aI g (ad 8) 40 f8, aI g (ad 9) 2400 f9, aI g (ad 10) 40 f10, aI g (ad 12) 60 f12, aI g (ad 13) 61 f13, aC g (ad 14) 60 (ju f14 s0 (if sc = 100 then 120 else 102)), aI g (ad 15) 60 (ju f15 s0 (u : Int)), aI g (ad 16) 60 (ju f16 s0 sc), aI g (ad 17) 3600 g17, aI g (ad 18) 60 (ju f18 s0 (f10 u))] H1) A) ([.ref (ad 0), vi (s0 : Int), vi (u : Int), vi sc] : List Value).toArray s 0 0 A) (F0 m 0 ls []) from K _ _ hP hD hS _ hl
  clear hl; intro H locs hP hD hS ls hl
  refine lv_aload_n hx hb dX11_fillBy_0 rfl (lv_at hl 0 rfl) ?_
  refine va_get (D := gD g) (ci := 10) (v := .ref (ad 12)) (C := RX11) (T := TX11) (N := 29) hx hb htl ck_X11 hown hKK.k hP 0 rfl rfl 16 (by decide) (htl _ wd_6_2) (fun _ h9 => h9) rfl dX11_fillBy_1 ?_
  refine lv_aload_n hx hb dX11_fillBy_4 rfl (lv_at hl 0 rfl) ?_
  refine va_get (D := gD g) (ci := 10) (v := .ref (ad 13)) (C := RX11) (T := TX11) (N := 29) hx hb htl ck_X11 hown hKK.k hP 0 rfl rfl 18 (by decide) (htl _ wd_6_3) (fun _ h9 => h9) rfl dX11_fillBy_5 ?_
  refine lv_iload_n hx hb dX11_fillBy_8 rfl (lv_at hl 1 rfl) ?_
  refine jr_iald hx hb hKK.k hP 6 rfl s0 (by omega) (by omega) (by omega) dX11_fillBy_9 ?_
  refine jr_nm (b := (b : Int)) (h13) ?_
  refine lv_aload_n hx hb dX11_fillBy_10 rfl (lv_at hl 0 rfl) ?_
  refine lv_iload_n hx hb dX11_fillBy_11 rfl (lv_at hl 1 rfl) ?_
  refine jk_Si (va_runV (As := [vi (s0 : Int)]) (rest := [vi (b : Int), .ref (ad 12)]) ⟨hx, hb, hml, hown, htl⟩ (m_X11_length l g ad th dn nt tn nu ns tz f13 s0 b t.length hs0 h13 h13b hbb) (cwV 1 htl lk_X11_176 rfl rfl rfl cwV_X11_length ⟨Nat.le_of_ble_eq_true rfl, Nat.le_of_ble_eq_true rfl⟩) (jp_V hKK hS hAb (va_recv hKK.k hP (ci := 10) (q0 := 0) rfl rfl) (va_P.sub hP [0, 6] rfl)) rfl rfl hl.1 rfl (lv_room (Nat.le_of_ble_eq_true rfl)) dX11_fillBy_12 ⟨Nat.le_of_ble_eq_true rfl, Nat.le_of_ble_eq_true rfl⟩) (fun z12 hz12 => ?_)
  subst hz12
  refine jk_Si (va_runS (As := [.ref (ad 12), vi (b : Int), vi (t.length : Int)]) (rest := []) ⟨hx, hb, hml, hown, htl⟩ (m_X11_numbers l g (ad 12) 60 f12 b t h12 (by omega) (by omega)) (va_cwS 3 htl lk_X11_179 rfl rfl rfl cwS_X11_numbers ⟨Nat.le_of_ble_eq_true rfl, Nat.le_of_ble_eq_true rfl⟩) (jp_S hKK hS hAb (va_P.sub hP [5] rfl)) rfl rfl hl.1 rfl (lv_room (Nat.le_of_ble_eq_true rfl)) dX11_fillBy_15 ⟨Nat.le_of_ble_eq_true rfl, Nat.le_of_ble_eq_true rfl⟩) (fun z15 hz15 => ?_)
  subst hz15
  refine lv_aload_n hx hb dX11_fillBy_18 rfl (lv_at hl 0 rfl) ?_
  refine va_get (D := gD g) (ci := 10) (v := .ref (ad 7)) (C := RX11) (T := TX11) (N := 29) hx hb htl ck_X11 hown hKK.k hP 0 rfl rfl 11 (by decide) (htl _ wd_5_21) (fun _ h9 => h9) rfl dX11_fillBy_19 ?_
  refine jr_bipush hx hb dX11_fillBy_22 (by decide) ?_
  refine lv_iload_n hx hb dX11_fillBy_24 rfl (lv_at hl 2 rfl) ?_
  refine jr_imul hx hb dX11_fillBy_25 ?_
  refine jr_nm (b := ((60 * u : Nat) : Int)) (by omega) ?_
  refine lv_aload_n hx hb dX11_fillBy_26 rfl (lv_at hl 0 rfl) ?_
  refine va_get (D := gD g) (ci := 10) (v := .ref (ad 8)) (C := RX11) (T := TX11) (N := 29) hx hb htl ck_X11 hown hKK.k hP 0 rfl rfl 12 (by decide) (htl _ wd_5_22) (fun _ h9 => h9) rfl dX11_fillBy_27 ?_
  refine lv_iload_n hx hb dX11_fillBy_30 rfl (lv_at hl 2 rfl) ?_
  refine jr_iald hx hb hKK.k hP 2 rfl u (by omega) (by omega) (by omega) dX11_fillBy_31 ?_
  refine jr_nm (b := (x.length : Int)) (h8) ?_
  refine jk_Si (va_runS (As := [.ref (ad 7), vi ((60 * u : Nat) : Int), vi (x.length : Int)]) (rest := [vi (cntA t 1 0)]) ⟨hx, hb, hml, hown, htl⟩ (m_X11_numbers l g (ad 7) 2400 f7 (60 * u) x hx9 (by omega) (by omega)) (va_cwS 3 htl lk_X11_179 rfl rfl rfl cwS_X11_numbers ⟨Nat.le_of_ble_eq_true rfl, Nat.le_of_ble_eq_true rfl⟩) (jp_S hKK hS hAb (va_P.sub hP [1] rfl)) rfl rfl hl.1 rfl (lv_room (Nat.le_of_ble_eq_true rfl)) dX11_fillBy_32 ⟨Nat.le_of_ble_eq_true rfl, Nat.le_of_ble_eq_true rfl⟩) (fun z32 hz32 => ?_)
  subst hz32
  refine jr_ne (tgt := 42) hx hb dX11_fillBy_35 (by decide) ⟨by omega, by omega⟩ ⟨by omega, by omega⟩ (fun c35 => ?_) (fun c35 => ?_)
  · have hfl : fl1 t x y = y := if_neg c35
    refine jr_iconst hx hb dX11_fillBy_42 ?_
    refine lv_istore (lv' := [(4, vi 0), (0, .ref (ad 0)), (1, vi (s0 : Int)), (2, vi (u : Int)), (3, vi sc)]) hx hb dX11_fillBy_43 hl (by decide) rfl (fun ls hl => ?_)
    refine lv_aload_n hx hb dX11_fillBy_45 rfl (lv_at hl 1 rfl) ?_
    refine va_get (D := gD g) (ci := 10) (v := .ref (ad 18)) (C := RX11) (T := TX11) (N := 29) hx hb htl ck_X11 hown hKK.k hP 0 rfl rfl 23 (by decide) (htl _ wd_6_9) (fun _ h9 => h9) rfl dX11_fillBy_46 ?_
    refine lv_iload_n hx hb dX11_fillBy_49 rfl (lv_at hl 2 rfl) ?_
    refine lv_aload_n hx hb dX11_fillBy_50 rfl (lv_at hl 1 rfl) ?_
    refine va_get (D := gD g) (ci := 10) (v := .ref (ad 10)) (C := RX11) (T := TX11) (N := 29) hx hb htl ck_X11 hown hKK.k hP 0 rfl rfl 14 (by decide) (htl _ wd_6_0) (fun _ h9 => h9) rfl dX11_fillBy_51 ?_
    refine lv_iload_n hx hb dX11_fillBy_54 rfl (lv_at hl 3 rfl) ?_
    refine jr_iald hx hb hKK.k hP 4 rfl u (by omega) (by omega) (by omega) dX11_fillBy_55 ?_
    refine jr_iast hx hb hKK.k hP hD hS 11 rfl s0 (by omega) (by omega) (by omega) dX11_fillBy_56 (fun H locs hP hD hS => ?_)
    have hP : PP g [ob (ad 0) 10 [vi th, .ref (ad 1), vi dn, .ref (ad 2), .ref (ad 3), vi nt, .ref (ad 4), .ref (ad 5), .ref (ad 6), vi tn, vi nu, .ref (ad 7), .ref (ad 8), .ref (ad 9), .ref (ad 10), .ref (ad 11), .ref (ad 12), vi ns, .ref (ad 13), .ref (ad 14), .ref (ad 15), .ref (ad 16), .ref (ad 17), .ref (ad 18), .ref (ad 19), vi tz, .ref (ad 20), .ref (ad 21), .ref (ad 22)], aI g (ad 7) 2400 f7, aI g (ad 8) 40 f8, aI g (ad 9) 2400 f9, aI g (ad 10) 40 f10, aI g (ad 12) 60 f12, aI g (ad 13) 61 f13, aC g (ad 14) 60 f14, aI g (ad 15) 60 f15, aI g (ad 16) 60 f16, aI g (ad 17) 3600 f17, aI g (ad 18) 60 (ju f18 s0 (f10 u))] H := hP
    have hD : va_D A [ob (ad 0) 10 [vi th, .ref (ad 1), vi dn, .ref (ad 2), .ref (ad 3), vi nt, .ref (ad 4), .ref (ad 5), .ref (ad 6), vi tn, vi nu, .ref (ad 7), .ref (ad 8), .ref (ad 9), .ref (ad 10), .ref (ad 11), .ref (ad 12), vi ns, .ref (ad 13), .ref (ad 14), .ref (ad 15), .ref (ad 16), .ref (ad 17), .ref (ad 18), .ref (ad 19), vi tz, .ref (ad 20), .ref (ad 21), .ref (ad 22)], aI g (ad 7) 2400 f7, aI g (ad 8) 40 f8, aI g (ad 9) 2400 f9, aI g (ad 10) 40 f10, aI g (ad 12) 60 f12, aI g (ad 13) 61 f13, aC g (ad 14) 60 f14, aI g (ad 15) 60 f15, aI g (ad 16) 60 f16, aI g (ad 17) 3600 f17, aI g (ad 18) 60 (ju f18 s0 (f10 u))] := hD
    refine jr_iconst hx hb dX11_fillBy_57 ?_
    refine lv_istore (lv' := [(5, vi 0), (4, vi 0), (0, .ref (ad 0)), (1, vi (s0 : Int)), (2, vi (u : Int)), (3, vi sc)]) hx hb dX11_fillBy_58 hl (by decide) rfl (fun ls hl => ?_)
    have lp60 : ∀ (N : Nat) (i : Nat) (h : Nat → Int), (i ≤ y.length) → (∀ j, j < i → h (60 * s0 + j) = (fl1 t x y).getD j 0) → (∀ q, q < 60 * s0 ∨ 60 * s0 + 60 ≤ q → h q = f17 q) → (∀ j, j < i → 0 ≤ (fl1 t x y).getD j 0 ∧ (fl1 t x y).getD j 0 < 40000) → y.length - i < N → ∀ (H : Heap) (locs : List Loc), PP g [ob (ad 0) 10 [vi th, .ref (ad 1), vi dn, .ref (ad 2), .ref (ad 3), vi nt, .ref (ad 4), .ref (ad 5), .ref (ad 6), vi tn, vi nu, .ref (ad 7), .ref (ad 8), .ref (ad 9), .ref (ad 10), .ref (ad 11), .ref (ad 12), vi ns, .ref (ad 13), .ref (ad 14), .ref (ad 15), .ref (ad 16), .ref (ad 17), .ref (ad 18), .ref (ad 19), vi tz, .ref (ad 20), .ref (ad 21), .ref (ad 22)], aI g (ad 7) 2400 f7, aI g (ad 8) 40 f8, aI g (ad 9) 2400 f9, aI g (ad 10) 40 f10, aI g (ad 12) 60 f12, aI g (ad 13) 61 f13, aC g (ad 14) 60 f14, aI g (ad 15) 60 f15, aI g (ad 16) 60 f16, aI g (ad 17) 3600 h, aI g (ad 18) 60 (ju f18 s0 (f10 u))] H → va_D A [ob (ad 0) 10 [vi th, .ref (ad 1), vi dn, .ref (ad 2), .ref (ad 3), vi nt, .ref (ad 4), .ref (ad 5), .ref (ad 6), vi tn, vi nu, .ref (ad 7), .ref (ad 8), .ref (ad 9), .ref (ad 10), .ref (ad 11), .ref (ad 12), vi ns, .ref (ad 13), .ref (ad 14), .ref (ad 15), .ref (ad 16), .ref (ad 17), .ref (ad 18), .ref (ad 19), vi tz, .ref (ad 20), .ref (ad 21), .ref (ad 22)], aI g (ad 7) 2400 f7, aI g (ad 8) 40 f8, aI g (ad 9) 2400 f9, aI g (ad 10) 40 f10, aI g (ad 12) 60 f12, aI g (ad 13) 61 f13, aC g (ad 14) 60 f14, aI g (ad 15) 60 f15, aI g (ad 16) 60 f16, aI g (ad 17) 3600 h, aI g (ad 18) 60 (ju f18 s0 (f10 u))] → va_S A s.heap H locs → ∀ ls : Array Slot, lv_has ls 8 [(5, vi (i : Int)), (4, vi 0), (0, .ref (ad 0)), (1, vi (s0 : Int)), (2, vi (u : Int)), (3, vi sc)] → W p l e (rmm 3 0 0) s m ([.ref (ad 0), vi (s0 : Int), vi (u : Int), vi sc] : List Value).toArray below meth cq H locs 0 0 (MQ below (jQv (fun H1 => ∃ g17 : Nat → Int, (∀ q, q < 60 * s0 ∨ 60 * s0 + 60 ≤ q → g17 q = f17 q) ∧ RWS g17 (60 * s0) (fl1 t x y) ∧ PP g [ob (ad 0) 10 [vi th, .ref (ad 1), vi dn, .ref (ad 2), .ref (ad 3), vi nt, .ref (ad 4), .ref (ad 5), .ref (ad 6), vi tn, vi nu, .ref (ad 7), .ref (ad 8), .ref (ad 9), .ref (ad 10), .ref (ad 11), .ref (ad 12), vi ns, .ref (ad 13), .ref (ad 14), .ref (ad 15), .ref (ad 16), .ref (ad 17), .ref (ad 18), .ref (ad 19), vi tz, .ref (ad 20), .ref (ad 21), .ref (ad 22)], aI g (ad 7) 2400 f7, aI g (ad 8) 40 f8, aI g (ad 9) 2400 f9, aI g (ad 10) 40 f10, aI g (ad 12) 60 f12, aI g (ad 13) 61 f13, aC g (ad 14) 60 (ju f14 s0 (if sc = 100 then 120 else 102)), aI g (ad 15) 60 (ju f15 s0 (u : Int)), aI g (ad 16) 60 (ju f16 s0 sc), aI g (ad 17) 3600 g17, aI g (ad 18) 60 (ju f18 s0 (f10 u))] H1) A) ([.ref (ad 0), vi (s0 : Int), vi (u : Int), vi sc] : List Value).toArray s 0 0 A) (F0 m 60 ls []) := by
      intro N
      induction N with
      | zero => intro i h hi hF hE hB hM; exact absurd hM (Nat.not_lt_zero _)
      | succ N ih60 =>
        intro i h hi hF hE hB hM H locs hP hD hS ls hl
        refine lv_iload hx hb dX11_fillBy_60 (lv_at hl 0 rfl) ?_
        refine lv_aload_n hx hb dX11_fillBy_62 rfl (lv_at hl 2 rfl) ?_
        refine va_get (D := gD g) (ci := 10) (v := .ref (ad 10)) (C := RX11) (T := TX11) (N := 29) hx hb htl ck_X11 hown hKK.k hP 0 rfl rfl 14 (by decide) (htl _ wd_6_0) (fun _ h9 => h9) rfl dX11_fillBy_63 ?_
        refine lv_iload_n hx hb dX11_fillBy_66 rfl (lv_at hl 4 rfl) ?_
        refine jr_iald hx hb hKK.k hP 4 rfl u (by omega) (by omega) (by omega) dX11_fillBy_67 ?_
        refine jr_nm (b := (y.length : Int)) (h10) ?_
        refine jr_ge (tgt := 157) hx hb dX11_fillBy_68 (by decide) ⟨by omega, by omega⟩ ⟨by omega, by omega⟩ (fun c68 => ?_) (fun c68 => ?_)
        · refine lv_aload_n hx hb dX11_fillBy_157 rfl (lv_at hl 2 rfl) ?_
          refine va_get (D := gD g) (ci := 10) (v := .ref (ad 14)) (C := RX11) (T := TX11) (N := 29) hx hb htl ck_X11 hown hKK.k hP 0 rfl rfl 19 (by decide) (htl _ wd_6_5) (fun _ h9 => h9) rfl dX11_fillBy_158 ?_
          refine lv_iload_n hx hb dX11_fillBy_161 rfl (lv_at hl 3 rfl) ?_
          refine lv_iload_n hx hb dX11_fillBy_162 rfl (lv_at hl 5 rfl) ?_
          refine jr_bipush hx hb dX11_fillBy_163 (by decide) ?_
          refine jr_ne (tgt := 173) hx hb dX11_fillBy_165 (by decide) ⟨by omega, by omega⟩ ⟨by omega, by omega⟩ (fun c165 => ?_) (fun c165 => ?_)
          · refine jr_bipush hx hb dX11_fillBy_173 (by decide) ?_
            refine jr_cast hx hb hKK.k hP hD hS 7 rfl s0 (by omega) (by omega) (by omega) (by omega) (by omega) dX11_fillBy_175 (fun H locs hP hD hS => ?_)
            have hP : PP g [ob (ad 0) 10 [vi th, .ref (ad 1), vi dn, .ref (ad 2), .ref (ad 3), vi nt, .ref (ad 4), .ref (ad 5), .ref (ad 6), vi tn, vi nu, .ref (ad 7), .ref (ad 8), .ref (ad 9), .ref (ad 10), .ref (ad 11), .ref (ad 12), vi ns, .ref (ad 13), .ref (ad 14), .ref (ad 15), .ref (ad 16), .ref (ad 17), .ref (ad 18), .ref (ad 19), vi tz, .ref (ad 20), .ref (ad 21), .ref (ad 22)], aI g (ad 7) 2400 f7, aI g (ad 8) 40 f8, aI g (ad 9) 2400 f9, aI g (ad 10) 40 f10, aI g (ad 12) 60 f12, aI g (ad 13) 61 f13, aC g (ad 14) 60 (ju f14 s0 102), aI g (ad 15) 60 f15, aI g (ad 16) 60 f16, aI g (ad 17) 3600 h, aI g (ad 18) 60 (ju f18 s0 (f10 u))] H := hP
            have hD : va_D A [ob (ad 0) 10 [vi th, .ref (ad 1), vi dn, .ref (ad 2), .ref (ad 3), vi nt, .ref (ad 4), .ref (ad 5), .ref (ad 6), vi tn, vi nu, .ref (ad 7), .ref (ad 8), .ref (ad 9), .ref (ad 10), .ref (ad 11), .ref (ad 12), vi ns, .ref (ad 13), .ref (ad 14), .ref (ad 15), .ref (ad 16), .ref (ad 17), .ref (ad 18), .ref (ad 19), vi tz, .ref (ad 20), .ref (ad 21), .ref (ad 22)], aI g (ad 7) 2400 f7, aI g (ad 8) 40 f8, aI g (ad 9) 2400 f9, aI g (ad 10) 40 f10, aI g (ad 12) 60 f12, aI g (ad 13) 61 f13, aC g (ad 14) 60 (ju f14 s0 102), aI g (ad 15) 60 f15, aI g (ad 16) 60 f16, aI g (ad 17) 3600 h, aI g (ad 18) 60 (ju f18 s0 (f10 u))] := hD
            refine lv_aload_n hx hb dX11_fillBy_176 rfl (lv_at hl 2 rfl) ?_
            refine va_get (D := gD g) (ci := 10) (v := .ref (ad 15)) (C := RX11) (T := TX11) (N := 29) hx hb htl ck_X11 hown hKK.k hP 0 rfl rfl 20 (by decide) (htl _ wd_6_6) (fun _ h9 => h9) rfl dX11_fillBy_177 ?_
            refine lv_iload_n hx hb dX11_fillBy_180 rfl (lv_at hl 3 rfl) ?_
            refine lv_iload_n hx hb dX11_fillBy_181 rfl (lv_at hl 4 rfl) ?_
            refine jr_iast hx hb hKK.k hP hD hS 8 rfl s0 (by omega) (by omega) (by omega) dX11_fillBy_182 (fun H locs hP hD hS => ?_)
            have hP : PP g [ob (ad 0) 10 [vi th, .ref (ad 1), vi dn, .ref (ad 2), .ref (ad 3), vi nt, .ref (ad 4), .ref (ad 5), .ref (ad 6), vi tn, vi nu, .ref (ad 7), .ref (ad 8), .ref (ad 9), .ref (ad 10), .ref (ad 11), .ref (ad 12), vi ns, .ref (ad 13), .ref (ad 14), .ref (ad 15), .ref (ad 16), .ref (ad 17), .ref (ad 18), .ref (ad 19), vi tz, .ref (ad 20), .ref (ad 21), .ref (ad 22)], aI g (ad 7) 2400 f7, aI g (ad 8) 40 f8, aI g (ad 9) 2400 f9, aI g (ad 10) 40 f10, aI g (ad 12) 60 f12, aI g (ad 13) 61 f13, aC g (ad 14) 60 (ju f14 s0 102), aI g (ad 15) 60 (ju f15 s0 (u : Int)), aI g (ad 16) 60 f16, aI g (ad 17) 3600 h, aI g (ad 18) 60 (ju f18 s0 (f10 u))] H := hP
            have hD : va_D A [ob (ad 0) 10 [vi th, .ref (ad 1), vi dn, .ref (ad 2), .ref (ad 3), vi nt, .ref (ad 4), .ref (ad 5), .ref (ad 6), vi tn, vi nu, .ref (ad 7), .ref (ad 8), .ref (ad 9), .ref (ad 10), .ref (ad 11), .ref (ad 12), vi ns, .ref (ad 13), .ref (ad 14), .ref (ad 15), .ref (ad 16), .ref (ad 17), .ref (ad 18), .ref (ad 19), vi tz, .ref (ad 20), .ref (ad 21), .ref (ad 22)], aI g (ad 7) 2400 f7, aI g (ad 8) 40 f8, aI g (ad 9) 2400 f9, aI g (ad 10) 40 f10, aI g (ad 12) 60 f12, aI g (ad 13) 61 f13, aC g (ad 14) 60 (ju f14 s0 102), aI g (ad 15) 60 (ju f15 s0 (u : Int)), aI g (ad 16) 60 f16, aI g (ad 17) 3600 h, aI g (ad 18) 60 (ju f18 s0 (f10 u))] := hD
            refine lv_aload_n hx hb dX11_fillBy_183 rfl (lv_at hl 2 rfl) ?_
            refine va_get (D := gD g) (ci := 10) (v := .ref (ad 16)) (C := RX11) (T := TX11) (N := 29) hx hb htl ck_X11 hown hKK.k hP 0 rfl rfl 21 (by decide) (htl _ wd_6_7) (fun _ h9 => h9) rfl dX11_fillBy_184 ?_
            refine lv_iload_n hx hb dX11_fillBy_187 rfl (lv_at hl 3 rfl) ?_
            refine lv_iload_n hx hb dX11_fillBy_188 rfl (lv_at hl 5 rfl) ?_
            refine jr_iast hx hb hKK.k hP hD hS 9 rfl s0 (by omega) (by omega) (by omega) dX11_fillBy_189 (fun H locs hP hD hS => ?_)
            have hP : PP g [ob (ad 0) 10 [vi th, .ref (ad 1), vi dn, .ref (ad 2), .ref (ad 3), vi nt, .ref (ad 4), .ref (ad 5), .ref (ad 6), vi tn, vi nu, .ref (ad 7), .ref (ad 8), .ref (ad 9), .ref (ad 10), .ref (ad 11), .ref (ad 12), vi ns, .ref (ad 13), .ref (ad 14), .ref (ad 15), .ref (ad 16), .ref (ad 17), .ref (ad 18), .ref (ad 19), vi tz, .ref (ad 20), .ref (ad 21), .ref (ad 22)], aI g (ad 7) 2400 f7, aI g (ad 8) 40 f8, aI g (ad 9) 2400 f9, aI g (ad 10) 40 f10, aI g (ad 12) 60 f12, aI g (ad 13) 61 f13, aC g (ad 14) 60 (ju f14 s0 102), aI g (ad 15) 60 (ju f15 s0 (u : Int)), aI g (ad 16) 60 (ju f16 s0 sc), aI g (ad 17) 3600 h, aI g (ad 18) 60 (ju f18 s0 (f10 u))] H := hP
            have hD : va_D A [ob (ad 0) 10 [vi th, .ref (ad 1), vi dn, .ref (ad 2), .ref (ad 3), vi nt, .ref (ad 4), .ref (ad 5), .ref (ad 6), vi tn, vi nu, .ref (ad 7), .ref (ad 8), .ref (ad 9), .ref (ad 10), .ref (ad 11), .ref (ad 12), vi ns, .ref (ad 13), .ref (ad 14), .ref (ad 15), .ref (ad 16), .ref (ad 17), .ref (ad 18), .ref (ad 19), vi tz, .ref (ad 20), .ref (ad 21), .ref (ad 22)], aI g (ad 7) 2400 f7, aI g (ad 8) 40 f8, aI g (ad 9) 2400 f9, aI g (ad 10) 40 f10, aI g (ad 12) 60 f12, aI g (ad 13) 61 f13, aC g (ad 14) 60 (ju f14 s0 102), aI g (ad 15) 60 (ju f15 s0 (u : Int)), aI g (ad 16) 60 (ju f16 s0 sc), aI g (ad 17) 3600 h, aI g (ad 18) 60 (ju f18 s0 (f10 u))] := hD
            exact je_Qv hx hb hr hlk hS (by rw [show (if sc = 100 then (120 : Int) else 102) = 102 from if_neg c165]; exact ⟨h, hE, ⟨by rw [fl1_len]; exact hyl, fun j hj => ⟨hF j (by rw [fl1_len] at hj; omega), hB j (by rw [fl1_len] at hj; omega)⟩⟩, hP⟩) dX11_fillBy_190
          · refine jr_bipush hx hb dX11_fillBy_168 (by decide) ?_
            refine lv_goto (tgt := 175) hx hb dX11_fillBy_170 (by decide) ?_
            refine jr_cast hx hb hKK.k hP hD hS 7 rfl s0 (by omega) (by omega) (by omega) (by omega) (by omega) dX11_fillBy_175 (fun H locs hP hD hS => ?_)
            have hP : PP g [ob (ad 0) 10 [vi th, .ref (ad 1), vi dn, .ref (ad 2), .ref (ad 3), vi nt, .ref (ad 4), .ref (ad 5), .ref (ad 6), vi tn, vi nu, .ref (ad 7), .ref (ad 8), .ref (ad 9), .ref (ad 10), .ref (ad 11), .ref (ad 12), vi ns, .ref (ad 13), .ref (ad 14), .ref (ad 15), .ref (ad 16), .ref (ad 17), .ref (ad 18), .ref (ad 19), vi tz, .ref (ad 20), .ref (ad 21), .ref (ad 22)], aI g (ad 7) 2400 f7, aI g (ad 8) 40 f8, aI g (ad 9) 2400 f9, aI g (ad 10) 40 f10, aI g (ad 12) 60 f12, aI g (ad 13) 61 f13, aC g (ad 14) 60 (ju f14 s0 120), aI g (ad 15) 60 f15, aI g (ad 16) 60 f16, aI g (ad 17) 3600 h, aI g (ad 18) 60 (ju f18 s0 (f10 u))] H := hP
            have hD : va_D A [ob (ad 0) 10 [vi th, .ref (ad 1), vi dn, .ref (ad 2), .ref (ad 3), vi nt, .ref (ad 4), .ref (ad 5), .ref (ad 6), vi tn, vi nu, .ref (ad 7), .ref (ad 8), .ref (ad 9), .ref (ad 10), .ref (ad 11), .ref (ad 12), vi ns, .ref (ad 13), .ref (ad 14), .ref (ad 15), .ref (ad 16), .ref (ad 17), .ref (ad 18), .ref (ad 19), vi tz, .ref (ad 20), .ref (ad 21), .ref (ad 22)], aI g (ad 7) 2400 f7, aI g (ad 8) 40 f8, aI g (ad 9) 2400 f9, aI g (ad 10) 40 f10, aI g (ad 12) 60 f12, aI g (ad 13) 61 f13, aC g (ad 14) 60 (ju f14 s0 120), aI g (ad 15) 60 f15, aI g (ad 16) 60 f16, aI g (ad 17) 3600 h, aI g (ad 18) 60 (ju f18 s0 (f10 u))] := hD
            refine lv_aload_n hx hb dX11_fillBy_176 rfl (lv_at hl 2 rfl) ?_
            refine va_get (D := gD g) (ci := 10) (v := .ref (ad 15)) (C := RX11) (T := TX11) (N := 29) hx hb htl ck_X11 hown hKK.k hP 0 rfl rfl 20 (by decide) (htl _ wd_6_6) (fun _ h9 => h9) rfl dX11_fillBy_177 ?_
            refine lv_iload_n hx hb dX11_fillBy_180 rfl (lv_at hl 3 rfl) ?_
            refine lv_iload_n hx hb dX11_fillBy_181 rfl (lv_at hl 4 rfl) ?_
            refine jr_iast hx hb hKK.k hP hD hS 8 rfl s0 (by omega) (by omega) (by omega) dX11_fillBy_182 (fun H locs hP hD hS => ?_)
            have hP : PP g [ob (ad 0) 10 [vi th, .ref (ad 1), vi dn, .ref (ad 2), .ref (ad 3), vi nt, .ref (ad 4), .ref (ad 5), .ref (ad 6), vi tn, vi nu, .ref (ad 7), .ref (ad 8), .ref (ad 9), .ref (ad 10), .ref (ad 11), .ref (ad 12), vi ns, .ref (ad 13), .ref (ad 14), .ref (ad 15), .ref (ad 16), .ref (ad 17), .ref (ad 18), .ref (ad 19), vi tz, .ref (ad 20), .ref (ad 21), .ref (ad 22)], aI g (ad 7) 2400 f7, aI g (ad 8) 40 f8, aI g (ad 9) 2400 f9, aI g (ad 10) 40 f10, aI g (ad 12) 60 f12, aI g (ad 13) 61 f13, aC g (ad 14) 60 (ju f14 s0 120), aI g (ad 15) 60 (ju f15 s0 (u : Int)), aI g (ad 16) 60 f16, aI g (ad 17) 3600 h, aI g (ad 18) 60 (ju f18 s0 (f10 u))] H := hP
            have hD : va_D A [ob (ad 0) 10 [vi th, .ref (ad 1), vi dn, .ref (ad 2), .ref (ad 3), vi nt, .ref (ad 4), .ref (ad 5), .ref (ad 6), vi tn, vi nu, .ref (ad 7), .ref (ad 8), .ref (ad 9), .ref (ad 10), .ref (ad 11), .ref (ad 12), vi ns, .ref (ad 13), .ref (ad 14), .ref (ad 15), .ref (ad 16), .ref (ad 17), .ref (ad 18), .ref (ad 19), vi tz, .ref (ad 20), .ref (ad 21), .ref (ad 22)], aI g (ad 7) 2400 f7, aI g (ad 8) 40 f8, aI g (ad 9) 2400 f9, aI g (ad 10) 40 f10, aI g (ad 12) 60 f12, aI g (ad 13) 61 f13, aC g (ad 14) 60 (ju f14 s0 120), aI g (ad 15) 60 (ju f15 s0 (u : Int)), aI g (ad 16) 60 f16, aI g (ad 17) 3600 h, aI g (ad 18) 60 (ju f18 s0 (f10 u))] := hD
            refine lv_aload_n hx hb dX11_fillBy_183 rfl (lv_at hl 2 rfl) ?_
            refine va_get (D := gD g) (ci := 10) (v := .ref (ad 16)) (C := RX11) (T := TX11) (N := 29) hx hb htl ck_X11 hown hKK.k hP 0 rfl rfl 21 (by decide) (htl _ wd_6_7) (fun _ h9 => h9) rfl dX11_fillBy_184 ?_
            refine lv_iload_n hx hb dX11_fillBy_187 rfl (lv_at hl 3 rfl) ?_
            refine lv_iload_n hx hb dX11_fillBy_188 rfl (lv_at hl 5 rfl) ?_
            refine jr_iast hx hb hKK.k hP hD hS 9 rfl s0 (by omega) (by omega) (by omega) dX11_fillBy_189 (fun H locs hP hD hS => ?_)
            have hP : PP g [ob (ad 0) 10 [vi th, .ref (ad 1), vi dn, .ref (ad 2), .ref (ad 3), vi nt, .ref (ad 4), .ref (ad 5), .ref (ad 6), vi tn, vi nu, .ref (ad 7), .ref (ad 8), .ref (ad 9), .ref (ad 10), .ref (ad 11), .ref (ad 12), vi ns, .ref (ad 13), .ref (ad 14), .ref (ad 15), .ref (ad 16), .ref (ad 17), .ref (ad 18), .ref (ad 19), vi tz, .ref (ad 20), .ref (ad 21), .ref (ad 22)], aI g (ad 7) 2400 f7, aI g (ad 8) 40 f8, aI g (ad 9) 2400 f9, aI g (ad 10) 40 f10, aI g (ad 12) 60 f12, aI g (ad 13) 61 f13, aC g (ad 14) 60 (ju f14 s0 120), aI g (ad 15) 60 (ju f15 s0 (u : Int)), aI g (ad 16) 60 (ju f16 s0 sc), aI g (ad 17) 3600 h, aI g (ad 18) 60 (ju f18 s0 (f10 u))] H := hP
            have hD : va_D A [ob (ad 0) 10 [vi th, .ref (ad 1), vi dn, .ref (ad 2), .ref (ad 3), vi nt, .ref (ad 4), .ref (ad 5), .ref (ad 6), vi tn, vi nu, .ref (ad 7), .ref (ad 8), .ref (ad 9), .ref (ad 10), .ref (ad 11), .ref (ad 12), vi ns, .ref (ad 13), .ref (ad 14), .ref (ad 15), .ref (ad 16), .ref (ad 17), .ref (ad 18), .ref (ad 19), vi tz, .ref (ad 20), .ref (ad 21), .ref (ad 22)], aI g (ad 7) 2400 f7, aI g (ad 8) 40 f8, aI g (ad 9) 2400 f9, aI g (ad 10) 40 f10, aI g (ad 12) 60 f12, aI g (ad 13) 61 f13, aC g (ad 14) 60 (ju f14 s0 120), aI g (ad 15) 60 (ju f15 s0 (u : Int)), aI g (ad 16) 60 (ju f16 s0 sc), aI g (ad 17) 3600 h, aI g (ad 18) 60 (ju f18 s0 (f10 u))] := hD
            exact je_Qv hx hb hr hlk hS (by rw [show (if sc = 100 then (120 : Int) else 102) = 120 from if_pos c165]; exact ⟨h, hE, ⟨by rw [fl1_len]; exact hyl, fun j hj => ⟨hF j (by rw [fl1_len] at hj; omega), hB j (by rw [fl1_len] at hj; omega)⟩⟩, hP⟩) dX11_fillBy_190
        · refine lv_aload_n hx hb dX11_fillBy_71 rfl (lv_at hl 2 rfl) ?_
          refine va_get (D := gD g) (ci := 10) (v := .ref (ad 9)) (C := RX11) (T := TX11) (N := 29) hx hb htl ck_X11 hown hKK.k hP 0 rfl rfl 13 (by decide) (htl _ wd_5_23) (fun _ h9 => h9) rfl dX11_fillBy_72 ?_
          refine jr_bipush hx hb dX11_fillBy_75 (by decide) ?_
          refine lv_iload_n hx hb dX11_fillBy_77 rfl (lv_at hl 4 rfl) ?_
          refine jr_imul hx hb dX11_fillBy_78 ?_
          refine lv_iload hx hb dX11_fillBy_79 (lv_at hl 0 rfl) ?_
          refine jr_iadd hx hb dX11_fillBy_81 ?_
          refine jr_iald hx hb hKK.k hP 3 rfl (60 * u + i) (by omega) (by omega) (by omega) dX11_fillBy_82 ?_
          have tby := hy.b (j := i) (by omega)
          have hky := kd_n tby.1
          refine jr_nm (b := (y.getD i 0)) (hy.at (by omega)) ?_
          refine lv_istore (lv' := [(6, vi (y.getD i 0)), (5, vi (i : Int)), (4, vi 0), (0, .ref (ad 0)), (1, vi (s0 : Int)), (2, vi (u : Int)), (3, vi sc)]) hx hb dX11_fillBy_83 hl (by decide) rfl (fun ls hl => ?_)
          refine lv_iload hx hb dX11_fillBy_85 (lv_at hl 2 rfl) ?_
          refine jr_ifeq (tgt := 110) hx hb dX11_fillBy_87 (by decide) ⟨by omega, by omega⟩ (fun c87 => ?_) (fun c87 => absurd c87 (by omega))
          refine jr_iconst hx hb dX11_fillBy_110 ?_
          refine lv_istore (lv' := [(7, vi (-1)), (6, vi (y.getD i 0)), (5, vi (i : Int)), (4, vi 0), (0, .ref (ad 0)), (1, vi (s0 : Int)), (2, vi (u : Int)), (3, vi sc)]) hx hb dX11_fillBy_111 hl (by decide) rfl (fun ls hl => ?_)
          refine lv_aload_n hx hb dX11_fillBy_113 rfl (lv_at hl 4 rfl) ?_
          refine va_get (D := gD g) (ci := 10) (v := .ref (ad 17)) (C := RX11) (T := TX11) (N := 29) hx hb htl ck_X11 hown hKK.k hP 0 rfl rfl 22 (by decide) (htl _ wd_6_8) (fun _ h9 => h9) rfl dX11_fillBy_114 ?_
          refine jr_bipush hx hb dX11_fillBy_117 (by decide) ?_
          refine lv_iload_n hx hb dX11_fillBy_119 rfl (lv_at hl 5 rfl) ?_
          refine jr_imul hx hb dX11_fillBy_120 ?_
          refine lv_iload hx hb dX11_fillBy_121 (lv_at hl 2 rfl) ?_
          refine jr_iadd hx hb dX11_fillBy_123 ?_
          refine lv_iload hx hb dX11_fillBy_124 (lv_at hl 0 rfl) ?_
          refine jr_iconst hx hb dX11_fillBy_126 ?_
          refine jr_ne (tgt := 135) hx hb dX11_fillBy_127 (by decide) ⟨by omega, by omega⟩ ⟨by omega, by omega⟩ (fun c127 => absurd c127 (by omega)) (fun c127 => ?_)
          refine lv_iload hx hb dX11_fillBy_130 (lv_at hl 1 rfl) ?_
          refine lv_goto (tgt := 150) hx hb dX11_fillBy_132 (by decide) ?_
          refine jr_iast hx hb hKK.k hP hD hS 10 rfl (60 * s0 + i) (by omega) (by omega) (by omega) dX11_fillBy_150 (fun H locs hP hD hS => ?_)
          have hP : PP g [ob (ad 0) 10 [vi th, .ref (ad 1), vi dn, .ref (ad 2), .ref (ad 3), vi nt, .ref (ad 4), .ref (ad 5), .ref (ad 6), vi tn, vi nu, .ref (ad 7), .ref (ad 8), .ref (ad 9), .ref (ad 10), .ref (ad 11), .ref (ad 12), vi ns, .ref (ad 13), .ref (ad 14), .ref (ad 15), .ref (ad 16), .ref (ad 17), .ref (ad 18), .ref (ad 19), vi tz, .ref (ad 20), .ref (ad 21), .ref (ad 22)], aI g (ad 7) 2400 f7, aI g (ad 8) 40 f8, aI g (ad 9) 2400 f9, aI g (ad 10) 40 f10, aI g (ad 12) 60 f12, aI g (ad 13) 61 f13, aC g (ad 14) 60 f14, aI g (ad 15) 60 f15, aI g (ad 16) 60 f16, aI g (ad 17) 3600 (ju h (60 * s0 + i) (y.getD i 0)), aI g (ad 18) 60 (ju f18 s0 (f10 u))] H := hP
          have hD : va_D A [ob (ad 0) 10 [vi th, .ref (ad 1), vi dn, .ref (ad 2), .ref (ad 3), vi nt, .ref (ad 4), .ref (ad 5), .ref (ad 6), vi tn, vi nu, .ref (ad 7), .ref (ad 8), .ref (ad 9), .ref (ad 10), .ref (ad 11), .ref (ad 12), vi ns, .ref (ad 13), .ref (ad 14), .ref (ad 15), .ref (ad 16), .ref (ad 17), .ref (ad 18), .ref (ad 19), vi tz, .ref (ad 20), .ref (ad 21), .ref (ad 22)], aI g (ad 7) 2400 f7, aI g (ad 8) 40 f8, aI g (ad 9) 2400 f9, aI g (ad 10) 40 f10, aI g (ad 12) 60 f12, aI g (ad 13) 61 f13, aC g (ad 14) 60 f14, aI g (ad 15) 60 f15, aI g (ad 16) 60 f16, aI g (ad 17) 3600 (ju h (60 * s0 + i) (y.getD i 0)), aI g (ad 18) 60 (ju f18 s0 (f10 u))] := hD
          refine jr_iinc (lv' := [(5, vi ((i : Int) + 1)), (7, vi (-1)), (6, vi (y.getD i 0)), (4, vi 0), (0, .ref (ad 0)), (1, vi (s0 : Int)), (2, vi (u : Int)), (3, vi sc)]) hx hb dX11_fillBy_151 hl (k := 2) rfl rfl (by decide) rfl (fun ls hl => ?_)
          refine lv_goto (tgt := 60) hx hb dX11_fillBy_154 (by decide) ?_
          have hv9 : (y.getD i 0) = (fl1 t x y).getD i 0 := by rw [hfl]
          have hvb : 0 ≤ (y.getD i 0) ∧ (y.getD i 0) < 40000 := by omega
          obtain ⟨hF9, hE9⟩ := row_s (v := (y.getD i 0)) hF hE (by omega) hv9
          exact ih60 (i + 1) _ (by omega) (hF9) (hE9) (fun j hj => by by_cases e9 : j = i; subst e9; rw [← hv9]; exact hvb; exact hB j (by omega)) (by omega) _ _ hP hD hS ls (lv_sub hl [0, 3, 4, 5, 6, 7] rfl)
    exact lp60 _ 0 f17 (Nat.zero_le _) (fun j hj => absurd hj (Nat.not_lt_zero _)) (fun _ _ => rfl) (fun j hj => absurd hj (Nat.not_lt_zero _)) (Nat.lt_succ_self _) _ _ hP hD hS ls (lv_sub hl [0, 1, 2, 3, 4, 5] rfl)
  · have hfl : fl1 t x y = y.map (ad1 t x) := if_pos c35
    refine jr_iconst hx hb dX11_fillBy_38 ?_
    refine lv_goto (tgt := 43) hx hb dX11_fillBy_39 (by decide) ?_
    refine lv_istore (lv' := [(4, vi 1), (0, .ref (ad 0)), (1, vi (s0 : Int)), (2, vi (u : Int)), (3, vi sc)]) hx hb dX11_fillBy_43 hl (by decide) rfl (fun ls hl => ?_)
    refine lv_aload_n hx hb dX11_fillBy_45 rfl (lv_at hl 1 rfl) ?_
    refine va_get (D := gD g) (ci := 10) (v := .ref (ad 18)) (C := RX11) (T := TX11) (N := 29) hx hb htl ck_X11 hown hKK.k hP 0 rfl rfl 23 (by decide) (htl _ wd_6_9) (fun _ h9 => h9) rfl dX11_fillBy_46 ?_
    refine lv_iload_n hx hb dX11_fillBy_49 rfl (lv_at hl 2 rfl) ?_
    refine lv_aload_n hx hb dX11_fillBy_50 rfl (lv_at hl 1 rfl) ?_
    refine va_get (D := gD g) (ci := 10) (v := .ref (ad 10)) (C := RX11) (T := TX11) (N := 29) hx hb htl ck_X11 hown hKK.k hP 0 rfl rfl 14 (by decide) (htl _ wd_6_0) (fun _ h9 => h9) rfl dX11_fillBy_51 ?_
    refine lv_iload_n hx hb dX11_fillBy_54 rfl (lv_at hl 3 rfl) ?_
    refine jr_iald hx hb hKK.k hP 4 rfl u (by omega) (by omega) (by omega) dX11_fillBy_55 ?_
    refine jr_iast hx hb hKK.k hP hD hS 11 rfl s0 (by omega) (by omega) (by omega) dX11_fillBy_56 (fun H locs hP hD hS => ?_)
    have hP : PP g [ob (ad 0) 10 [vi th, .ref (ad 1), vi dn, .ref (ad 2), .ref (ad 3), vi nt, .ref (ad 4), .ref (ad 5), .ref (ad 6), vi tn, vi nu, .ref (ad 7), .ref (ad 8), .ref (ad 9), .ref (ad 10), .ref (ad 11), .ref (ad 12), vi ns, .ref (ad 13), .ref (ad 14), .ref (ad 15), .ref (ad 16), .ref (ad 17), .ref (ad 18), .ref (ad 19), vi tz, .ref (ad 20), .ref (ad 21), .ref (ad 22)], aI g (ad 7) 2400 f7, aI g (ad 8) 40 f8, aI g (ad 9) 2400 f9, aI g (ad 10) 40 f10, aI g (ad 12) 60 f12, aI g (ad 13) 61 f13, aC g (ad 14) 60 f14, aI g (ad 15) 60 f15, aI g (ad 16) 60 f16, aI g (ad 17) 3600 f17, aI g (ad 18) 60 (ju f18 s0 (f10 u))] H := hP
    have hD : va_D A [ob (ad 0) 10 [vi th, .ref (ad 1), vi dn, .ref (ad 2), .ref (ad 3), vi nt, .ref (ad 4), .ref (ad 5), .ref (ad 6), vi tn, vi nu, .ref (ad 7), .ref (ad 8), .ref (ad 9), .ref (ad 10), .ref (ad 11), .ref (ad 12), vi ns, .ref (ad 13), .ref (ad 14), .ref (ad 15), .ref (ad 16), .ref (ad 17), .ref (ad 18), .ref (ad 19), vi tz, .ref (ad 20), .ref (ad 21), .ref (ad 22)], aI g (ad 7) 2400 f7, aI g (ad 8) 40 f8, aI g (ad 9) 2400 f9, aI g (ad 10) 40 f10, aI g (ad 12) 60 f12, aI g (ad 13) 61 f13, aC g (ad 14) 60 f14, aI g (ad 15) 60 f15, aI g (ad 16) 60 f16, aI g (ad 17) 3600 f17, aI g (ad 18) 60 (ju f18 s0 (f10 u))] := hD
    refine jr_iconst hx hb dX11_fillBy_57 ?_
    refine lv_istore (lv' := [(5, vi 0), (4, vi 1), (0, .ref (ad 0)), (1, vi (s0 : Int)), (2, vi (u : Int)), (3, vi sc)]) hx hb dX11_fillBy_58 hl (by decide) rfl (fun ls hl => ?_)
    have lp60 : ∀ (N : Nat) (i : Nat) (h : Nat → Int), (i ≤ y.length) → (∀ j, j < i → h (60 * s0 + j) = (fl1 t x y).getD j 0) → (∀ q, q < 60 * s0 ∨ 60 * s0 + 60 ≤ q → h q = f17 q) → (∀ j, j < i → 0 ≤ (fl1 t x y).getD j 0 ∧ (fl1 t x y).getD j 0 < 40000) → y.length - i < N → ∀ (H : Heap) (locs : List Loc), PP g [ob (ad 0) 10 [vi th, .ref (ad 1), vi dn, .ref (ad 2), .ref (ad 3), vi nt, .ref (ad 4), .ref (ad 5), .ref (ad 6), vi tn, vi nu, .ref (ad 7), .ref (ad 8), .ref (ad 9), .ref (ad 10), .ref (ad 11), .ref (ad 12), vi ns, .ref (ad 13), .ref (ad 14), .ref (ad 15), .ref (ad 16), .ref (ad 17), .ref (ad 18), .ref (ad 19), vi tz, .ref (ad 20), .ref (ad 21), .ref (ad 22)], aI g (ad 7) 2400 f7, aI g (ad 8) 40 f8, aI g (ad 9) 2400 f9, aI g (ad 10) 40 f10, aI g (ad 12) 60 f12, aI g (ad 13) 61 f13, aC g (ad 14) 60 f14, aI g (ad 15) 60 f15, aI g (ad 16) 60 f16, aI g (ad 17) 3600 h, aI g (ad 18) 60 (ju f18 s0 (f10 u))] H → va_D A [ob (ad 0) 10 [vi th, .ref (ad 1), vi dn, .ref (ad 2), .ref (ad 3), vi nt, .ref (ad 4), .ref (ad 5), .ref (ad 6), vi tn, vi nu, .ref (ad 7), .ref (ad 8), .ref (ad 9), .ref (ad 10), .ref (ad 11), .ref (ad 12), vi ns, .ref (ad 13), .ref (ad 14), .ref (ad 15), .ref (ad 16), .ref (ad 17), .ref (ad 18), .ref (ad 19), vi tz, .ref (ad 20), .ref (ad 21), .ref (ad 22)], aI g (ad 7) 2400 f7, aI g (ad 8) 40 f8, aI g (ad 9) 2400 f9, aI g (ad 10) 40 f10, aI g (ad 12) 60 f12, aI g (ad 13) 61 f13, aC g (ad 14) 60 f14, aI g (ad 15) 60 f15, aI g (ad 16) 60 f16, aI g (ad 17) 3600 h, aI g (ad 18) 60 (ju f18 s0 (f10 u))] → va_S A s.heap H locs → ∀ ls : Array Slot, lv_has ls 8 [(5, vi (i : Int)), (4, vi 1), (0, .ref (ad 0)), (1, vi (s0 : Int)), (2, vi (u : Int)), (3, vi sc)] → W p l e (rmm 3 0 0) s m ([.ref (ad 0), vi (s0 : Int), vi (u : Int), vi sc] : List Value).toArray below meth cq H locs 0 0 (MQ below (jQv (fun H1 => ∃ g17 : Nat → Int, (∀ q, q < 60 * s0 ∨ 60 * s0 + 60 ≤ q → g17 q = f17 q) ∧ RWS g17 (60 * s0) (fl1 t x y) ∧ PP g [ob (ad 0) 10 [vi th, .ref (ad 1), vi dn, .ref (ad 2), .ref (ad 3), vi nt, .ref (ad 4), .ref (ad 5), .ref (ad 6), vi tn, vi nu, .ref (ad 7), .ref (ad 8), .ref (ad 9), .ref (ad 10), .ref (ad 11), .ref (ad 12), vi ns, .ref (ad 13), .ref (ad 14), .ref (ad 15), .ref (ad 16), .ref (ad 17), .ref (ad 18), .ref (ad 19), vi tz, .ref (ad 20), .ref (ad 21), .ref (ad 22)], aI g (ad 7) 2400 f7, aI g (ad 8) 40 f8, aI g (ad 9) 2400 f9, aI g (ad 10) 40 f10, aI g (ad 12) 60 f12, aI g (ad 13) 61 f13, aC g (ad 14) 60 (ju f14 s0 (if sc = 100 then 120 else 102)), aI g (ad 15) 60 (ju f15 s0 (u : Int)), aI g (ad 16) 60 (ju f16 s0 sc), aI g (ad 17) 3600 g17, aI g (ad 18) 60 (ju f18 s0 (f10 u))] H1) A) ([.ref (ad 0), vi (s0 : Int), vi (u : Int), vi sc] : List Value).toArray s 0 0 A) (F0 m 60 ls []) := by
      intro N
      induction N with
      | zero => intro i h hi hF hE hB hM; exact absurd hM (Nat.not_lt_zero _)
      | succ N ih60 =>
        intro i h hi hF hE hB hM H locs hP hD hS ls hl
        refine lv_iload hx hb dX11_fillBy_60 (lv_at hl 0 rfl) ?_
        refine lv_aload_n hx hb dX11_fillBy_62 rfl (lv_at hl 2 rfl) ?_
        refine va_get (D := gD g) (ci := 10) (v := .ref (ad 10)) (C := RX11) (T := TX11) (N := 29) hx hb htl ck_X11 hown hKK.k hP 0 rfl rfl 14 (by decide) (htl _ wd_6_0) (fun _ h9 => h9) rfl dX11_fillBy_63 ?_
        refine lv_iload_n hx hb dX11_fillBy_66 rfl (lv_at hl 4 rfl) ?_
        refine jr_iald hx hb hKK.k hP 4 rfl u (by omega) (by omega) (by omega) dX11_fillBy_67 ?_
        refine jr_nm (b := (y.length : Int)) (h10) ?_
        refine jr_ge (tgt := 157) hx hb dX11_fillBy_68 (by decide) ⟨by omega, by omega⟩ ⟨by omega, by omega⟩ (fun c68 => ?_) (fun c68 => ?_)
        · refine lv_aload_n hx hb dX11_fillBy_157 rfl (lv_at hl 2 rfl) ?_
          refine va_get (D := gD g) (ci := 10) (v := .ref (ad 14)) (C := RX11) (T := TX11) (N := 29) hx hb htl ck_X11 hown hKK.k hP 0 rfl rfl 19 (by decide) (htl _ wd_6_5) (fun _ h9 => h9) rfl dX11_fillBy_158 ?_
          refine lv_iload_n hx hb dX11_fillBy_161 rfl (lv_at hl 3 rfl) ?_
          refine lv_iload_n hx hb dX11_fillBy_162 rfl (lv_at hl 5 rfl) ?_
          refine jr_bipush hx hb dX11_fillBy_163 (by decide) ?_
          refine jr_ne (tgt := 173) hx hb dX11_fillBy_165 (by decide) ⟨by omega, by omega⟩ ⟨by omega, by omega⟩ (fun c165 => ?_) (fun c165 => ?_)
          · refine jr_bipush hx hb dX11_fillBy_173 (by decide) ?_
            refine jr_cast hx hb hKK.k hP hD hS 7 rfl s0 (by omega) (by omega) (by omega) (by omega) (by omega) dX11_fillBy_175 (fun H locs hP hD hS => ?_)
            have hP : PP g [ob (ad 0) 10 [vi th, .ref (ad 1), vi dn, .ref (ad 2), .ref (ad 3), vi nt, .ref (ad 4), .ref (ad 5), .ref (ad 6), vi tn, vi nu, .ref (ad 7), .ref (ad 8), .ref (ad 9), .ref (ad 10), .ref (ad 11), .ref (ad 12), vi ns, .ref (ad 13), .ref (ad 14), .ref (ad 15), .ref (ad 16), .ref (ad 17), .ref (ad 18), .ref (ad 19), vi tz, .ref (ad 20), .ref (ad 21), .ref (ad 22)], aI g (ad 7) 2400 f7, aI g (ad 8) 40 f8, aI g (ad 9) 2400 f9, aI g (ad 10) 40 f10, aI g (ad 12) 60 f12, aI g (ad 13) 61 f13, aC g (ad 14) 60 (ju f14 s0 102), aI g (ad 15) 60 f15, aI g (ad 16) 60 f16, aI g (ad 17) 3600 h, aI g (ad 18) 60 (ju f18 s0 (f10 u))] H := hP
            have hD : va_D A [ob (ad 0) 10 [vi th, .ref (ad 1), vi dn, .ref (ad 2), .ref (ad 3), vi nt, .ref (ad 4), .ref (ad 5), .ref (ad 6), vi tn, vi nu, .ref (ad 7), .ref (ad 8), .ref (ad 9), .ref (ad 10), .ref (ad 11), .ref (ad 12), vi ns, .ref (ad 13), .ref (ad 14), .ref (ad 15), .ref (ad 16), .ref (ad 17), .ref (ad 18), .ref (ad 19), vi tz, .ref (ad 20), .ref (ad 21), .ref (ad 22)], aI g (ad 7) 2400 f7, aI g (ad 8) 40 f8, aI g (ad 9) 2400 f9, aI g (ad 10) 40 f10, aI g (ad 12) 60 f12, aI g (ad 13) 61 f13, aC g (ad 14) 60 (ju f14 s0 102), aI g (ad 15) 60 f15, aI g (ad 16) 60 f16, aI g (ad 17) 3600 h, aI g (ad 18) 60 (ju f18 s0 (f10 u))] := hD
            refine lv_aload_n hx hb dX11_fillBy_176 rfl (lv_at hl 2 rfl) ?_
            refine va_get (D := gD g) (ci := 10) (v := .ref (ad 15)) (C := RX11) (T := TX11) (N := 29) hx hb htl ck_X11 hown hKK.k hP 0 rfl rfl 20 (by decide) (htl _ wd_6_6) (fun _ h9 => h9) rfl dX11_fillBy_177 ?_
            refine lv_iload_n hx hb dX11_fillBy_180 rfl (lv_at hl 3 rfl) ?_
            refine lv_iload_n hx hb dX11_fillBy_181 rfl (lv_at hl 4 rfl) ?_
            refine jr_iast hx hb hKK.k hP hD hS 8 rfl s0 (by omega) (by omega) (by omega) dX11_fillBy_182 (fun H locs hP hD hS => ?_)
            have hP : PP g [ob (ad 0) 10 [vi th, .ref (ad 1), vi dn, .ref (ad 2), .ref (ad 3), vi nt, .ref (ad 4), .ref (ad 5), .ref (ad 6), vi tn, vi nu, .ref (ad 7), .ref (ad 8), .ref (ad 9), .ref (ad 10), .ref (ad 11), .ref (ad 12), vi ns, .ref (ad 13), .ref (ad 14), .ref (ad 15), .ref (ad 16), .ref (ad 17), .ref (ad 18), .ref (ad 19), vi tz, .ref (ad 20), .ref (ad 21), .ref (ad 22)], aI g (ad 7) 2400 f7, aI g (ad 8) 40 f8, aI g (ad 9) 2400 f9, aI g (ad 10) 40 f10, aI g (ad 12) 60 f12, aI g (ad 13) 61 f13, aC g (ad 14) 60 (ju f14 s0 102), aI g (ad 15) 60 (ju f15 s0 (u : Int)), aI g (ad 16) 60 f16, aI g (ad 17) 3600 h, aI g (ad 18) 60 (ju f18 s0 (f10 u))] H := hP
            have hD : va_D A [ob (ad 0) 10 [vi th, .ref (ad 1), vi dn, .ref (ad 2), .ref (ad 3), vi nt, .ref (ad 4), .ref (ad 5), .ref (ad 6), vi tn, vi nu, .ref (ad 7), .ref (ad 8), .ref (ad 9), .ref (ad 10), .ref (ad 11), .ref (ad 12), vi ns, .ref (ad 13), .ref (ad 14), .ref (ad 15), .ref (ad 16), .ref (ad 17), .ref (ad 18), .ref (ad 19), vi tz, .ref (ad 20), .ref (ad 21), .ref (ad 22)], aI g (ad 7) 2400 f7, aI g (ad 8) 40 f8, aI g (ad 9) 2400 f9, aI g (ad 10) 40 f10, aI g (ad 12) 60 f12, aI g (ad 13) 61 f13, aC g (ad 14) 60 (ju f14 s0 102), aI g (ad 15) 60 (ju f15 s0 (u : Int)), aI g (ad 16) 60 f16, aI g (ad 17) 3600 h, aI g (ad 18) 60 (ju f18 s0 (f10 u))] := hD
            refine lv_aload_n hx hb dX11_fillBy_183 rfl (lv_at hl 2 rfl) ?_
            refine va_get (D := gD g) (ci := 10) (v := .ref (ad 16)) (C := RX11) (T := TX11) (N := 29) hx hb htl ck_X11 hown hKK.k hP 0 rfl rfl 21 (by decide) (htl _ wd_6_7) (fun _ h9 => h9) rfl dX11_fillBy_184 ?_
            refine lv_iload_n hx hb dX11_fillBy_187 rfl (lv_at hl 3 rfl) ?_
            refine lv_iload_n hx hb dX11_fillBy_188 rfl (lv_at hl 5 rfl) ?_
            refine jr_iast hx hb hKK.k hP hD hS 9 rfl s0 (by omega) (by omega) (by omega) dX11_fillBy_189 (fun H locs hP hD hS => ?_)
            have hP : PP g [ob (ad 0) 10 [vi th, .ref (ad 1), vi dn, .ref (ad 2), .ref (ad 3), vi nt, .ref (ad 4), .ref (ad 5), .ref (ad 6), vi tn, vi nu, .ref (ad 7), .ref (ad 8), .ref (ad 9), .ref (ad 10), .ref (ad 11), .ref (ad 12), vi ns, .ref (ad 13), .ref (ad 14), .ref (ad 15), .ref (ad 16), .ref (ad 17), .ref (ad 18), .ref (ad 19), vi tz, .ref (ad 20), .ref (ad 21), .ref (ad 22)], aI g (ad 7) 2400 f7, aI g (ad 8) 40 f8, aI g (ad 9) 2400 f9, aI g (ad 10) 40 f10, aI g (ad 12) 60 f12, aI g (ad 13) 61 f13, aC g (ad 14) 60 (ju f14 s0 102), aI g (ad 15) 60 (ju f15 s0 (u : Int)), aI g (ad 16) 60 (ju f16 s0 sc), aI g (ad 17) 3600 h, aI g (ad 18) 60 (ju f18 s0 (f10 u))] H := hP
            have hD : va_D A [ob (ad 0) 10 [vi th, .ref (ad 1), vi dn, .ref (ad 2), .ref (ad 3), vi nt, .ref (ad 4), .ref (ad 5), .ref (ad 6), vi tn, vi nu, .ref (ad 7), .ref (ad 8), .ref (ad 9), .ref (ad 10), .ref (ad 11), .ref (ad 12), vi ns, .ref (ad 13), .ref (ad 14), .ref (ad 15), .ref (ad 16), .ref (ad 17), .ref (ad 18), .ref (ad 19), vi tz, .ref (ad 20), .ref (ad 21), .ref (ad 22)], aI g (ad 7) 2400 f7, aI g (ad 8) 40 f8, aI g (ad 9) 2400 f9, aI g (ad 10) 40 f10, aI g (ad 12) 60 f12, aI g (ad 13) 61 f13, aC g (ad 14) 60 (ju f14 s0 102), aI g (ad 15) 60 (ju f15 s0 (u : Int)), aI g (ad 16) 60 (ju f16 s0 sc), aI g (ad 17) 3600 h, aI g (ad 18) 60 (ju f18 s0 (f10 u))] := hD
            exact je_Qv hx hb hr hlk hS (by rw [show (if sc = 100 then (120 : Int) else 102) = 102 from if_neg c165]; exact ⟨h, hE, ⟨by rw [fl1_len]; exact hyl, fun j hj => ⟨hF j (by rw [fl1_len] at hj; omega), hB j (by rw [fl1_len] at hj; omega)⟩⟩, hP⟩) dX11_fillBy_190
          · refine jr_bipush hx hb dX11_fillBy_168 (by decide) ?_
            refine lv_goto (tgt := 175) hx hb dX11_fillBy_170 (by decide) ?_
            refine jr_cast hx hb hKK.k hP hD hS 7 rfl s0 (by omega) (by omega) (by omega) (by omega) (by omega) dX11_fillBy_175 (fun H locs hP hD hS => ?_)
            have hP : PP g [ob (ad 0) 10 [vi th, .ref (ad 1), vi dn, .ref (ad 2), .ref (ad 3), vi nt, .ref (ad 4), .ref (ad 5), .ref (ad 6), vi tn, vi nu, .ref (ad 7), .ref (ad 8), .ref (ad 9), .ref (ad 10), .ref (ad 11), .ref (ad 12), vi ns, .ref (ad 13), .ref (ad 14), .ref (ad 15), .ref (ad 16), .ref (ad 17), .ref (ad 18), .ref (ad 19), vi tz, .ref (ad 20), .ref (ad 21), .ref (ad 22)], aI g (ad 7) 2400 f7, aI g (ad 8) 40 f8, aI g (ad 9) 2400 f9, aI g (ad 10) 40 f10, aI g (ad 12) 60 f12, aI g (ad 13) 61 f13, aC g (ad 14) 60 (ju f14 s0 120), aI g (ad 15) 60 f15, aI g (ad 16) 60 f16, aI g (ad 17) 3600 h, aI g (ad 18) 60 (ju f18 s0 (f10 u))] H := hP
            have hD : va_D A [ob (ad 0) 10 [vi th, .ref (ad 1), vi dn, .ref (ad 2), .ref (ad 3), vi nt, .ref (ad 4), .ref (ad 5), .ref (ad 6), vi tn, vi nu, .ref (ad 7), .ref (ad 8), .ref (ad 9), .ref (ad 10), .ref (ad 11), .ref (ad 12), vi ns, .ref (ad 13), .ref (ad 14), .ref (ad 15), .ref (ad 16), .ref (ad 17), .ref (ad 18), .ref (ad 19), vi tz, .ref (ad 20), .ref (ad 21), .ref (ad 22)], aI g (ad 7) 2400 f7, aI g (ad 8) 40 f8, aI g (ad 9) 2400 f9, aI g (ad 10) 40 f10, aI g (ad 12) 60 f12, aI g (ad 13) 61 f13, aC g (ad 14) 60 (ju f14 s0 120), aI g (ad 15) 60 f15, aI g (ad 16) 60 f16, aI g (ad 17) 3600 h, aI g (ad 18) 60 (ju f18 s0 (f10 u))] := hD
            refine lv_aload_n hx hb dX11_fillBy_176 rfl (lv_at hl 2 rfl) ?_
            refine va_get (D := gD g) (ci := 10) (v := .ref (ad 15)) (C := RX11) (T := TX11) (N := 29) hx hb htl ck_X11 hown hKK.k hP 0 rfl rfl 20 (by decide) (htl _ wd_6_6) (fun _ h9 => h9) rfl dX11_fillBy_177 ?_
            refine lv_iload_n hx hb dX11_fillBy_180 rfl (lv_at hl 3 rfl) ?_
            refine lv_iload_n hx hb dX11_fillBy_181 rfl (lv_at hl 4 rfl) ?_
            refine jr_iast hx hb hKK.k hP hD hS 8 rfl s0 (by omega) (by omega) (by omega) dX11_fillBy_182 (fun H locs hP hD hS => ?_)
            have hP : PP g [ob (ad 0) 10 [vi th, .ref (ad 1), vi dn, .ref (ad 2), .ref (ad 3), vi nt, .ref (ad 4), .ref (ad 5), .ref (ad 6), vi tn, vi nu, .ref (ad 7), .ref (ad 8), .ref (ad 9), .ref (ad 10), .ref (ad 11), .ref (ad 12), vi ns, .ref (ad 13), .ref (ad 14), .ref (ad 15), .ref (ad 16), .ref (ad 17), .ref (ad 18), .ref (ad 19), vi tz, .ref (ad 20), .ref (ad 21), .ref (ad 22)], aI g (ad 7) 2400 f7, aI g (ad 8) 40 f8, aI g (ad 9) 2400 f9, aI g (ad 10) 40 f10, aI g (ad 12) 60 f12, aI g (ad 13) 61 f13, aC g (ad 14) 60 (ju f14 s0 120), aI g (ad 15) 60 (ju f15 s0 (u : Int)), aI g (ad 16) 60 f16, aI g (ad 17) 3600 h, aI g (ad 18) 60 (ju f18 s0 (f10 u))] H := hP
            have hD : va_D A [ob (ad 0) 10 [vi th, .ref (ad 1), vi dn, .ref (ad 2), .ref (ad 3), vi nt, .ref (ad 4), .ref (ad 5), .ref (ad 6), vi tn, vi nu, .ref (ad 7), .ref (ad 8), .ref (ad 9), .ref (ad 10), .ref (ad 11), .ref (ad 12), vi ns, .ref (ad 13), .ref (ad 14), .ref (ad 15), .ref (ad 16), .ref (ad 17), .ref (ad 18), .ref (ad 19), vi tz, .ref (ad 20), .ref (ad 21), .ref (ad 22)], aI g (ad 7) 2400 f7, aI g (ad 8) 40 f8, aI g (ad 9) 2400 f9, aI g (ad 10) 40 f10, aI g (ad 12) 60 f12, aI g (ad 13) 61 f13, aC g (ad 14) 60 (ju f14 s0 120), aI g (ad 15) 60 (ju f15 s0 (u : Int)), aI g (ad 16) 60 f16, aI g (ad 17) 3600 h, aI g (ad 18) 60 (ju f18 s0 (f10 u))] := hD
            refine lv_aload_n hx hb dX11_fillBy_183 rfl (lv_at hl 2 rfl) ?_
            refine va_get (D := gD g) (ci := 10) (v := .ref (ad 16)) (C := RX11) (T := TX11) (N := 29) hx hb htl ck_X11 hown hKK.k hP 0 rfl rfl 21 (by decide) (htl _ wd_6_7) (fun _ h9 => h9) rfl dX11_fillBy_184 ?_
            refine lv_iload_n hx hb dX11_fillBy_187 rfl (lv_at hl 3 rfl) ?_
            refine lv_iload_n hx hb dX11_fillBy_188 rfl (lv_at hl 5 rfl) ?_
            refine jr_iast hx hb hKK.k hP hD hS 9 rfl s0 (by omega) (by omega) (by omega) dX11_fillBy_189 (fun H locs hP hD hS => ?_)
            have hP : PP g [ob (ad 0) 10 [vi th, .ref (ad 1), vi dn, .ref (ad 2), .ref (ad 3), vi nt, .ref (ad 4), .ref (ad 5), .ref (ad 6), vi tn, vi nu, .ref (ad 7), .ref (ad 8), .ref (ad 9), .ref (ad 10), .ref (ad 11), .ref (ad 12), vi ns, .ref (ad 13), .ref (ad 14), .ref (ad 15), .ref (ad 16), .ref (ad 17), .ref (ad 18), .ref (ad 19), vi tz, .ref (ad 20), .ref (ad 21), .ref (ad 22)], aI g (ad 7) 2400 f7, aI g (ad 8) 40 f8, aI g (ad 9) 2400 f9, aI g (ad 10) 40 f10, aI g (ad 12) 60 f12, aI g (ad 13) 61 f13, aC g (ad 14) 60 (ju f14 s0 120), aI g (ad 15) 60 (ju f15 s0 (u : Int)), aI g (ad 16) 60 (ju f16 s0 sc), aI g (ad 17) 3600 h, aI g (ad 18) 60 (ju f18 s0 (f10 u))] H := hP
            have hD : va_D A [ob (ad 0) 10 [vi th, .ref (ad 1), vi dn, .ref (ad 2), .ref (ad 3), vi nt, .ref (ad 4), .ref (ad 5), .ref (ad 6), vi tn, vi nu, .ref (ad 7), .ref (ad 8), .ref (ad 9), .ref (ad 10), .ref (ad 11), .ref (ad 12), vi ns, .ref (ad 13), .ref (ad 14), .ref (ad 15), .ref (ad 16), .ref (ad 17), .ref (ad 18), .ref (ad 19), vi tz, .ref (ad 20), .ref (ad 21), .ref (ad 22)], aI g (ad 7) 2400 f7, aI g (ad 8) 40 f8, aI g (ad 9) 2400 f9, aI g (ad 10) 40 f10, aI g (ad 12) 60 f12, aI g (ad 13) 61 f13, aC g (ad 14) 60 (ju f14 s0 120), aI g (ad 15) 60 (ju f15 s0 (u : Int)), aI g (ad 16) 60 (ju f16 s0 sc), aI g (ad 17) 3600 h, aI g (ad 18) 60 (ju f18 s0 (f10 u))] := hD
            exact je_Qv hx hb hr hlk hS (by rw [show (if sc = 100 then (120 : Int) else 102) = 120 from if_pos c165]; exact ⟨h, hE, ⟨by rw [fl1_len]; exact hyl, fun j hj => ⟨hF j (by rw [fl1_len] at hj; omega), hB j (by rw [fl1_len] at hj; omega)⟩⟩, hP⟩) dX11_fillBy_190
        · refine lv_aload_n hx hb dX11_fillBy_71 rfl (lv_at hl 2 rfl) ?_
          refine va_get (D := gD g) (ci := 10) (v := .ref (ad 9)) (C := RX11) (T := TX11) (N := 29) hx hb htl ck_X11 hown hKK.k hP 0 rfl rfl 13 (by decide) (htl _ wd_5_23) (fun _ h9 => h9) rfl dX11_fillBy_72 ?_
          refine jr_bipush hx hb dX11_fillBy_75 (by decide) ?_
          refine lv_iload_n hx hb dX11_fillBy_77 rfl (lv_at hl 4 rfl) ?_
          refine jr_imul hx hb dX11_fillBy_78 ?_
          refine lv_iload hx hb dX11_fillBy_79 (lv_at hl 0 rfl) ?_
          refine jr_iadd hx hb dX11_fillBy_81 ?_
          refine jr_iald hx hb hKK.k hP 3 rfl (60 * u + i) (by omega) (by omega) (by omega) dX11_fillBy_82 ?_
          have tby := hy.b (j := i) (by omega)
          have hky := kd_n tby.1
          refine jr_nm (b := (y.getD i 0)) (hy.at (by omega)) ?_
          refine lv_istore (lv' := [(6, vi (y.getD i 0)), (5, vi (i : Int)), (4, vi 1), (0, .ref (ad 0)), (1, vi (s0 : Int)), (2, vi (u : Int)), (3, vi sc)]) hx hb dX11_fillBy_83 hl (by decide) rfl (fun ls hl => ?_)
          refine lv_iload hx hb dX11_fillBy_85 (lv_at hl 2 rfl) ?_
          refine jr_ifeq (tgt := 110) hx hb dX11_fillBy_87 (by decide) ⟨by omega, by omega⟩ (fun c87 => absurd c87 (by omega)) (fun c87 => ?_)
          refine lv_iload hx hb dX11_fillBy_90 (lv_at hl 0 rfl) ?_
          refine jr_sipush hx hb dX11_fillBy_92 (by decide) ?_
          refine jr_idiv hx hb (by omega) (by omega) (by omega) (by omega) dX11_fillBy_95 ?_
          refine jr_iconst hx hb dX11_fillBy_96 ?_
          refine jr_ne (tgt := 110) hx hb dX11_fillBy_97 (by decide) ⟨by omega, by omega⟩ ⟨by omega, by omega⟩ (fun c97 => ?_) (fun c97 => ?_)
          · refine jr_iconst hx hb dX11_fillBy_110 ?_
            refine lv_istore (lv' := [(7, vi (-1)), (6, vi (y.getD i 0)), (5, vi (i : Int)), (4, vi 1), (0, .ref (ad 0)), (1, vi (s0 : Int)), (2, vi (u : Int)), (3, vi sc)]) hx hb dX11_fillBy_111 hl (by decide) rfl (fun ls hl => ?_)
            refine lv_aload_n hx hb dX11_fillBy_113 rfl (lv_at hl 4 rfl) ?_
            refine va_get (D := gD g) (ci := 10) (v := .ref (ad 17)) (C := RX11) (T := TX11) (N := 29) hx hb htl ck_X11 hown hKK.k hP 0 rfl rfl 22 (by decide) (htl _ wd_6_8) (fun _ h9 => h9) rfl dX11_fillBy_114 ?_
            refine jr_bipush hx hb dX11_fillBy_117 (by decide) ?_
            refine lv_iload_n hx hb dX11_fillBy_119 rfl (lv_at hl 5 rfl) ?_
            refine jr_imul hx hb dX11_fillBy_120 ?_
            refine lv_iload hx hb dX11_fillBy_121 (lv_at hl 2 rfl) ?_
            refine jr_iadd hx hb dX11_fillBy_123 ?_
            refine lv_iload hx hb dX11_fillBy_124 (lv_at hl 0 rfl) ?_
            refine jr_iconst hx hb dX11_fillBy_126 ?_
            refine jr_ne (tgt := 135) hx hb dX11_fillBy_127 (by decide) ⟨by omega, by omega⟩ ⟨by omega, by omega⟩ (fun c127 => absurd c127 (by omega)) (fun c127 => ?_)
            refine lv_iload hx hb dX11_fillBy_130 (lv_at hl 1 rfl) ?_
            refine lv_goto (tgt := 150) hx hb dX11_fillBy_132 (by decide) ?_
            refine jr_iast hx hb hKK.k hP hD hS 10 rfl (60 * s0 + i) (by omega) (by omega) (by omega) dX11_fillBy_150 (fun H locs hP hD hS => ?_)
            have hP : PP g [ob (ad 0) 10 [vi th, .ref (ad 1), vi dn, .ref (ad 2), .ref (ad 3), vi nt, .ref (ad 4), .ref (ad 5), .ref (ad 6), vi tn, vi nu, .ref (ad 7), .ref (ad 8), .ref (ad 9), .ref (ad 10), .ref (ad 11), .ref (ad 12), vi ns, .ref (ad 13), .ref (ad 14), .ref (ad 15), .ref (ad 16), .ref (ad 17), .ref (ad 18), .ref (ad 19), vi tz, .ref (ad 20), .ref (ad 21), .ref (ad 22)], aI g (ad 7) 2400 f7, aI g (ad 8) 40 f8, aI g (ad 9) 2400 f9, aI g (ad 10) 40 f10, aI g (ad 12) 60 f12, aI g (ad 13) 61 f13, aC g (ad 14) 60 f14, aI g (ad 15) 60 f15, aI g (ad 16) 60 f16, aI g (ad 17) 3600 (ju h (60 * s0 + i) (y.getD i 0)), aI g (ad 18) 60 (ju f18 s0 (f10 u))] H := hP
            have hD : va_D A [ob (ad 0) 10 [vi th, .ref (ad 1), vi dn, .ref (ad 2), .ref (ad 3), vi nt, .ref (ad 4), .ref (ad 5), .ref (ad 6), vi tn, vi nu, .ref (ad 7), .ref (ad 8), .ref (ad 9), .ref (ad 10), .ref (ad 11), .ref (ad 12), vi ns, .ref (ad 13), .ref (ad 14), .ref (ad 15), .ref (ad 16), .ref (ad 17), .ref (ad 18), .ref (ad 19), vi tz, .ref (ad 20), .ref (ad 21), .ref (ad 22)], aI g (ad 7) 2400 f7, aI g (ad 8) 40 f8, aI g (ad 9) 2400 f9, aI g (ad 10) 40 f10, aI g (ad 12) 60 f12, aI g (ad 13) 61 f13, aC g (ad 14) 60 f14, aI g (ad 15) 60 f15, aI g (ad 16) 60 f16, aI g (ad 17) 3600 (ju h (60 * s0 + i) (y.getD i 0)), aI g (ad 18) 60 (ju f18 s0 (f10 u))] := hD
            refine jr_iinc (lv' := [(5, vi ((i : Int) + 1)), (7, vi (-1)), (6, vi (y.getD i 0)), (4, vi 1), (0, .ref (ad 0)), (1, vi (s0 : Int)), (2, vi (u : Int)), (3, vi sc)]) hx hb dX11_fillBy_151 hl (k := 2) rfl rfl (by decide) rfl (fun ls hl => ?_)
            refine lv_goto (tgt := 60) hx hb dX11_fillBy_154 (by decide) ?_
            have hv9 : (y.getD i 0) = (fl1 t x y).getD i 0 := by rw [hfl, getD_map (by omega), ad_no (Or.inl (by omega))]
            have hvb : 0 ≤ (y.getD i 0) ∧ (y.getD i 0) < 40000 := by omega
            obtain ⟨hF9, hE9⟩ := row_s (v := (y.getD i 0)) hF hE (by omega) hv9
            exact ih60 (i + 1) _ (by omega) (hF9) (hE9) (fun j hj => by by_cases e9 : j = i; subst e9; rw [← hv9]; exact hvb; exact hB j (by omega)) (by omega) _ _ hP hD hS ls (lv_sub hl [0, 3, 4, 5, 6, 7] rfl)
          · refine lv_aload_n hx hb dX11_fillBy_100 rfl (lv_at hl 3 rfl) ?_
            refine lv_iload_n hx hb dX11_fillBy_101 rfl (lv_at hl 5 rfl) ?_
            refine lv_iload hx hb dX11_fillBy_102 (lv_at hl 0 rfl) ?_
            refine jk_Si (va_runV (As := [vi (u : Int), vi (y.getD i 0)]) (rest := []) ⟨hx, hb, hml, hown, htl⟩ (m_X11_placeOf l g ad th dn nt tn nu ns tz f7 f8 u x (y.getD i 0) hu ⟨by omega, by omega⟩ h8 hx9) (cwV 2 htl lk_X11_183 rfl rfl rfl cwV_X11_placeOf ⟨Nat.le_of_ble_eq_true rfl, Nat.le_of_ble_eq_true rfl⟩) (jp_V hKK hS hAb (va_recv hKK.k hP (ci := 10) (q0 := 0) rfl rfl) (va_P.sub hP [0, 1, 2] rfl)) rfl rfl hl.1 rfl (lv_room (Nat.le_of_ble_eq_true rfl)) dX11_fillBy_104 ⟨Nat.le_of_ble_eq_true rfl, Nat.le_of_ble_eq_true rfl⟩) (fun z104 hz104 => ?_)
            subst hz104
            have tpn := ponA_b x (y.getD i 0) 0 (by omega)
            refine lv_goto (tgt := 111) hx hb dX11_fillBy_107 (by decide) ?_
            refine lv_istore (lv' := [(7, vi (ponA x (y.getD i 0) 0)), (6, vi (y.getD i 0)), (5, vi (i : Int)), (4, vi 1), (0, .ref (ad 0)), (1, vi (s0 : Int)), (2, vi (u : Int)), (3, vi sc)]) hx hb dX11_fillBy_111 hl (by decide) rfl (fun ls hl => ?_)
            refine lv_aload_n hx hb dX11_fillBy_113 rfl (lv_at hl 4 rfl) ?_
            refine va_get (D := gD g) (ci := 10) (v := .ref (ad 17)) (C := RX11) (T := TX11) (N := 29) hx hb htl ck_X11 hown hKK.k hP 0 rfl rfl 22 (by decide) (htl _ wd_6_8) (fun _ h9 => h9) rfl dX11_fillBy_114 ?_
            refine jr_bipush hx hb dX11_fillBy_117 (by decide) ?_
            refine lv_iload_n hx hb dX11_fillBy_119 rfl (lv_at hl 5 rfl) ?_
            refine jr_imul hx hb dX11_fillBy_120 ?_
            refine lv_iload hx hb dX11_fillBy_121 (lv_at hl 2 rfl) ?_
            refine jr_iadd hx hb dX11_fillBy_123 ?_
            refine lv_iload hx hb dX11_fillBy_124 (lv_at hl 0 rfl) ?_
            refine jr_iconst hx hb dX11_fillBy_126 ?_
            refine jr_ne (tgt := 135) hx hb dX11_fillBy_127 (by decide) ⟨by omega, by omega⟩ ⟨by omega, by omega⟩ (fun c127 => ?_) (fun c127 => ?_)
            · refine lv_aload_n hx hb dX11_fillBy_135 rfl (lv_at hl 4 rfl) ?_
              refine va_get (D := gD g) (ci := 10) (v := .ref (ad 12)) (C := RX11) (T := TX11) (N := 29) hx hb htl ck_X11 hown hKK.k hP 0 rfl rfl 16 (by decide) (htl _ wd_6_2) (fun _ h9 => h9) rfl dX11_fillBy_136 ?_
              refine lv_aload_n hx hb dX11_fillBy_139 rfl (lv_at hl 4 rfl) ?_
              refine va_get (D := gD g) (ci := 10) (v := .ref (ad 13)) (C := RX11) (T := TX11) (N := 29) hx hb htl ck_X11 hown hKK.k hP 0 rfl rfl 18 (by decide) (htl _ wd_6_3) (fun _ h9 => h9) rfl dX11_fillBy_140 ?_
              refine lv_iload_n hx hb dX11_fillBy_143 rfl (lv_at hl 5 rfl) ?_
              refine jr_iald hx hb hKK.k hP 6 rfl s0 (by omega) (by omega) (by omega) dX11_fillBy_144 ?_
              refine jr_nm (b := (b : Int)) (h13) ?_
              have hpc := pon_cnt (y.getD i 0) (by omega) x 0 0
              have hnn : ¬ napA t (ponA x (y.getD i 0) 0) = -1 := nap_ok t _ 0 (by omega) (by rw [c35]; omega) (rws_pos h12)
              have tnp := napA_b h12.tt0 (ponA x (y.getD i 0) 0)
              refine lv_iload hx hb dX11_fillBy_145 (lv_at hl 0 rfl) ?_
              refine jk_Si (va_runS (As := [.ref (ad 12), vi (b : Int), vi (ponA x (y.getD i 0) 0)]) (rest := [vi ((60 * (s0 : Int)) + (i : Int)), .ref (ad 17)]) ⟨hx, hb, hml, hown, htl⟩ (m_X11_numberAt l g (ad 12) 60 f12 b t (ponA x (y.getD i 0) 0) h12 (by omega) (by omega) (by omega) hnn) (va_cwS 3 htl lk_X11_186 rfl rfl rfl cwS_X11_numberAt ⟨Nat.le_of_ble_eq_true rfl, Nat.le_of_ble_eq_true rfl⟩) (jp_S hKK hS hAb (va_P.sub hP [5] rfl)) rfl rfl hl.1 rfl (lv_room (Nat.le_of_ble_eq_true rfl)) dX11_fillBy_147 ⟨Nat.le_of_ble_eq_true rfl, Nat.le_of_ble_eq_true rfl⟩) (fun z147 hz147 => ?_)
              subst hz147
              refine jr_iast hx hb hKK.k hP hD hS 10 rfl (60 * s0 + i) (by omega) (by omega) (by omega) dX11_fillBy_150 (fun H locs hP hD hS => ?_)
              have hP : PP g [ob (ad 0) 10 [vi th, .ref (ad 1), vi dn, .ref (ad 2), .ref (ad 3), vi nt, .ref (ad 4), .ref (ad 5), .ref (ad 6), vi tn, vi nu, .ref (ad 7), .ref (ad 8), .ref (ad 9), .ref (ad 10), .ref (ad 11), .ref (ad 12), vi ns, .ref (ad 13), .ref (ad 14), .ref (ad 15), .ref (ad 16), .ref (ad 17), .ref (ad 18), .ref (ad 19), vi tz, .ref (ad 20), .ref (ad 21), .ref (ad 22)], aI g (ad 7) 2400 f7, aI g (ad 8) 40 f8, aI g (ad 9) 2400 f9, aI g (ad 10) 40 f10, aI g (ad 12) 60 f12, aI g (ad 13) 61 f13, aC g (ad 14) 60 f14, aI g (ad 15) 60 f15, aI g (ad 16) 60 f16, aI g (ad 17) 3600 (ju h (60 * s0 + i) (napA t (ponA x (y.getD i 0) 0))), aI g (ad 18) 60 (ju f18 s0 (f10 u))] H := hP
              have hD : va_D A [ob (ad 0) 10 [vi th, .ref (ad 1), vi dn, .ref (ad 2), .ref (ad 3), vi nt, .ref (ad 4), .ref (ad 5), .ref (ad 6), vi tn, vi nu, .ref (ad 7), .ref (ad 8), .ref (ad 9), .ref (ad 10), .ref (ad 11), .ref (ad 12), vi ns, .ref (ad 13), .ref (ad 14), .ref (ad 15), .ref (ad 16), .ref (ad 17), .ref (ad 18), .ref (ad 19), vi tz, .ref (ad 20), .ref (ad 21), .ref (ad 22)], aI g (ad 7) 2400 f7, aI g (ad 8) 40 f8, aI g (ad 9) 2400 f9, aI g (ad 10) 40 f10, aI g (ad 12) 60 f12, aI g (ad 13) 61 f13, aC g (ad 14) 60 f14, aI g (ad 15) 60 f15, aI g (ad 16) 60 f16, aI g (ad 17) 3600 (ju h (60 * s0 + i) (napA t (ponA x (y.getD i 0) 0))), aI g (ad 18) 60 (ju f18 s0 (f10 u))] := hD
              refine jr_iinc (lv' := [(5, vi ((i : Int) + 1)), (7, vi (ponA x (y.getD i 0) 0)), (6, vi (y.getD i 0)), (4, vi 1), (0, .ref (ad 0)), (1, vi (s0 : Int)), (2, vi (u : Int)), (3, vi sc)]) hx hb dX11_fillBy_151 hl (k := 2) rfl rfl (by decide) rfl (fun ls hl => ?_)
              refine lv_goto (tgt := 60) hx hb dX11_fillBy_154 (by decide) ?_
              have hv9 : (napA t (ponA x (y.getD i 0) 0)) = (fl1 t x y).getD i 0 := by rw [hfl, getD_map (by omega), ad_yes (by omega) c127 hnn]
              have hvb : 0 ≤ (napA t (ponA x (y.getD i 0) 0)) ∧ (napA t (ponA x (y.getD i 0) 0)) < 40000 := by omega
              obtain ⟨hF9, hE9⟩ := row_s (v := (napA t (ponA x (y.getD i 0) 0))) hF hE (by omega) hv9
              exact ih60 (i + 1) _ (by omega) (hF9) (hE9) (fun j hj => by by_cases e9 : j = i; subst e9; rw [← hv9]; exact hvb; exact hB j (by omega)) (by omega) _ _ hP hD hS ls (lv_sub hl [0, 3, 4, 5, 6, 7] rfl)
            · refine lv_iload hx hb dX11_fillBy_130 (lv_at hl 1 rfl) ?_
              refine lv_goto (tgt := 150) hx hb dX11_fillBy_132 (by decide) ?_
              refine jr_iast hx hb hKK.k hP hD hS 10 rfl (60 * s0 + i) (by omega) (by omega) (by omega) dX11_fillBy_150 (fun H locs hP hD hS => ?_)
              have hP : PP g [ob (ad 0) 10 [vi th, .ref (ad 1), vi dn, .ref (ad 2), .ref (ad 3), vi nt, .ref (ad 4), .ref (ad 5), .ref (ad 6), vi tn, vi nu, .ref (ad 7), .ref (ad 8), .ref (ad 9), .ref (ad 10), .ref (ad 11), .ref (ad 12), vi ns, .ref (ad 13), .ref (ad 14), .ref (ad 15), .ref (ad 16), .ref (ad 17), .ref (ad 18), .ref (ad 19), vi tz, .ref (ad 20), .ref (ad 21), .ref (ad 22)], aI g (ad 7) 2400 f7, aI g (ad 8) 40 f8, aI g (ad 9) 2400 f9, aI g (ad 10) 40 f10, aI g (ad 12) 60 f12, aI g (ad 13) 61 f13, aC g (ad 14) 60 f14, aI g (ad 15) 60 f15, aI g (ad 16) 60 f16, aI g (ad 17) 3600 (ju h (60 * s0 + i) (y.getD i 0)), aI g (ad 18) 60 (ju f18 s0 (f10 u))] H := hP
              have hD : va_D A [ob (ad 0) 10 [vi th, .ref (ad 1), vi dn, .ref (ad 2), .ref (ad 3), vi nt, .ref (ad 4), .ref (ad 5), .ref (ad 6), vi tn, vi nu, .ref (ad 7), .ref (ad 8), .ref (ad 9), .ref (ad 10), .ref (ad 11), .ref (ad 12), vi ns, .ref (ad 13), .ref (ad 14), .ref (ad 15), .ref (ad 16), .ref (ad 17), .ref (ad 18), .ref (ad 19), vi tz, .ref (ad 20), .ref (ad 21), .ref (ad 22)], aI g (ad 7) 2400 f7, aI g (ad 8) 40 f8, aI g (ad 9) 2400 f9, aI g (ad 10) 40 f10, aI g (ad 12) 60 f12, aI g (ad 13) 61 f13, aC g (ad 14) 60 f14, aI g (ad 15) 60 f15, aI g (ad 16) 60 f16, aI g (ad 17) 3600 (ju h (60 * s0 + i) (y.getD i 0)), aI g (ad 18) 60 (ju f18 s0 (f10 u))] := hD
              refine jr_iinc (lv' := [(5, vi ((i : Int) + 1)), (7, vi (ponA x (y.getD i 0) 0)), (6, vi (y.getD i 0)), (4, vi 1), (0, .ref (ad 0)), (1, vi (s0 : Int)), (2, vi (u : Int)), (3, vi sc)]) hx hb dX11_fillBy_151 hl (k := 2) rfl rfl (by decide) rfl (fun ls hl => ?_)
              refine lv_goto (tgt := 60) hx hb dX11_fillBy_154 (by decide) ?_
              have hv9 : (y.getD i 0) = (fl1 t x y).getD i 0 := by rw [hfl, getD_map (by omega), ad_no (Or.inr c127)]
              have hvb : 0 ≤ (y.getD i 0) ∧ (y.getD i 0) < 40000 := by omega
              obtain ⟨hF9, hE9⟩ := row_s (v := (y.getD i 0)) hF hE (by omega) hv9
              exact ih60 (i + 1) _ (by omega) (hF9) (hE9) (fun j hj => by by_cases e9 : j = i; subst e9; rw [← hv9]; exact hvb; exact hB j (by omega)) (by omega) _ _ hP hD hS ls (lv_sub hl [0, 3, 4, 5, 6, 7] rfl)
    exact lp60 _ 0 f17 (Nat.zero_le _) (fun j hj => absurd hj (Nat.not_lt_zero _)) (fun _ _ => rfl) (fun j hj => absurd hj (Nat.not_lt_zero _)) (Nat.lt_succ_self _) _ _ hP hD hS ls (lv_sub hl [0, 1, 2, 3, 4, 5] rfl)
set_option maxHeartbeats 4000000 in
set_option maxRecDepth 100000 in
theorem m_X11_endsAt (l : Launch) (g : GT) (ad : Nat → Nat) (th dn nt tn nu ns tz : Int) (f3 f12 : Nat → Int) (t : List Int) (i : Nat) (ht : TT t f12) (hab : ∀ j, j < 100 → f3 j = 0 ∨ f3 j = 1) (hwd : ∀ c ∈ t, c < 100 ∨ 10000 ≤ c) (hi : i < t.length) : Met l yX11_endsAt (ws_ yX11_endsAt cX11_endsAt 8 (some .boolean)) (rmm 1 0 0) (jPc g [.ref (ad 0), vi (i : Int), vi (t.length : Int)] (fun H => PP g [ob (ad 0) 10 [vi th, .ref (ad 1), vi dn, .ref (ad 2), .ref (ad 3), vi nt, .ref (ad 4), .ref (ad 5), .ref (ad 6), vi tn, vi nu, .ref (ad 7), .ref (ad 8), .ref (ad 9), .ref (ad 10), .ref (ad 11), .ref (ad 12), vi ns, .ref (ad 13), .ref (ad 14), .ref (ad 15), .ref (ad 16), .ref (ad 17), .ref (ad 18), .ref (ad 19), vi tz, .ref (ad 20), .ref (ad 21), .ref (ad 22)], aZ g (ad 3) 100 f3, aI g (ad 12) 60 f12] H)) (jSi (fun z => z = i01 (isE f3 t (i : Int) = true))) 0 0 jN := by
  refine jb_M (by decide) (Nat.le_of_ble_eq_true rfl) ?_
  intro p e s m below meth cq hx hb hr hml hown htl hlk hnm hKK hpre ls hl
  have hown : s.vm.findClass RX11 = some m.cls := hown
  have hl : lv_has ls 8 [(0, .ref (ad 0)), (1, vi (i : Int)), (2, vi (t.length : Int))] := hl
  have hP : PP g [ob (ad 0) 10 [vi th, .ref (ad 1), vi dn, .ref (ad 2), .ref (ad 3), vi nt, .ref (ad 4), .ref (ad 5), .ref (ad 6), vi tn, vi nu, .ref (ad 7), .ref (ad 8), .ref (ad 9), .ref (ad 10), .ref (ad 11), .ref (ad 12), vi ns, .ref (ad 13), .ref (ad 14), .ref (ad 15), .ref (ad 16), .ref (ad 17), .ref (ad 18), .ref (ad 19), vi tz, .ref (ad 20), .ref (ad 21), .ref (ad 22)], aZ g (ad 3) 100 f3, aI g (ad 12) 60 f12] s.heap := hpre
  have htl0 := ht.len
  have tbi := ht.b hi
  have hti := tAt_in hi
  have tbp := ht.tAt_b ((i : Int) - 1)
  have tbn := ht.tAt_b ((i : Int) + 1)
  refine lv_aload_n hx hb dX11_endsAt_0 rfl (lv_at hl 0 rfl) ?_
  refine va_get (D := gD g) (ci := 10) (v := .ref (ad 12)) (C := RX11) (T := TX11) (N := 29) hx hb htl ck_X11 hown hKK.k hP 0 rfl rfl 16 (by decide) (htl _ wd_6_2) (fun _ h9 => h9) rfl dX11_endsAt_1 ?_
  refine lv_iload_n hx hb dX11_endsAt_4 rfl (lv_at hl 1 rfl) ?_
  refine jr_iald hx hb hKK.k hP 2 rfl i (by omega) (by omega) (by omega) dX11_endsAt_5 ?_
  refine jr_nm (b := (t.getD i 0)) (ht.at hi) ?_
  refine lv_istore_n (lv' := [(3, vi (t.getD i 0)), (0, .ref (ad 0)), (1, vi (i : Int)), (2, vi (t.length : Int))]) hx hb dX11_endsAt_6 rfl hl (by decide) rfl (fun ls hl => ?_)
  refine lv_iload_n hx hb dX11_endsAt_7 rfl (lv_at hl 0 rfl) ?_
  refine jr_bipush hx hb dX11_endsAt_8 (by decide) ?_
  refine jk_Si (va_runS (As := [vi (t.getD i 0), vi 46]) (rest := []) ⟨hx, hb, hml, hown, htl⟩ (m_X11_isMark l g (t.getD i 0) 46 ⟨by omega, by omega⟩ ⟨by omega, by omega⟩ (by omega)) (va_cwS 2 htl lk_X11_165 rfl rfl rfl cwS_X11_isMark ⟨Nat.le_of_ble_eq_true rfl, Nat.le_of_ble_eq_true rfl⟩) (jp_S hKK (va_S.rf (A := jN)) jNb trivial) rfl rfl hl.1 rfl (lv_room (Nat.le_of_ble_eq_true rfl)) dX11_endsAt_10 ⟨Nat.le_of_ble_eq_true rfl, Nat.le_of_ble_eq_true rfl⟩) (fun z10 hz10 => ?_)
  refine jr_ifne (tgt := 40) hx hb dX11_endsAt_13 (by decide) ⟨by omega, by omega⟩ (fun c13 => ?_) (fun c13 => ?_)
  · refine lv_iload_n hx hb dX11_endsAt_40 rfl (lv_at hl 2 rfl) ?_
    refine jr_ifne (tgt := 48) hx hb dX11_endsAt_41 (by decide) ⟨by omega, by omega⟩ (fun c41 => ?_) (fun c41 => ?_)
    · refine lv_aload_n hx hb dX11_endsAt_48 rfl (lv_at hl 1 rfl) ?_
      refine va_get (D := gD g) (ci := 10) (v := .ref (ad 12)) (C := RX11) (T := TX11) (N := 29) hx hb htl ck_X11 hown hKK.k hP 0 rfl rfl 16 (by decide) (htl _ wd_6_2) (fun _ h9 => h9) rfl dX11_endsAt_49 ?_
      refine lv_iload_n hx hb dX11_endsAt_52 rfl (lv_at hl 2 rfl) ?_
      refine jr_iconst hx hb dX11_endsAt_53 ?_
      refine jr_isub hx hb dX11_endsAt_54 ?_
      refine jr_iald hx hb hKK.k hP 2 rfl (i - 1) (by omega) (by omega) (by omega) dX11_endsAt_55 ?_
      refine jr_nm (b := (tAt t ((i : Int) - 1))) ((ht.at (by omega)).trans (by rw [← tAt_in (show i - 1 < t.length by omega), show ((i - 1 : Nat) : Int) = (i : Int) - 1 by omega])) ?_
      refine lv_istore (lv' := [(4, vi (tAt t ((i : Int) - 1))), (3, vi (t.getD i 0)), (0, .ref (ad 0)), (1, vi (i : Int)), (2, vi (t.length : Int))]) hx hb dX11_endsAt_56 hl (by decide) rfl (fun ls hl => ?_)
      refine lv_iload_n hx hb dX11_endsAt_58 rfl (lv_at hl 3 rfl) ?_
      refine jr_iconst hx hb dX11_endsAt_59 ?_
      refine jr_iadd hx hb dX11_endsAt_60 ?_
      refine lv_iload_n hx hb dX11_endsAt_61 rfl (lv_at hl 4 rfl) ?_
      refine jr_ne (tgt := 69) hx hb dX11_endsAt_62 (by decide) ⟨by omega, by omega⟩ ⟨by omega, by omega⟩ (fun c62 => ?_) (fun c62 => ?_)
      · refine lv_aload_n hx hb dX11_endsAt_69 rfl (lv_at hl 2 rfl) ?_
        refine va_get (D := gD g) (ci := 10) (v := .ref (ad 12)) (C := RX11) (T := TX11) (N := 29) hx hb htl ck_X11 hown hKK.k hP 0 rfl rfl 16 (by decide) (htl _ wd_6_2) (fun _ h9 => h9) rfl dX11_endsAt_70 ?_
        refine lv_iload_n hx hb dX11_endsAt_73 rfl (lv_at hl 3 rfl) ?_
        refine jr_iconst hx hb dX11_endsAt_74 ?_
        refine jr_iadd hx hb dX11_endsAt_75 ?_
        refine jr_iald hx hb hKK.k hP 2 rfl (i + 1) (by omega) (by omega) (by omega) dX11_endsAt_76 ?_
        refine jr_nm (b := (tAt t ((i : Int) + 1))) ((ht.at (by omega)).trans (by rw [← tAt_in (show i + 1 < t.length by omega), show ((i + 1 : Nat) : Int) = (i : Int) + 1 by omega])) ?_
        refine lv_istore (lv' := [(5, vi (tAt t ((i : Int) + 1))), (4, vi (tAt t ((i : Int) - 1))), (3, vi (t.getD i 0)), (0, .ref (ad 0)), (1, vi (i : Int)), (2, vi (t.length : Int))]) hx hb dX11_endsAt_77 hl (by decide) rfl (fun ls hl => ?_)
        refine lv_iload hx hb dX11_endsAt_79 (lv_at hl 1 rfl) ?_
        refine jr_iflt (tgt := 106) hx hb dX11_endsAt_81 (by decide) ⟨by omega, by omega⟩ (fun c81 => ?_) (fun c81 => ?_)
        · have hna : ¬ isAb f3 (tAt t ((i : Int) - 1)) = true := fun q => by have h9 := (isAb_iff.mp q).1; have h8 : kd (tAt t ((i : Int) - 1)) = -1 := if_pos c81; omega
          refine jr_iconst hx hb dX11_endsAt_106 ?_
          refine lv_istore (lv' := [(6, vi 0), (5, vi (tAt t ((i : Int) + 1))), (4, vi (tAt t ((i : Int) - 1))), (3, vi (t.getD i 0)), (0, .ref (ad 0)), (1, vi (i : Int)), (2, vi (t.length : Int))]) hx hb dX11_endsAt_107 hl (by decide) rfl (fun ls hl => ?_)
          refine lv_iload hx hb dX11_endsAt_109 (lv_at hl 2 rfl) ?_
          refine jr_iflt (tgt := 143) hx hb dX11_endsAt_111 (by decide) ⟨by omega, by omega⟩ (fun c111 => ?_) (fun c111 => ?_)
          · have hnn : ¬ (kd (tAt t ((i : Int) - 1)) = 1 ∧ kd (tAt t ((i : Int) + 1)) = 1) := fun q => by have h8 : kd (tAt t ((i : Int) - 1)) = -1 := if_pos c111; omega
            refine jr_iconst hx hb dX11_endsAt_143 ?_
            refine lv_istore (lv' := [(7, vi 0), (6, vi 0), (5, vi (tAt t ((i : Int) + 1))), (4, vi (tAt t ((i : Int) - 1))), (3, vi (t.getD i 0)), (0, .ref (ad 0)), (1, vi (i : Int)), (2, vi (t.length : Int))]) hx hb dX11_endsAt_144 hl (by decide) rfl (fun ls hl => ?_)
            refine lv_iload hx hb dX11_endsAt_146 (lv_at hl 1 rfl) ?_
            refine jr_ifne (tgt := 160) hx hb dX11_endsAt_148 (by decide) ⟨by omega, by omega⟩ (fun c148 => absurd c148 (by omega)) (fun c148 => ?_)
            refine lv_iload hx hb dX11_endsAt_151 (lv_at hl 0 rfl) ?_
            refine jr_ifne (tgt := 160) hx hb dX11_endsAt_153 (by decide) ⟨by omega, by omega⟩ (fun c153 => absurd c153 (by omega)) (fun c153 => ?_)
            refine jr_iconst hx hb dX11_endsAt_156 ?_
            refine lv_goto (tgt := 161) hx hb dX11_endsAt_157 (by decide) ?_
            exact je_Si hx hb hr hlk (nz_b (by omega)).1 (i01_1 (isE_iff.mpr (by rw [hti]; first | exact Or.inl (by omega) | exact Or.inr (Or.inl (by omega)) | exact Or.inr (Or.inr ⟨by omega, hnn, hna⟩)))) dX11_endsAt_161
          · refine lv_iload hx hb dX11_endsAt_114 (lv_at hl 2 rfl) ?_
            refine jr_sipush hx hb dX11_endsAt_116 (by decide) ?_
            refine jr_idiv hx hb (by omega) (by omega) (by omega) (by omega) dX11_endsAt_119 ?_
            refine jr_iconst hx hb dX11_endsAt_120 ?_
            refine jr_ne (tgt := 143) hx hb dX11_endsAt_121 (by decide) ⟨by omega, by omega⟩ ⟨by omega, by omega⟩ (fun c121 => ?_) (fun c121 => ?_)
            · have hnn : ¬ (kd (tAt t ((i : Int) - 1)) = 1 ∧ kd (tAt t ((i : Int) + 1)) = 1) := fun q => by have h8 := kd_n (c := (tAt t ((i : Int) - 1))) (by omega); omega
              refine jr_iconst hx hb dX11_endsAt_143 ?_
              refine lv_istore (lv' := [(7, vi 0), (6, vi 0), (5, vi (tAt t ((i : Int) + 1))), (4, vi (tAt t ((i : Int) - 1))), (3, vi (t.getD i 0)), (0, .ref (ad 0)), (1, vi (i : Int)), (2, vi (t.length : Int))]) hx hb dX11_endsAt_144 hl (by decide) rfl (fun ls hl => ?_)
              refine lv_iload hx hb dX11_endsAt_146 (lv_at hl 1 rfl) ?_
              refine jr_ifne (tgt := 160) hx hb dX11_endsAt_148 (by decide) ⟨by omega, by omega⟩ (fun c148 => absurd c148 (by omega)) (fun c148 => ?_)
              refine lv_iload hx hb dX11_endsAt_151 (lv_at hl 0 rfl) ?_
              refine jr_ifne (tgt := 160) hx hb dX11_endsAt_153 (by decide) ⟨by omega, by omega⟩ (fun c153 => absurd c153 (by omega)) (fun c153 => ?_)
              refine jr_iconst hx hb dX11_endsAt_156 ?_
              refine lv_goto (tgt := 161) hx hb dX11_endsAt_157 (by decide) ?_
              exact je_Si hx hb hr hlk (nz_b (by omega)).1 (i01_1 (isE_iff.mpr (by rw [hti]; first | exact Or.inl (by omega) | exact Or.inr (Or.inl (by omega)) | exact Or.inr (Or.inr ⟨by omega, hnn, hna⟩)))) dX11_endsAt_161
            · refine lv_iload hx hb dX11_endsAt_124 (lv_at hl 1 rfl) ?_
              refine jr_iflt (tgt := 143) hx hb dX11_endsAt_126 (by decide) ⟨by omega, by omega⟩ (fun c126 => ?_) (fun c126 => ?_)
              · have hnn : ¬ (kd (tAt t ((i : Int) - 1)) = 1 ∧ kd (tAt t ((i : Int) + 1)) = 1) := fun q => by have h8 : kd (tAt t ((i : Int) + 1)) = -1 := if_pos c126; omega
                refine jr_iconst hx hb dX11_endsAt_143 ?_
                refine lv_istore (lv' := [(7, vi 0), (6, vi 0), (5, vi (tAt t ((i : Int) + 1))), (4, vi (tAt t ((i : Int) - 1))), (3, vi (t.getD i 0)), (0, .ref (ad 0)), (1, vi (i : Int)), (2, vi (t.length : Int))]) hx hb dX11_endsAt_144 hl (by decide) rfl (fun ls hl => ?_)
                refine lv_iload hx hb dX11_endsAt_146 (lv_at hl 1 rfl) ?_
                refine jr_ifne (tgt := 160) hx hb dX11_endsAt_148 (by decide) ⟨by omega, by omega⟩ (fun c148 => absurd c148 (by omega)) (fun c148 => ?_)
                refine lv_iload hx hb dX11_endsAt_151 (lv_at hl 0 rfl) ?_
                refine jr_ifne (tgt := 160) hx hb dX11_endsAt_153 (by decide) ⟨by omega, by omega⟩ (fun c153 => absurd c153 (by omega)) (fun c153 => ?_)
                refine jr_iconst hx hb dX11_endsAt_156 ?_
                refine lv_goto (tgt := 161) hx hb dX11_endsAt_157 (by decide) ?_
                exact je_Si hx hb hr hlk (nz_b (by omega)).1 (i01_1 (isE_iff.mpr (by rw [hti]; first | exact Or.inl (by omega) | exact Or.inr (Or.inl (by omega)) | exact Or.inr (Or.inr ⟨by omega, hnn, hna⟩)))) dX11_endsAt_161
              · refine lv_iload hx hb dX11_endsAt_129 (lv_at hl 1 rfl) ?_
                refine jr_sipush hx hb dX11_endsAt_131 (by decide) ?_
                refine jr_idiv hx hb (by omega) (by omega) (by omega) (by omega) dX11_endsAt_134 ?_
                refine jr_iconst hx hb dX11_endsAt_135 ?_
                refine jr_ne (tgt := 143) hx hb dX11_endsAt_136 (by decide) ⟨by omega, by omega⟩ ⟨by omega, by omega⟩ (fun c136 => ?_) (fun c136 => ?_)
                · have hnn : ¬ (kd (tAt t ((i : Int) - 1)) = 1 ∧ kd (tAt t ((i : Int) + 1)) = 1) := fun q => by have h8 := kd_n (c := (tAt t ((i : Int) + 1))) (by omega); omega
                  refine jr_iconst hx hb dX11_endsAt_143 ?_
                  refine lv_istore (lv' := [(7, vi 0), (6, vi 0), (5, vi (tAt t ((i : Int) + 1))), (4, vi (tAt t ((i : Int) - 1))), (3, vi (t.getD i 0)), (0, .ref (ad 0)), (1, vi (i : Int)), (2, vi (t.length : Int))]) hx hb dX11_endsAt_144 hl (by decide) rfl (fun ls hl => ?_)
                  refine lv_iload hx hb dX11_endsAt_146 (lv_at hl 1 rfl) ?_
                  refine jr_ifne (tgt := 160) hx hb dX11_endsAt_148 (by decide) ⟨by omega, by omega⟩ (fun c148 => absurd c148 (by omega)) (fun c148 => ?_)
                  refine lv_iload hx hb dX11_endsAt_151 (lv_at hl 0 rfl) ?_
                  refine jr_ifne (tgt := 160) hx hb dX11_endsAt_153 (by decide) ⟨by omega, by omega⟩ (fun c153 => absurd c153 (by omega)) (fun c153 => ?_)
                  refine jr_iconst hx hb dX11_endsAt_156 ?_
                  refine lv_goto (tgt := 161) hx hb dX11_endsAt_157 (by decide) ?_
                  exact je_Si hx hb hr hlk (nz_b (by omega)).1 (i01_1 (isE_iff.mpr (by rw [hti]; first | exact Or.inl (by omega) | exact Or.inr (Or.inl (by omega)) | exact Or.inr (Or.inr ⟨by omega, hnn, hna⟩)))) dX11_endsAt_161
                · have hnum : kd (tAt t ((i : Int) - 1)) = 1 ∧ kd (tAt t ((i : Int) + 1)) = 1 := ⟨by rw [kd_n (c := (tAt t ((i : Int) - 1))) (by omega)]; omega, by rw [kd_n (c := (tAt t ((i : Int) + 1))) (by omega)]; omega⟩
                  refine jr_iconst hx hb dX11_endsAt_139 ?_
                  refine lv_goto (tgt := 144) hx hb dX11_endsAt_140 (by decide) ?_
                  refine lv_istore (lv' := [(7, vi 1), (6, vi 0), (5, vi (tAt t ((i : Int) + 1))), (4, vi (tAt t ((i : Int) - 1))), (3, vi (t.getD i 0)), (0, .ref (ad 0)), (1, vi (i : Int)), (2, vi (t.length : Int))]) hx hb dX11_endsAt_144 hl (by decide) rfl (fun ls hl => ?_)
                  refine lv_iload hx hb dX11_endsAt_146 (lv_at hl 1 rfl) ?_
                  refine jr_ifne (tgt := 160) hx hb dX11_endsAt_148 (by decide) ⟨by omega, by omega⟩ (fun c148 => absurd c148 (by omega)) (fun c148 => ?_)
                  refine lv_iload hx hb dX11_endsAt_151 (lv_at hl 0 rfl) ?_
                  refine jr_ifne (tgt := 160) hx hb dX11_endsAt_153 (by decide) ⟨by omega, by omega⟩ (fun c153 => ?_) (fun c153 => absurd c153 (by omega))
                  refine jr_iconst hx hb dX11_endsAt_160 ?_
                  exact je_Si hx hb hr hlk (nz_b (by omega)).1 (i01_0 (fun q => by rcases isE_iff.mp q with q | q | ⟨q, q2, q3⟩ <;> rw [hti] at q <;> first | omega | exact absurd hab9 q3 | exact q2 hnum)) dX11_endsAt_161
        · refine lv_iload hx hb dX11_endsAt_84 (lv_at hl 1 rfl) ?_
          refine jr_sipush hx hb dX11_endsAt_86 (by decide) ?_
          refine jr_ge (tgt := 106) hx hb dX11_endsAt_89 (by decide) ⟨by omega, by omega⟩ ⟨by omega, by omega⟩ (fun c89 => ?_) (fun c89 => ?_)
          · have hna : ¬ isAb f3 (tAt t ((i : Int) - 1)) = true := fun q => by have h9 := (isAb_iff.mp q).1; have h8 := kd_n (c := (tAt t ((i : Int) - 1))) (by omega); omega
            refine jr_iconst hx hb dX11_endsAt_106 ?_
            refine lv_istore (lv' := [(6, vi 0), (5, vi (tAt t ((i : Int) + 1))), (4, vi (tAt t ((i : Int) - 1))), (3, vi (t.getD i 0)), (0, .ref (ad 0)), (1, vi (i : Int)), (2, vi (t.length : Int))]) hx hb dX11_endsAt_107 hl (by decide) rfl (fun ls hl => ?_)
            refine lv_iload hx hb dX11_endsAt_109 (lv_at hl 2 rfl) ?_
            refine jr_iflt (tgt := 143) hx hb dX11_endsAt_111 (by decide) ⟨by omega, by omega⟩ (fun c111 => ?_) (fun c111 => ?_)
            · have hnn : ¬ (kd (tAt t ((i : Int) - 1)) = 1 ∧ kd (tAt t ((i : Int) + 1)) = 1) := fun q => by have h8 : kd (tAt t ((i : Int) - 1)) = -1 := if_pos c111; omega
              refine jr_iconst hx hb dX11_endsAt_143 ?_
              refine lv_istore (lv' := [(7, vi 0), (6, vi 0), (5, vi (tAt t ((i : Int) + 1))), (4, vi (tAt t ((i : Int) - 1))), (3, vi (t.getD i 0)), (0, .ref (ad 0)), (1, vi (i : Int)), (2, vi (t.length : Int))]) hx hb dX11_endsAt_144 hl (by decide) rfl (fun ls hl => ?_)
              refine lv_iload hx hb dX11_endsAt_146 (lv_at hl 1 rfl) ?_
              refine jr_ifne (tgt := 160) hx hb dX11_endsAt_148 (by decide) ⟨by omega, by omega⟩ (fun c148 => absurd c148 (by omega)) (fun c148 => ?_)
              refine lv_iload hx hb dX11_endsAt_151 (lv_at hl 0 rfl) ?_
              refine jr_ifne (tgt := 160) hx hb dX11_endsAt_153 (by decide) ⟨by omega, by omega⟩ (fun c153 => absurd c153 (by omega)) (fun c153 => ?_)
              refine jr_iconst hx hb dX11_endsAt_156 ?_
              refine lv_goto (tgt := 161) hx hb dX11_endsAt_157 (by decide) ?_
              exact je_Si hx hb hr hlk (nz_b (by omega)).1 (i01_1 (isE_iff.mpr (by rw [hti]; first | exact Or.inl (by omega) | exact Or.inr (Or.inl (by omega)) | exact Or.inr (Or.inr ⟨by omega, hnn, hna⟩)))) dX11_endsAt_161
            · refine lv_iload hx hb dX11_endsAt_114 (lv_at hl 2 rfl) ?_
              refine jr_sipush hx hb dX11_endsAt_116 (by decide) ?_
              refine jr_idiv hx hb (by omega) (by omega) (by omega) (by omega) dX11_endsAt_119 ?_
              refine jr_iconst hx hb dX11_endsAt_120 ?_
              refine jr_ne (tgt := 143) hx hb dX11_endsAt_121 (by decide) ⟨by omega, by omega⟩ ⟨by omega, by omega⟩ (fun c121 => ?_) (fun c121 => ?_)
              · have hnn : ¬ (kd (tAt t ((i : Int) - 1)) = 1 ∧ kd (tAt t ((i : Int) + 1)) = 1) := fun q => by have h8 := kd_n (c := (tAt t ((i : Int) - 1))) (by omega); omega
                refine jr_iconst hx hb dX11_endsAt_143 ?_
                refine lv_istore (lv' := [(7, vi 0), (6, vi 0), (5, vi (tAt t ((i : Int) + 1))), (4, vi (tAt t ((i : Int) - 1))), (3, vi (t.getD i 0)), (0, .ref (ad 0)), (1, vi (i : Int)), (2, vi (t.length : Int))]) hx hb dX11_endsAt_144 hl (by decide) rfl (fun ls hl => ?_)
                refine lv_iload hx hb dX11_endsAt_146 (lv_at hl 1 rfl) ?_
                refine jr_ifne (tgt := 160) hx hb dX11_endsAt_148 (by decide) ⟨by omega, by omega⟩ (fun c148 => absurd c148 (by omega)) (fun c148 => ?_)
                refine lv_iload hx hb dX11_endsAt_151 (lv_at hl 0 rfl) ?_
                refine jr_ifne (tgt := 160) hx hb dX11_endsAt_153 (by decide) ⟨by omega, by omega⟩ (fun c153 => absurd c153 (by omega)) (fun c153 => ?_)
                refine jr_iconst hx hb dX11_endsAt_156 ?_
                refine lv_goto (tgt := 161) hx hb dX11_endsAt_157 (by decide) ?_
                exact je_Si hx hb hr hlk (nz_b (by omega)).1 (i01_1 (isE_iff.mpr (by rw [hti]; first | exact Or.inl (by omega) | exact Or.inr (Or.inl (by omega)) | exact Or.inr (Or.inr ⟨by omega, hnn, hna⟩)))) dX11_endsAt_161
              · refine lv_iload hx hb dX11_endsAt_124 (lv_at hl 1 rfl) ?_
                refine jr_iflt (tgt := 143) hx hb dX11_endsAt_126 (by decide) ⟨by omega, by omega⟩ (fun c126 => ?_) (fun c126 => ?_)
                · have hnn : ¬ (kd (tAt t ((i : Int) - 1)) = 1 ∧ kd (tAt t ((i : Int) + 1)) = 1) := fun q => by have h8 : kd (tAt t ((i : Int) + 1)) = -1 := if_pos c126; omega
                  refine jr_iconst hx hb dX11_endsAt_143 ?_
                  refine lv_istore (lv' := [(7, vi 0), (6, vi 0), (5, vi (tAt t ((i : Int) + 1))), (4, vi (tAt t ((i : Int) - 1))), (3, vi (t.getD i 0)), (0, .ref (ad 0)), (1, vi (i : Int)), (2, vi (t.length : Int))]) hx hb dX11_endsAt_144 hl (by decide) rfl (fun ls hl => ?_)
                  refine lv_iload hx hb dX11_endsAt_146 (lv_at hl 1 rfl) ?_
                  refine jr_ifne (tgt := 160) hx hb dX11_endsAt_148 (by decide) ⟨by omega, by omega⟩ (fun c148 => absurd c148 (by omega)) (fun c148 => ?_)
                  refine lv_iload hx hb dX11_endsAt_151 (lv_at hl 0 rfl) ?_
                  refine jr_ifne (tgt := 160) hx hb dX11_endsAt_153 (by decide) ⟨by omega, by omega⟩ (fun c153 => absurd c153 (by omega)) (fun c153 => ?_)
                  refine jr_iconst hx hb dX11_endsAt_156 ?_
                  refine lv_goto (tgt := 161) hx hb dX11_endsAt_157 (by decide) ?_
                  exact je_Si hx hb hr hlk (nz_b (by omega)).1 (i01_1 (isE_iff.mpr (by rw [hti]; first | exact Or.inl (by omega) | exact Or.inr (Or.inl (by omega)) | exact Or.inr (Or.inr ⟨by omega, hnn, hna⟩)))) dX11_endsAt_161
                · refine lv_iload hx hb dX11_endsAt_129 (lv_at hl 1 rfl) ?_
                  refine jr_sipush hx hb dX11_endsAt_131 (by decide) ?_
                  refine jr_idiv hx hb (by omega) (by omega) (by omega) (by omega) dX11_endsAt_134 ?_
                  refine jr_iconst hx hb dX11_endsAt_135 ?_
                  refine jr_ne (tgt := 143) hx hb dX11_endsAt_136 (by decide) ⟨by omega, by omega⟩ ⟨by omega, by omega⟩ (fun c136 => ?_) (fun c136 => ?_)
                  · have hnn : ¬ (kd (tAt t ((i : Int) - 1)) = 1 ∧ kd (tAt t ((i : Int) + 1)) = 1) := fun q => by have h8 := kd_n (c := (tAt t ((i : Int) + 1))) (by omega); omega
                    refine jr_iconst hx hb dX11_endsAt_143 ?_
                    refine lv_istore (lv' := [(7, vi 0), (6, vi 0), (5, vi (tAt t ((i : Int) + 1))), (4, vi (tAt t ((i : Int) - 1))), (3, vi (t.getD i 0)), (0, .ref (ad 0)), (1, vi (i : Int)), (2, vi (t.length : Int))]) hx hb dX11_endsAt_144 hl (by decide) rfl (fun ls hl => ?_)
                    refine lv_iload hx hb dX11_endsAt_146 (lv_at hl 1 rfl) ?_
                    refine jr_ifne (tgt := 160) hx hb dX11_endsAt_148 (by decide) ⟨by omega, by omega⟩ (fun c148 => absurd c148 (by omega)) (fun c148 => ?_)
                    refine lv_iload hx hb dX11_endsAt_151 (lv_at hl 0 rfl) ?_
                    refine jr_ifne (tgt := 160) hx hb dX11_endsAt_153 (by decide) ⟨by omega, by omega⟩ (fun c153 => absurd c153 (by omega)) (fun c153 => ?_)
                    refine jr_iconst hx hb dX11_endsAt_156 ?_
                    refine lv_goto (tgt := 161) hx hb dX11_endsAt_157 (by decide) ?_
                    exact je_Si hx hb hr hlk (nz_b (by omega)).1 (i01_1 (isE_iff.mpr (by rw [hti]; first | exact Or.inl (by omega) | exact Or.inr (Or.inl (by omega)) | exact Or.inr (Or.inr ⟨by omega, hnn, hna⟩)))) dX11_endsAt_161
                  · have hnum : kd (tAt t ((i : Int) - 1)) = 1 ∧ kd (tAt t ((i : Int) + 1)) = 1 := ⟨by rw [kd_n (c := (tAt t ((i : Int) - 1))) (by omega)]; omega, by rw [kd_n (c := (tAt t ((i : Int) + 1))) (by omega)]; omega⟩
                    refine jr_iconst hx hb dX11_endsAt_139 ?_
                    refine lv_goto (tgt := 144) hx hb dX11_endsAt_140 (by decide) ?_
                    refine lv_istore (lv' := [(7, vi 1), (6, vi 0), (5, vi (tAt t ((i : Int) + 1))), (4, vi (tAt t ((i : Int) - 1))), (3, vi (t.getD i 0)), (0, .ref (ad 0)), (1, vi (i : Int)), (2, vi (t.length : Int))]) hx hb dX11_endsAt_144 hl (by decide) rfl (fun ls hl => ?_)
                    refine lv_iload hx hb dX11_endsAt_146 (lv_at hl 1 rfl) ?_
                    refine jr_ifne (tgt := 160) hx hb dX11_endsAt_148 (by decide) ⟨by omega, by omega⟩ (fun c148 => absurd c148 (by omega)) (fun c148 => ?_)
                    refine lv_iload hx hb dX11_endsAt_151 (lv_at hl 0 rfl) ?_
                    refine jr_ifne (tgt := 160) hx hb dX11_endsAt_153 (by decide) ⟨by omega, by omega⟩ (fun c153 => ?_) (fun c153 => absurd c153 (by omega))
                    refine jr_iconst hx hb dX11_endsAt_160 ?_
                    exact je_Si hx hb hr hlk (nz_b (by omega)).1 (i01_0 (fun q => by rcases isE_iff.mp q with q | q | ⟨q, q2, q3⟩ <;> rw [hti] at q <;> first | omega | exact absurd hab9 q3 | exact q2 hnum)) dX11_endsAt_161
          · have hi1 : 1 ≤ i := by rcases Nat.lt_or_ge 0 i with h | h; omega; have h9 := tAt_out (t := t) (i := (i : Int) - 1) (Or.inl (by omega)); omega
            have hw9 : (tAt t ((i : Int) - 1)) < 100 := by (have e9 : (tAt t ((i : Int) - 1)) = t.getD (i - 1) 0 := by (rw [show (i : Int) - 1 = ((i - 1 : Nat) : Int) by omega]; exact tAt_in (by omega))); (have h9 := hwd (t.getD (i - 1) 0) (by rw [List.getD_eq_getElem?_getD, List.getElem?_eq_getElem (show i - 1 < t.length by omega)]; exact List.getElem_mem _)); omega
            have hab8 := hab (tAt t ((i : Int) - 1)).toNat (by omega)
            have hkp0 : kd (tAt t ((i : Int) - 1)) = 0 := by rw [kd_n (c := (tAt t ((i : Int) - 1))) (by omega)]; omega
            have hvp0 : vl (tAt t ((i : Int) - 1)) = (tAt t ((i : Int) - 1)) := by rw [vl_n (by omega)]; omega
            refine lv_aload_n hx hb dX11_endsAt_92 rfl (lv_at hl 3 rfl) ?_
            refine va_get (D := gD g) (ci := 10) (v := .ref (ad 3)) (C := RX11) (T := TX11) (N := 29) hx hb htl ck_X11 hown hKK.k hP 0 rfl rfl 4 (by decide) (htl _ wd_5_17) (fun _ h9 => h9) rfl dX11_endsAt_93 ?_
            refine lv_iload hx hb dX11_endsAt_96 (lv_at hl 1 rfl) ?_
            refine jr_zald hx hb hKK.k hP 1 rfl ((tAt t ((i : Int) - 1)).toNat) (by omega) (by omega) (by omega) dX11_endsAt_98 ?_
            refine jr_ifeq (tgt := 106) hx hb dX11_endsAt_99 (by decide) ⟨by omega, by omega⟩ (fun c99 => ?_) (fun c99 => ?_)
            · have hna : ¬ isAb f3 (tAt t ((i : Int) - 1)) = true := fun q => (isAb_iff.mp q).2.2.2 (by rw [hvp0]; exact c99)
              refine jr_iconst hx hb dX11_endsAt_106 ?_
              refine lv_istore (lv' := [(6, vi 0), (5, vi (tAt t ((i : Int) + 1))), (4, vi (tAt t ((i : Int) - 1))), (3, vi (t.getD i 0)), (0, .ref (ad 0)), (1, vi (i : Int)), (2, vi (t.length : Int))]) hx hb dX11_endsAt_107 hl (by decide) rfl (fun ls hl => ?_)
              refine lv_iload hx hb dX11_endsAt_109 (lv_at hl 2 rfl) ?_
              refine jr_iflt (tgt := 143) hx hb dX11_endsAt_111 (by decide) ⟨by omega, by omega⟩ (fun c111 => ?_) (fun c111 => ?_)
              · have hnn : ¬ (kd (tAt t ((i : Int) - 1)) = 1 ∧ kd (tAt t ((i : Int) + 1)) = 1) := fun q => by have h8 : kd (tAt t ((i : Int) - 1)) = -1 := if_pos c111; omega
                refine jr_iconst hx hb dX11_endsAt_143 ?_
                refine lv_istore (lv' := [(7, vi 0), (6, vi 0), (5, vi (tAt t ((i : Int) + 1))), (4, vi (tAt t ((i : Int) - 1))), (3, vi (t.getD i 0)), (0, .ref (ad 0)), (1, vi (i : Int)), (2, vi (t.length : Int))]) hx hb dX11_endsAt_144 hl (by decide) rfl (fun ls hl => ?_)
                refine lv_iload hx hb dX11_endsAt_146 (lv_at hl 1 rfl) ?_
                refine jr_ifne (tgt := 160) hx hb dX11_endsAt_148 (by decide) ⟨by omega, by omega⟩ (fun c148 => absurd c148 (by omega)) (fun c148 => ?_)
                refine lv_iload hx hb dX11_endsAt_151 (lv_at hl 0 rfl) ?_
                refine jr_ifne (tgt := 160) hx hb dX11_endsAt_153 (by decide) ⟨by omega, by omega⟩ (fun c153 => absurd c153 (by omega)) (fun c153 => ?_)
                refine jr_iconst hx hb dX11_endsAt_156 ?_
                refine lv_goto (tgt := 161) hx hb dX11_endsAt_157 (by decide) ?_
                exact je_Si hx hb hr hlk (nz_b (by omega)).1 (i01_1 (isE_iff.mpr (by rw [hti]; first | exact Or.inl (by omega) | exact Or.inr (Or.inl (by omega)) | exact Or.inr (Or.inr ⟨by omega, hnn, hna⟩)))) dX11_endsAt_161
              · refine lv_iload hx hb dX11_endsAt_114 (lv_at hl 2 rfl) ?_
                refine jr_sipush hx hb dX11_endsAt_116 (by decide) ?_
                refine jr_idiv hx hb (by omega) (by omega) (by omega) (by omega) dX11_endsAt_119 ?_
                refine jr_iconst hx hb dX11_endsAt_120 ?_
                refine jr_ne (tgt := 143) hx hb dX11_endsAt_121 (by decide) ⟨by omega, by omega⟩ ⟨by omega, by omega⟩ (fun c121 => ?_) (fun c121 => ?_)
                · have hnn : ¬ (kd (tAt t ((i : Int) - 1)) = 1 ∧ kd (tAt t ((i : Int) + 1)) = 1) := fun q => by have h8 := kd_n (c := (tAt t ((i : Int) - 1))) (by omega); omega
                  refine jr_iconst hx hb dX11_endsAt_143 ?_
                  refine lv_istore (lv' := [(7, vi 0), (6, vi 0), (5, vi (tAt t ((i : Int) + 1))), (4, vi (tAt t ((i : Int) - 1))), (3, vi (t.getD i 0)), (0, .ref (ad 0)), (1, vi (i : Int)), (2, vi (t.length : Int))]) hx hb dX11_endsAt_144 hl (by decide) rfl (fun ls hl => ?_)
                  refine lv_iload hx hb dX11_endsAt_146 (lv_at hl 1 rfl) ?_
                  refine jr_ifne (tgt := 160) hx hb dX11_endsAt_148 (by decide) ⟨by omega, by omega⟩ (fun c148 => absurd c148 (by omega)) (fun c148 => ?_)
                  refine lv_iload hx hb dX11_endsAt_151 (lv_at hl 0 rfl) ?_
                  refine jr_ifne (tgt := 160) hx hb dX11_endsAt_153 (by decide) ⟨by omega, by omega⟩ (fun c153 => absurd c153 (by omega)) (fun c153 => ?_)
                  refine jr_iconst hx hb dX11_endsAt_156 ?_
                  refine lv_goto (tgt := 161) hx hb dX11_endsAt_157 (by decide) ?_
                  exact je_Si hx hb hr hlk (nz_b (by omega)).1 (i01_1 (isE_iff.mpr (by rw [hti]; first | exact Or.inl (by omega) | exact Or.inr (Or.inl (by omega)) | exact Or.inr (Or.inr ⟨by omega, hnn, hna⟩)))) dX11_endsAt_161
                · refine lv_iload hx hb dX11_endsAt_124 (lv_at hl 1 rfl) ?_
                  refine jr_iflt (tgt := 143) hx hb dX11_endsAt_126 (by decide) ⟨by omega, by omega⟩ (fun c126 => ?_) (fun c126 => ?_)
                  · have hnn : ¬ (kd (tAt t ((i : Int) - 1)) = 1 ∧ kd (tAt t ((i : Int) + 1)) = 1) := fun q => by have h8 : kd (tAt t ((i : Int) + 1)) = -1 := if_pos c126; omega
                    refine jr_iconst hx hb dX11_endsAt_143 ?_
                    refine lv_istore (lv' := [(7, vi 0), (6, vi 0), (5, vi (tAt t ((i : Int) + 1))), (4, vi (tAt t ((i : Int) - 1))), (3, vi (t.getD i 0)), (0, .ref (ad 0)), (1, vi (i : Int)), (2, vi (t.length : Int))]) hx hb dX11_endsAt_144 hl (by decide) rfl (fun ls hl => ?_)
                    refine lv_iload hx hb dX11_endsAt_146 (lv_at hl 1 rfl) ?_
                    refine jr_ifne (tgt := 160) hx hb dX11_endsAt_148 (by decide) ⟨by omega, by omega⟩ (fun c148 => absurd c148 (by omega)) (fun c148 => ?_)
                    refine lv_iload hx hb dX11_endsAt_151 (lv_at hl 0 rfl) ?_
                    refine jr_ifne (tgt := 160) hx hb dX11_endsAt_153 (by decide) ⟨by omega, by omega⟩ (fun c153 => absurd c153 (by omega)) (fun c153 => ?_)
                    refine jr_iconst hx hb dX11_endsAt_156 ?_
                    refine lv_goto (tgt := 161) hx hb dX11_endsAt_157 (by decide) ?_
                    exact je_Si hx hb hr hlk (nz_b (by omega)).1 (i01_1 (isE_iff.mpr (by rw [hti]; first | exact Or.inl (by omega) | exact Or.inr (Or.inl (by omega)) | exact Or.inr (Or.inr ⟨by omega, hnn, hna⟩)))) dX11_endsAt_161
                  · refine lv_iload hx hb dX11_endsAt_129 (lv_at hl 1 rfl) ?_
                    refine jr_sipush hx hb dX11_endsAt_131 (by decide) ?_
                    refine jr_idiv hx hb (by omega) (by omega) (by omega) (by omega) dX11_endsAt_134 ?_
                    refine jr_iconst hx hb dX11_endsAt_135 ?_
                    refine jr_ne (tgt := 143) hx hb dX11_endsAt_136 (by decide) ⟨by omega, by omega⟩ ⟨by omega, by omega⟩ (fun c136 => ?_) (fun c136 => ?_)
                    · have hnn : ¬ (kd (tAt t ((i : Int) - 1)) = 1 ∧ kd (tAt t ((i : Int) + 1)) = 1) := fun q => by have h8 := kd_n (c := (tAt t ((i : Int) + 1))) (by omega); omega
                      refine jr_iconst hx hb dX11_endsAt_143 ?_
                      refine lv_istore (lv' := [(7, vi 0), (6, vi 0), (5, vi (tAt t ((i : Int) + 1))), (4, vi (tAt t ((i : Int) - 1))), (3, vi (t.getD i 0)), (0, .ref (ad 0)), (1, vi (i : Int)), (2, vi (t.length : Int))]) hx hb dX11_endsAt_144 hl (by decide) rfl (fun ls hl => ?_)
                      refine lv_iload hx hb dX11_endsAt_146 (lv_at hl 1 rfl) ?_
                      refine jr_ifne (tgt := 160) hx hb dX11_endsAt_148 (by decide) ⟨by omega, by omega⟩ (fun c148 => absurd c148 (by omega)) (fun c148 => ?_)
                      refine lv_iload hx hb dX11_endsAt_151 (lv_at hl 0 rfl) ?_
                      refine jr_ifne (tgt := 160) hx hb dX11_endsAt_153 (by decide) ⟨by omega, by omega⟩ (fun c153 => absurd c153 (by omega)) (fun c153 => ?_)
                      refine jr_iconst hx hb dX11_endsAt_156 ?_
                      refine lv_goto (tgt := 161) hx hb dX11_endsAt_157 (by decide) ?_
                      exact je_Si hx hb hr hlk (nz_b (by omega)).1 (i01_1 (isE_iff.mpr (by rw [hti]; first | exact Or.inl (by omega) | exact Or.inr (Or.inl (by omega)) | exact Or.inr (Or.inr ⟨by omega, hnn, hna⟩)))) dX11_endsAt_161
                    · have hnum : kd (tAt t ((i : Int) - 1)) = 1 ∧ kd (tAt t ((i : Int) + 1)) = 1 := ⟨by rw [kd_n (c := (tAt t ((i : Int) - 1))) (by omega)]; omega, by rw [kd_n (c := (tAt t ((i : Int) + 1))) (by omega)]; omega⟩
                      refine jr_iconst hx hb dX11_endsAt_139 ?_
                      refine lv_goto (tgt := 144) hx hb dX11_endsAt_140 (by decide) ?_
                      refine lv_istore (lv' := [(7, vi 1), (6, vi 0), (5, vi (tAt t ((i : Int) + 1))), (4, vi (tAt t ((i : Int) - 1))), (3, vi (t.getD i 0)), (0, .ref (ad 0)), (1, vi (i : Int)), (2, vi (t.length : Int))]) hx hb dX11_endsAt_144 hl (by decide) rfl (fun ls hl => ?_)
                      refine lv_iload hx hb dX11_endsAt_146 (lv_at hl 1 rfl) ?_
                      refine jr_ifne (tgt := 160) hx hb dX11_endsAt_148 (by decide) ⟨by omega, by omega⟩ (fun c148 => absurd c148 (by omega)) (fun c148 => ?_)
                      refine lv_iload hx hb dX11_endsAt_151 (lv_at hl 0 rfl) ?_
                      refine jr_ifne (tgt := 160) hx hb dX11_endsAt_153 (by decide) ⟨by omega, by omega⟩ (fun c153 => ?_) (fun c153 => absurd c153 (by omega))
                      refine jr_iconst hx hb dX11_endsAt_160 ?_
                      exact je_Si hx hb hr hlk (nz_b (by omega)).1 (i01_0 (fun q => by rcases isE_iff.mp q with q | q | ⟨q, q2, q3⟩ <;> rw [hti] at q <;> first | omega | exact absurd hab9 q3 | exact q2 hnum)) dX11_endsAt_161
            · have hab9 : isAb f3 (tAt t ((i : Int) - 1)) = true := isAb_iff.mpr ⟨hkp0, by omega, by omega, by rw [hvp0]; exact c99⟩
              refine jr_iconst hx hb dX11_endsAt_102 ?_
              refine lv_goto (tgt := 107) hx hb dX11_endsAt_103 (by decide) ?_
              refine lv_istore (lv' := [(6, vi 1), (5, vi (tAt t ((i : Int) + 1))), (4, vi (tAt t ((i : Int) - 1))), (3, vi (t.getD i 0)), (0, .ref (ad 0)), (1, vi (i : Int)), (2, vi (t.length : Int))]) hx hb dX11_endsAt_107 hl (by decide) rfl (fun ls hl => ?_)
              refine lv_iload hx hb dX11_endsAt_109 (lv_at hl 2 rfl) ?_
              refine jr_iflt (tgt := 143) hx hb dX11_endsAt_111 (by decide) ⟨by omega, by omega⟩ (fun c111 => ?_) (fun c111 => ?_)
              · have hnn : ¬ (kd (tAt t ((i : Int) - 1)) = 1 ∧ kd (tAt t ((i : Int) + 1)) = 1) := fun q => by have h8 : kd (tAt t ((i : Int) - 1)) = -1 := if_pos c111; omega
                refine jr_iconst hx hb dX11_endsAt_143 ?_
                refine lv_istore (lv' := [(7, vi 0), (6, vi 1), (5, vi (tAt t ((i : Int) + 1))), (4, vi (tAt t ((i : Int) - 1))), (3, vi (t.getD i 0)), (0, .ref (ad 0)), (1, vi (i : Int)), (2, vi (t.length : Int))]) hx hb dX11_endsAt_144 hl (by decide) rfl (fun ls hl => ?_)
                refine lv_iload hx hb dX11_endsAt_146 (lv_at hl 1 rfl) ?_
                refine jr_ifne (tgt := 160) hx hb dX11_endsAt_148 (by decide) ⟨by omega, by omega⟩ (fun c148 => ?_) (fun c148 => absurd c148 (by omega))
                refine jr_iconst hx hb dX11_endsAt_160 ?_
                exact je_Si hx hb hr hlk (nz_b (by omega)).1 (i01_0 (fun q => by rcases isE_iff.mp q with q | q | ⟨q, q2, q3⟩ <;> rw [hti] at q <;> first | omega | exact absurd hab9 q3 | exact q2 hnum)) dX11_endsAt_161
              · refine lv_iload hx hb dX11_endsAt_114 (lv_at hl 2 rfl) ?_
                refine jr_sipush hx hb dX11_endsAt_116 (by decide) ?_
                refine jr_idiv hx hb (by omega) (by omega) (by omega) (by omega) dX11_endsAt_119 ?_
                refine jr_iconst hx hb dX11_endsAt_120 ?_
                refine jr_ne (tgt := 143) hx hb dX11_endsAt_121 (by decide) ⟨by omega, by omega⟩ ⟨by omega, by omega⟩ (fun c121 => ?_) (fun c121 => ?_)
                · have hnn : ¬ (kd (tAt t ((i : Int) - 1)) = 1 ∧ kd (tAt t ((i : Int) + 1)) = 1) := fun q => by have h8 := kd_n (c := (tAt t ((i : Int) - 1))) (by omega); omega
                  refine jr_iconst hx hb dX11_endsAt_143 ?_
                  refine lv_istore (lv' := [(7, vi 0), (6, vi 1), (5, vi (tAt t ((i : Int) + 1))), (4, vi (tAt t ((i : Int) - 1))), (3, vi (t.getD i 0)), (0, .ref (ad 0)), (1, vi (i : Int)), (2, vi (t.length : Int))]) hx hb dX11_endsAt_144 hl (by decide) rfl (fun ls hl => ?_)
                  refine lv_iload hx hb dX11_endsAt_146 (lv_at hl 1 rfl) ?_
                  refine jr_ifne (tgt := 160) hx hb dX11_endsAt_148 (by decide) ⟨by omega, by omega⟩ (fun c148 => ?_) (fun c148 => absurd c148 (by omega))
                  refine jr_iconst hx hb dX11_endsAt_160 ?_
                  exact je_Si hx hb hr hlk (nz_b (by omega)).1 (i01_0 (fun q => by rcases isE_iff.mp q with q | q | ⟨q, q2, q3⟩ <;> rw [hti] at q <;> first | omega | exact absurd hab9 q3 | exact q2 hnum)) dX11_endsAt_161
                · refine lv_iload hx hb dX11_endsAt_124 (lv_at hl 1 rfl) ?_
                  refine jr_iflt (tgt := 143) hx hb dX11_endsAt_126 (by decide) ⟨by omega, by omega⟩ (fun c126 => ?_) (fun c126 => ?_)
                  · have hnn : ¬ (kd (tAt t ((i : Int) - 1)) = 1 ∧ kd (tAt t ((i : Int) + 1)) = 1) := fun q => by have h8 : kd (tAt t ((i : Int) + 1)) = -1 := if_pos c126; omega
                    refine jr_iconst hx hb dX11_endsAt_143 ?_
                    refine lv_istore (lv' := [(7, vi 0), (6, vi 1), (5, vi (tAt t ((i : Int) + 1))), (4, vi (tAt t ((i : Int) - 1))), (3, vi (t.getD i 0)), (0, .ref (ad 0)), (1, vi (i : Int)), (2, vi (t.length : Int))]) hx hb dX11_endsAt_144 hl (by decide) rfl (fun ls hl => ?_)
                    refine lv_iload hx hb dX11_endsAt_146 (lv_at hl 1 rfl) ?_
                    refine jr_ifne (tgt := 160) hx hb dX11_endsAt_148 (by decide) ⟨by omega, by omega⟩ (fun c148 => ?_) (fun c148 => absurd c148 (by omega))
                    refine jr_iconst hx hb dX11_endsAt_160 ?_
                    exact je_Si hx hb hr hlk (nz_b (by omega)).1 (i01_0 (fun q => by rcases isE_iff.mp q with q | q | ⟨q, q2, q3⟩ <;> rw [hti] at q <;> first | omega | exact absurd hab9 q3 | exact q2 hnum)) dX11_endsAt_161
                  · refine lv_iload hx hb dX11_endsAt_129 (lv_at hl 1 rfl) ?_
                    refine jr_sipush hx hb dX11_endsAt_131 (by decide) ?_
                    refine jr_idiv hx hb (by omega) (by omega) (by omega) (by omega) dX11_endsAt_134 ?_
                    refine jr_iconst hx hb dX11_endsAt_135 ?_
                    refine jr_ne (tgt := 143) hx hb dX11_endsAt_136 (by decide) ⟨by omega, by omega⟩ ⟨by omega, by omega⟩ (fun c136 => ?_) (fun c136 => ?_)
                    · have hnn : ¬ (kd (tAt t ((i : Int) - 1)) = 1 ∧ kd (tAt t ((i : Int) + 1)) = 1) := fun q => by have h8 := kd_n (c := (tAt t ((i : Int) + 1))) (by omega); omega
                      refine jr_iconst hx hb dX11_endsAt_143 ?_
                      refine lv_istore (lv' := [(7, vi 0), (6, vi 1), (5, vi (tAt t ((i : Int) + 1))), (4, vi (tAt t ((i : Int) - 1))), (3, vi (t.getD i 0)), (0, .ref (ad 0)), (1, vi (i : Int)), (2, vi (t.length : Int))]) hx hb dX11_endsAt_144 hl (by decide) rfl (fun ls hl => ?_)
                      refine lv_iload hx hb dX11_endsAt_146 (lv_at hl 1 rfl) ?_
                      refine jr_ifne (tgt := 160) hx hb dX11_endsAt_148 (by decide) ⟨by omega, by omega⟩ (fun c148 => ?_) (fun c148 => absurd c148 (by omega))
                      refine jr_iconst hx hb dX11_endsAt_160 ?_
                      exact je_Si hx hb hr hlk (nz_b (by omega)).1 (i01_0 (fun q => by rcases isE_iff.mp q with q | q | ⟨q, q2, q3⟩ <;> rw [hti] at q <;> first | omega | exact absurd hab9 q3 | exact q2 hnum)) dX11_endsAt_161
                    · have hnum : kd (tAt t ((i : Int) - 1)) = 1 ∧ kd (tAt t ((i : Int) + 1)) = 1 := ⟨by rw [kd_n (c := (tAt t ((i : Int) - 1))) (by omega)]; omega, by rw [kd_n (c := (tAt t ((i : Int) + 1))) (by omega)]; omega⟩
                      refine jr_iconst hx hb dX11_endsAt_139 ?_
                      refine lv_goto (tgt := 144) hx hb dX11_endsAt_140 (by decide) ?_
                      refine lv_istore (lv' := [(7, vi 1), (6, vi 1), (5, vi (tAt t ((i : Int) + 1))), (4, vi (tAt t ((i : Int) - 1))), (3, vi (t.getD i 0)), (0, .ref (ad 0)), (1, vi (i : Int)), (2, vi (t.length : Int))]) hx hb dX11_endsAt_144 hl (by decide) rfl (fun ls hl => ?_)
                      refine lv_iload hx hb dX11_endsAt_146 (lv_at hl 1 rfl) ?_
                      refine jr_ifne (tgt := 160) hx hb dX11_endsAt_148 (by decide) ⟨by omega, by omega⟩ (fun c148 => ?_) (fun c148 => absurd c148 (by omega))
                      refine jr_iconst hx hb dX11_endsAt_160 ?_
                      exact je_Si hx hb hr hlk (nz_b (by omega)).1 (i01_0 (fun q => by rcases isE_iff.mp q with q | q | ⟨q, q2, q3⟩ <;> rw [hti] at q <;> first | omega | exact absurd hab9 q3 | exact q2 hnum)) dX11_endsAt_161
      · refine jr_iconst hx hb dX11_endsAt_65 ?_
        refine lv_goto (tgt := 77) hx hb dX11_endsAt_66 (by decide) ?_
        refine jr_nm (b := (tAt t ((i : Int) + 1))) (tAt_out (Or.inr (by omega))).symm ?_
        refine lv_istore (lv' := [(5, vi (tAt t ((i : Int) + 1))), (4, vi (tAt t ((i : Int) - 1))), (3, vi (t.getD i 0)), (0, .ref (ad 0)), (1, vi (i : Int)), (2, vi (t.length : Int))]) hx hb dX11_endsAt_77 hl (by decide) rfl (fun ls hl => ?_)
        refine lv_iload hx hb dX11_endsAt_79 (lv_at hl 1 rfl) ?_
        refine jr_iflt (tgt := 106) hx hb dX11_endsAt_81 (by decide) ⟨by omega, by omega⟩ (fun c81 => ?_) (fun c81 => ?_)
        · have hna : ¬ isAb f3 (tAt t ((i : Int) - 1)) = true := fun q => by have h9 := (isAb_iff.mp q).1; have h8 : kd (tAt t ((i : Int) - 1)) = -1 := if_pos c81; omega
          refine jr_iconst hx hb dX11_endsAt_106 ?_
          refine lv_istore (lv' := [(6, vi 0), (5, vi (tAt t ((i : Int) + 1))), (4, vi (tAt t ((i : Int) - 1))), (3, vi (t.getD i 0)), (0, .ref (ad 0)), (1, vi (i : Int)), (2, vi (t.length : Int))]) hx hb dX11_endsAt_107 hl (by decide) rfl (fun ls hl => ?_)
          refine lv_iload hx hb dX11_endsAt_109 (lv_at hl 2 rfl) ?_
          refine jr_iflt (tgt := 143) hx hb dX11_endsAt_111 (by decide) ⟨by omega, by omega⟩ (fun c111 => ?_) (fun c111 => ?_)
          · have hnn : ¬ (kd (tAt t ((i : Int) - 1)) = 1 ∧ kd (tAt t ((i : Int) + 1)) = 1) := fun q => by have h8 : kd (tAt t ((i : Int) - 1)) = -1 := if_pos c111; omega
            refine jr_iconst hx hb dX11_endsAt_143 ?_
            refine lv_istore (lv' := [(7, vi 0), (6, vi 0), (5, vi (tAt t ((i : Int) + 1))), (4, vi (tAt t ((i : Int) - 1))), (3, vi (t.getD i 0)), (0, .ref (ad 0)), (1, vi (i : Int)), (2, vi (t.length : Int))]) hx hb dX11_endsAt_144 hl (by decide) rfl (fun ls hl => ?_)
            refine lv_iload hx hb dX11_endsAt_146 (lv_at hl 1 rfl) ?_
            refine jr_ifne (tgt := 160) hx hb dX11_endsAt_148 (by decide) ⟨by omega, by omega⟩ (fun c148 => absurd c148 (by omega)) (fun c148 => ?_)
            refine lv_iload hx hb dX11_endsAt_151 (lv_at hl 0 rfl) ?_
            refine jr_ifne (tgt := 160) hx hb dX11_endsAt_153 (by decide) ⟨by omega, by omega⟩ (fun c153 => absurd c153 (by omega)) (fun c153 => ?_)
            refine jr_iconst hx hb dX11_endsAt_156 ?_
            refine lv_goto (tgt := 161) hx hb dX11_endsAt_157 (by decide) ?_
            exact je_Si hx hb hr hlk (nz_b (by omega)).1 (i01_1 (isE_iff.mpr (by rw [hti]; first | exact Or.inl (by omega) | exact Or.inr (Or.inl (by omega)) | exact Or.inr (Or.inr ⟨by omega, hnn, hna⟩)))) dX11_endsAt_161
          · refine lv_iload hx hb dX11_endsAt_114 (lv_at hl 2 rfl) ?_
            refine jr_sipush hx hb dX11_endsAt_116 (by decide) ?_
            refine jr_idiv hx hb (by omega) (by omega) (by omega) (by omega) dX11_endsAt_119 ?_
            refine jr_iconst hx hb dX11_endsAt_120 ?_
            refine jr_ne (tgt := 143) hx hb dX11_endsAt_121 (by decide) ⟨by omega, by omega⟩ ⟨by omega, by omega⟩ (fun c121 => ?_) (fun c121 => ?_)
            · have hnn : ¬ (kd (tAt t ((i : Int) - 1)) = 1 ∧ kd (tAt t ((i : Int) + 1)) = 1) := fun q => by have h8 := kd_n (c := (tAt t ((i : Int) - 1))) (by omega); omega
              refine jr_iconst hx hb dX11_endsAt_143 ?_
              refine lv_istore (lv' := [(7, vi 0), (6, vi 0), (5, vi (tAt t ((i : Int) + 1))), (4, vi (tAt t ((i : Int) - 1))), (3, vi (t.getD i 0)), (0, .ref (ad 0)), (1, vi (i : Int)), (2, vi (t.length : Int))]) hx hb dX11_endsAt_144 hl (by decide) rfl (fun ls hl => ?_)
              refine lv_iload hx hb dX11_endsAt_146 (lv_at hl 1 rfl) ?_
              refine jr_ifne (tgt := 160) hx hb dX11_endsAt_148 (by decide) ⟨by omega, by omega⟩ (fun c148 => absurd c148 (by omega)) (fun c148 => ?_)
              refine lv_iload hx hb dX11_endsAt_151 (lv_at hl 0 rfl) ?_
              refine jr_ifne (tgt := 160) hx hb dX11_endsAt_153 (by decide) ⟨by omega, by omega⟩ (fun c153 => absurd c153 (by omega)) (fun c153 => ?_)
              refine jr_iconst hx hb dX11_endsAt_156 ?_
              refine lv_goto (tgt := 161) hx hb dX11_endsAt_157 (by decide) ?_
              exact je_Si hx hb hr hlk (nz_b (by omega)).1 (i01_1 (isE_iff.mpr (by rw [hti]; first | exact Or.inl (by omega) | exact Or.inr (Or.inl (by omega)) | exact Or.inr (Or.inr ⟨by omega, hnn, hna⟩)))) dX11_endsAt_161
            · refine lv_iload hx hb dX11_endsAt_124 (lv_at hl 1 rfl) ?_
              refine jr_iflt (tgt := 143) hx hb dX11_endsAt_126 (by decide) ⟨by omega, by omega⟩ (fun c126 => ?_) (fun c126 => ?_)
              · have hnn : ¬ (kd (tAt t ((i : Int) - 1)) = 1 ∧ kd (tAt t ((i : Int) + 1)) = 1) := fun q => by have h8 : kd (tAt t ((i : Int) + 1)) = -1 := if_pos c126; omega
                refine jr_iconst hx hb dX11_endsAt_143 ?_
                refine lv_istore (lv' := [(7, vi 0), (6, vi 0), (5, vi (tAt t ((i : Int) + 1))), (4, vi (tAt t ((i : Int) - 1))), (3, vi (t.getD i 0)), (0, .ref (ad 0)), (1, vi (i : Int)), (2, vi (t.length : Int))]) hx hb dX11_endsAt_144 hl (by decide) rfl (fun ls hl => ?_)
                refine lv_iload hx hb dX11_endsAt_146 (lv_at hl 1 rfl) ?_
                refine jr_ifne (tgt := 160) hx hb dX11_endsAt_148 (by decide) ⟨by omega, by omega⟩ (fun c148 => absurd c148 (by omega)) (fun c148 => ?_)
                refine lv_iload hx hb dX11_endsAt_151 (lv_at hl 0 rfl) ?_
                refine jr_ifne (tgt := 160) hx hb dX11_endsAt_153 (by decide) ⟨by omega, by omega⟩ (fun c153 => absurd c153 (by omega)) (fun c153 => ?_)
                refine jr_iconst hx hb dX11_endsAt_156 ?_
                refine lv_goto (tgt := 161) hx hb dX11_endsAt_157 (by decide) ?_
                exact je_Si hx hb hr hlk (nz_b (by omega)).1 (i01_1 (isE_iff.mpr (by rw [hti]; first | exact Or.inl (by omega) | exact Or.inr (Or.inl (by omega)) | exact Or.inr (Or.inr ⟨by omega, hnn, hna⟩)))) dX11_endsAt_161
              · refine lv_iload hx hb dX11_endsAt_129 (lv_at hl 1 rfl) ?_
                refine jr_sipush hx hb dX11_endsAt_131 (by decide) ?_
                refine jr_idiv hx hb (by omega) (by omega) (by omega) (by omega) dX11_endsAt_134 ?_
                refine jr_iconst hx hb dX11_endsAt_135 ?_
                refine jr_ne (tgt := 143) hx hb dX11_endsAt_136 (by decide) ⟨by omega, by omega⟩ ⟨by omega, by omega⟩ (fun c136 => ?_) (fun c136 => ?_)
                · have hnn : ¬ (kd (tAt t ((i : Int) - 1)) = 1 ∧ kd (tAt t ((i : Int) + 1)) = 1) := fun q => by have h8 := kd_n (c := (tAt t ((i : Int) + 1))) (by omega); omega
                  refine jr_iconst hx hb dX11_endsAt_143 ?_
                  refine lv_istore (lv' := [(7, vi 0), (6, vi 0), (5, vi (tAt t ((i : Int) + 1))), (4, vi (tAt t ((i : Int) - 1))), (3, vi (t.getD i 0)), (0, .ref (ad 0)), (1, vi (i : Int)), (2, vi (t.length : Int))]) hx hb dX11_endsAt_144 hl (by decide) rfl (fun ls hl => ?_)
                  refine lv_iload hx hb dX11_endsAt_146 (lv_at hl 1 rfl) ?_
                  refine jr_ifne (tgt := 160) hx hb dX11_endsAt_148 (by decide) ⟨by omega, by omega⟩ (fun c148 => absurd c148 (by omega)) (fun c148 => ?_)
                  refine lv_iload hx hb dX11_endsAt_151 (lv_at hl 0 rfl) ?_
                  refine jr_ifne (tgt := 160) hx hb dX11_endsAt_153 (by decide) ⟨by omega, by omega⟩ (fun c153 => absurd c153 (by omega)) (fun c153 => ?_)
                  refine jr_iconst hx hb dX11_endsAt_156 ?_
                  refine lv_goto (tgt := 161) hx hb dX11_endsAt_157 (by decide) ?_
                  exact je_Si hx hb hr hlk (nz_b (by omega)).1 (i01_1 (isE_iff.mpr (by rw [hti]; first | exact Or.inl (by omega) | exact Or.inr (Or.inl (by omega)) | exact Or.inr (Or.inr ⟨by omega, hnn, hna⟩)))) dX11_endsAt_161
                · have hnum : kd (tAt t ((i : Int) - 1)) = 1 ∧ kd (tAt t ((i : Int) + 1)) = 1 := ⟨by rw [kd_n (c := (tAt t ((i : Int) - 1))) (by omega)]; omega, by rw [kd_n (c := (tAt t ((i : Int) + 1))) (by omega)]; omega⟩
                  refine jr_iconst hx hb dX11_endsAt_139 ?_
                  refine lv_goto (tgt := 144) hx hb dX11_endsAt_140 (by decide) ?_
                  refine lv_istore (lv' := [(7, vi 1), (6, vi 0), (5, vi (tAt t ((i : Int) + 1))), (4, vi (tAt t ((i : Int) - 1))), (3, vi (t.getD i 0)), (0, .ref (ad 0)), (1, vi (i : Int)), (2, vi (t.length : Int))]) hx hb dX11_endsAt_144 hl (by decide) rfl (fun ls hl => ?_)
                  refine lv_iload hx hb dX11_endsAt_146 (lv_at hl 1 rfl) ?_
                  refine jr_ifne (tgt := 160) hx hb dX11_endsAt_148 (by decide) ⟨by omega, by omega⟩ (fun c148 => absurd c148 (by omega)) (fun c148 => ?_)
                  refine lv_iload hx hb dX11_endsAt_151 (lv_at hl 0 rfl) ?_
                  refine jr_ifne (tgt := 160) hx hb dX11_endsAt_153 (by decide) ⟨by omega, by omega⟩ (fun c153 => ?_) (fun c153 => absurd c153 (by omega))
                  refine jr_iconst hx hb dX11_endsAt_160 ?_
                  exact je_Si hx hb hr hlk (nz_b (by omega)).1 (i01_0 (fun q => by rcases isE_iff.mp q with q | q | ⟨q, q2, q3⟩ <;> rw [hti] at q <;> first | omega | exact absurd hab9 q3 | exact q2 hnum)) dX11_endsAt_161
        · refine lv_iload hx hb dX11_endsAt_84 (lv_at hl 1 rfl) ?_
          refine jr_sipush hx hb dX11_endsAt_86 (by decide) ?_
          refine jr_ge (tgt := 106) hx hb dX11_endsAt_89 (by decide) ⟨by omega, by omega⟩ ⟨by omega, by omega⟩ (fun c89 => ?_) (fun c89 => ?_)
          · have hna : ¬ isAb f3 (tAt t ((i : Int) - 1)) = true := fun q => by have h9 := (isAb_iff.mp q).1; have h8 := kd_n (c := (tAt t ((i : Int) - 1))) (by omega); omega
            refine jr_iconst hx hb dX11_endsAt_106 ?_
            refine lv_istore (lv' := [(6, vi 0), (5, vi (tAt t ((i : Int) + 1))), (4, vi (tAt t ((i : Int) - 1))), (3, vi (t.getD i 0)), (0, .ref (ad 0)), (1, vi (i : Int)), (2, vi (t.length : Int))]) hx hb dX11_endsAt_107 hl (by decide) rfl (fun ls hl => ?_)
            refine lv_iload hx hb dX11_endsAt_109 (lv_at hl 2 rfl) ?_
            refine jr_iflt (tgt := 143) hx hb dX11_endsAt_111 (by decide) ⟨by omega, by omega⟩ (fun c111 => ?_) (fun c111 => ?_)
            · have hnn : ¬ (kd (tAt t ((i : Int) - 1)) = 1 ∧ kd (tAt t ((i : Int) + 1)) = 1) := fun q => by have h8 : kd (tAt t ((i : Int) - 1)) = -1 := if_pos c111; omega
              refine jr_iconst hx hb dX11_endsAt_143 ?_
              refine lv_istore (lv' := [(7, vi 0), (6, vi 0), (5, vi (tAt t ((i : Int) + 1))), (4, vi (tAt t ((i : Int) - 1))), (3, vi (t.getD i 0)), (0, .ref (ad 0)), (1, vi (i : Int)), (2, vi (t.length : Int))]) hx hb dX11_endsAt_144 hl (by decide) rfl (fun ls hl => ?_)
              refine lv_iload hx hb dX11_endsAt_146 (lv_at hl 1 rfl) ?_
              refine jr_ifne (tgt := 160) hx hb dX11_endsAt_148 (by decide) ⟨by omega, by omega⟩ (fun c148 => absurd c148 (by omega)) (fun c148 => ?_)
              refine lv_iload hx hb dX11_endsAt_151 (lv_at hl 0 rfl) ?_
              refine jr_ifne (tgt := 160) hx hb dX11_endsAt_153 (by decide) ⟨by omega, by omega⟩ (fun c153 => absurd c153 (by omega)) (fun c153 => ?_)
              refine jr_iconst hx hb dX11_endsAt_156 ?_
              refine lv_goto (tgt := 161) hx hb dX11_endsAt_157 (by decide) ?_
              exact je_Si hx hb hr hlk (nz_b (by omega)).1 (i01_1 (isE_iff.mpr (by rw [hti]; first | exact Or.inl (by omega) | exact Or.inr (Or.inl (by omega)) | exact Or.inr (Or.inr ⟨by omega, hnn, hna⟩)))) dX11_endsAt_161
            · refine lv_iload hx hb dX11_endsAt_114 (lv_at hl 2 rfl) ?_
              refine jr_sipush hx hb dX11_endsAt_116 (by decide) ?_
              refine jr_idiv hx hb (by omega) (by omega) (by omega) (by omega) dX11_endsAt_119 ?_
              refine jr_iconst hx hb dX11_endsAt_120 ?_
              refine jr_ne (tgt := 143) hx hb dX11_endsAt_121 (by decide) ⟨by omega, by omega⟩ ⟨by omega, by omega⟩ (fun c121 => ?_) (fun c121 => ?_)
              · have hnn : ¬ (kd (tAt t ((i : Int) - 1)) = 1 ∧ kd (tAt t ((i : Int) + 1)) = 1) := fun q => by have h8 := kd_n (c := (tAt t ((i : Int) - 1))) (by omega); omega
                refine jr_iconst hx hb dX11_endsAt_143 ?_
                refine lv_istore (lv' := [(7, vi 0), (6, vi 0), (5, vi (tAt t ((i : Int) + 1))), (4, vi (tAt t ((i : Int) - 1))), (3, vi (t.getD i 0)), (0, .ref (ad 0)), (1, vi (i : Int)), (2, vi (t.length : Int))]) hx hb dX11_endsAt_144 hl (by decide) rfl (fun ls hl => ?_)
                refine lv_iload hx hb dX11_endsAt_146 (lv_at hl 1 rfl) ?_
                refine jr_ifne (tgt := 160) hx hb dX11_endsAt_148 (by decide) ⟨by omega, by omega⟩ (fun c148 => absurd c148 (by omega)) (fun c148 => ?_)
                refine lv_iload hx hb dX11_endsAt_151 (lv_at hl 0 rfl) ?_
                refine jr_ifne (tgt := 160) hx hb dX11_endsAt_153 (by decide) ⟨by omega, by omega⟩ (fun c153 => absurd c153 (by omega)) (fun c153 => ?_)
                refine jr_iconst hx hb dX11_endsAt_156 ?_
                refine lv_goto (tgt := 161) hx hb dX11_endsAt_157 (by decide) ?_
                exact je_Si hx hb hr hlk (nz_b (by omega)).1 (i01_1 (isE_iff.mpr (by rw [hti]; first | exact Or.inl (by omega) | exact Or.inr (Or.inl (by omega)) | exact Or.inr (Or.inr ⟨by omega, hnn, hna⟩)))) dX11_endsAt_161
              · refine lv_iload hx hb dX11_endsAt_124 (lv_at hl 1 rfl) ?_
                refine jr_iflt (tgt := 143) hx hb dX11_endsAt_126 (by decide) ⟨by omega, by omega⟩ (fun c126 => ?_) (fun c126 => ?_)
                · have hnn : ¬ (kd (tAt t ((i : Int) - 1)) = 1 ∧ kd (tAt t ((i : Int) + 1)) = 1) := fun q => by have h8 : kd (tAt t ((i : Int) + 1)) = -1 := if_pos c126; omega
                  refine jr_iconst hx hb dX11_endsAt_143 ?_
                  refine lv_istore (lv' := [(7, vi 0), (6, vi 0), (5, vi (tAt t ((i : Int) + 1))), (4, vi (tAt t ((i : Int) - 1))), (3, vi (t.getD i 0)), (0, .ref (ad 0)), (1, vi (i : Int)), (2, vi (t.length : Int))]) hx hb dX11_endsAt_144 hl (by decide) rfl (fun ls hl => ?_)
                  refine lv_iload hx hb dX11_endsAt_146 (lv_at hl 1 rfl) ?_
                  refine jr_ifne (tgt := 160) hx hb dX11_endsAt_148 (by decide) ⟨by omega, by omega⟩ (fun c148 => absurd c148 (by omega)) (fun c148 => ?_)
                  refine lv_iload hx hb dX11_endsAt_151 (lv_at hl 0 rfl) ?_
                  refine jr_ifne (tgt := 160) hx hb dX11_endsAt_153 (by decide) ⟨by omega, by omega⟩ (fun c153 => absurd c153 (by omega)) (fun c153 => ?_)
                  refine jr_iconst hx hb dX11_endsAt_156 ?_
                  refine lv_goto (tgt := 161) hx hb dX11_endsAt_157 (by decide) ?_
                  exact je_Si hx hb hr hlk (nz_b (by omega)).1 (i01_1 (isE_iff.mpr (by rw [hti]; first | exact Or.inl (by omega) | exact Or.inr (Or.inl (by omega)) | exact Or.inr (Or.inr ⟨by omega, hnn, hna⟩)))) dX11_endsAt_161
                · refine lv_iload hx hb dX11_endsAt_129 (lv_at hl 1 rfl) ?_
                  refine jr_sipush hx hb dX11_endsAt_131 (by decide) ?_
                  refine jr_idiv hx hb (by omega) (by omega) (by omega) (by omega) dX11_endsAt_134 ?_
                  refine jr_iconst hx hb dX11_endsAt_135 ?_
                  refine jr_ne (tgt := 143) hx hb dX11_endsAt_136 (by decide) ⟨by omega, by omega⟩ ⟨by omega, by omega⟩ (fun c136 => ?_) (fun c136 => ?_)
                  · have hnn : ¬ (kd (tAt t ((i : Int) - 1)) = 1 ∧ kd (tAt t ((i : Int) + 1)) = 1) := fun q => by have h8 := kd_n (c := (tAt t ((i : Int) + 1))) (by omega); omega
                    refine jr_iconst hx hb dX11_endsAt_143 ?_
                    refine lv_istore (lv' := [(7, vi 0), (6, vi 0), (5, vi (tAt t ((i : Int) + 1))), (4, vi (tAt t ((i : Int) - 1))), (3, vi (t.getD i 0)), (0, .ref (ad 0)), (1, vi (i : Int)), (2, vi (t.length : Int))]) hx hb dX11_endsAt_144 hl (by decide) rfl (fun ls hl => ?_)
                    refine lv_iload hx hb dX11_endsAt_146 (lv_at hl 1 rfl) ?_
                    refine jr_ifne (tgt := 160) hx hb dX11_endsAt_148 (by decide) ⟨by omega, by omega⟩ (fun c148 => absurd c148 (by omega)) (fun c148 => ?_)
                    refine lv_iload hx hb dX11_endsAt_151 (lv_at hl 0 rfl) ?_
                    refine jr_ifne (tgt := 160) hx hb dX11_endsAt_153 (by decide) ⟨by omega, by omega⟩ (fun c153 => absurd c153 (by omega)) (fun c153 => ?_)
                    refine jr_iconst hx hb dX11_endsAt_156 ?_
                    refine lv_goto (tgt := 161) hx hb dX11_endsAt_157 (by decide) ?_
                    exact je_Si hx hb hr hlk (nz_b (by omega)).1 (i01_1 (isE_iff.mpr (by rw [hti]; first | exact Or.inl (by omega) | exact Or.inr (Or.inl (by omega)) | exact Or.inr (Or.inr ⟨by omega, hnn, hna⟩)))) dX11_endsAt_161
                  · have hnum : kd (tAt t ((i : Int) - 1)) = 1 ∧ kd (tAt t ((i : Int) + 1)) = 1 := ⟨by rw [kd_n (c := (tAt t ((i : Int) - 1))) (by omega)]; omega, by rw [kd_n (c := (tAt t ((i : Int) + 1))) (by omega)]; omega⟩
                    refine jr_iconst hx hb dX11_endsAt_139 ?_
                    refine lv_goto (tgt := 144) hx hb dX11_endsAt_140 (by decide) ?_
                    refine lv_istore (lv' := [(7, vi 1), (6, vi 0), (5, vi (tAt t ((i : Int) + 1))), (4, vi (tAt t ((i : Int) - 1))), (3, vi (t.getD i 0)), (0, .ref (ad 0)), (1, vi (i : Int)), (2, vi (t.length : Int))]) hx hb dX11_endsAt_144 hl (by decide) rfl (fun ls hl => ?_)
                    refine lv_iload hx hb dX11_endsAt_146 (lv_at hl 1 rfl) ?_
                    refine jr_ifne (tgt := 160) hx hb dX11_endsAt_148 (by decide) ⟨by omega, by omega⟩ (fun c148 => absurd c148 (by omega)) (fun c148 => ?_)
                    refine lv_iload hx hb dX11_endsAt_151 (lv_at hl 0 rfl) ?_
                    refine jr_ifne (tgt := 160) hx hb dX11_endsAt_153 (by decide) ⟨by omega, by omega⟩ (fun c153 => ?_) (fun c153 => absurd c153 (by omega))
                    refine jr_iconst hx hb dX11_endsAt_160 ?_
                    exact je_Si hx hb hr hlk (nz_b (by omega)).1 (i01_0 (fun q => by rcases isE_iff.mp q with q | q | ⟨q, q2, q3⟩ <;> rw [hti] at q <;> first | omega | exact absurd hab9 q3 | exact q2 hnum)) dX11_endsAt_161
          · have hi1 : 1 ≤ i := by rcases Nat.lt_or_ge 0 i with h | h; omega; have h9 := tAt_out (t := t) (i := (i : Int) - 1) (Or.inl (by omega)); omega
            have hw9 : (tAt t ((i : Int) - 1)) < 100 := by (have e9 : (tAt t ((i : Int) - 1)) = t.getD (i - 1) 0 := by (rw [show (i : Int) - 1 = ((i - 1 : Nat) : Int) by omega]; exact tAt_in (by omega))); (have h9 := hwd (t.getD (i - 1) 0) (by rw [List.getD_eq_getElem?_getD, List.getElem?_eq_getElem (show i - 1 < t.length by omega)]; exact List.getElem_mem _)); omega
            have hab8 := hab (tAt t ((i : Int) - 1)).toNat (by omega)
            have hkp0 : kd (tAt t ((i : Int) - 1)) = 0 := by rw [kd_n (c := (tAt t ((i : Int) - 1))) (by omega)]; omega
            have hvp0 : vl (tAt t ((i : Int) - 1)) = (tAt t ((i : Int) - 1)) := by rw [vl_n (by omega)]; omega
            refine lv_aload_n hx hb dX11_endsAt_92 rfl (lv_at hl 3 rfl) ?_
            refine va_get (D := gD g) (ci := 10) (v := .ref (ad 3)) (C := RX11) (T := TX11) (N := 29) hx hb htl ck_X11 hown hKK.k hP 0 rfl rfl 4 (by decide) (htl _ wd_5_17) (fun _ h9 => h9) rfl dX11_endsAt_93 ?_
            refine lv_iload hx hb dX11_endsAt_96 (lv_at hl 1 rfl) ?_
            refine jr_zald hx hb hKK.k hP 1 rfl ((tAt t ((i : Int) - 1)).toNat) (by omega) (by omega) (by omega) dX11_endsAt_98 ?_
            refine jr_ifeq (tgt := 106) hx hb dX11_endsAt_99 (by decide) ⟨by omega, by omega⟩ (fun c99 => ?_) (fun c99 => ?_)
            · have hna : ¬ isAb f3 (tAt t ((i : Int) - 1)) = true := fun q => (isAb_iff.mp q).2.2.2 (by rw [hvp0]; exact c99)
              refine jr_iconst hx hb dX11_endsAt_106 ?_
              refine lv_istore (lv' := [(6, vi 0), (5, vi (tAt t ((i : Int) + 1))), (4, vi (tAt t ((i : Int) - 1))), (3, vi (t.getD i 0)), (0, .ref (ad 0)), (1, vi (i : Int)), (2, vi (t.length : Int))]) hx hb dX11_endsAt_107 hl (by decide) rfl (fun ls hl => ?_)
              refine lv_iload hx hb dX11_endsAt_109 (lv_at hl 2 rfl) ?_
              refine jr_iflt (tgt := 143) hx hb dX11_endsAt_111 (by decide) ⟨by omega, by omega⟩ (fun c111 => ?_) (fun c111 => ?_)
              · have hnn : ¬ (kd (tAt t ((i : Int) - 1)) = 1 ∧ kd (tAt t ((i : Int) + 1)) = 1) := fun q => by have h8 : kd (tAt t ((i : Int) - 1)) = -1 := if_pos c111; omega
                refine jr_iconst hx hb dX11_endsAt_143 ?_
                refine lv_istore (lv' := [(7, vi 0), (6, vi 0), (5, vi (tAt t ((i : Int) + 1))), (4, vi (tAt t ((i : Int) - 1))), (3, vi (t.getD i 0)), (0, .ref (ad 0)), (1, vi (i : Int)), (2, vi (t.length : Int))]) hx hb dX11_endsAt_144 hl (by decide) rfl (fun ls hl => ?_)
                refine lv_iload hx hb dX11_endsAt_146 (lv_at hl 1 rfl) ?_
                refine jr_ifne (tgt := 160) hx hb dX11_endsAt_148 (by decide) ⟨by omega, by omega⟩ (fun c148 => absurd c148 (by omega)) (fun c148 => ?_)
                refine lv_iload hx hb dX11_endsAt_151 (lv_at hl 0 rfl) ?_
                refine jr_ifne (tgt := 160) hx hb dX11_endsAt_153 (by decide) ⟨by omega, by omega⟩ (fun c153 => absurd c153 (by omega)) (fun c153 => ?_)
                refine jr_iconst hx hb dX11_endsAt_156 ?_
                refine lv_goto (tgt := 161) hx hb dX11_endsAt_157 (by decide) ?_
                exact je_Si hx hb hr hlk (nz_b (by omega)).1 (i01_1 (isE_iff.mpr (by rw [hti]; first | exact Or.inl (by omega) | exact Or.inr (Or.inl (by omega)) | exact Or.inr (Or.inr ⟨by omega, hnn, hna⟩)))) dX11_endsAt_161
              · refine lv_iload hx hb dX11_endsAt_114 (lv_at hl 2 rfl) ?_
                refine jr_sipush hx hb dX11_endsAt_116 (by decide) ?_
                refine jr_idiv hx hb (by omega) (by omega) (by omega) (by omega) dX11_endsAt_119 ?_
                refine jr_iconst hx hb dX11_endsAt_120 ?_
                refine jr_ne (tgt := 143) hx hb dX11_endsAt_121 (by decide) ⟨by omega, by omega⟩ ⟨by omega, by omega⟩ (fun c121 => ?_) (fun c121 => ?_)
                · have hnn : ¬ (kd (tAt t ((i : Int) - 1)) = 1 ∧ kd (tAt t ((i : Int) + 1)) = 1) := fun q => by have h8 := kd_n (c := (tAt t ((i : Int) - 1))) (by omega); omega
                  refine jr_iconst hx hb dX11_endsAt_143 ?_
                  refine lv_istore (lv' := [(7, vi 0), (6, vi 0), (5, vi (tAt t ((i : Int) + 1))), (4, vi (tAt t ((i : Int) - 1))), (3, vi (t.getD i 0)), (0, .ref (ad 0)), (1, vi (i : Int)), (2, vi (t.length : Int))]) hx hb dX11_endsAt_144 hl (by decide) rfl (fun ls hl => ?_)
                  refine lv_iload hx hb dX11_endsAt_146 (lv_at hl 1 rfl) ?_
                  refine jr_ifne (tgt := 160) hx hb dX11_endsAt_148 (by decide) ⟨by omega, by omega⟩ (fun c148 => absurd c148 (by omega)) (fun c148 => ?_)
                  refine lv_iload hx hb dX11_endsAt_151 (lv_at hl 0 rfl) ?_
                  refine jr_ifne (tgt := 160) hx hb dX11_endsAt_153 (by decide) ⟨by omega, by omega⟩ (fun c153 => absurd c153 (by omega)) (fun c153 => ?_)
                  refine jr_iconst hx hb dX11_endsAt_156 ?_
                  refine lv_goto (tgt := 161) hx hb dX11_endsAt_157 (by decide) ?_
                  exact je_Si hx hb hr hlk (nz_b (by omega)).1 (i01_1 (isE_iff.mpr (by rw [hti]; first | exact Or.inl (by omega) | exact Or.inr (Or.inl (by omega)) | exact Or.inr (Or.inr ⟨by omega, hnn, hna⟩)))) dX11_endsAt_161
                · refine lv_iload hx hb dX11_endsAt_124 (lv_at hl 1 rfl) ?_
                  refine jr_iflt (tgt := 143) hx hb dX11_endsAt_126 (by decide) ⟨by omega, by omega⟩ (fun c126 => ?_) (fun c126 => ?_)
                  · have hnn : ¬ (kd (tAt t ((i : Int) - 1)) = 1 ∧ kd (tAt t ((i : Int) + 1)) = 1) := fun q => by have h8 : kd (tAt t ((i : Int) + 1)) = -1 := if_pos c126; omega
                    refine jr_iconst hx hb dX11_endsAt_143 ?_
                    refine lv_istore (lv' := [(7, vi 0), (6, vi 0), (5, vi (tAt t ((i : Int) + 1))), (4, vi (tAt t ((i : Int) - 1))), (3, vi (t.getD i 0)), (0, .ref (ad 0)), (1, vi (i : Int)), (2, vi (t.length : Int))]) hx hb dX11_endsAt_144 hl (by decide) rfl (fun ls hl => ?_)
                    refine lv_iload hx hb dX11_endsAt_146 (lv_at hl 1 rfl) ?_
                    refine jr_ifne (tgt := 160) hx hb dX11_endsAt_148 (by decide) ⟨by omega, by omega⟩ (fun c148 => absurd c148 (by omega)) (fun c148 => ?_)
                    refine lv_iload hx hb dX11_endsAt_151 (lv_at hl 0 rfl) ?_
                    refine jr_ifne (tgt := 160) hx hb dX11_endsAt_153 (by decide) ⟨by omega, by omega⟩ (fun c153 => absurd c153 (by omega)) (fun c153 => ?_)
                    refine jr_iconst hx hb dX11_endsAt_156 ?_
                    refine lv_goto (tgt := 161) hx hb dX11_endsAt_157 (by decide) ?_
                    exact je_Si hx hb hr hlk (nz_b (by omega)).1 (i01_1 (isE_iff.mpr (by rw [hti]; first | exact Or.inl (by omega) | exact Or.inr (Or.inl (by omega)) | exact Or.inr (Or.inr ⟨by omega, hnn, hna⟩)))) dX11_endsAt_161
                  · refine lv_iload hx hb dX11_endsAt_129 (lv_at hl 1 rfl) ?_
                    refine jr_sipush hx hb dX11_endsAt_131 (by decide) ?_
                    refine jr_idiv hx hb (by omega) (by omega) (by omega) (by omega) dX11_endsAt_134 ?_
                    refine jr_iconst hx hb dX11_endsAt_135 ?_
                    refine jr_ne (tgt := 143) hx hb dX11_endsAt_136 (by decide) ⟨by omega, by omega⟩ ⟨by omega, by omega⟩ (fun c136 => ?_) (fun c136 => ?_)
                    · have hnn : ¬ (kd (tAt t ((i : Int) - 1)) = 1 ∧ kd (tAt t ((i : Int) + 1)) = 1) := fun q => by have h8 := kd_n (c := (tAt t ((i : Int) + 1))) (by omega); omega
                      refine jr_iconst hx hb dX11_endsAt_143 ?_
                      refine lv_istore (lv' := [(7, vi 0), (6, vi 0), (5, vi (tAt t ((i : Int) + 1))), (4, vi (tAt t ((i : Int) - 1))), (3, vi (t.getD i 0)), (0, .ref (ad 0)), (1, vi (i : Int)), (2, vi (t.length : Int))]) hx hb dX11_endsAt_144 hl (by decide) rfl (fun ls hl => ?_)
                      refine lv_iload hx hb dX11_endsAt_146 (lv_at hl 1 rfl) ?_
                      refine jr_ifne (tgt := 160) hx hb dX11_endsAt_148 (by decide) ⟨by omega, by omega⟩ (fun c148 => absurd c148 (by omega)) (fun c148 => ?_)
                      refine lv_iload hx hb dX11_endsAt_151 (lv_at hl 0 rfl) ?_
                      refine jr_ifne (tgt := 160) hx hb dX11_endsAt_153 (by decide) ⟨by omega, by omega⟩ (fun c153 => absurd c153 (by omega)) (fun c153 => ?_)
                      refine jr_iconst hx hb dX11_endsAt_156 ?_
                      refine lv_goto (tgt := 161) hx hb dX11_endsAt_157 (by decide) ?_
                      exact je_Si hx hb hr hlk (nz_b (by omega)).1 (i01_1 (isE_iff.mpr (by rw [hti]; first | exact Or.inl (by omega) | exact Or.inr (Or.inl (by omega)) | exact Or.inr (Or.inr ⟨by omega, hnn, hna⟩)))) dX11_endsAt_161
                    · have hnum : kd (tAt t ((i : Int) - 1)) = 1 ∧ kd (tAt t ((i : Int) + 1)) = 1 := ⟨by rw [kd_n (c := (tAt t ((i : Int) - 1))) (by omega)]; omega, by rw [kd_n (c := (tAt t ((i : Int) + 1))) (by omega)]; omega⟩
                      refine jr_iconst hx hb dX11_endsAt_139 ?_
                      refine lv_goto (tgt := 144) hx hb dX11_endsAt_140 (by decide) ?_
                      refine lv_istore (lv' := [(7, vi 1), (6, vi 0), (5, vi (tAt t ((i : Int) + 1))), (4, vi (tAt t ((i : Int) - 1))), (3, vi (t.getD i 0)), (0, .ref (ad 0)), (1, vi (i : Int)), (2, vi (t.length : Int))]) hx hb dX11_endsAt_144 hl (by decide) rfl (fun ls hl => ?_)
                      refine lv_iload hx hb dX11_endsAt_146 (lv_at hl 1 rfl) ?_
                      refine jr_ifne (tgt := 160) hx hb dX11_endsAt_148 (by decide) ⟨by omega, by omega⟩ (fun c148 => absurd c148 (by omega)) (fun c148 => ?_)
                      refine lv_iload hx hb dX11_endsAt_151 (lv_at hl 0 rfl) ?_
                      refine jr_ifne (tgt := 160) hx hb dX11_endsAt_153 (by decide) ⟨by omega, by omega⟩ (fun c153 => ?_) (fun c153 => absurd c153 (by omega))
                      refine jr_iconst hx hb dX11_endsAt_160 ?_
                      exact je_Si hx hb hr hlk (nz_b (by omega)).1 (i01_0 (fun q => by rcases isE_iff.mp q with q | q | ⟨q, q2, q3⟩ <;> rw [hti] at q <;> first | omega | exact absurd hab9 q3 | exact q2 hnum)) dX11_endsAt_161
            · have hab9 : isAb f3 (tAt t ((i : Int) - 1)) = true := isAb_iff.mpr ⟨hkp0, by omega, by omega, by rw [hvp0]; exact c99⟩
              refine jr_iconst hx hb dX11_endsAt_102 ?_
              refine lv_goto (tgt := 107) hx hb dX11_endsAt_103 (by decide) ?_
              refine lv_istore (lv' := [(6, vi 1), (5, vi (tAt t ((i : Int) + 1))), (4, vi (tAt t ((i : Int) - 1))), (3, vi (t.getD i 0)), (0, .ref (ad 0)), (1, vi (i : Int)), (2, vi (t.length : Int))]) hx hb dX11_endsAt_107 hl (by decide) rfl (fun ls hl => ?_)
              refine lv_iload hx hb dX11_endsAt_109 (lv_at hl 2 rfl) ?_
              refine jr_iflt (tgt := 143) hx hb dX11_endsAt_111 (by decide) ⟨by omega, by omega⟩ (fun c111 => ?_) (fun c111 => ?_)
              · have hnn : ¬ (kd (tAt t ((i : Int) - 1)) = 1 ∧ kd (tAt t ((i : Int) + 1)) = 1) := fun q => by have h8 : kd (tAt t ((i : Int) - 1)) = -1 := if_pos c111; omega
                refine jr_iconst hx hb dX11_endsAt_143 ?_
                refine lv_istore (lv' := [(7, vi 0), (6, vi 1), (5, vi (tAt t ((i : Int) + 1))), (4, vi (tAt t ((i : Int) - 1))), (3, vi (t.getD i 0)), (0, .ref (ad 0)), (1, vi (i : Int)), (2, vi (t.length : Int))]) hx hb dX11_endsAt_144 hl (by decide) rfl (fun ls hl => ?_)
                refine lv_iload hx hb dX11_endsAt_146 (lv_at hl 1 rfl) ?_
                refine jr_ifne (tgt := 160) hx hb dX11_endsAt_148 (by decide) ⟨by omega, by omega⟩ (fun c148 => ?_) (fun c148 => absurd c148 (by omega))
                refine jr_iconst hx hb dX11_endsAt_160 ?_
                exact je_Si hx hb hr hlk (nz_b (by omega)).1 (i01_0 (fun q => by rcases isE_iff.mp q with q | q | ⟨q, q2, q3⟩ <;> rw [hti] at q <;> first | omega | exact absurd hab9 q3 | exact q2 hnum)) dX11_endsAt_161
              · refine lv_iload hx hb dX11_endsAt_114 (lv_at hl 2 rfl) ?_
                refine jr_sipush hx hb dX11_endsAt_116 (by decide) ?_
                refine jr_idiv hx hb (by omega) (by omega) (by omega) (by omega) dX11_endsAt_119 ?_
                refine jr_iconst hx hb dX11_endsAt_120 ?_
                refine jr_ne (tgt := 143) hx hb dX11_endsAt_121 (by decide) ⟨by omega, by omega⟩ ⟨by omega, by omega⟩ (fun c121 => ?_) (fun c121 => ?_)
                · have hnn : ¬ (kd (tAt t ((i : Int) - 1)) = 1 ∧ kd (tAt t ((i : Int) + 1)) = 1) := fun q => by have h8 := kd_n (c := (tAt t ((i : Int) - 1))) (by omega); omega
                  refine jr_iconst hx hb dX11_endsAt_143 ?_
                  refine lv_istore (lv' := [(7, vi 0), (6, vi 1), (5, vi (tAt t ((i : Int) + 1))), (4, vi (tAt t ((i : Int) - 1))), (3, vi (t.getD i 0)), (0, .ref (ad 0)), (1, vi (i : Int)), (2, vi (t.length : Int))]) hx hb dX11_endsAt_144 hl (by decide) rfl (fun ls hl => ?_)
                  refine lv_iload hx hb dX11_endsAt_146 (lv_at hl 1 rfl) ?_
                  refine jr_ifne (tgt := 160) hx hb dX11_endsAt_148 (by decide) ⟨by omega, by omega⟩ (fun c148 => ?_) (fun c148 => absurd c148 (by omega))
                  refine jr_iconst hx hb dX11_endsAt_160 ?_
                  exact je_Si hx hb hr hlk (nz_b (by omega)).1 (i01_0 (fun q => by rcases isE_iff.mp q with q | q | ⟨q, q2, q3⟩ <;> rw [hti] at q <;> first | omega | exact absurd hab9 q3 | exact q2 hnum)) dX11_endsAt_161
                · refine lv_iload hx hb dX11_endsAt_124 (lv_at hl 1 rfl) ?_
                  refine jr_iflt (tgt := 143) hx hb dX11_endsAt_126 (by decide) ⟨by omega, by omega⟩ (fun c126 => ?_) (fun c126 => ?_)
                  · have hnn : ¬ (kd (tAt t ((i : Int) - 1)) = 1 ∧ kd (tAt t ((i : Int) + 1)) = 1) := fun q => by have h8 : kd (tAt t ((i : Int) + 1)) = -1 := if_pos c126; omega
                    refine jr_iconst hx hb dX11_endsAt_143 ?_
                    refine lv_istore (lv' := [(7, vi 0), (6, vi 1), (5, vi (tAt t ((i : Int) + 1))), (4, vi (tAt t ((i : Int) - 1))), (3, vi (t.getD i 0)), (0, .ref (ad 0)), (1, vi (i : Int)), (2, vi (t.length : Int))]) hx hb dX11_endsAt_144 hl (by decide) rfl (fun ls hl => ?_)
                    refine lv_iload hx hb dX11_endsAt_146 (lv_at hl 1 rfl) ?_
                    refine jr_ifne (tgt := 160) hx hb dX11_endsAt_148 (by decide) ⟨by omega, by omega⟩ (fun c148 => ?_) (fun c148 => absurd c148 (by omega))
                    refine jr_iconst hx hb dX11_endsAt_160 ?_
                    exact je_Si hx hb hr hlk (nz_b (by omega)).1 (i01_0 (fun q => by rcases isE_iff.mp q with q | q | ⟨q, q2, q3⟩ <;> rw [hti] at q <;> first | omega | exact absurd hab9 q3 | exact q2 hnum)) dX11_endsAt_161
                  · refine lv_iload hx hb dX11_endsAt_129 (lv_at hl 1 rfl) ?_
                    refine jr_sipush hx hb dX11_endsAt_131 (by decide) ?_
                    refine jr_idiv hx hb (by omega) (by omega) (by omega) (by omega) dX11_endsAt_134 ?_
                    refine jr_iconst hx hb dX11_endsAt_135 ?_
                    refine jr_ne (tgt := 143) hx hb dX11_endsAt_136 (by decide) ⟨by omega, by omega⟩ ⟨by omega, by omega⟩ (fun c136 => ?_) (fun c136 => ?_)
                    · have hnn : ¬ (kd (tAt t ((i : Int) - 1)) = 1 ∧ kd (tAt t ((i : Int) + 1)) = 1) := fun q => by have h8 := kd_n (c := (tAt t ((i : Int) + 1))) (by omega); omega
                      refine jr_iconst hx hb dX11_endsAt_143 ?_
                      refine lv_istore (lv' := [(7, vi 0), (6, vi 1), (5, vi (tAt t ((i : Int) + 1))), (4, vi (tAt t ((i : Int) - 1))), (3, vi (t.getD i 0)), (0, .ref (ad 0)), (1, vi (i : Int)), (2, vi (t.length : Int))]) hx hb dX11_endsAt_144 hl (by decide) rfl (fun ls hl => ?_)
                      refine lv_iload hx hb dX11_endsAt_146 (lv_at hl 1 rfl) ?_
                      refine jr_ifne (tgt := 160) hx hb dX11_endsAt_148 (by decide) ⟨by omega, by omega⟩ (fun c148 => ?_) (fun c148 => absurd c148 (by omega))
                      refine jr_iconst hx hb dX11_endsAt_160 ?_
                      exact je_Si hx hb hr hlk (nz_b (by omega)).1 (i01_0 (fun q => by rcases isE_iff.mp q with q | q | ⟨q, q2, q3⟩ <;> rw [hti] at q <;> first | omega | exact absurd hab9 q3 | exact q2 hnum)) dX11_endsAt_161
                    · have hnum : kd (tAt t ((i : Int) - 1)) = 1 ∧ kd (tAt t ((i : Int) + 1)) = 1 := ⟨by rw [kd_n (c := (tAt t ((i : Int) - 1))) (by omega)]; omega, by rw [kd_n (c := (tAt t ((i : Int) + 1))) (by omega)]; omega⟩
                      refine jr_iconst hx hb dX11_endsAt_139 ?_
                      refine lv_goto (tgt := 144) hx hb dX11_endsAt_140 (by decide) ?_
                      refine lv_istore (lv' := [(7, vi 1), (6, vi 1), (5, vi (tAt t ((i : Int) + 1))), (4, vi (tAt t ((i : Int) - 1))), (3, vi (t.getD i 0)), (0, .ref (ad 0)), (1, vi (i : Int)), (2, vi (t.length : Int))]) hx hb dX11_endsAt_144 hl (by decide) rfl (fun ls hl => ?_)
                      refine lv_iload hx hb dX11_endsAt_146 (lv_at hl 1 rfl) ?_
                      refine jr_ifne (tgt := 160) hx hb dX11_endsAt_148 (by decide) ⟨by omega, by omega⟩ (fun c148 => ?_) (fun c148 => absurd c148 (by omega))
                      refine jr_iconst hx hb dX11_endsAt_160 ?_
                      exact je_Si hx hb hr hlk (nz_b (by omega)).1 (i01_0 (fun q => by rcases isE_iff.mp q with q | q | ⟨q, q2, q3⟩ <;> rw [hti] at q <;> first | omega | exact absurd hab9 q3 | exact q2 hnum)) dX11_endsAt_161
    · refine jr_iconst hx hb dX11_endsAt_44 ?_
      refine lv_goto (tgt := 56) hx hb dX11_endsAt_45 (by decide) ?_
      refine jr_nm (b := (tAt t ((i : Int) - 1))) (tAt_out (Or.inl (by omega))).symm ?_
      refine lv_istore (lv' := [(4, vi (tAt t ((i : Int) - 1))), (3, vi (t.getD i 0)), (0, .ref (ad 0)), (1, vi (i : Int)), (2, vi (t.length : Int))]) hx hb dX11_endsAt_56 hl (by decide) rfl (fun ls hl => ?_)
      refine lv_iload_n hx hb dX11_endsAt_58 rfl (lv_at hl 3 rfl) ?_
      refine jr_iconst hx hb dX11_endsAt_59 ?_
      refine jr_iadd hx hb dX11_endsAt_60 ?_
      refine lv_iload_n hx hb dX11_endsAt_61 rfl (lv_at hl 4 rfl) ?_
      refine jr_ne (tgt := 69) hx hb dX11_endsAt_62 (by decide) ⟨by omega, by omega⟩ ⟨by omega, by omega⟩ (fun c62 => ?_) (fun c62 => ?_)
      · refine lv_aload_n hx hb dX11_endsAt_69 rfl (lv_at hl 2 rfl) ?_
        refine va_get (D := gD g) (ci := 10) (v := .ref (ad 12)) (C := RX11) (T := TX11) (N := 29) hx hb htl ck_X11 hown hKK.k hP 0 rfl rfl 16 (by decide) (htl _ wd_6_2) (fun _ h9 => h9) rfl dX11_endsAt_70 ?_
        refine lv_iload_n hx hb dX11_endsAt_73 rfl (lv_at hl 3 rfl) ?_
        refine jr_iconst hx hb dX11_endsAt_74 ?_
        refine jr_iadd hx hb dX11_endsAt_75 ?_
        refine jr_iald hx hb hKK.k hP 2 rfl (i + 1) (by omega) (by omega) (by omega) dX11_endsAt_76 ?_
        refine jr_nm (b := (tAt t ((i : Int) + 1))) ((ht.at (by omega)).trans (by rw [← tAt_in (show i + 1 < t.length by omega), show ((i + 1 : Nat) : Int) = (i : Int) + 1 by omega])) ?_
        refine lv_istore (lv' := [(5, vi (tAt t ((i : Int) + 1))), (4, vi (tAt t ((i : Int) - 1))), (3, vi (t.getD i 0)), (0, .ref (ad 0)), (1, vi (i : Int)), (2, vi (t.length : Int))]) hx hb dX11_endsAt_77 hl (by decide) rfl (fun ls hl => ?_)
        refine lv_iload hx hb dX11_endsAt_79 (lv_at hl 1 rfl) ?_
        refine jr_iflt (tgt := 106) hx hb dX11_endsAt_81 (by decide) ⟨by omega, by omega⟩ (fun c81 => ?_) (fun c81 => ?_)
        · have hna : ¬ isAb f3 (tAt t ((i : Int) - 1)) = true := fun q => by have h9 := (isAb_iff.mp q).1; have h8 : kd (tAt t ((i : Int) - 1)) = -1 := if_pos c81; omega
          refine jr_iconst hx hb dX11_endsAt_106 ?_
          refine lv_istore (lv' := [(6, vi 0), (5, vi (tAt t ((i : Int) + 1))), (4, vi (tAt t ((i : Int) - 1))), (3, vi (t.getD i 0)), (0, .ref (ad 0)), (1, vi (i : Int)), (2, vi (t.length : Int))]) hx hb dX11_endsAt_107 hl (by decide) rfl (fun ls hl => ?_)
          refine lv_iload hx hb dX11_endsAt_109 (lv_at hl 2 rfl) ?_
          refine jr_iflt (tgt := 143) hx hb dX11_endsAt_111 (by decide) ⟨by omega, by omega⟩ (fun c111 => ?_) (fun c111 => ?_)
          · have hnn : ¬ (kd (tAt t ((i : Int) - 1)) = 1 ∧ kd (tAt t ((i : Int) + 1)) = 1) := fun q => by have h8 : kd (tAt t ((i : Int) - 1)) = -1 := if_pos c111; omega
            refine jr_iconst hx hb dX11_endsAt_143 ?_
            refine lv_istore (lv' := [(7, vi 0), (6, vi 0), (5, vi (tAt t ((i : Int) + 1))), (4, vi (tAt t ((i : Int) - 1))), (3, vi (t.getD i 0)), (0, .ref (ad 0)), (1, vi (i : Int)), (2, vi (t.length : Int))]) hx hb dX11_endsAt_144 hl (by decide) rfl (fun ls hl => ?_)
            refine lv_iload hx hb dX11_endsAt_146 (lv_at hl 1 rfl) ?_
            refine jr_ifne (tgt := 160) hx hb dX11_endsAt_148 (by decide) ⟨by omega, by omega⟩ (fun c148 => absurd c148 (by omega)) (fun c148 => ?_)
            refine lv_iload hx hb dX11_endsAt_151 (lv_at hl 0 rfl) ?_
            refine jr_ifne (tgt := 160) hx hb dX11_endsAt_153 (by decide) ⟨by omega, by omega⟩ (fun c153 => absurd c153 (by omega)) (fun c153 => ?_)
            refine jr_iconst hx hb dX11_endsAt_156 ?_
            refine lv_goto (tgt := 161) hx hb dX11_endsAt_157 (by decide) ?_
            exact je_Si hx hb hr hlk (nz_b (by omega)).1 (i01_1 (isE_iff.mpr (by rw [hti]; first | exact Or.inl (by omega) | exact Or.inr (Or.inl (by omega)) | exact Or.inr (Or.inr ⟨by omega, hnn, hna⟩)))) dX11_endsAt_161
          · refine lv_iload hx hb dX11_endsAt_114 (lv_at hl 2 rfl) ?_
            refine jr_sipush hx hb dX11_endsAt_116 (by decide) ?_
            refine jr_idiv hx hb (by omega) (by omega) (by omega) (by omega) dX11_endsAt_119 ?_
            refine jr_iconst hx hb dX11_endsAt_120 ?_
            refine jr_ne (tgt := 143) hx hb dX11_endsAt_121 (by decide) ⟨by omega, by omega⟩ ⟨by omega, by omega⟩ (fun c121 => ?_) (fun c121 => ?_)
            · have hnn : ¬ (kd (tAt t ((i : Int) - 1)) = 1 ∧ kd (tAt t ((i : Int) + 1)) = 1) := fun q => by have h8 := kd_n (c := (tAt t ((i : Int) - 1))) (by omega); omega
              refine jr_iconst hx hb dX11_endsAt_143 ?_
              refine lv_istore (lv' := [(7, vi 0), (6, vi 0), (5, vi (tAt t ((i : Int) + 1))), (4, vi (tAt t ((i : Int) - 1))), (3, vi (t.getD i 0)), (0, .ref (ad 0)), (1, vi (i : Int)), (2, vi (t.length : Int))]) hx hb dX11_endsAt_144 hl (by decide) rfl (fun ls hl => ?_)
              refine lv_iload hx hb dX11_endsAt_146 (lv_at hl 1 rfl) ?_
              refine jr_ifne (tgt := 160) hx hb dX11_endsAt_148 (by decide) ⟨by omega, by omega⟩ (fun c148 => absurd c148 (by omega)) (fun c148 => ?_)
              refine lv_iload hx hb dX11_endsAt_151 (lv_at hl 0 rfl) ?_
              refine jr_ifne (tgt := 160) hx hb dX11_endsAt_153 (by decide) ⟨by omega, by omega⟩ (fun c153 => absurd c153 (by omega)) (fun c153 => ?_)
              refine jr_iconst hx hb dX11_endsAt_156 ?_
              refine lv_goto (tgt := 161) hx hb dX11_endsAt_157 (by decide) ?_
              exact je_Si hx hb hr hlk (nz_b (by omega)).1 (i01_1 (isE_iff.mpr (by rw [hti]; first | exact Or.inl (by omega) | exact Or.inr (Or.inl (by omega)) | exact Or.inr (Or.inr ⟨by omega, hnn, hna⟩)))) dX11_endsAt_161
            · refine lv_iload hx hb dX11_endsAt_124 (lv_at hl 1 rfl) ?_
              refine jr_iflt (tgt := 143) hx hb dX11_endsAt_126 (by decide) ⟨by omega, by omega⟩ (fun c126 => ?_) (fun c126 => ?_)
              · have hnn : ¬ (kd (tAt t ((i : Int) - 1)) = 1 ∧ kd (tAt t ((i : Int) + 1)) = 1) := fun q => by have h8 : kd (tAt t ((i : Int) + 1)) = -1 := if_pos c126; omega
                refine jr_iconst hx hb dX11_endsAt_143 ?_
                refine lv_istore (lv' := [(7, vi 0), (6, vi 0), (5, vi (tAt t ((i : Int) + 1))), (4, vi (tAt t ((i : Int) - 1))), (3, vi (t.getD i 0)), (0, .ref (ad 0)), (1, vi (i : Int)), (2, vi (t.length : Int))]) hx hb dX11_endsAt_144 hl (by decide) rfl (fun ls hl => ?_)
                refine lv_iload hx hb dX11_endsAt_146 (lv_at hl 1 rfl) ?_
                refine jr_ifne (tgt := 160) hx hb dX11_endsAt_148 (by decide) ⟨by omega, by omega⟩ (fun c148 => absurd c148 (by omega)) (fun c148 => ?_)
                refine lv_iload hx hb dX11_endsAt_151 (lv_at hl 0 rfl) ?_
                refine jr_ifne (tgt := 160) hx hb dX11_endsAt_153 (by decide) ⟨by omega, by omega⟩ (fun c153 => absurd c153 (by omega)) (fun c153 => ?_)
                refine jr_iconst hx hb dX11_endsAt_156 ?_
                refine lv_goto (tgt := 161) hx hb dX11_endsAt_157 (by decide) ?_
                exact je_Si hx hb hr hlk (nz_b (by omega)).1 (i01_1 (isE_iff.mpr (by rw [hti]; first | exact Or.inl (by omega) | exact Or.inr (Or.inl (by omega)) | exact Or.inr (Or.inr ⟨by omega, hnn, hna⟩)))) dX11_endsAt_161
              · refine lv_iload hx hb dX11_endsAt_129 (lv_at hl 1 rfl) ?_
                refine jr_sipush hx hb dX11_endsAt_131 (by decide) ?_
                refine jr_idiv hx hb (by omega) (by omega) (by omega) (by omega) dX11_endsAt_134 ?_
                refine jr_iconst hx hb dX11_endsAt_135 ?_
                refine jr_ne (tgt := 143) hx hb dX11_endsAt_136 (by decide) ⟨by omega, by omega⟩ ⟨by omega, by omega⟩ (fun c136 => ?_) (fun c136 => ?_)
                · have hnn : ¬ (kd (tAt t ((i : Int) - 1)) = 1 ∧ kd (tAt t ((i : Int) + 1)) = 1) := fun q => by have h8 := kd_n (c := (tAt t ((i : Int) + 1))) (by omega); omega
                  refine jr_iconst hx hb dX11_endsAt_143 ?_
                  refine lv_istore (lv' := [(7, vi 0), (6, vi 0), (5, vi (tAt t ((i : Int) + 1))), (4, vi (tAt t ((i : Int) - 1))), (3, vi (t.getD i 0)), (0, .ref (ad 0)), (1, vi (i : Int)), (2, vi (t.length : Int))]) hx hb dX11_endsAt_144 hl (by decide) rfl (fun ls hl => ?_)
                  refine lv_iload hx hb dX11_endsAt_146 (lv_at hl 1 rfl) ?_
                  refine jr_ifne (tgt := 160) hx hb dX11_endsAt_148 (by decide) ⟨by omega, by omega⟩ (fun c148 => absurd c148 (by omega)) (fun c148 => ?_)
                  refine lv_iload hx hb dX11_endsAt_151 (lv_at hl 0 rfl) ?_
                  refine jr_ifne (tgt := 160) hx hb dX11_endsAt_153 (by decide) ⟨by omega, by omega⟩ (fun c153 => absurd c153 (by omega)) (fun c153 => ?_)
                  refine jr_iconst hx hb dX11_endsAt_156 ?_
                  refine lv_goto (tgt := 161) hx hb dX11_endsAt_157 (by decide) ?_
                  exact je_Si hx hb hr hlk (nz_b (by omega)).1 (i01_1 (isE_iff.mpr (by rw [hti]; first | exact Or.inl (by omega) | exact Or.inr (Or.inl (by omega)) | exact Or.inr (Or.inr ⟨by omega, hnn, hna⟩)))) dX11_endsAt_161
                · have hnum : kd (tAt t ((i : Int) - 1)) = 1 ∧ kd (tAt t ((i : Int) + 1)) = 1 := ⟨by rw [kd_n (c := (tAt t ((i : Int) - 1))) (by omega)]; omega, by rw [kd_n (c := (tAt t ((i : Int) + 1))) (by omega)]; omega⟩
                  refine jr_iconst hx hb dX11_endsAt_139 ?_
                  refine lv_goto (tgt := 144) hx hb dX11_endsAt_140 (by decide) ?_
                  refine lv_istore (lv' := [(7, vi 1), (6, vi 0), (5, vi (tAt t ((i : Int) + 1))), (4, vi (tAt t ((i : Int) - 1))), (3, vi (t.getD i 0)), (0, .ref (ad 0)), (1, vi (i : Int)), (2, vi (t.length : Int))]) hx hb dX11_endsAt_144 hl (by decide) rfl (fun ls hl => ?_)
                  refine lv_iload hx hb dX11_endsAt_146 (lv_at hl 1 rfl) ?_
                  refine jr_ifne (tgt := 160) hx hb dX11_endsAt_148 (by decide) ⟨by omega, by omega⟩ (fun c148 => absurd c148 (by omega)) (fun c148 => ?_)
                  refine lv_iload hx hb dX11_endsAt_151 (lv_at hl 0 rfl) ?_
                  refine jr_ifne (tgt := 160) hx hb dX11_endsAt_153 (by decide) ⟨by omega, by omega⟩ (fun c153 => ?_) (fun c153 => absurd c153 (by omega))
                  refine jr_iconst hx hb dX11_endsAt_160 ?_
                  exact je_Si hx hb hr hlk (nz_b (by omega)).1 (i01_0 (fun q => by rcases isE_iff.mp q with q | q | ⟨q, q2, q3⟩ <;> rw [hti] at q <;> first | omega | exact absurd hab9 q3 | exact q2 hnum)) dX11_endsAt_161
        · refine lv_iload hx hb dX11_endsAt_84 (lv_at hl 1 rfl) ?_
          refine jr_sipush hx hb dX11_endsAt_86 (by decide) ?_
          refine jr_ge (tgt := 106) hx hb dX11_endsAt_89 (by decide) ⟨by omega, by omega⟩ ⟨by omega, by omega⟩ (fun c89 => ?_) (fun c89 => ?_)
          · have hna : ¬ isAb f3 (tAt t ((i : Int) - 1)) = true := fun q => by have h9 := (isAb_iff.mp q).1; have h8 := kd_n (c := (tAt t ((i : Int) - 1))) (by omega); omega
            refine jr_iconst hx hb dX11_endsAt_106 ?_
            refine lv_istore (lv' := [(6, vi 0), (5, vi (tAt t ((i : Int) + 1))), (4, vi (tAt t ((i : Int) - 1))), (3, vi (t.getD i 0)), (0, .ref (ad 0)), (1, vi (i : Int)), (2, vi (t.length : Int))]) hx hb dX11_endsAt_107 hl (by decide) rfl (fun ls hl => ?_)
            refine lv_iload hx hb dX11_endsAt_109 (lv_at hl 2 rfl) ?_
            refine jr_iflt (tgt := 143) hx hb dX11_endsAt_111 (by decide) ⟨by omega, by omega⟩ (fun c111 => ?_) (fun c111 => ?_)
            · have hnn : ¬ (kd (tAt t ((i : Int) - 1)) = 1 ∧ kd (tAt t ((i : Int) + 1)) = 1) := fun q => by have h8 : kd (tAt t ((i : Int) - 1)) = -1 := if_pos c111; omega
              refine jr_iconst hx hb dX11_endsAt_143 ?_
              refine lv_istore (lv' := [(7, vi 0), (6, vi 0), (5, vi (tAt t ((i : Int) + 1))), (4, vi (tAt t ((i : Int) - 1))), (3, vi (t.getD i 0)), (0, .ref (ad 0)), (1, vi (i : Int)), (2, vi (t.length : Int))]) hx hb dX11_endsAt_144 hl (by decide) rfl (fun ls hl => ?_)
              refine lv_iload hx hb dX11_endsAt_146 (lv_at hl 1 rfl) ?_
              refine jr_ifne (tgt := 160) hx hb dX11_endsAt_148 (by decide) ⟨by omega, by omega⟩ (fun c148 => absurd c148 (by omega)) (fun c148 => ?_)
              refine lv_iload hx hb dX11_endsAt_151 (lv_at hl 0 rfl) ?_
              refine jr_ifne (tgt := 160) hx hb dX11_endsAt_153 (by decide) ⟨by omega, by omega⟩ (fun c153 => absurd c153 (by omega)) (fun c153 => ?_)
              refine jr_iconst hx hb dX11_endsAt_156 ?_
              refine lv_goto (tgt := 161) hx hb dX11_endsAt_157 (by decide) ?_
              exact je_Si hx hb hr hlk (nz_b (by omega)).1 (i01_1 (isE_iff.mpr (by rw [hti]; first | exact Or.inl (by omega) | exact Or.inr (Or.inl (by omega)) | exact Or.inr (Or.inr ⟨by omega, hnn, hna⟩)))) dX11_endsAt_161
            · refine lv_iload hx hb dX11_endsAt_114 (lv_at hl 2 rfl) ?_
              refine jr_sipush hx hb dX11_endsAt_116 (by decide) ?_
              refine jr_idiv hx hb (by omega) (by omega) (by omega) (by omega) dX11_endsAt_119 ?_
              refine jr_iconst hx hb dX11_endsAt_120 ?_
              refine jr_ne (tgt := 143) hx hb dX11_endsAt_121 (by decide) ⟨by omega, by omega⟩ ⟨by omega, by omega⟩ (fun c121 => ?_) (fun c121 => ?_)
              · have hnn : ¬ (kd (tAt t ((i : Int) - 1)) = 1 ∧ kd (tAt t ((i : Int) + 1)) = 1) := fun q => by have h8 := kd_n (c := (tAt t ((i : Int) - 1))) (by omega); omega
                refine jr_iconst hx hb dX11_endsAt_143 ?_
                refine lv_istore (lv' := [(7, vi 0), (6, vi 0), (5, vi (tAt t ((i : Int) + 1))), (4, vi (tAt t ((i : Int) - 1))), (3, vi (t.getD i 0)), (0, .ref (ad 0)), (1, vi (i : Int)), (2, vi (t.length : Int))]) hx hb dX11_endsAt_144 hl (by decide) rfl (fun ls hl => ?_)
                refine lv_iload hx hb dX11_endsAt_146 (lv_at hl 1 rfl) ?_
                refine jr_ifne (tgt := 160) hx hb dX11_endsAt_148 (by decide) ⟨by omega, by omega⟩ (fun c148 => absurd c148 (by omega)) (fun c148 => ?_)
                refine lv_iload hx hb dX11_endsAt_151 (lv_at hl 0 rfl) ?_
                refine jr_ifne (tgt := 160) hx hb dX11_endsAt_153 (by decide) ⟨by omega, by omega⟩ (fun c153 => absurd c153 (by omega)) (fun c153 => ?_)
                refine jr_iconst hx hb dX11_endsAt_156 ?_
                refine lv_goto (tgt := 161) hx hb dX11_endsAt_157 (by decide) ?_
                exact je_Si hx hb hr hlk (nz_b (by omega)).1 (i01_1 (isE_iff.mpr (by rw [hti]; first | exact Or.inl (by omega) | exact Or.inr (Or.inl (by omega)) | exact Or.inr (Or.inr ⟨by omega, hnn, hna⟩)))) dX11_endsAt_161
              · refine lv_iload hx hb dX11_endsAt_124 (lv_at hl 1 rfl) ?_
                refine jr_iflt (tgt := 143) hx hb dX11_endsAt_126 (by decide) ⟨by omega, by omega⟩ (fun c126 => ?_) (fun c126 => ?_)
                · have hnn : ¬ (kd (tAt t ((i : Int) - 1)) = 1 ∧ kd (tAt t ((i : Int) + 1)) = 1) := fun q => by have h8 : kd (tAt t ((i : Int) + 1)) = -1 := if_pos c126; omega
                  refine jr_iconst hx hb dX11_endsAt_143 ?_
                  refine lv_istore (lv' := [(7, vi 0), (6, vi 0), (5, vi (tAt t ((i : Int) + 1))), (4, vi (tAt t ((i : Int) - 1))), (3, vi (t.getD i 0)), (0, .ref (ad 0)), (1, vi (i : Int)), (2, vi (t.length : Int))]) hx hb dX11_endsAt_144 hl (by decide) rfl (fun ls hl => ?_)
                  refine lv_iload hx hb dX11_endsAt_146 (lv_at hl 1 rfl) ?_
                  refine jr_ifne (tgt := 160) hx hb dX11_endsAt_148 (by decide) ⟨by omega, by omega⟩ (fun c148 => absurd c148 (by omega)) (fun c148 => ?_)
                  refine lv_iload hx hb dX11_endsAt_151 (lv_at hl 0 rfl) ?_
                  refine jr_ifne (tgt := 160) hx hb dX11_endsAt_153 (by decide) ⟨by omega, by omega⟩ (fun c153 => absurd c153 (by omega)) (fun c153 => ?_)
                  refine jr_iconst hx hb dX11_endsAt_156 ?_
                  refine lv_goto (tgt := 161) hx hb dX11_endsAt_157 (by decide) ?_
                  exact je_Si hx hb hr hlk (nz_b (by omega)).1 (i01_1 (isE_iff.mpr (by rw [hti]; first | exact Or.inl (by omega) | exact Or.inr (Or.inl (by omega)) | exact Or.inr (Or.inr ⟨by omega, hnn, hna⟩)))) dX11_endsAt_161
                · refine lv_iload hx hb dX11_endsAt_129 (lv_at hl 1 rfl) ?_
                  refine jr_sipush hx hb dX11_endsAt_131 (by decide) ?_
                  refine jr_idiv hx hb (by omega) (by omega) (by omega) (by omega) dX11_endsAt_134 ?_
                  refine jr_iconst hx hb dX11_endsAt_135 ?_
                  refine jr_ne (tgt := 143) hx hb dX11_endsAt_136 (by decide) ⟨by omega, by omega⟩ ⟨by omega, by omega⟩ (fun c136 => ?_) (fun c136 => ?_)
                  · have hnn : ¬ (kd (tAt t ((i : Int) - 1)) = 1 ∧ kd (tAt t ((i : Int) + 1)) = 1) := fun q => by have h8 := kd_n (c := (tAt t ((i : Int) + 1))) (by omega); omega
                    refine jr_iconst hx hb dX11_endsAt_143 ?_
                    refine lv_istore (lv' := [(7, vi 0), (6, vi 0), (5, vi (tAt t ((i : Int) + 1))), (4, vi (tAt t ((i : Int) - 1))), (3, vi (t.getD i 0)), (0, .ref (ad 0)), (1, vi (i : Int)), (2, vi (t.length : Int))]) hx hb dX11_endsAt_144 hl (by decide) rfl (fun ls hl => ?_)
                    refine lv_iload hx hb dX11_endsAt_146 (lv_at hl 1 rfl) ?_
                    refine jr_ifne (tgt := 160) hx hb dX11_endsAt_148 (by decide) ⟨by omega, by omega⟩ (fun c148 => absurd c148 (by omega)) (fun c148 => ?_)
                    refine lv_iload hx hb dX11_endsAt_151 (lv_at hl 0 rfl) ?_
                    refine jr_ifne (tgt := 160) hx hb dX11_endsAt_153 (by decide) ⟨by omega, by omega⟩ (fun c153 => absurd c153 (by omega)) (fun c153 => ?_)
                    refine jr_iconst hx hb dX11_endsAt_156 ?_
                    refine lv_goto (tgt := 161) hx hb dX11_endsAt_157 (by decide) ?_
                    exact je_Si hx hb hr hlk (nz_b (by omega)).1 (i01_1 (isE_iff.mpr (by rw [hti]; first | exact Or.inl (by omega) | exact Or.inr (Or.inl (by omega)) | exact Or.inr (Or.inr ⟨by omega, hnn, hna⟩)))) dX11_endsAt_161
                  · have hnum : kd (tAt t ((i : Int) - 1)) = 1 ∧ kd (tAt t ((i : Int) + 1)) = 1 := ⟨by rw [kd_n (c := (tAt t ((i : Int) - 1))) (by omega)]; omega, by rw [kd_n (c := (tAt t ((i : Int) + 1))) (by omega)]; omega⟩
                    refine jr_iconst hx hb dX11_endsAt_139 ?_
                    refine lv_goto (tgt := 144) hx hb dX11_endsAt_140 (by decide) ?_
                    refine lv_istore (lv' := [(7, vi 1), (6, vi 0), (5, vi (tAt t ((i : Int) + 1))), (4, vi (tAt t ((i : Int) - 1))), (3, vi (t.getD i 0)), (0, .ref (ad 0)), (1, vi (i : Int)), (2, vi (t.length : Int))]) hx hb dX11_endsAt_144 hl (by decide) rfl (fun ls hl => ?_)
                    refine lv_iload hx hb dX11_endsAt_146 (lv_at hl 1 rfl) ?_
                    refine jr_ifne (tgt := 160) hx hb dX11_endsAt_148 (by decide) ⟨by omega, by omega⟩ (fun c148 => absurd c148 (by omega)) (fun c148 => ?_)
                    refine lv_iload hx hb dX11_endsAt_151 (lv_at hl 0 rfl) ?_
                    refine jr_ifne (tgt := 160) hx hb dX11_endsAt_153 (by decide) ⟨by omega, by omega⟩ (fun c153 => ?_) (fun c153 => absurd c153 (by omega))
                    refine jr_iconst hx hb dX11_endsAt_160 ?_
                    exact je_Si hx hb hr hlk (nz_b (by omega)).1 (i01_0 (fun q => by rcases isE_iff.mp q with q | q | ⟨q, q2, q3⟩ <;> rw [hti] at q <;> first | omega | exact absurd hab9 q3 | exact q2 hnum)) dX11_endsAt_161
          · have hi1 : 1 ≤ i := by rcases Nat.lt_or_ge 0 i with h | h; omega; have h9 := tAt_out (t := t) (i := (i : Int) - 1) (Or.inl (by omega)); omega
            have hw9 : (tAt t ((i : Int) - 1)) < 100 := by (have e9 : (tAt t ((i : Int) - 1)) = t.getD (i - 1) 0 := by (rw [show (i : Int) - 1 = ((i - 1 : Nat) : Int) by omega]; exact tAt_in (by omega))); (have h9 := hwd (t.getD (i - 1) 0) (by rw [List.getD_eq_getElem?_getD, List.getElem?_eq_getElem (show i - 1 < t.length by omega)]; exact List.getElem_mem _)); omega
            have hab8 := hab (tAt t ((i : Int) - 1)).toNat (by omega)
            have hkp0 : kd (tAt t ((i : Int) - 1)) = 0 := by rw [kd_n (c := (tAt t ((i : Int) - 1))) (by omega)]; omega
            have hvp0 : vl (tAt t ((i : Int) - 1)) = (tAt t ((i : Int) - 1)) := by rw [vl_n (by omega)]; omega
            refine lv_aload_n hx hb dX11_endsAt_92 rfl (lv_at hl 3 rfl) ?_
            refine va_get (D := gD g) (ci := 10) (v := .ref (ad 3)) (C := RX11) (T := TX11) (N := 29) hx hb htl ck_X11 hown hKK.k hP 0 rfl rfl 4 (by decide) (htl _ wd_5_17) (fun _ h9 => h9) rfl dX11_endsAt_93 ?_
            refine lv_iload hx hb dX11_endsAt_96 (lv_at hl 1 rfl) ?_
            refine jr_zald hx hb hKK.k hP 1 rfl ((tAt t ((i : Int) - 1)).toNat) (by omega) (by omega) (by omega) dX11_endsAt_98 ?_
            refine jr_ifeq (tgt := 106) hx hb dX11_endsAt_99 (by decide) ⟨by omega, by omega⟩ (fun c99 => ?_) (fun c99 => ?_)
            · have hna : ¬ isAb f3 (tAt t ((i : Int) - 1)) = true := fun q => (isAb_iff.mp q).2.2.2 (by rw [hvp0]; exact c99)
              refine jr_iconst hx hb dX11_endsAt_106 ?_
              refine lv_istore (lv' := [(6, vi 0), (5, vi (tAt t ((i : Int) + 1))), (4, vi (tAt t ((i : Int) - 1))), (3, vi (t.getD i 0)), (0, .ref (ad 0)), (1, vi (i : Int)), (2, vi (t.length : Int))]) hx hb dX11_endsAt_107 hl (by decide) rfl (fun ls hl => ?_)
              refine lv_iload hx hb dX11_endsAt_109 (lv_at hl 2 rfl) ?_
              refine jr_iflt (tgt := 143) hx hb dX11_endsAt_111 (by decide) ⟨by omega, by omega⟩ (fun c111 => ?_) (fun c111 => ?_)
              · have hnn : ¬ (kd (tAt t ((i : Int) - 1)) = 1 ∧ kd (tAt t ((i : Int) + 1)) = 1) := fun q => by have h8 : kd (tAt t ((i : Int) - 1)) = -1 := if_pos c111; omega
                refine jr_iconst hx hb dX11_endsAt_143 ?_
                refine lv_istore (lv' := [(7, vi 0), (6, vi 0), (5, vi (tAt t ((i : Int) + 1))), (4, vi (tAt t ((i : Int) - 1))), (3, vi (t.getD i 0)), (0, .ref (ad 0)), (1, vi (i : Int)), (2, vi (t.length : Int))]) hx hb dX11_endsAt_144 hl (by decide) rfl (fun ls hl => ?_)
                refine lv_iload hx hb dX11_endsAt_146 (lv_at hl 1 rfl) ?_
                refine jr_ifne (tgt := 160) hx hb dX11_endsAt_148 (by decide) ⟨by omega, by omega⟩ (fun c148 => absurd c148 (by omega)) (fun c148 => ?_)
                refine lv_iload hx hb dX11_endsAt_151 (lv_at hl 0 rfl) ?_
                refine jr_ifne (tgt := 160) hx hb dX11_endsAt_153 (by decide) ⟨by omega, by omega⟩ (fun c153 => absurd c153 (by omega)) (fun c153 => ?_)
                refine jr_iconst hx hb dX11_endsAt_156 ?_
                refine lv_goto (tgt := 161) hx hb dX11_endsAt_157 (by decide) ?_
                exact je_Si hx hb hr hlk (nz_b (by omega)).1 (i01_1 (isE_iff.mpr (by rw [hti]; first | exact Or.inl (by omega) | exact Or.inr (Or.inl (by omega)) | exact Or.inr (Or.inr ⟨by omega, hnn, hna⟩)))) dX11_endsAt_161
              · refine lv_iload hx hb dX11_endsAt_114 (lv_at hl 2 rfl) ?_
                refine jr_sipush hx hb dX11_endsAt_116 (by decide) ?_
                refine jr_idiv hx hb (by omega) (by omega) (by omega) (by omega) dX11_endsAt_119 ?_
                refine jr_iconst hx hb dX11_endsAt_120 ?_
                refine jr_ne (tgt := 143) hx hb dX11_endsAt_121 (by decide) ⟨by omega, by omega⟩ ⟨by omega, by omega⟩ (fun c121 => ?_) (fun c121 => ?_)
                · have hnn : ¬ (kd (tAt t ((i : Int) - 1)) = 1 ∧ kd (tAt t ((i : Int) + 1)) = 1) := fun q => by have h8 := kd_n (c := (tAt t ((i : Int) - 1))) (by omega); omega
                  refine jr_iconst hx hb dX11_endsAt_143 ?_
                  refine lv_istore (lv' := [(7, vi 0), (6, vi 0), (5, vi (tAt t ((i : Int) + 1))), (4, vi (tAt t ((i : Int) - 1))), (3, vi (t.getD i 0)), (0, .ref (ad 0)), (1, vi (i : Int)), (2, vi (t.length : Int))]) hx hb dX11_endsAt_144 hl (by decide) rfl (fun ls hl => ?_)
                  refine lv_iload hx hb dX11_endsAt_146 (lv_at hl 1 rfl) ?_
                  refine jr_ifne (tgt := 160) hx hb dX11_endsAt_148 (by decide) ⟨by omega, by omega⟩ (fun c148 => absurd c148 (by omega)) (fun c148 => ?_)
                  refine lv_iload hx hb dX11_endsAt_151 (lv_at hl 0 rfl) ?_
                  refine jr_ifne (tgt := 160) hx hb dX11_endsAt_153 (by decide) ⟨by omega, by omega⟩ (fun c153 => absurd c153 (by omega)) (fun c153 => ?_)
                  refine jr_iconst hx hb dX11_endsAt_156 ?_
                  refine lv_goto (tgt := 161) hx hb dX11_endsAt_157 (by decide) ?_
                  exact je_Si hx hb hr hlk (nz_b (by omega)).1 (i01_1 (isE_iff.mpr (by rw [hti]; first | exact Or.inl (by omega) | exact Or.inr (Or.inl (by omega)) | exact Or.inr (Or.inr ⟨by omega, hnn, hna⟩)))) dX11_endsAt_161
                · refine lv_iload hx hb dX11_endsAt_124 (lv_at hl 1 rfl) ?_
                  refine jr_iflt (tgt := 143) hx hb dX11_endsAt_126 (by decide) ⟨by omega, by omega⟩ (fun c126 => ?_) (fun c126 => ?_)
                  · have hnn : ¬ (kd (tAt t ((i : Int) - 1)) = 1 ∧ kd (tAt t ((i : Int) + 1)) = 1) := fun q => by have h8 : kd (tAt t ((i : Int) + 1)) = -1 := if_pos c126; omega
                    refine jr_iconst hx hb dX11_endsAt_143 ?_
                    refine lv_istore (lv' := [(7, vi 0), (6, vi 0), (5, vi (tAt t ((i : Int) + 1))), (4, vi (tAt t ((i : Int) - 1))), (3, vi (t.getD i 0)), (0, .ref (ad 0)), (1, vi (i : Int)), (2, vi (t.length : Int))]) hx hb dX11_endsAt_144 hl (by decide) rfl (fun ls hl => ?_)
                    refine lv_iload hx hb dX11_endsAt_146 (lv_at hl 1 rfl) ?_
                    refine jr_ifne (tgt := 160) hx hb dX11_endsAt_148 (by decide) ⟨by omega, by omega⟩ (fun c148 => absurd c148 (by omega)) (fun c148 => ?_)
                    refine lv_iload hx hb dX11_endsAt_151 (lv_at hl 0 rfl) ?_
                    refine jr_ifne (tgt := 160) hx hb dX11_endsAt_153 (by decide) ⟨by omega, by omega⟩ (fun c153 => absurd c153 (by omega)) (fun c153 => ?_)
                    refine jr_iconst hx hb dX11_endsAt_156 ?_
                    refine lv_goto (tgt := 161) hx hb dX11_endsAt_157 (by decide) ?_
                    exact je_Si hx hb hr hlk (nz_b (by omega)).1 (i01_1 (isE_iff.mpr (by rw [hti]; first | exact Or.inl (by omega) | exact Or.inr (Or.inl (by omega)) | exact Or.inr (Or.inr ⟨by omega, hnn, hna⟩)))) dX11_endsAt_161
                  · refine lv_iload hx hb dX11_endsAt_129 (lv_at hl 1 rfl) ?_
                    refine jr_sipush hx hb dX11_endsAt_131 (by decide) ?_
                    refine jr_idiv hx hb (by omega) (by omega) (by omega) (by omega) dX11_endsAt_134 ?_
                    refine jr_iconst hx hb dX11_endsAt_135 ?_
                    refine jr_ne (tgt := 143) hx hb dX11_endsAt_136 (by decide) ⟨by omega, by omega⟩ ⟨by omega, by omega⟩ (fun c136 => ?_) (fun c136 => ?_)
                    · have hnn : ¬ (kd (tAt t ((i : Int) - 1)) = 1 ∧ kd (tAt t ((i : Int) + 1)) = 1) := fun q => by have h8 := kd_n (c := (tAt t ((i : Int) + 1))) (by omega); omega
                      refine jr_iconst hx hb dX11_endsAt_143 ?_
                      refine lv_istore (lv' := [(7, vi 0), (6, vi 0), (5, vi (tAt t ((i : Int) + 1))), (4, vi (tAt t ((i : Int) - 1))), (3, vi (t.getD i 0)), (0, .ref (ad 0)), (1, vi (i : Int)), (2, vi (t.length : Int))]) hx hb dX11_endsAt_144 hl (by decide) rfl (fun ls hl => ?_)
                      refine lv_iload hx hb dX11_endsAt_146 (lv_at hl 1 rfl) ?_
                      refine jr_ifne (tgt := 160) hx hb dX11_endsAt_148 (by decide) ⟨by omega, by omega⟩ (fun c148 => absurd c148 (by omega)) (fun c148 => ?_)
                      refine lv_iload hx hb dX11_endsAt_151 (lv_at hl 0 rfl) ?_
                      refine jr_ifne (tgt := 160) hx hb dX11_endsAt_153 (by decide) ⟨by omega, by omega⟩ (fun c153 => absurd c153 (by omega)) (fun c153 => ?_)
                      refine jr_iconst hx hb dX11_endsAt_156 ?_
                      refine lv_goto (tgt := 161) hx hb dX11_endsAt_157 (by decide) ?_
                      exact je_Si hx hb hr hlk (nz_b (by omega)).1 (i01_1 (isE_iff.mpr (by rw [hti]; first | exact Or.inl (by omega) | exact Or.inr (Or.inl (by omega)) | exact Or.inr (Or.inr ⟨by omega, hnn, hna⟩)))) dX11_endsAt_161
                    · have hnum : kd (tAt t ((i : Int) - 1)) = 1 ∧ kd (tAt t ((i : Int) + 1)) = 1 := ⟨by rw [kd_n (c := (tAt t ((i : Int) - 1))) (by omega)]; omega, by rw [kd_n (c := (tAt t ((i : Int) + 1))) (by omega)]; omega⟩
                      refine jr_iconst hx hb dX11_endsAt_139 ?_
                      refine lv_goto (tgt := 144) hx hb dX11_endsAt_140 (by decide) ?_
                      refine lv_istore (lv' := [(7, vi 1), (6, vi 0), (5, vi (tAt t ((i : Int) + 1))), (4, vi (tAt t ((i : Int) - 1))), (3, vi (t.getD i 0)), (0, .ref (ad 0)), (1, vi (i : Int)), (2, vi (t.length : Int))]) hx hb dX11_endsAt_144 hl (by decide) rfl (fun ls hl => ?_)
                      refine lv_iload hx hb dX11_endsAt_146 (lv_at hl 1 rfl) ?_
                      refine jr_ifne (tgt := 160) hx hb dX11_endsAt_148 (by decide) ⟨by omega, by omega⟩ (fun c148 => absurd c148 (by omega)) (fun c148 => ?_)
                      refine lv_iload hx hb dX11_endsAt_151 (lv_at hl 0 rfl) ?_
                      refine jr_ifne (tgt := 160) hx hb dX11_endsAt_153 (by decide) ⟨by omega, by omega⟩ (fun c153 => ?_) (fun c153 => absurd c153 (by omega))
                      refine jr_iconst hx hb dX11_endsAt_160 ?_
                      exact je_Si hx hb hr hlk (nz_b (by omega)).1 (i01_0 (fun q => by rcases isE_iff.mp q with q | q | ⟨q, q2, q3⟩ <;> rw [hti] at q <;> first | omega | exact absurd hab9 q3 | exact q2 hnum)) dX11_endsAt_161
            · have hab9 : isAb f3 (tAt t ((i : Int) - 1)) = true := isAb_iff.mpr ⟨hkp0, by omega, by omega, by rw [hvp0]; exact c99⟩
              refine jr_iconst hx hb dX11_endsAt_102 ?_
              refine lv_goto (tgt := 107) hx hb dX11_endsAt_103 (by decide) ?_
              refine lv_istore (lv' := [(6, vi 1), (5, vi (tAt t ((i : Int) + 1))), (4, vi (tAt t ((i : Int) - 1))), (3, vi (t.getD i 0)), (0, .ref (ad 0)), (1, vi (i : Int)), (2, vi (t.length : Int))]) hx hb dX11_endsAt_107 hl (by decide) rfl (fun ls hl => ?_)
              refine lv_iload hx hb dX11_endsAt_109 (lv_at hl 2 rfl) ?_
              refine jr_iflt (tgt := 143) hx hb dX11_endsAt_111 (by decide) ⟨by omega, by omega⟩ (fun c111 => ?_) (fun c111 => ?_)
              · have hnn : ¬ (kd (tAt t ((i : Int) - 1)) = 1 ∧ kd (tAt t ((i : Int) + 1)) = 1) := fun q => by have h8 : kd (tAt t ((i : Int) - 1)) = -1 := if_pos c111; omega
                refine jr_iconst hx hb dX11_endsAt_143 ?_
                refine lv_istore (lv' := [(7, vi 0), (6, vi 1), (5, vi (tAt t ((i : Int) + 1))), (4, vi (tAt t ((i : Int) - 1))), (3, vi (t.getD i 0)), (0, .ref (ad 0)), (1, vi (i : Int)), (2, vi (t.length : Int))]) hx hb dX11_endsAt_144 hl (by decide) rfl (fun ls hl => ?_)
                refine lv_iload hx hb dX11_endsAt_146 (lv_at hl 1 rfl) ?_
                refine jr_ifne (tgt := 160) hx hb dX11_endsAt_148 (by decide) ⟨by omega, by omega⟩ (fun c148 => ?_) (fun c148 => absurd c148 (by omega))
                refine jr_iconst hx hb dX11_endsAt_160 ?_
                exact je_Si hx hb hr hlk (nz_b (by omega)).1 (i01_0 (fun q => by rcases isE_iff.mp q with q | q | ⟨q, q2, q3⟩ <;> rw [hti] at q <;> first | omega | exact absurd hab9 q3 | exact q2 hnum)) dX11_endsAt_161
              · refine lv_iload hx hb dX11_endsAt_114 (lv_at hl 2 rfl) ?_
                refine jr_sipush hx hb dX11_endsAt_116 (by decide) ?_
                refine jr_idiv hx hb (by omega) (by omega) (by omega) (by omega) dX11_endsAt_119 ?_
                refine jr_iconst hx hb dX11_endsAt_120 ?_
                refine jr_ne (tgt := 143) hx hb dX11_endsAt_121 (by decide) ⟨by omega, by omega⟩ ⟨by omega, by omega⟩ (fun c121 => ?_) (fun c121 => ?_)
                · have hnn : ¬ (kd (tAt t ((i : Int) - 1)) = 1 ∧ kd (tAt t ((i : Int) + 1)) = 1) := fun q => by have h8 := kd_n (c := (tAt t ((i : Int) - 1))) (by omega); omega
                  refine jr_iconst hx hb dX11_endsAt_143 ?_
                  refine lv_istore (lv' := [(7, vi 0), (6, vi 1), (5, vi (tAt t ((i : Int) + 1))), (4, vi (tAt t ((i : Int) - 1))), (3, vi (t.getD i 0)), (0, .ref (ad 0)), (1, vi (i : Int)), (2, vi (t.length : Int))]) hx hb dX11_endsAt_144 hl (by decide) rfl (fun ls hl => ?_)
                  refine lv_iload hx hb dX11_endsAt_146 (lv_at hl 1 rfl) ?_
                  refine jr_ifne (tgt := 160) hx hb dX11_endsAt_148 (by decide) ⟨by omega, by omega⟩ (fun c148 => ?_) (fun c148 => absurd c148 (by omega))
                  refine jr_iconst hx hb dX11_endsAt_160 ?_
                  exact je_Si hx hb hr hlk (nz_b (by omega)).1 (i01_0 (fun q => by rcases isE_iff.mp q with q | q | ⟨q, q2, q3⟩ <;> rw [hti] at q <;> first | omega | exact absurd hab9 q3 | exact q2 hnum)) dX11_endsAt_161
                · refine lv_iload hx hb dX11_endsAt_124 (lv_at hl 1 rfl) ?_
                  refine jr_iflt (tgt := 143) hx hb dX11_endsAt_126 (by decide) ⟨by omega, by omega⟩ (fun c126 => ?_) (fun c126 => ?_)
                  · have hnn : ¬ (kd (tAt t ((i : Int) - 1)) = 1 ∧ kd (tAt t ((i : Int) + 1)) = 1) := fun q => by have h8 : kd (tAt t ((i : Int) + 1)) = -1 := if_pos c126; omega
                    refine jr_iconst hx hb dX11_endsAt_143 ?_
                    refine lv_istore (lv' := [(7, vi 0), (6, vi 1), (5, vi (tAt t ((i : Int) + 1))), (4, vi (tAt t ((i : Int) - 1))), (3, vi (t.getD i 0)), (0, .ref (ad 0)), (1, vi (i : Int)), (2, vi (t.length : Int))]) hx hb dX11_endsAt_144 hl (by decide) rfl (fun ls hl => ?_)
                    refine lv_iload hx hb dX11_endsAt_146 (lv_at hl 1 rfl) ?_
                    refine jr_ifne (tgt := 160) hx hb dX11_endsAt_148 (by decide) ⟨by omega, by omega⟩ (fun c148 => ?_) (fun c148 => absurd c148 (by omega))
                    refine jr_iconst hx hb dX11_endsAt_160 ?_
                    exact je_Si hx hb hr hlk (nz_b (by omega)).1 (i01_0 (fun q => by rcases isE_iff.mp q with q | q | ⟨q, q2, q3⟩ <;> rw [hti] at q <;> first | omega | exact absurd hab9 q3 | exact q2 hnum)) dX11_endsAt_161
                  · refine lv_iload hx hb dX11_endsAt_129 (lv_at hl 1 rfl) ?_
                    refine jr_sipush hx hb dX11_endsAt_131 (by decide) ?_
                    refine jr_idiv hx hb (by omega) (by omega) (by omega) (by omega) dX11_endsAt_134 ?_
                    refine jr_iconst hx hb dX11_endsAt_135 ?_
                    refine jr_ne (tgt := 143) hx hb dX11_endsAt_136 (by decide) ⟨by omega, by omega⟩ ⟨by omega, by omega⟩ (fun c136 => ?_) (fun c136 => ?_)
                    · have hnn : ¬ (kd (tAt t ((i : Int) - 1)) = 1 ∧ kd (tAt t ((i : Int) + 1)) = 1) := fun q => by have h8 := kd_n (c := (tAt t ((i : Int) + 1))) (by omega); omega
                      refine jr_iconst hx hb dX11_endsAt_143 ?_
                      refine lv_istore (lv' := [(7, vi 0), (6, vi 1), (5, vi (tAt t ((i : Int) + 1))), (4, vi (tAt t ((i : Int) - 1))), (3, vi (t.getD i 0)), (0, .ref (ad 0)), (1, vi (i : Int)), (2, vi (t.length : Int))]) hx hb dX11_endsAt_144 hl (by decide) rfl (fun ls hl => ?_)
                      refine lv_iload hx hb dX11_endsAt_146 (lv_at hl 1 rfl) ?_
                      refine jr_ifne (tgt := 160) hx hb dX11_endsAt_148 (by decide) ⟨by omega, by omega⟩ (fun c148 => ?_) (fun c148 => absurd c148 (by omega))
                      refine jr_iconst hx hb dX11_endsAt_160 ?_
                      exact je_Si hx hb hr hlk (nz_b (by omega)).1 (i01_0 (fun q => by rcases isE_iff.mp q with q | q | ⟨q, q2, q3⟩ <;> rw [hti] at q <;> first | omega | exact absurd hab9 q3 | exact q2 hnum)) dX11_endsAt_161
                    · have hnum : kd (tAt t ((i : Int) - 1)) = 1 ∧ kd (tAt t ((i : Int) + 1)) = 1 := ⟨by rw [kd_n (c := (tAt t ((i : Int) - 1))) (by omega)]; omega, by rw [kd_n (c := (tAt t ((i : Int) + 1))) (by omega)]; omega⟩
                      refine jr_iconst hx hb dX11_endsAt_139 ?_
                      refine lv_goto (tgt := 144) hx hb dX11_endsAt_140 (by decide) ?_
                      refine lv_istore (lv' := [(7, vi 1), (6, vi 1), (5, vi (tAt t ((i : Int) + 1))), (4, vi (tAt t ((i : Int) - 1))), (3, vi (t.getD i 0)), (0, .ref (ad 0)), (1, vi (i : Int)), (2, vi (t.length : Int))]) hx hb dX11_endsAt_144 hl (by decide) rfl (fun ls hl => ?_)
                      refine lv_iload hx hb dX11_endsAt_146 (lv_at hl 1 rfl) ?_
                      refine jr_ifne (tgt := 160) hx hb dX11_endsAt_148 (by decide) ⟨by omega, by omega⟩ (fun c148 => ?_) (fun c148 => absurd c148 (by omega))
                      refine jr_iconst hx hb dX11_endsAt_160 ?_
                      exact je_Si hx hb hr hlk (nz_b (by omega)).1 (i01_0 (fun q => by rcases isE_iff.mp q with q | q | ⟨q, q2, q3⟩ <;> rw [hti] at q <;> first | omega | exact absurd hab9 q3 | exact q2 hnum)) dX11_endsAt_161
      · refine jr_iconst hx hb dX11_endsAt_65 ?_
        refine lv_goto (tgt := 77) hx hb dX11_endsAt_66 (by decide) ?_
        refine jr_nm (b := (tAt t ((i : Int) + 1))) (tAt_out (Or.inr (by omega))).symm ?_
        refine lv_istore (lv' := [(5, vi (tAt t ((i : Int) + 1))), (4, vi (tAt t ((i : Int) - 1))), (3, vi (t.getD i 0)), (0, .ref (ad 0)), (1, vi (i : Int)), (2, vi (t.length : Int))]) hx hb dX11_endsAt_77 hl (by decide) rfl (fun ls hl => ?_)
        refine lv_iload hx hb dX11_endsAt_79 (lv_at hl 1 rfl) ?_
        refine jr_iflt (tgt := 106) hx hb dX11_endsAt_81 (by decide) ⟨by omega, by omega⟩ (fun c81 => ?_) (fun c81 => ?_)
        · have hna : ¬ isAb f3 (tAt t ((i : Int) - 1)) = true := fun q => by have h9 := (isAb_iff.mp q).1; have h8 : kd (tAt t ((i : Int) - 1)) = -1 := if_pos c81; omega
          refine jr_iconst hx hb dX11_endsAt_106 ?_
          refine lv_istore (lv' := [(6, vi 0), (5, vi (tAt t ((i : Int) + 1))), (4, vi (tAt t ((i : Int) - 1))), (3, vi (t.getD i 0)), (0, .ref (ad 0)), (1, vi (i : Int)), (2, vi (t.length : Int))]) hx hb dX11_endsAt_107 hl (by decide) rfl (fun ls hl => ?_)
          refine lv_iload hx hb dX11_endsAt_109 (lv_at hl 2 rfl) ?_
          refine jr_iflt (tgt := 143) hx hb dX11_endsAt_111 (by decide) ⟨by omega, by omega⟩ (fun c111 => ?_) (fun c111 => ?_)
          · have hnn : ¬ (kd (tAt t ((i : Int) - 1)) = 1 ∧ kd (tAt t ((i : Int) + 1)) = 1) := fun q => by have h8 : kd (tAt t ((i : Int) - 1)) = -1 := if_pos c111; omega
            refine jr_iconst hx hb dX11_endsAt_143 ?_
            refine lv_istore (lv' := [(7, vi 0), (6, vi 0), (5, vi (tAt t ((i : Int) + 1))), (4, vi (tAt t ((i : Int) - 1))), (3, vi (t.getD i 0)), (0, .ref (ad 0)), (1, vi (i : Int)), (2, vi (t.length : Int))]) hx hb dX11_endsAt_144 hl (by decide) rfl (fun ls hl => ?_)
            refine lv_iload hx hb dX11_endsAt_146 (lv_at hl 1 rfl) ?_
            refine jr_ifne (tgt := 160) hx hb dX11_endsAt_148 (by decide) ⟨by omega, by omega⟩ (fun c148 => absurd c148 (by omega)) (fun c148 => ?_)
            refine lv_iload hx hb dX11_endsAt_151 (lv_at hl 0 rfl) ?_
            refine jr_ifne (tgt := 160) hx hb dX11_endsAt_153 (by decide) ⟨by omega, by omega⟩ (fun c153 => absurd c153 (by omega)) (fun c153 => ?_)
            refine jr_iconst hx hb dX11_endsAt_156 ?_
            refine lv_goto (tgt := 161) hx hb dX11_endsAt_157 (by decide) ?_
            exact je_Si hx hb hr hlk (nz_b (by omega)).1 (i01_1 (isE_iff.mpr (by rw [hti]; first | exact Or.inl (by omega) | exact Or.inr (Or.inl (by omega)) | exact Or.inr (Or.inr ⟨by omega, hnn, hna⟩)))) dX11_endsAt_161
          · refine lv_iload hx hb dX11_endsAt_114 (lv_at hl 2 rfl) ?_
            refine jr_sipush hx hb dX11_endsAt_116 (by decide) ?_
            refine jr_idiv hx hb (by omega) (by omega) (by omega) (by omega) dX11_endsAt_119 ?_
            refine jr_iconst hx hb dX11_endsAt_120 ?_
            refine jr_ne (tgt := 143) hx hb dX11_endsAt_121 (by decide) ⟨by omega, by omega⟩ ⟨by omega, by omega⟩ (fun c121 => ?_) (fun c121 => ?_)
            · have hnn : ¬ (kd (tAt t ((i : Int) - 1)) = 1 ∧ kd (tAt t ((i : Int) + 1)) = 1) := fun q => by have h8 := kd_n (c := (tAt t ((i : Int) - 1))) (by omega); omega
              refine jr_iconst hx hb dX11_endsAt_143 ?_
              refine lv_istore (lv' := [(7, vi 0), (6, vi 0), (5, vi (tAt t ((i : Int) + 1))), (4, vi (tAt t ((i : Int) - 1))), (3, vi (t.getD i 0)), (0, .ref (ad 0)), (1, vi (i : Int)), (2, vi (t.length : Int))]) hx hb dX11_endsAt_144 hl (by decide) rfl (fun ls hl => ?_)
              refine lv_iload hx hb dX11_endsAt_146 (lv_at hl 1 rfl) ?_
              refine jr_ifne (tgt := 160) hx hb dX11_endsAt_148 (by decide) ⟨by omega, by omega⟩ (fun c148 => absurd c148 (by omega)) (fun c148 => ?_)
              refine lv_iload hx hb dX11_endsAt_151 (lv_at hl 0 rfl) ?_
              refine jr_ifne (tgt := 160) hx hb dX11_endsAt_153 (by decide) ⟨by omega, by omega⟩ (fun c153 => absurd c153 (by omega)) (fun c153 => ?_)
              refine jr_iconst hx hb dX11_endsAt_156 ?_
              refine lv_goto (tgt := 161) hx hb dX11_endsAt_157 (by decide) ?_
              exact je_Si hx hb hr hlk (nz_b (by omega)).1 (i01_1 (isE_iff.mpr (by rw [hti]; first | exact Or.inl (by omega) | exact Or.inr (Or.inl (by omega)) | exact Or.inr (Or.inr ⟨by omega, hnn, hna⟩)))) dX11_endsAt_161
            · refine lv_iload hx hb dX11_endsAt_124 (lv_at hl 1 rfl) ?_
              refine jr_iflt (tgt := 143) hx hb dX11_endsAt_126 (by decide) ⟨by omega, by omega⟩ (fun c126 => ?_) (fun c126 => ?_)
              · have hnn : ¬ (kd (tAt t ((i : Int) - 1)) = 1 ∧ kd (tAt t ((i : Int) + 1)) = 1) := fun q => by have h8 : kd (tAt t ((i : Int) + 1)) = -1 := if_pos c126; omega
                refine jr_iconst hx hb dX11_endsAt_143 ?_
                refine lv_istore (lv' := [(7, vi 0), (6, vi 0), (5, vi (tAt t ((i : Int) + 1))), (4, vi (tAt t ((i : Int) - 1))), (3, vi (t.getD i 0)), (0, .ref (ad 0)), (1, vi (i : Int)), (2, vi (t.length : Int))]) hx hb dX11_endsAt_144 hl (by decide) rfl (fun ls hl => ?_)
                refine lv_iload hx hb dX11_endsAt_146 (lv_at hl 1 rfl) ?_
                refine jr_ifne (tgt := 160) hx hb dX11_endsAt_148 (by decide) ⟨by omega, by omega⟩ (fun c148 => absurd c148 (by omega)) (fun c148 => ?_)
                refine lv_iload hx hb dX11_endsAt_151 (lv_at hl 0 rfl) ?_
                refine jr_ifne (tgt := 160) hx hb dX11_endsAt_153 (by decide) ⟨by omega, by omega⟩ (fun c153 => absurd c153 (by omega)) (fun c153 => ?_)
                refine jr_iconst hx hb dX11_endsAt_156 ?_
                refine lv_goto (tgt := 161) hx hb dX11_endsAt_157 (by decide) ?_
                exact je_Si hx hb hr hlk (nz_b (by omega)).1 (i01_1 (isE_iff.mpr (by rw [hti]; first | exact Or.inl (by omega) | exact Or.inr (Or.inl (by omega)) | exact Or.inr (Or.inr ⟨by omega, hnn, hna⟩)))) dX11_endsAt_161
              · refine lv_iload hx hb dX11_endsAt_129 (lv_at hl 1 rfl) ?_
                refine jr_sipush hx hb dX11_endsAt_131 (by decide) ?_
                refine jr_idiv hx hb (by omega) (by omega) (by omega) (by omega) dX11_endsAt_134 ?_
                refine jr_iconst hx hb dX11_endsAt_135 ?_
                refine jr_ne (tgt := 143) hx hb dX11_endsAt_136 (by decide) ⟨by omega, by omega⟩ ⟨by omega, by omega⟩ (fun c136 => ?_) (fun c136 => ?_)
                · have hnn : ¬ (kd (tAt t ((i : Int) - 1)) = 1 ∧ kd (tAt t ((i : Int) + 1)) = 1) := fun q => by have h8 := kd_n (c := (tAt t ((i : Int) + 1))) (by omega); omega
                  refine jr_iconst hx hb dX11_endsAt_143 ?_
                  refine lv_istore (lv' := [(7, vi 0), (6, vi 0), (5, vi (tAt t ((i : Int) + 1))), (4, vi (tAt t ((i : Int) - 1))), (3, vi (t.getD i 0)), (0, .ref (ad 0)), (1, vi (i : Int)), (2, vi (t.length : Int))]) hx hb dX11_endsAt_144 hl (by decide) rfl (fun ls hl => ?_)
                  refine lv_iload hx hb dX11_endsAt_146 (lv_at hl 1 rfl) ?_
                  refine jr_ifne (tgt := 160) hx hb dX11_endsAt_148 (by decide) ⟨by omega, by omega⟩ (fun c148 => absurd c148 (by omega)) (fun c148 => ?_)
                  refine lv_iload hx hb dX11_endsAt_151 (lv_at hl 0 rfl) ?_
                  refine jr_ifne (tgt := 160) hx hb dX11_endsAt_153 (by decide) ⟨by omega, by omega⟩ (fun c153 => absurd c153 (by omega)) (fun c153 => ?_)
                  refine jr_iconst hx hb dX11_endsAt_156 ?_
                  refine lv_goto (tgt := 161) hx hb dX11_endsAt_157 (by decide) ?_
                  exact je_Si hx hb hr hlk (nz_b (by omega)).1 (i01_1 (isE_iff.mpr (by rw [hti]; first | exact Or.inl (by omega) | exact Or.inr (Or.inl (by omega)) | exact Or.inr (Or.inr ⟨by omega, hnn, hna⟩)))) dX11_endsAt_161
                · have hnum : kd (tAt t ((i : Int) - 1)) = 1 ∧ kd (tAt t ((i : Int) + 1)) = 1 := ⟨by rw [kd_n (c := (tAt t ((i : Int) - 1))) (by omega)]; omega, by rw [kd_n (c := (tAt t ((i : Int) + 1))) (by omega)]; omega⟩
                  refine jr_iconst hx hb dX11_endsAt_139 ?_
                  refine lv_goto (tgt := 144) hx hb dX11_endsAt_140 (by decide) ?_
                  refine lv_istore (lv' := [(7, vi 1), (6, vi 0), (5, vi (tAt t ((i : Int) + 1))), (4, vi (tAt t ((i : Int) - 1))), (3, vi (t.getD i 0)), (0, .ref (ad 0)), (1, vi (i : Int)), (2, vi (t.length : Int))]) hx hb dX11_endsAt_144 hl (by decide) rfl (fun ls hl => ?_)
                  refine lv_iload hx hb dX11_endsAt_146 (lv_at hl 1 rfl) ?_
                  refine jr_ifne (tgt := 160) hx hb dX11_endsAt_148 (by decide) ⟨by omega, by omega⟩ (fun c148 => absurd c148 (by omega)) (fun c148 => ?_)
                  refine lv_iload hx hb dX11_endsAt_151 (lv_at hl 0 rfl) ?_
                  refine jr_ifne (tgt := 160) hx hb dX11_endsAt_153 (by decide) ⟨by omega, by omega⟩ (fun c153 => ?_) (fun c153 => absurd c153 (by omega))
                  refine jr_iconst hx hb dX11_endsAt_160 ?_
                  exact je_Si hx hb hr hlk (nz_b (by omega)).1 (i01_0 (fun q => by rcases isE_iff.mp q with q | q | ⟨q, q2, q3⟩ <;> rw [hti] at q <;> first | omega | exact absurd hab9 q3 | exact q2 hnum)) dX11_endsAt_161
        · refine lv_iload hx hb dX11_endsAt_84 (lv_at hl 1 rfl) ?_
          refine jr_sipush hx hb dX11_endsAt_86 (by decide) ?_
          refine jr_ge (tgt := 106) hx hb dX11_endsAt_89 (by decide) ⟨by omega, by omega⟩ ⟨by omega, by omega⟩ (fun c89 => ?_) (fun c89 => ?_)
          · have hna : ¬ isAb f3 (tAt t ((i : Int) - 1)) = true := fun q => by have h9 := (isAb_iff.mp q).1; have h8 := kd_n (c := (tAt t ((i : Int) - 1))) (by omega); omega
            refine jr_iconst hx hb dX11_endsAt_106 ?_
            refine lv_istore (lv' := [(6, vi 0), (5, vi (tAt t ((i : Int) + 1))), (4, vi (tAt t ((i : Int) - 1))), (3, vi (t.getD i 0)), (0, .ref (ad 0)), (1, vi (i : Int)), (2, vi (t.length : Int))]) hx hb dX11_endsAt_107 hl (by decide) rfl (fun ls hl => ?_)
            refine lv_iload hx hb dX11_endsAt_109 (lv_at hl 2 rfl) ?_
            refine jr_iflt (tgt := 143) hx hb dX11_endsAt_111 (by decide) ⟨by omega, by omega⟩ (fun c111 => ?_) (fun c111 => ?_)
            · have hnn : ¬ (kd (tAt t ((i : Int) - 1)) = 1 ∧ kd (tAt t ((i : Int) + 1)) = 1) := fun q => by have h8 : kd (tAt t ((i : Int) - 1)) = -1 := if_pos c111; omega
              refine jr_iconst hx hb dX11_endsAt_143 ?_
              refine lv_istore (lv' := [(7, vi 0), (6, vi 0), (5, vi (tAt t ((i : Int) + 1))), (4, vi (tAt t ((i : Int) - 1))), (3, vi (t.getD i 0)), (0, .ref (ad 0)), (1, vi (i : Int)), (2, vi (t.length : Int))]) hx hb dX11_endsAt_144 hl (by decide) rfl (fun ls hl => ?_)
              refine lv_iload hx hb dX11_endsAt_146 (lv_at hl 1 rfl) ?_
              refine jr_ifne (tgt := 160) hx hb dX11_endsAt_148 (by decide) ⟨by omega, by omega⟩ (fun c148 => absurd c148 (by omega)) (fun c148 => ?_)
              refine lv_iload hx hb dX11_endsAt_151 (lv_at hl 0 rfl) ?_
              refine jr_ifne (tgt := 160) hx hb dX11_endsAt_153 (by decide) ⟨by omega, by omega⟩ (fun c153 => absurd c153 (by omega)) (fun c153 => ?_)
              refine jr_iconst hx hb dX11_endsAt_156 ?_
              refine lv_goto (tgt := 161) hx hb dX11_endsAt_157 (by decide) ?_
              exact je_Si hx hb hr hlk (nz_b (by omega)).1 (i01_1 (isE_iff.mpr (by rw [hti]; first | exact Or.inl (by omega) | exact Or.inr (Or.inl (by omega)) | exact Or.inr (Or.inr ⟨by omega, hnn, hna⟩)))) dX11_endsAt_161
            · refine lv_iload hx hb dX11_endsAt_114 (lv_at hl 2 rfl) ?_
              refine jr_sipush hx hb dX11_endsAt_116 (by decide) ?_
              refine jr_idiv hx hb (by omega) (by omega) (by omega) (by omega) dX11_endsAt_119 ?_
              refine jr_iconst hx hb dX11_endsAt_120 ?_
              refine jr_ne (tgt := 143) hx hb dX11_endsAt_121 (by decide) ⟨by omega, by omega⟩ ⟨by omega, by omega⟩ (fun c121 => ?_) (fun c121 => ?_)
              · have hnn : ¬ (kd (tAt t ((i : Int) - 1)) = 1 ∧ kd (tAt t ((i : Int) + 1)) = 1) := fun q => by have h8 := kd_n (c := (tAt t ((i : Int) - 1))) (by omega); omega
                refine jr_iconst hx hb dX11_endsAt_143 ?_
                refine lv_istore (lv' := [(7, vi 0), (6, vi 0), (5, vi (tAt t ((i : Int) + 1))), (4, vi (tAt t ((i : Int) - 1))), (3, vi (t.getD i 0)), (0, .ref (ad 0)), (1, vi (i : Int)), (2, vi (t.length : Int))]) hx hb dX11_endsAt_144 hl (by decide) rfl (fun ls hl => ?_)
                refine lv_iload hx hb dX11_endsAt_146 (lv_at hl 1 rfl) ?_
                refine jr_ifne (tgt := 160) hx hb dX11_endsAt_148 (by decide) ⟨by omega, by omega⟩ (fun c148 => absurd c148 (by omega)) (fun c148 => ?_)
                refine lv_iload hx hb dX11_endsAt_151 (lv_at hl 0 rfl) ?_
                refine jr_ifne (tgt := 160) hx hb dX11_endsAt_153 (by decide) ⟨by omega, by omega⟩ (fun c153 => absurd c153 (by omega)) (fun c153 => ?_)
                refine jr_iconst hx hb dX11_endsAt_156 ?_
                refine lv_goto (tgt := 161) hx hb dX11_endsAt_157 (by decide) ?_
                exact je_Si hx hb hr hlk (nz_b (by omega)).1 (i01_1 (isE_iff.mpr (by rw [hti]; first | exact Or.inl (by omega) | exact Or.inr (Or.inl (by omega)) | exact Or.inr (Or.inr ⟨by omega, hnn, hna⟩)))) dX11_endsAt_161
              · refine lv_iload hx hb dX11_endsAt_124 (lv_at hl 1 rfl) ?_
                refine jr_iflt (tgt := 143) hx hb dX11_endsAt_126 (by decide) ⟨by omega, by omega⟩ (fun c126 => ?_) (fun c126 => ?_)
                · have hnn : ¬ (kd (tAt t ((i : Int) - 1)) = 1 ∧ kd (tAt t ((i : Int) + 1)) = 1) := fun q => by have h8 : kd (tAt t ((i : Int) + 1)) = -1 := if_pos c126; omega
                  refine jr_iconst hx hb dX11_endsAt_143 ?_
                  refine lv_istore (lv' := [(7, vi 0), (6, vi 0), (5, vi (tAt t ((i : Int) + 1))), (4, vi (tAt t ((i : Int) - 1))), (3, vi (t.getD i 0)), (0, .ref (ad 0)), (1, vi (i : Int)), (2, vi (t.length : Int))]) hx hb dX11_endsAt_144 hl (by decide) rfl (fun ls hl => ?_)
                  refine lv_iload hx hb dX11_endsAt_146 (lv_at hl 1 rfl) ?_
                  refine jr_ifne (tgt := 160) hx hb dX11_endsAt_148 (by decide) ⟨by omega, by omega⟩ (fun c148 => absurd c148 (by omega)) (fun c148 => ?_)
                  refine lv_iload hx hb dX11_endsAt_151 (lv_at hl 0 rfl) ?_
                  refine jr_ifne (tgt := 160) hx hb dX11_endsAt_153 (by decide) ⟨by omega, by omega⟩ (fun c153 => absurd c153 (by omega)) (fun c153 => ?_)
                  refine jr_iconst hx hb dX11_endsAt_156 ?_
                  refine lv_goto (tgt := 161) hx hb dX11_endsAt_157 (by decide) ?_
                  exact je_Si hx hb hr hlk (nz_b (by omega)).1 (i01_1 (isE_iff.mpr (by rw [hti]; first | exact Or.inl (by omega) | exact Or.inr (Or.inl (by omega)) | exact Or.inr (Or.inr ⟨by omega, hnn, hna⟩)))) dX11_endsAt_161
                · refine lv_iload hx hb dX11_endsAt_129 (lv_at hl 1 rfl) ?_
                  refine jr_sipush hx hb dX11_endsAt_131 (by decide) ?_
                  refine jr_idiv hx hb (by omega) (by omega) (by omega) (by omega) dX11_endsAt_134 ?_
                  refine jr_iconst hx hb dX11_endsAt_135 ?_
                  refine jr_ne (tgt := 143) hx hb dX11_endsAt_136 (by decide) ⟨by omega, by omega⟩ ⟨by omega, by omega⟩ (fun c136 => ?_) (fun c136 => ?_)
                  · have hnn : ¬ (kd (tAt t ((i : Int) - 1)) = 1 ∧ kd (tAt t ((i : Int) + 1)) = 1) := fun q => by have h8 := kd_n (c := (tAt t ((i : Int) + 1))) (by omega); omega
                    refine jr_iconst hx hb dX11_endsAt_143 ?_
                    refine lv_istore (lv' := [(7, vi 0), (6, vi 0), (5, vi (tAt t ((i : Int) + 1))), (4, vi (tAt t ((i : Int) - 1))), (3, vi (t.getD i 0)), (0, .ref (ad 0)), (1, vi (i : Int)), (2, vi (t.length : Int))]) hx hb dX11_endsAt_144 hl (by decide) rfl (fun ls hl => ?_)
                    refine lv_iload hx hb dX11_endsAt_146 (lv_at hl 1 rfl) ?_
                    refine jr_ifne (tgt := 160) hx hb dX11_endsAt_148 (by decide) ⟨by omega, by omega⟩ (fun c148 => absurd c148 (by omega)) (fun c148 => ?_)
                    refine lv_iload hx hb dX11_endsAt_151 (lv_at hl 0 rfl) ?_
                    refine jr_ifne (tgt := 160) hx hb dX11_endsAt_153 (by decide) ⟨by omega, by omega⟩ (fun c153 => absurd c153 (by omega)) (fun c153 => ?_)
                    refine jr_iconst hx hb dX11_endsAt_156 ?_
                    refine lv_goto (tgt := 161) hx hb dX11_endsAt_157 (by decide) ?_
                    exact je_Si hx hb hr hlk (nz_b (by omega)).1 (i01_1 (isE_iff.mpr (by rw [hti]; first | exact Or.inl (by omega) | exact Or.inr (Or.inl (by omega)) | exact Or.inr (Or.inr ⟨by omega, hnn, hna⟩)))) dX11_endsAt_161
                  · have hnum : kd (tAt t ((i : Int) - 1)) = 1 ∧ kd (tAt t ((i : Int) + 1)) = 1 := ⟨by rw [kd_n (c := (tAt t ((i : Int) - 1))) (by omega)]; omega, by rw [kd_n (c := (tAt t ((i : Int) + 1))) (by omega)]; omega⟩
                    refine jr_iconst hx hb dX11_endsAt_139 ?_
                    refine lv_goto (tgt := 144) hx hb dX11_endsAt_140 (by decide) ?_
                    refine lv_istore (lv' := [(7, vi 1), (6, vi 0), (5, vi (tAt t ((i : Int) + 1))), (4, vi (tAt t ((i : Int) - 1))), (3, vi (t.getD i 0)), (0, .ref (ad 0)), (1, vi (i : Int)), (2, vi (t.length : Int))]) hx hb dX11_endsAt_144 hl (by decide) rfl (fun ls hl => ?_)
                    refine lv_iload hx hb dX11_endsAt_146 (lv_at hl 1 rfl) ?_
                    refine jr_ifne (tgt := 160) hx hb dX11_endsAt_148 (by decide) ⟨by omega, by omega⟩ (fun c148 => absurd c148 (by omega)) (fun c148 => ?_)
                    refine lv_iload hx hb dX11_endsAt_151 (lv_at hl 0 rfl) ?_
                    refine jr_ifne (tgt := 160) hx hb dX11_endsAt_153 (by decide) ⟨by omega, by omega⟩ (fun c153 => ?_) (fun c153 => absurd c153 (by omega))
                    refine jr_iconst hx hb dX11_endsAt_160 ?_
                    exact je_Si hx hb hr hlk (nz_b (by omega)).1 (i01_0 (fun q => by rcases isE_iff.mp q with q | q | ⟨q, q2, q3⟩ <;> rw [hti] at q <;> first | omega | exact absurd hab9 q3 | exact q2 hnum)) dX11_endsAt_161
          · have hi1 : 1 ≤ i := by rcases Nat.lt_or_ge 0 i with h | h; omega; have h9 := tAt_out (t := t) (i := (i : Int) - 1) (Or.inl (by omega)); omega
            have hw9 : (tAt t ((i : Int) - 1)) < 100 := by (have e9 : (tAt t ((i : Int) - 1)) = t.getD (i - 1) 0 := by (rw [show (i : Int) - 1 = ((i - 1 : Nat) : Int) by omega]; exact tAt_in (by omega))); (have h9 := hwd (t.getD (i - 1) 0) (by rw [List.getD_eq_getElem?_getD, List.getElem?_eq_getElem (show i - 1 < t.length by omega)]; exact List.getElem_mem _)); omega
            have hab8 := hab (tAt t ((i : Int) - 1)).toNat (by omega)
            have hkp0 : kd (tAt t ((i : Int) - 1)) = 0 := by rw [kd_n (c := (tAt t ((i : Int) - 1))) (by omega)]; omega
            have hvp0 : vl (tAt t ((i : Int) - 1)) = (tAt t ((i : Int) - 1)) := by rw [vl_n (by omega)]; omega
            refine lv_aload_n hx hb dX11_endsAt_92 rfl (lv_at hl 3 rfl) ?_
            refine va_get (D := gD g) (ci := 10) (v := .ref (ad 3)) (C := RX11) (T := TX11) (N := 29) hx hb htl ck_X11 hown hKK.k hP 0 rfl rfl 4 (by decide) (htl _ wd_5_17) (fun _ h9 => h9) rfl dX11_endsAt_93 ?_
            refine lv_iload hx hb dX11_endsAt_96 (lv_at hl 1 rfl) ?_
            refine jr_zald hx hb hKK.k hP 1 rfl ((tAt t ((i : Int) - 1)).toNat) (by omega) (by omega) (by omega) dX11_endsAt_98 ?_
            refine jr_ifeq (tgt := 106) hx hb dX11_endsAt_99 (by decide) ⟨by omega, by omega⟩ (fun c99 => ?_) (fun c99 => ?_)
            · have hna : ¬ isAb f3 (tAt t ((i : Int) - 1)) = true := fun q => (isAb_iff.mp q).2.2.2 (by rw [hvp0]; exact c99)
              refine jr_iconst hx hb dX11_endsAt_106 ?_
              refine lv_istore (lv' := [(6, vi 0), (5, vi (tAt t ((i : Int) + 1))), (4, vi (tAt t ((i : Int) - 1))), (3, vi (t.getD i 0)), (0, .ref (ad 0)), (1, vi (i : Int)), (2, vi (t.length : Int))]) hx hb dX11_endsAt_107 hl (by decide) rfl (fun ls hl => ?_)
              refine lv_iload hx hb dX11_endsAt_109 (lv_at hl 2 rfl) ?_
              refine jr_iflt (tgt := 143) hx hb dX11_endsAt_111 (by decide) ⟨by omega, by omega⟩ (fun c111 => ?_) (fun c111 => ?_)
              · have hnn : ¬ (kd (tAt t ((i : Int) - 1)) = 1 ∧ kd (tAt t ((i : Int) + 1)) = 1) := fun q => by have h8 : kd (tAt t ((i : Int) - 1)) = -1 := if_pos c111; omega
                refine jr_iconst hx hb dX11_endsAt_143 ?_
                refine lv_istore (lv' := [(7, vi 0), (6, vi 0), (5, vi (tAt t ((i : Int) + 1))), (4, vi (tAt t ((i : Int) - 1))), (3, vi (t.getD i 0)), (0, .ref (ad 0)), (1, vi (i : Int)), (2, vi (t.length : Int))]) hx hb dX11_endsAt_144 hl (by decide) rfl (fun ls hl => ?_)
                refine lv_iload hx hb dX11_endsAt_146 (lv_at hl 1 rfl) ?_
                refine jr_ifne (tgt := 160) hx hb dX11_endsAt_148 (by decide) ⟨by omega, by omega⟩ (fun c148 => absurd c148 (by omega)) (fun c148 => ?_)
                refine lv_iload hx hb dX11_endsAt_151 (lv_at hl 0 rfl) ?_
                refine jr_ifne (tgt := 160) hx hb dX11_endsAt_153 (by decide) ⟨by omega, by omega⟩ (fun c153 => absurd c153 (by omega)) (fun c153 => ?_)
                refine jr_iconst hx hb dX11_endsAt_156 ?_
                refine lv_goto (tgt := 161) hx hb dX11_endsAt_157 (by decide) ?_
                exact je_Si hx hb hr hlk (nz_b (by omega)).1 (i01_1 (isE_iff.mpr (by rw [hti]; first | exact Or.inl (by omega) | exact Or.inr (Or.inl (by omega)) | exact Or.inr (Or.inr ⟨by omega, hnn, hna⟩)))) dX11_endsAt_161
              · refine lv_iload hx hb dX11_endsAt_114 (lv_at hl 2 rfl) ?_
                refine jr_sipush hx hb dX11_endsAt_116 (by decide) ?_
                refine jr_idiv hx hb (by omega) (by omega) (by omega) (by omega) dX11_endsAt_119 ?_
                refine jr_iconst hx hb dX11_endsAt_120 ?_
                refine jr_ne (tgt := 143) hx hb dX11_endsAt_121 (by decide) ⟨by omega, by omega⟩ ⟨by omega, by omega⟩ (fun c121 => ?_) (fun c121 => ?_)
                · have hnn : ¬ (kd (tAt t ((i : Int) - 1)) = 1 ∧ kd (tAt t ((i : Int) + 1)) = 1) := fun q => by have h8 := kd_n (c := (tAt t ((i : Int) - 1))) (by omega); omega
                  refine jr_iconst hx hb dX11_endsAt_143 ?_
                  refine lv_istore (lv' := [(7, vi 0), (6, vi 0), (5, vi (tAt t ((i : Int) + 1))), (4, vi (tAt t ((i : Int) - 1))), (3, vi (t.getD i 0)), (0, .ref (ad 0)), (1, vi (i : Int)), (2, vi (t.length : Int))]) hx hb dX11_endsAt_144 hl (by decide) rfl (fun ls hl => ?_)
                  refine lv_iload hx hb dX11_endsAt_146 (lv_at hl 1 rfl) ?_
                  refine jr_ifne (tgt := 160) hx hb dX11_endsAt_148 (by decide) ⟨by omega, by omega⟩ (fun c148 => absurd c148 (by omega)) (fun c148 => ?_)
                  refine lv_iload hx hb dX11_endsAt_151 (lv_at hl 0 rfl) ?_
                  refine jr_ifne (tgt := 160) hx hb dX11_endsAt_153 (by decide) ⟨by omega, by omega⟩ (fun c153 => absurd c153 (by omega)) (fun c153 => ?_)
                  refine jr_iconst hx hb dX11_endsAt_156 ?_
                  refine lv_goto (tgt := 161) hx hb dX11_endsAt_157 (by decide) ?_
                  exact je_Si hx hb hr hlk (nz_b (by omega)).1 (i01_1 (isE_iff.mpr (by rw [hti]; first | exact Or.inl (by omega) | exact Or.inr (Or.inl (by omega)) | exact Or.inr (Or.inr ⟨by omega, hnn, hna⟩)))) dX11_endsAt_161
                · refine lv_iload hx hb dX11_endsAt_124 (lv_at hl 1 rfl) ?_
                  refine jr_iflt (tgt := 143) hx hb dX11_endsAt_126 (by decide) ⟨by omega, by omega⟩ (fun c126 => ?_) (fun c126 => ?_)
                  · have hnn : ¬ (kd (tAt t ((i : Int) - 1)) = 1 ∧ kd (tAt t ((i : Int) + 1)) = 1) := fun q => by have h8 : kd (tAt t ((i : Int) + 1)) = -1 := if_pos c126; omega
                    refine jr_iconst hx hb dX11_endsAt_143 ?_
                    refine lv_istore (lv' := [(7, vi 0), (6, vi 0), (5, vi (tAt t ((i : Int) + 1))), (4, vi (tAt t ((i : Int) - 1))), (3, vi (t.getD i 0)), (0, .ref (ad 0)), (1, vi (i : Int)), (2, vi (t.length : Int))]) hx hb dX11_endsAt_144 hl (by decide) rfl (fun ls hl => ?_)
                    refine lv_iload hx hb dX11_endsAt_146 (lv_at hl 1 rfl) ?_
                    refine jr_ifne (tgt := 160) hx hb dX11_endsAt_148 (by decide) ⟨by omega, by omega⟩ (fun c148 => absurd c148 (by omega)) (fun c148 => ?_)
                    refine lv_iload hx hb dX11_endsAt_151 (lv_at hl 0 rfl) ?_
                    refine jr_ifne (tgt := 160) hx hb dX11_endsAt_153 (by decide) ⟨by omega, by omega⟩ (fun c153 => absurd c153 (by omega)) (fun c153 => ?_)
                    refine jr_iconst hx hb dX11_endsAt_156 ?_
                    refine lv_goto (tgt := 161) hx hb dX11_endsAt_157 (by decide) ?_
                    exact je_Si hx hb hr hlk (nz_b (by omega)).1 (i01_1 (isE_iff.mpr (by rw [hti]; first | exact Or.inl (by omega) | exact Or.inr (Or.inl (by omega)) | exact Or.inr (Or.inr ⟨by omega, hnn, hna⟩)))) dX11_endsAt_161
                  · refine lv_iload hx hb dX11_endsAt_129 (lv_at hl 1 rfl) ?_
                    refine jr_sipush hx hb dX11_endsAt_131 (by decide) ?_
                    refine jr_idiv hx hb (by omega) (by omega) (by omega) (by omega) dX11_endsAt_134 ?_
                    refine jr_iconst hx hb dX11_endsAt_135 ?_
                    refine jr_ne (tgt := 143) hx hb dX11_endsAt_136 (by decide) ⟨by omega, by omega⟩ ⟨by omega, by omega⟩ (fun c136 => ?_) (fun c136 => ?_)
                    · have hnn : ¬ (kd (tAt t ((i : Int) - 1)) = 1 ∧ kd (tAt t ((i : Int) + 1)) = 1) := fun q => by have h8 := kd_n (c := (tAt t ((i : Int) + 1))) (by omega); omega
                      refine jr_iconst hx hb dX11_endsAt_143 ?_
                      refine lv_istore (lv' := [(7, vi 0), (6, vi 0), (5, vi (tAt t ((i : Int) + 1))), (4, vi (tAt t ((i : Int) - 1))), (3, vi (t.getD i 0)), (0, .ref (ad 0)), (1, vi (i : Int)), (2, vi (t.length : Int))]) hx hb dX11_endsAt_144 hl (by decide) rfl (fun ls hl => ?_)
                      refine lv_iload hx hb dX11_endsAt_146 (lv_at hl 1 rfl) ?_
                      refine jr_ifne (tgt := 160) hx hb dX11_endsAt_148 (by decide) ⟨by omega, by omega⟩ (fun c148 => absurd c148 (by omega)) (fun c148 => ?_)
                      refine lv_iload hx hb dX11_endsAt_151 (lv_at hl 0 rfl) ?_
                      refine jr_ifne (tgt := 160) hx hb dX11_endsAt_153 (by decide) ⟨by omega, by omega⟩ (fun c153 => absurd c153 (by omega)) (fun c153 => ?_)
                      refine jr_iconst hx hb dX11_endsAt_156 ?_
                      refine lv_goto (tgt := 161) hx hb dX11_endsAt_157 (by decide) ?_
                      exact je_Si hx hb hr hlk (nz_b (by omega)).1 (i01_1 (isE_iff.mpr (by rw [hti]; first | exact Or.inl (by omega) | exact Or.inr (Or.inl (by omega)) | exact Or.inr (Or.inr ⟨by omega, hnn, hna⟩)))) dX11_endsAt_161
                    · have hnum : kd (tAt t ((i : Int) - 1)) = 1 ∧ kd (tAt t ((i : Int) + 1)) = 1 := ⟨by rw [kd_n (c := (tAt t ((i : Int) - 1))) (by omega)]; omega, by rw [kd_n (c := (tAt t ((i : Int) + 1))) (by omega)]; omega⟩
                      refine jr_iconst hx hb dX11_endsAt_139 ?_
                      refine lv_goto (tgt := 144) hx hb dX11_endsAt_140 (by decide) ?_
                      refine lv_istore (lv' := [(7, vi 1), (6, vi 0), (5, vi (tAt t ((i : Int) + 1))), (4, vi (tAt t ((i : Int) - 1))), (3, vi (t.getD i 0)), (0, .ref (ad 0)), (1, vi (i : Int)), (2, vi (t.length : Int))]) hx hb dX11_endsAt_144 hl (by decide) rfl (fun ls hl => ?_)
                      refine lv_iload hx hb dX11_endsAt_146 (lv_at hl 1 rfl) ?_
                      refine jr_ifne (tgt := 160) hx hb dX11_endsAt_148 (by decide) ⟨by omega, by omega⟩ (fun c148 => absurd c148 (by omega)) (fun c148 => ?_)
                      refine lv_iload hx hb dX11_endsAt_151 (lv_at hl 0 rfl) ?_
                      refine jr_ifne (tgt := 160) hx hb dX11_endsAt_153 (by decide) ⟨by omega, by omega⟩ (fun c153 => ?_) (fun c153 => absurd c153 (by omega))
                      refine jr_iconst hx hb dX11_endsAt_160 ?_
                      exact je_Si hx hb hr hlk (nz_b (by omega)).1 (i01_0 (fun q => by rcases isE_iff.mp q with q | q | ⟨q, q2, q3⟩ <;> rw [hti] at q <;> first | omega | exact absurd hab9 q3 | exact q2 hnum)) dX11_endsAt_161
            · have hab9 : isAb f3 (tAt t ((i : Int) - 1)) = true := isAb_iff.mpr ⟨hkp0, by omega, by omega, by rw [hvp0]; exact c99⟩
              refine jr_iconst hx hb dX11_endsAt_102 ?_
              refine lv_goto (tgt := 107) hx hb dX11_endsAt_103 (by decide) ?_
              refine lv_istore (lv' := [(6, vi 1), (5, vi (tAt t ((i : Int) + 1))), (4, vi (tAt t ((i : Int) - 1))), (3, vi (t.getD i 0)), (0, .ref (ad 0)), (1, vi (i : Int)), (2, vi (t.length : Int))]) hx hb dX11_endsAt_107 hl (by decide) rfl (fun ls hl => ?_)
              refine lv_iload hx hb dX11_endsAt_109 (lv_at hl 2 rfl) ?_
              refine jr_iflt (tgt := 143) hx hb dX11_endsAt_111 (by decide) ⟨by omega, by omega⟩ (fun c111 => ?_) (fun c111 => ?_)
              · have hnn : ¬ (kd (tAt t ((i : Int) - 1)) = 1 ∧ kd (tAt t ((i : Int) + 1)) = 1) := fun q => by have h8 : kd (tAt t ((i : Int) - 1)) = -1 := if_pos c111; omega
                refine jr_iconst hx hb dX11_endsAt_143 ?_
                refine lv_istore (lv' := [(7, vi 0), (6, vi 1), (5, vi (tAt t ((i : Int) + 1))), (4, vi (tAt t ((i : Int) - 1))), (3, vi (t.getD i 0)), (0, .ref (ad 0)), (1, vi (i : Int)), (2, vi (t.length : Int))]) hx hb dX11_endsAt_144 hl (by decide) rfl (fun ls hl => ?_)
                refine lv_iload hx hb dX11_endsAt_146 (lv_at hl 1 rfl) ?_
                refine jr_ifne (tgt := 160) hx hb dX11_endsAt_148 (by decide) ⟨by omega, by omega⟩ (fun c148 => ?_) (fun c148 => absurd c148 (by omega))
                refine jr_iconst hx hb dX11_endsAt_160 ?_
                exact je_Si hx hb hr hlk (nz_b (by omega)).1 (i01_0 (fun q => by rcases isE_iff.mp q with q | q | ⟨q, q2, q3⟩ <;> rw [hti] at q <;> first | omega | exact absurd hab9 q3 | exact q2 hnum)) dX11_endsAt_161
              · refine lv_iload hx hb dX11_endsAt_114 (lv_at hl 2 rfl) ?_
                refine jr_sipush hx hb dX11_endsAt_116 (by decide) ?_
                refine jr_idiv hx hb (by omega) (by omega) (by omega) (by omega) dX11_endsAt_119 ?_
                refine jr_iconst hx hb dX11_endsAt_120 ?_
                refine jr_ne (tgt := 143) hx hb dX11_endsAt_121 (by decide) ⟨by omega, by omega⟩ ⟨by omega, by omega⟩ (fun c121 => ?_) (fun c121 => ?_)
                · have hnn : ¬ (kd (tAt t ((i : Int) - 1)) = 1 ∧ kd (tAt t ((i : Int) + 1)) = 1) := fun q => by have h8 := kd_n (c := (tAt t ((i : Int) - 1))) (by omega); omega
                  refine jr_iconst hx hb dX11_endsAt_143 ?_
                  refine lv_istore (lv' := [(7, vi 0), (6, vi 1), (5, vi (tAt t ((i : Int) + 1))), (4, vi (tAt t ((i : Int) - 1))), (3, vi (t.getD i 0)), (0, .ref (ad 0)), (1, vi (i : Int)), (2, vi (t.length : Int))]) hx hb dX11_endsAt_144 hl (by decide) rfl (fun ls hl => ?_)
                  refine lv_iload hx hb dX11_endsAt_146 (lv_at hl 1 rfl) ?_
                  refine jr_ifne (tgt := 160) hx hb dX11_endsAt_148 (by decide) ⟨by omega, by omega⟩ (fun c148 => ?_) (fun c148 => absurd c148 (by omega))
                  refine jr_iconst hx hb dX11_endsAt_160 ?_
                  exact je_Si hx hb hr hlk (nz_b (by omega)).1 (i01_0 (fun q => by rcases isE_iff.mp q with q | q | ⟨q, q2, q3⟩ <;> rw [hti] at q <;> first | omega | exact absurd hab9 q3 | exact q2 hnum)) dX11_endsAt_161
                · refine lv_iload hx hb dX11_endsAt_124 (lv_at hl 1 rfl) ?_
                  refine jr_iflt (tgt := 143) hx hb dX11_endsAt_126 (by decide) ⟨by omega, by omega⟩ (fun c126 => ?_) (fun c126 => ?_)
                  · have hnn : ¬ (kd (tAt t ((i : Int) - 1)) = 1 ∧ kd (tAt t ((i : Int) + 1)) = 1) := fun q => by have h8 : kd (tAt t ((i : Int) + 1)) = -1 := if_pos c126; omega
                    refine jr_iconst hx hb dX11_endsAt_143 ?_
                    refine lv_istore (lv' := [(7, vi 0), (6, vi 1), (5, vi (tAt t ((i : Int) + 1))), (4, vi (tAt t ((i : Int) - 1))), (3, vi (t.getD i 0)), (0, .ref (ad 0)), (1, vi (i : Int)), (2, vi (t.length : Int))]) hx hb dX11_endsAt_144 hl (by decide) rfl (fun ls hl => ?_)
                    refine lv_iload hx hb dX11_endsAt_146 (lv_at hl 1 rfl) ?_
                    refine jr_ifne (tgt := 160) hx hb dX11_endsAt_148 (by decide) ⟨by omega, by omega⟩ (fun c148 => ?_) (fun c148 => absurd c148 (by omega))
                    refine jr_iconst hx hb dX11_endsAt_160 ?_
                    exact je_Si hx hb hr hlk (nz_b (by omega)).1 (i01_0 (fun q => by rcases isE_iff.mp q with q | q | ⟨q, q2, q3⟩ <;> rw [hti] at q <;> first | omega | exact absurd hab9 q3 | exact q2 hnum)) dX11_endsAt_161
                  · refine lv_iload hx hb dX11_endsAt_129 (lv_at hl 1 rfl) ?_
                    refine jr_sipush hx hb dX11_endsAt_131 (by decide) ?_
                    refine jr_idiv hx hb (by omega) (by omega) (by omega) (by omega) dX11_endsAt_134 ?_
                    refine jr_iconst hx hb dX11_endsAt_135 ?_
                    refine jr_ne (tgt := 143) hx hb dX11_endsAt_136 (by decide) ⟨by omega, by omega⟩ ⟨by omega, by omega⟩ (fun c136 => ?_) (fun c136 => ?_)
                    · have hnn : ¬ (kd (tAt t ((i : Int) - 1)) = 1 ∧ kd (tAt t ((i : Int) + 1)) = 1) := fun q => by have h8 := kd_n (c := (tAt t ((i : Int) + 1))) (by omega); omega
                      refine jr_iconst hx hb dX11_endsAt_143 ?_
                      refine lv_istore (lv' := [(7, vi 0), (6, vi 1), (5, vi (tAt t ((i : Int) + 1))), (4, vi (tAt t ((i : Int) - 1))), (3, vi (t.getD i 0)), (0, .ref (ad 0)), (1, vi (i : Int)), (2, vi (t.length : Int))]) hx hb dX11_endsAt_144 hl (by decide) rfl (fun ls hl => ?_)
                      refine lv_iload hx hb dX11_endsAt_146 (lv_at hl 1 rfl) ?_
                      refine jr_ifne (tgt := 160) hx hb dX11_endsAt_148 (by decide) ⟨by omega, by omega⟩ (fun c148 => ?_) (fun c148 => absurd c148 (by omega))
                      refine jr_iconst hx hb dX11_endsAt_160 ?_
                      exact je_Si hx hb hr hlk (nz_b (by omega)).1 (i01_0 (fun q => by rcases isE_iff.mp q with q | q | ⟨q, q2, q3⟩ <;> rw [hti] at q <;> first | omega | exact absurd hab9 q3 | exact q2 hnum)) dX11_endsAt_161
                    · have hnum : kd (tAt t ((i : Int) - 1)) = 1 ∧ kd (tAt t ((i : Int) + 1)) = 1 := ⟨by rw [kd_n (c := (tAt t ((i : Int) - 1))) (by omega)]; omega, by rw [kd_n (c := (tAt t ((i : Int) + 1))) (by omega)]; omega⟩
                      refine jr_iconst hx hb dX11_endsAt_139 ?_
                      refine lv_goto (tgt := 144) hx hb dX11_endsAt_140 (by decide) ?_
                      refine lv_istore (lv' := [(7, vi 1), (6, vi 1), (5, vi (tAt t ((i : Int) + 1))), (4, vi (tAt t ((i : Int) - 1))), (3, vi (t.getD i 0)), (0, .ref (ad 0)), (1, vi (i : Int)), (2, vi (t.length : Int))]) hx hb dX11_endsAt_144 hl (by decide) rfl (fun ls hl => ?_)
                      refine lv_iload hx hb dX11_endsAt_146 (lv_at hl 1 rfl) ?_
                      refine jr_ifne (tgt := 160) hx hb dX11_endsAt_148 (by decide) ⟨by omega, by omega⟩ (fun c148 => ?_) (fun c148 => absurd c148 (by omega))
                      refine jr_iconst hx hb dX11_endsAt_160 ?_
                      exact je_Si hx hb hr hlk (nz_b (by omega)).1 (i01_0 (fun q => by rcases isE_iff.mp q with q | q | ⟨q, q2, q3⟩ <;> rw [hti] at q <;> first | omega | exact absurd hab9 q3 | exact q2 hnum)) dX11_endsAt_161
  · refine lv_iload_n hx hb dX11_endsAt_16 rfl (lv_at hl 0 rfl) ?_
    refine jr_bipush hx hb dX11_endsAt_17 (by decide) ?_
    refine jk_Si (va_runS (As := [vi (t.getD i 0), vi 33]) (rest := []) ⟨hx, hb, hml, hown, htl⟩ (m_X11_isMark l g (t.getD i 0) 33 ⟨by omega, by omega⟩ ⟨by omega, by omega⟩ (by omega)) (va_cwS 2 htl lk_X11_165 rfl rfl rfl cwS_X11_isMark ⟨Nat.le_of_ble_eq_true rfl, Nat.le_of_ble_eq_true rfl⟩) (jp_S hKK (va_S.rf (A := jN)) jNb trivial) rfl rfl hl.1 rfl (lv_room (Nat.le_of_ble_eq_true rfl)) dX11_endsAt_19 ⟨Nat.le_of_ble_eq_true rfl, Nat.le_of_ble_eq_true rfl⟩) (fun z19 hz19 => ?_)
    refine jr_ifne (tgt := 34) hx hb dX11_endsAt_22 (by decide) ⟨by omega, by omega⟩ (fun c22 => ?_) (fun c22 => ?_)
    · refine jr_iconst hx hb dX11_endsAt_34 ?_
      refine lv_goto (tgt := 39) hx hb dX11_endsAt_35 (by decide) ?_
      exact je_Si hx hb hr hlk (nz_b (by omega)).1 (i01_1 (isE_iff.mpr (by rw [hti]; first | exact Or.inl (by omega) | exact Or.inr (Or.inl (by omega)) | exact Or.inr (Or.inr ⟨by omega, hnn, hna⟩)))) dX11_endsAt_39
    · refine lv_iload_n hx hb dX11_endsAt_25 rfl (lv_at hl 0 rfl) ?_
      refine jr_bipush hx hb dX11_endsAt_26 (by decide) ?_
      refine jk_Si (va_runS (As := [vi (t.getD i 0), vi 63]) (rest := []) ⟨hx, hb, hml, hown, htl⟩ (m_X11_isMark l g (t.getD i 0) 63 ⟨by omega, by omega⟩ ⟨by omega, by omega⟩ (by omega)) (va_cwS 2 htl lk_X11_165 rfl rfl rfl cwS_X11_isMark ⟨Nat.le_of_ble_eq_true rfl, Nat.le_of_ble_eq_true rfl⟩) (jp_S hKK (va_S.rf (A := jN)) jNb trivial) rfl rfl hl.1 rfl (lv_room (Nat.le_of_ble_eq_true rfl)) dX11_endsAt_28 ⟨Nat.le_of_ble_eq_true rfl, Nat.le_of_ble_eq_true rfl⟩) (fun z28 hz28 => ?_)
      refine jr_ifeq (tgt := 38) hx hb dX11_endsAt_31 (by decide) ⟨by omega, by omega⟩ (fun c31 => ?_) (fun c31 => ?_)
      · refine jr_iconst hx hb dX11_endsAt_38 ?_
        exact je_Si hx hb hr hlk (nz_b (by omega)).1 (i01_0 (fun q => by rcases isE_iff.mp q with q | q | ⟨q, q2, q3⟩ <;> rw [hti] at q <;> first | omega | exact absurd hab9 q3 | exact q2 hnum)) dX11_endsAt_39
      · refine jr_iconst hx hb dX11_endsAt_34 ?_
        refine lv_goto (tgt := 39) hx hb dX11_endsAt_35 (by decide) ?_
        exact je_Si hx hb hr hlk (nz_b (by omega)).1 (i01_1 (isE_iff.mpr (by rw [hti]; first | exact Or.inl (by omega) | exact Or.inr (Or.inl (by omega)) | exact Or.inr (Or.inr ⟨by omega, hnn, hna⟩)))) dX11_endsAt_39
