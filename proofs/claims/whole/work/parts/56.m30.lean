
theorem lk_X11_89 : GoodIn WSL (va_wsS RX11 89 yX11_in (ws_ yX11_in cX11_in 3 (some .boolean))) := gd_app (List.forall_mem_cons.mpr ⟨wd_8_3, List.forall_mem_cons.mpr ⟨wd_8_4, List.forall_mem_cons.mpr ⟨wd_1_5, fun _ h => nomatch h⟩⟩⟩) (gd_ wd_8_5)
theorem cwS_X11_in : yX11_in.cls ≠ "java/lang/invoke/MethodHandle" ∧ yX11_in.cls ≠ "java/lang/invoke/VarHandle" ∧ (parseMethodDescriptor yX11_in.desc).map (fun d => d.parameters.length) = some 3 := by decide +kernel
theorem lk_X11_117 : GoodIn WSL (wsV RX11 117 RX11 yX11_weightOf (ws_ yX11_weightOf cX11_weightOf 2 (some .int))) := gd_app (List.forall_mem_cons.mpr ⟨wd_24_11, List.forall_mem_cons.mpr ⟨wd_24_12, List.forall_mem_cons.mpr ⟨wd_24_13, List.forall_mem_cons.mpr ⟨wd_1_5, fun _ h => nomatch h⟩⟩⟩⟩) (gd_ wd_24_14)
theorem cwV_X11_weightOf : yX11_weightOf.cls = RX11 ∧ yX11_weightOf.cls ≠ "java/lang/invoke/MethodHandle" ∧ yX11_weightOf.cls ≠ "java/lang/invoke/VarHandle" ∧ (parseMethodDescriptor yX11_weightOf.desc).map (fun d => d.parameters.length) = some 1 := by decide +kernel
set_option maxHeartbeats 4000000 in
set_option maxRecDepth 100000 in
theorem m_X11_in (l : Launch) (g : GT) (v lo hi : Int) (hv : jR v) (hlo : jR lo) (hhi : jR hi) : Met l yX11_in (ws_ yX11_in cX11_in 3 (some .boolean)) (rmm 0 0 0) (jPc g [vi v, vi lo, vi hi] (fun H => True)) (jSi (fun z => (z = 1 ∧ lo ≤ v ∧ v ≤ hi) ∨ (z = 0 ∧ ¬ (lo ≤ v ∧ v ≤ hi)))) 0 0 jN := by
  refine jb_M (by decide) (Nat.le_of_ble_eq_true rfl) ?_
  intro p e s m below meth cq hx hb hr hml hown htl hlk hnm hKK hpre ls hl
  have hown : s.vm.findClass RX11 = some m.cls := hown
  have hl : lv_has ls 3 [(0, vi v), (1, vi lo), (2, vi hi)] := hl
  refine lv_iload_n hx hb dX11_in_0 rfl (lv_at hl 0 rfl) ?_
  refine lv_iload_n hx hb dX11_in_1 rfl (lv_at hl 1 rfl) ?_
  refine jr_lt (tgt := 14) hx hb dX11_in_2 (by decide) ⟨by omega, by omega⟩ ⟨by omega, by omega⟩ (fun c2 => ?_) (fun c2 => ?_)
  · refine jr_iconst hx hb dX11_in_14 ?_
    exact je_Si hx hb hr hlk (nz_b (by omega)).1 (Or.inr ⟨rfl, by omega⟩) dX11_in_15
  · refine lv_iload_n hx hb dX11_in_5 rfl (lv_at hl 0 rfl) ?_
    refine lv_iload_n hx hb dX11_in_6 rfl (lv_at hl 2 rfl) ?_
    refine jr_gt (tgt := 14) hx hb dX11_in_7 (by decide) ⟨by omega, by omega⟩ ⟨by omega, by omega⟩ (fun c7 => ?_) (fun c7 => ?_)
    · refine jr_iconst hx hb dX11_in_14 ?_
      exact je_Si hx hb hr hlk (nz_b (by omega)).1 (Or.inr ⟨rfl, by omega⟩) dX11_in_15
    · refine jr_iconst hx hb dX11_in_10 ?_
      refine lv_goto (tgt := 15) hx hb dX11_in_11 (by decide) ?_
      exact je_Si hx hb hr hlk (nz_b (by omega)).1 (Or.inl ⟨rfl, by omega, by omega⟩) dX11_in_15
set_option maxHeartbeats 4000000 in
set_option maxRecDepth 100000 in
theorem m_X11_least (l : Launch) (g : GT) (a b : Int) (ha : jR a) (hb : jR b) : Met l yX11_least (ws_ yX11_least cX11_least 2 (some .int)) (rmm 0 0 0) (jPc g [vi a, vi b] (fun H => True)) (jSi (fun z => z = min a b)) 0 0 jN := by
  refine jb_M (by decide) (Nat.le_of_ble_eq_true rfl) ?_
  intro p e s m below meth cq hx hb hr hml hown htl hlk hnm hKK hpre ls hl
  have hown : s.vm.findClass RX11 = some m.cls := hown
  have hl : lv_has ls 2 [(0, vi a), (1, vi b)] := hl
  refine lv_iload_n hx hb dX11_least_0 rfl (lv_at hl 0 rfl) ?_
  refine lv_iload_n hx hb dX11_least_1 rfl (lv_at hl 1 rfl) ?_
  refine jr_ge (tgt := 9) hx hb dX11_least_2 (by decide) ⟨by omega, by omega⟩ ⟨by omega, by omega⟩ (fun c2 => ?_) (fun c2 => ?_)
  · refine lv_iload_n hx hb dX11_least_9 rfl (lv_at hl 1 rfl) ?_
    exact je_Si hx hb hr hlk rfl (by omega) dX11_least_10
  · refine lv_iload_n hx hb dX11_least_5 rfl (lv_at hl 0 rfl) ?_
    refine lv_goto (tgt := 10) hx hb dX11_least_6 (by decide) ?_
    exact je_Si hx hb hr hlk rfl (by omega) dX11_least_10
set_option maxHeartbeats 4000000 in
set_option maxRecDepth 100000 in
theorem m_X11_isMark (l : Launch) (g : GT) (c k : Int) (hc : jR c) (hk : jR k) (hk9 : 0 ≤ k ∧ k < 65536) : Met l yX11_isMark (ws_ yX11_isMark cX11_isMark 2 (some .boolean)) (rmm 0 0 0) (jPc g [vi c, vi k] (fun H => True)) (jSi (fun z => (z = 1 ∧ c = 30000 + k) ∨ (z = 0 ∧ ¬ c = 30000 + k))) 0 0 jN := by
  refine jb_M (by decide) (Nat.le_of_ble_eq_true rfl) ?_
  intro p e s m below meth cq hx hb hr hml hown htl hlk hnm hKK hpre ls hl
  have hown : s.vm.findClass RX11 = some m.cls := hown
  have hl : lv_has ls 2 [(0, vi c), (1, vi k)] := hl
  refine lv_iload_n hx hb dX11_isMark_0 rfl (lv_at hl 0 rfl) ?_
  refine jr_sipush hx hb dX11_isMark_1 (by decide) ?_
  refine lv_iload_n hx hb dX11_isMark_4 rfl (lv_at hl 1 rfl) ?_
  refine jr_iadd hx hb dX11_isMark_5 ?_
  refine jr_ne (tgt := 13) hx hb dX11_isMark_6 (by decide) ⟨by omega, by omega⟩ ⟨by omega, by omega⟩ (fun c6 => ?_) (fun c6 => ?_)
  · refine jr_iconst hx hb dX11_isMark_13 ?_
    exact je_Si hx hb hr hlk (nz_b (by omega)).1 (Or.inr ⟨rfl, by omega⟩) dX11_isMark_14
  · refine jr_iconst hx hb dX11_isMark_9 ?_
    refine lv_goto (tgt := 14) hx hb dX11_isMark_10 (by decide) ?_
    exact je_Si hx hb hr hlk (nz_b (by omega)).1 (Or.inl ⟨rfl, by omega⟩) dX11_isMark_14
set_option maxHeartbeats 4000000 in
set_option maxRecDepth 100000 in
theorem m_X11_thrown (l : Launch) (g : GT) (ad : Nat → Nat) (th dn nt tn nu ns tz : Int)  : Met l yX11_thrown (ws_ yX11_thrown cX11_thrown 1 (some .int)) (rmm 0 0 0) (jPc g [.ref (ad 0)] (fun H => PP g [ob (ad 0) 10 [vi th, .ref (ad 1), vi dn, .ref (ad 2), .ref (ad 3), vi nt, .ref (ad 4), .ref (ad 5), .ref (ad 6), vi tn, vi nu, .ref (ad 7), .ref (ad 8), .ref (ad 9), .ref (ad 10), .ref (ad 11), .ref (ad 12), vi ns, .ref (ad 13), .ref (ad 14), .ref (ad 15), .ref (ad 16), .ref (ad 17), .ref (ad 18), .ref (ad 19), vi tz, .ref (ad 20), .ref (ad 21), .ref (ad 22)]] H)) (jSi (fun z => z = th)) 0 0 jN := by
  refine jb_M (by decide) (Nat.le_of_ble_eq_true rfl) ?_
  intro p e s m below meth cq hx hb hr hml hown htl hlk hnm hKK hpre ls hl
  have hown : s.vm.findClass RX11 = some m.cls := hown
  have hl : lv_has ls 1 [(0, .ref (ad 0))] := hl
  have hP : PP g [ob (ad 0) 10 [vi th, .ref (ad 1), vi dn, .ref (ad 2), .ref (ad 3), vi nt, .ref (ad 4), .ref (ad 5), .ref (ad 6), vi tn, vi nu, .ref (ad 7), .ref (ad 8), .ref (ad 9), .ref (ad 10), .ref (ad 11), .ref (ad 12), vi ns, .ref (ad 13), .ref (ad 14), .ref (ad 15), .ref (ad 16), .ref (ad 17), .ref (ad 18), .ref (ad 19), vi tz, .ref (ad 20), .ref (ad 21), .ref (ad 22)]] s.heap := hpre
  refine lv_aload_n hx hb dX11_thrown_0 rfl (lv_at hl 0 rfl) ?_
  refine va_get (D := gD g) (ci := 10) (v := vi th) (C := RX11) (T := TX11) (N := 29) hx hb htl ck_X11 hown hKK.k hP 0 rfl rfl 0 (by decide) (htl _ wd_8_10) (fun _ h9 => h9) rfl dX11_thrown_1 ?_
  exact je_Si hx hb hr hlk rfl (rfl) dX11_thrown_4
set_option maxHeartbeats 4000000 in
set_option maxRecDepth 100000 in
theorem m_X11_scoreOf (l : Launch) (g : GT) (ad : Nat → Nat) (th dn nt tn nu ns tz : Int) (a n : Int) (ha : 0 ≤ a ∧ a ≤ 100) (hm : 0 ≤ n ∧ n ≤ 1000) : Met l yX11_scoreOf (ws_ yX11_scoreOf cX11_scoreOf 3 (some .int)) (rmm 0 0 0) (jPc g [.ref (ad 0), vi a, vi n] (fun H => PP g [ob (ad 0) 10 [vi th, .ref (ad 1), vi dn, .ref (ad 2), .ref (ad 3), vi nt, .ref (ad 4), .ref (ad 5), .ref (ad 6), vi tn, vi nu, .ref (ad 7), .ref (ad 8), .ref (ad 9), .ref (ad 10), .ref (ad 11), .ref (ad 12), vi ns, .ref (ad 13), .ref (ad 14), .ref (ad 15), .ref (ad 16), .ref (ad 17), .ref (ad 18), .ref (ad 19), vi tz, .ref (ad 20), .ref (ad 21), .ref (ad 22)]] H)) (jSi (fun z => z = lm a n)) 0 0 jN := by
  refine jb_M (by decide) (Nat.le_of_ble_eq_true rfl) ?_
  intro p e s m below meth cq hx hb hr hml hown htl hlk hnm hKK hpre ls hl
  have hown : s.vm.findClass RX11 = some m.cls := hown
  have hl : lv_has ls 3 [(0, .ref (ad 0)), (1, vi a), (2, vi n)] := hl
  have hP : PP g [ob (ad 0) 10 [vi th, .ref (ad 1), vi dn, .ref (ad 2), .ref (ad 3), vi nt, .ref (ad 4), .ref (ad 5), .ref (ad 6), vi tn, vi nu, .ref (ad 7), .ref (ad 8), .ref (ad 9), .ref (ad 10), .ref (ad 11), .ref (ad 12), vi ns, .ref (ad 13), .ref (ad 14), .ref (ad 15), .ref (ad 16), .ref (ad 17), .ref (ad 18), .ref (ad 19), vi tz, .ref (ad 20), .ref (ad 21), .ref (ad 22)]] s.heap := hpre
  refine lv_iload_n hx hb dX11_scoreOf_0 rfl (lv_at hl 1 rfl) ?_
  refine jr_bipush hx hb dX11_scoreOf_1 (by decide) ?_
  refine lv_iload_n hx hb dX11_scoreOf_3 rfl (lv_at hl 2 rfl) ?_
  refine jr_imul hx hb dX11_scoreOf_4 ?_
  refine jr_le (tgt := 17) hx hb dX11_scoreOf_5 (by decide) ⟨by omega, by omega⟩ ⟨by omega, by omega⟩ (fun c5 => ?_) (fun c5 => ?_)
  · refine jr_iconst hx hb dX11_scoreOf_17 ?_
    exact je_Si hx hb hr hlk rfl (by unfold lm; omega) dX11_scoreOf_18
  · refine lv_iload_n hx hb dX11_scoreOf_8 rfl (lv_at hl 1 rfl) ?_
    refine jr_bipush hx hb dX11_scoreOf_9 (by decide) ?_
    refine lv_iload_n hx hb dX11_scoreOf_11 rfl (lv_at hl 2 rfl) ?_
    refine jr_imul hx hb dX11_scoreOf_12 ?_
    refine jr_isub hx hb dX11_scoreOf_13 ?_
    refine lv_goto (tgt := 18) hx hb dX11_scoreOf_14 (by decide) ?_
    exact je_Si hx hb hr hlk rfl (by unfold lm; omega) dX11_scoreOf_18
set_option maxHeartbeats 4000000 in
set_option maxRecDepth 100000 in
theorem m_X11_fails (l : Launch) (g : GT) (ad : Nat → Nat) (th dn nt tn nu ns tz : Int) (c e9 : Int) (hc : jR c) (he : jR e9) (hth : jR th) : Met l yX11_fails (ws_ yX11_fails cX11_fails 3 (some .boolean)) (rmm 0 0 0) (jPc g [.ref (ad 0), vi c, vi e9] (fun H => PP g [ob (ad 0) 10 [vi th, .ref (ad 1), vi dn, .ref (ad 2), .ref (ad 3), vi nt, .ref (ad 4), .ref (ad 5), .ref (ad 6), vi tn, vi nu, .ref (ad 7), .ref (ad 8), .ref (ad 9), .ref (ad 10), .ref (ad 11), .ref (ad 12), vi ns, .ref (ad 13), .ref (ad 14), .ref (ad 15), .ref (ad 16), .ref (ad 17), .ref (ad 18), .ref (ad 19), vi tz, .ref (ad 20), .ref (ad 21), .ref (ad 22)]] H ∧ va_D (fun q => gb g ≤ q) [ob (ad 0) 10 [vi th, .ref (ad 1), vi dn, .ref (ad 2), .ref (ad 3), vi nt, .ref (ad 4), .ref (ad 5), .ref (ad 6), vi tn, vi nu, .ref (ad 7), .ref (ad 8), .ref (ad 9), .ref (ad 10), .ref (ad 11), .ref (ad 12), vi ns, .ref (ad 13), .ref (ad 14), .ref (ad 15), .ref (ad 16), .ref (ad 17), .ref (ad 18), .ref (ad 19), vi tz, .ref (ad 20), .ref (ad 21), .ref (ad 22)]])) (jQi (fun z H1 => ∃ t1 : Int, ((¬ c = 0 ∧ th = 0 ∧ t1 = e9) ∨ ((c = 0 ∨ ¬ th = 0) ∧ t1 = th)) ∧ z = i01 (¬ t1 = 0) ∧ PP g [ob (ad 0) 10 [vi t1, .ref (ad 1), vi dn, .ref (ad 2), .ref (ad 3), vi nt, .ref (ad 4), .ref (ad 5), .ref (ad 6), vi tn, vi nu, .ref (ad 7), .ref (ad 8), .ref (ad 9), .ref (ad 10), .ref (ad 11), .ref (ad 12), vi ns, .ref (ad 13), .ref (ad 14), .ref (ad 15), .ref (ad 16), .ref (ad 17), .ref (ad 18), .ref (ad 19), vi tz, .ref (ad 20), .ref (ad 21), .ref (ad 22)]] H1) (jA [ob (ad 0) 10 [vi th, .ref (ad 1), vi dn, .ref (ad 2), .ref (ad 3), vi nt, .ref (ad 4), .ref (ad 5), .ref (ad 6), vi tn, vi nu, .ref (ad 7), .ref (ad 8), .ref (ad 9), .ref (ad 10), .ref (ad 11), .ref (ad 12), vi ns, .ref (ad 13), .ref (ad 14), .ref (ad 15), .ref (ad 16), .ref (ad 17), .ref (ad 18), .ref (ad 19), vi tz, .ref (ad 20), .ref (ad 21), .ref (ad 22)]])) 0 0 (jA [ob (ad 0) 10 [vi th, .ref (ad 1), vi dn, .ref (ad 2), .ref (ad 3), vi nt, .ref (ad 4), .ref (ad 5), .ref (ad 6), vi tn, vi nu, .ref (ad 7), .ref (ad 8), .ref (ad 9), .ref (ad 10), .ref (ad 11), .ref (ad 12), vi ns, .ref (ad 13), .ref (ad 14), .ref (ad 15), .ref (ad 16), .ref (ad 17), .ref (ad 18), .ref (ad 19), vi tz, .ref (ad 20), .ref (ad 21), .ref (ad 22)]]) := by
  refine jb_M (by decide) (Nat.le_of_ble_eq_true rfl) ?_
  intro p e s m below meth cq hx hb hr hml hown htl hlk hnm hKK hpre ls hl
  have hown : s.vm.findClass RX11 = some m.cls := hown
  have hl : lv_has ls 3 [(0, .ref (ad 0)), (1, vi c), (2, vi e9)] := hl
  obtain ⟨hP, hD0⟩ := hpre
  have hD : va_D (jA [ob (ad 0) 10 [vi th, .ref (ad 1), vi dn, .ref (ad 2), .ref (ad 3), vi nt, .ref (ad 4), .ref (ad 5), .ref (ad 6), vi tn, vi nu, .ref (ad 7), .ref (ad 8), .ref (ad 9), .ref (ad 10), .ref (ad 11), .ref (ad 12), vi ns, .ref (ad 13), .ref (ad 14), .ref (ad 15), .ref (ad 16), .ref (ad 17), .ref (ad 18), .ref (ad 19), vi tz, .ref (ad 20), .ref (ad 21), .ref (ad 22)]]) [ob (ad 0) 10 [vi th, .ref (ad 1), vi dn, .ref (ad 2), .ref (ad 3), vi nt, .ref (ad 4), .ref (ad 5), .ref (ad 6), vi tn, vi nu, .ref (ad 7), .ref (ad 8), .ref (ad 9), .ref (ad 10), .ref (ad 11), .ref (ad 12), vi ns, .ref (ad 13), .ref (ad 14), .ref (ad 15), .ref (ad 16), .ref (ad 17), .ref (ad 18), .ref (ad 19), vi tz, .ref (ad 20), .ref (ad 21), .ref (ad 22)]] := hD0.inD
  have hAb : ∀ q, (jA [ob (ad 0) 10 [vi th, .ref (ad 1), vi dn, .ref (ad 2), .ref (ad 3), vi nt, .ref (ad 4), .ref (ad 5), .ref (ad 6), vi tn, vi nu, .ref (ad 7), .ref (ad 8), .ref (ad 9), .ref (ad 10), .ref (ad 11), .ref (ad 12), vi ns, .ref (ad 13), .ref (ad 14), .ref (ad 15), .ref (ad 16), .ref (ad 17), .ref (ad 18), .ref (ad 19), vi tz, .ref (ad 20), .ref (ad 21), .ref (ad 22)]]) q → gb g ≤ q := fun q h => hD0.inA h
  generalize hAe : jA [ob (ad 0) 10 [vi th, .ref (ad 1), vi dn, .ref (ad 2), .ref (ad 3), vi nt, .ref (ad 4), .ref (ad 5), .ref (ad 6), vi tn, vi nu, .ref (ad 7), .ref (ad 8), .ref (ad 9), .ref (ad 10), .ref (ad 11), .ref (ad 12), vi ns, .ref (ad 13), .ref (ad 14), .ref (ad 15), .ref (ad 16), .ref (ad 17), .ref (ad 18), .ref (ad 19), vi tz, .ref (ad 20), .ref (ad 21), .ref (ad 22)]] = A at *
  have hS : va_S A s.heap s.heap [] := va_S.rf
  suffices K : ∀ (H : Heap) (locs : List Loc), PP g [ob (ad 0) 10 [vi th, .ref (ad 1), vi dn, .ref (ad 2), .ref (ad 3), vi nt, .ref (ad 4), .ref (ad 5), .ref (ad 6), vi tn, vi nu, .ref (ad 7), .ref (ad 8), .ref (ad 9), .ref (ad 10), .ref (ad 11), .ref (ad 12), vi ns, .ref (ad 13), .ref (ad 14), .ref (ad 15), .ref (ad 16), .ref (ad 17), .ref (ad 18), .ref (ad 19), vi tz, .ref (ad 20), .ref (ad 21), .ref (ad 22)]] H → va_D A [ob (ad 0) 10 [vi th, .ref (ad 1), vi dn, .ref (ad 2), .ref (ad 3), vi nt, .ref (ad 4), .ref (ad 5), .ref (ad 6), vi tn, vi nu, .ref (ad 7), .ref (ad 8), .ref (ad 9), .ref (ad 10), .ref (ad 11), .ref (ad 12), vi ns, .ref (ad 13), .ref (ad 14), .ref (ad 15), .ref (ad 16), .ref (ad 17), .ref (ad 18), .ref (ad 19), vi tz, .ref (ad 20), .ref (ad 21), .ref (ad 22)]] → va_S A s.heap H locs → ∀ ls : Array Slot, lv_has ls 3 [(0, .ref (ad 0)), (1, vi c), (2, vi e9)] → W p l e (rmm 0 0 0) s m ([.ref (ad 0), vi c, vi e9] : List Value).toArray below meth cq H locs 0 0 (MQ below (jQi (fun z H1 => ∃ t1 : Int, ((¬ c = 0 ∧ th = 0 ∧ t1 = e9) ∨ ((c = 0 ∨ ¬ th = 0) ∧ t1 = th)) ∧ z = i01 (¬ t1 = 0) ∧ PP g [ob (ad 0) 10 [vi t1, .ref (ad 1), vi dn, .ref (ad 2), .ref (ad 3), vi nt, .ref (ad 4), .ref (ad 5), .ref (ad 6), vi tn, vi nu, .ref (ad 7), .ref (ad 8), .ref (ad 9), .ref (ad 10), .ref (ad 11), .ref (ad 12), vi ns, .ref (ad 13), .ref (ad 14), .ref (ad 15), .ref (ad 16), .ref (ad 17), .ref (ad 18), .ref (ad 19), vi tz, .ref (ad 20), .ref (ad 21), .ref (ad 22)]] H1) A) ([.ref (ad 0), vi c, vi e9] : List Value).toArray s 0 0 A) (F0 m 0 ls []) from K _ _ hP hD hS _ hl
  clear hl; intro H locs hP hD hS ls hl
  refine lv_iload_n hx hb dX11_fails_0 rfl (lv_at hl 1 rfl) ?_
  refine jr_ifeq (tgt := 16) hx hb dX11_fails_1 (by decide) ⟨by omega, by omega⟩ (fun c1 => ?_) (fun c1 => ?_)
  · refine lv_aload_n hx hb dX11_fails_16 rfl (lv_at hl 0 rfl) ?_
    refine va_get (D := gD g) (ci := 10) (v := vi th) (C := RX11) (T := TX11) (N := 29) hx hb htl ck_X11 hown hKK.k hP 0 rfl rfl 0 (by decide) (htl _ wd_8_10) (fun _ h9 => h9) rfl dX11_fails_17 ?_
    refine jr_ifeq (tgt := 27) hx hb dX11_fails_20 (by decide) ⟨by omega, by omega⟩ (fun c20 => ?_) (fun c20 => ?_)
    · refine jr_iconst hx hb dX11_fails_27 ?_
      exact je_Qi hx hb hr hlk (nz_b (by omega)).1 hS (⟨th, by omega, (Eq.symm <| if_neg (by omega)), hP⟩) dX11_fails_28
    · refine jr_iconst hx hb dX11_fails_23 ?_
      refine lv_goto (tgt := 28) hx hb dX11_fails_24 (by decide) ?_
      exact je_Qi hx hb hr hlk (nz_b (by omega)).1 hS (⟨th, by omega, (Eq.symm <| if_pos (by omega)), hP⟩) dX11_fails_28
  · refine lv_aload_n hx hb dX11_fails_4 rfl (lv_at hl 0 rfl) ?_
    refine va_get (D := gD g) (ci := 10) (v := vi th) (C := RX11) (T := TX11) (N := 29) hx hb htl ck_X11 hown hKK.k hP 0 rfl rfl 0 (by decide) (htl _ wd_8_10) (fun _ h9 => h9) rfl dX11_fails_5 ?_
    refine jr_ifne (tgt := 16) hx hb dX11_fails_8 (by decide) ⟨by omega, by omega⟩ (fun c8 => ?_) (fun c8 => ?_)
    · refine lv_aload_n hx hb dX11_fails_16 rfl (lv_at hl 0 rfl) ?_
      refine va_get (D := gD g) (ci := 10) (v := vi th) (C := RX11) (T := TX11) (N := 29) hx hb htl ck_X11 hown hKK.k hP 0 rfl rfl 0 (by decide) (htl _ wd_8_10) (fun _ h9 => h9) rfl dX11_fails_17 ?_
      refine jr_ifeq (tgt := 27) hx hb dX11_fails_20 (by decide) ⟨by omega, by omega⟩ (fun c20 => ?_) (fun c20 => ?_)
      · refine jr_iconst hx hb dX11_fails_27 ?_
        exact je_Qi hx hb hr hlk (nz_b (by omega)).1 hS (⟨th, by omega, (Eq.symm <| if_neg (by omega)), hP⟩) dX11_fails_28
      · refine jr_iconst hx hb dX11_fails_23 ?_
        refine lv_goto (tgt := 28) hx hb dX11_fails_24 (by decide) ?_
        exact je_Qi hx hb hr hlk (nz_b (by omega)).1 hS (⟨th, by omega, (Eq.symm <| if_pos (by omega)), hP⟩) dX11_fails_28
    · refine lv_aload_n hx hb dX11_fails_11 rfl (lv_at hl 0 rfl) ?_
      refine lv_iload_n hx hb dX11_fails_12 rfl (lv_at hl 2 rfl) ?_
      refine va_put (D := gD g) (ci := 10) (v := vi e9) (ty := .int) (C := RX11) (T := TX11) (N := 29) hx hb htl ck_X11 tyX11 tyX11_ok nmX11 hown hKK.k hP hD hS 0 rfl rfl 0 (by decide) (htl _ wd_8_10) (fun _ h9 => h9) rfl (by decide +kernel) rfl rfl (Nat.le_of_ble_eq_true rfl) dX11_fails_13 (fun H locs hP hD hS => ?_)
      have hP : PP g [ob (ad 0) 10 [vi e9, .ref (ad 1), vi dn, .ref (ad 2), .ref (ad 3), vi nt, .ref (ad 4), .ref (ad 5), .ref (ad 6), vi tn, vi nu, .ref (ad 7), .ref (ad 8), .ref (ad 9), .ref (ad 10), .ref (ad 11), .ref (ad 12), vi ns, .ref (ad 13), .ref (ad 14), .ref (ad 15), .ref (ad 16), .ref (ad 17), .ref (ad 18), .ref (ad 19), vi tz, .ref (ad 20), .ref (ad 21), .ref (ad 22)]] H := hP
      have hD : va_D A [ob (ad 0) 10 [vi e9, .ref (ad 1), vi dn, .ref (ad 2), .ref (ad 3), vi nt, .ref (ad 4), .ref (ad 5), .ref (ad 6), vi tn, vi nu, .ref (ad 7), .ref (ad 8), .ref (ad 9), .ref (ad 10), .ref (ad 11), .ref (ad 12), vi ns, .ref (ad 13), .ref (ad 14), .ref (ad 15), .ref (ad 16), .ref (ad 17), .ref (ad 18), .ref (ad 19), vi tz, .ref (ad 20), .ref (ad 21), .ref (ad 22)]] := hD
      refine lv_aload_n hx hb dX11_fails_16 rfl (lv_at hl 0 rfl) ?_
      refine va_get (D := gD g) (ci := 10) (v := vi e9) (C := RX11) (T := TX11) (N := 29) hx hb htl ck_X11 hown hKK.k hP 0 rfl rfl 0 (by decide) (htl _ wd_8_10) (fun _ h9 => h9) rfl dX11_fails_17 ?_
      refine jr_ifeq (tgt := 27) hx hb dX11_fails_20 (by decide) ⟨by omega, by omega⟩ (fun c20 => ?_) (fun c20 => ?_)
      · refine jr_iconst hx hb dX11_fails_27 ?_
        exact je_Qi hx hb hr hlk (nz_b (by omega)).1 hS (⟨e9, by omega, (Eq.symm <| if_neg (by omega)), hP⟩) dX11_fails_28
      · refine jr_iconst hx hb dX11_fails_23 ?_
        refine lv_goto (tgt := 28) hx hb dX11_fails_24 (by decide) ?_
        exact je_Qi hx hb hr hlk (nz_b (by omega)).1 hS (⟨e9, by omega, (Eq.symm <| if_pos (by omega)), hP⟩) dX11_fails_28
set_option maxHeartbeats 4000000 in
set_option maxRecDepth 100000 in
theorem m_X11_noUnit (l : Launch) (g : GT) (ad : Nat → Nat) (th dn nt tn nu ns tz : Int) (v : Int) (hv : jR v) (hn : 0 ≤ nu ∧ nu ≤ 60) : Met l yX11_noUnit (ws_ yX11_noUnit cX11_noUnit 2 (some .boolean)) (rmm 1 0 0) (jPc g [.ref (ad 0), vi v] (fun H => PP g [ob (ad 0) 10 [vi th, .ref (ad 1), vi dn, .ref (ad 2), .ref (ad 3), vi nt, .ref (ad 4), .ref (ad 5), .ref (ad 6), vi tn, vi nu, .ref (ad 7), .ref (ad 8), .ref (ad 9), .ref (ad 10), .ref (ad 11), .ref (ad 12), vi ns, .ref (ad 13), .ref (ad 14), .ref (ad 15), .ref (ad 16), .ref (ad 17), .ref (ad 18), .ref (ad 19), vi tz, .ref (ad 20), .ref (ad 21), .ref (ad 22)]] H)) (jSi (fun z => (z = 1 ∧ ¬ (0 ≤ v ∧ v < nu)) ∨ (z = 0 ∧ 0 ≤ v ∧ v < nu))) 0 0 jN := by
  refine jb_M (by decide) (Nat.le_of_ble_eq_true rfl) ?_
  intro p e s m below meth cq hx hb hr hml hown htl hlk hnm hKK hpre ls hl
  have hown : s.vm.findClass RX11 = some m.cls := hown
  have hl : lv_has ls 2 [(0, .ref (ad 0)), (1, vi v)] := hl
  have hP : PP g [ob (ad 0) 10 [vi th, .ref (ad 1), vi dn, .ref (ad 2), .ref (ad 3), vi nt, .ref (ad 4), .ref (ad 5), .ref (ad 6), vi tn, vi nu, .ref (ad 7), .ref (ad 8), .ref (ad 9), .ref (ad 10), .ref (ad 11), .ref (ad 12), vi ns, .ref (ad 13), .ref (ad 14), .ref (ad 15), .ref (ad 16), .ref (ad 17), .ref (ad 18), .ref (ad 19), vi tz, .ref (ad 20), .ref (ad 21), .ref (ad 22)]] s.heap := hpre
  refine lv_iload_n hx hb dX11_noUnit_0 rfl (lv_at hl 1 rfl) ?_
  refine jr_iconst hx hb dX11_noUnit_1 ?_
  refine lv_aload_n hx hb dX11_noUnit_2 rfl (lv_at hl 0 rfl) ?_
  refine va_get (D := gD g) (ci := 10) (v := vi nu) (C := RX11) (T := TX11) (N := 29) hx hb htl ck_X11 hown hKK.k hP 0 rfl rfl 10 (by decide) (htl _ wd_18_16) (fun _ h9 => h9) rfl dX11_noUnit_3 ?_
  refine jr_iconst hx hb dX11_noUnit_6 ?_
  refine jr_isub hx hb dX11_noUnit_7 ?_
  refine jk_Si (va_runS (As := [vi v, vi 0, vi (nu - 1)]) (rest := []) ⟨hx, hb, hml, hown, htl⟩ (m_X11_in l g v 0 (nu - 1) ⟨by omega, by omega⟩ ⟨by omega, by omega⟩ ⟨by omega, by omega⟩ ) (va_cwS 3 htl lk_X11_89 rfl rfl rfl cwS_X11_in ⟨Nat.le_of_ble_eq_true rfl, Nat.le_of_ble_eq_true rfl⟩) (jp_S hKK (va_S.rf (A := jN)) jNb trivial) rfl rfl hl.1 rfl (lv_room (Nat.le_of_ble_eq_true rfl)) dX11_noUnit_8 ⟨Nat.le_of_ble_eq_true rfl, Nat.le_of_ble_eq_true rfl⟩) (fun z8 hz8 => ?_)
  refine jr_ifne (tgt := 18) hx hb dX11_noUnit_11 (by decide) ⟨by omega, by omega⟩ (fun c11 => ?_) (fun c11 => ?_)
  · refine jr_iconst hx hb dX11_noUnit_18 ?_
    exact je_Si hx hb hr hlk (nz_b (by omega)).1 (by omega) dX11_noUnit_19
  · refine jr_iconst hx hb dX11_noUnit_14 ?_
    refine lv_goto (tgt := 19) hx hb dX11_noUnit_15 (by decide) ?_
    exact je_Si hx hb hr hlk (nz_b (by omega)).1 (by omega) dX11_noUnit_19
set_option maxHeartbeats 4000000 in
set_option maxRecDepth 100000 in
theorem m_X11_noSegment (l : Launch) (g : GT) (ad : Nat → Nat) (th dn nt tn nu ns tz : Int) (v : Int) (hv : jR v) (hn : 0 ≤ ns ∧ ns ≤ 60) : Met l yX11_noSegment (ws_ yX11_noSegment cX11_noSegment 2 (some .boolean)) (rmm 1 0 0) (jPc g [.ref (ad 0), vi v] (fun H => PP g [ob (ad 0) 10 [vi th, .ref (ad 1), vi dn, .ref (ad 2), .ref (ad 3), vi nt, .ref (ad 4), .ref (ad 5), .ref (ad 6), vi tn, vi nu, .ref (ad 7), .ref (ad 8), .ref (ad 9), .ref (ad 10), .ref (ad 11), .ref (ad 12), vi ns, .ref (ad 13), .ref (ad 14), .ref (ad 15), .ref (ad 16), .ref (ad 17), .ref (ad 18), .ref (ad 19), vi tz, .ref (ad 20), .ref (ad 21), .ref (ad 22)]] H)) (jSi (fun z => (z = 1 ∧ ¬ (0 ≤ v ∧ v < ns)) ∨ (z = 0 ∧ 0 ≤ v ∧ v < ns))) 0 0 jN := by
  refine jb_M (by decide) (Nat.le_of_ble_eq_true rfl) ?_
  intro p e s m below meth cq hx hb hr hml hown htl hlk hnm hKK hpre ls hl
  have hown : s.vm.findClass RX11 = some m.cls := hown
  have hl : lv_has ls 2 [(0, .ref (ad 0)), (1, vi v)] := hl
  have hP : PP g [ob (ad 0) 10 [vi th, .ref (ad 1), vi dn, .ref (ad 2), .ref (ad 3), vi nt, .ref (ad 4), .ref (ad 5), .ref (ad 6), vi tn, vi nu, .ref (ad 7), .ref (ad 8), .ref (ad 9), .ref (ad 10), .ref (ad 11), .ref (ad 12), vi ns, .ref (ad 13), .ref (ad 14), .ref (ad 15), .ref (ad 16), .ref (ad 17), .ref (ad 18), .ref (ad 19), vi tz, .ref (ad 20), .ref (ad 21), .ref (ad 22)]] s.heap := hpre
  refine lv_iload_n hx hb dX11_noSegment_0 rfl (lv_at hl 1 rfl) ?_
  refine jr_iconst hx hb dX11_noSegment_1 ?_
  refine lv_aload_n hx hb dX11_noSegment_2 rfl (lv_at hl 0 rfl) ?_
  refine va_get (D := gD g) (ci := 10) (v := vi ns) (C := RX11) (T := TX11) (N := 29) hx hb htl ck_X11 hown hKK.k hP 0 rfl rfl 17 (by decide) (htl _ wd_34_21) (fun _ h9 => h9) rfl dX11_noSegment_3 ?_
  refine jr_iconst hx hb dX11_noSegment_6 ?_
  refine jr_isub hx hb dX11_noSegment_7 ?_
  refine jk_Si (va_runS (As := [vi v, vi 0, vi (ns - 1)]) (rest := []) ⟨hx, hb, hml, hown, htl⟩ (m_X11_in l g v 0 (ns - 1) ⟨by omega, by omega⟩ ⟨by omega, by omega⟩ ⟨by omega, by omega⟩ ) (va_cwS 3 htl lk_X11_89 rfl rfl rfl cwS_X11_in ⟨Nat.le_of_ble_eq_true rfl, Nat.le_of_ble_eq_true rfl⟩) (jp_S hKK (va_S.rf (A := jN)) jNb trivial) rfl rfl hl.1 rfl (lv_room (Nat.le_of_ble_eq_true rfl)) dX11_noSegment_8 ⟨Nat.le_of_ble_eq_true rfl, Nat.le_of_ble_eq_true rfl⟩) (fun z8 hz8 => ?_)
  refine jr_ifne (tgt := 18) hx hb dX11_noSegment_11 (by decide) ⟨by omega, by omega⟩ (fun c11 => ?_) (fun c11 => ?_)
  · refine jr_iconst hx hb dX11_noSegment_18 ?_
    exact je_Si hx hb hr hlk (nz_b (by omega)).1 (by omega) dX11_noSegment_19
  · refine jr_iconst hx hb dX11_noSegment_14 ?_
    refine lv_goto (tgt := 19) hx hb dX11_noSegment_15 (by decide) ?_
    exact je_Si hx hb hr hlk (nz_b (by omega)).1 (by omega) dX11_noSegment_19
set_option maxHeartbeats 4000000 in
set_option maxRecDepth 100000 in
theorem m_X11_weightOf (l : Launch) (g : GT) (ad : Nat → Nat) (th dn nt tn nu ns tz : Int) (f2 : Nat → Int) (hw : WB f2) (c : Int) (hc : 0 ≤ c ∧ c < 40000) : Met l yX11_weightOf (ws_ yX11_weightOf cX11_weightOf 2 (some .int)) (rmm 0 0 0) (jPc g [.ref (ad 0), vi c] (fun H => PP g [ob (ad 0) 10 [vi th, .ref (ad 1), vi dn, .ref (ad 2), .ref (ad 3), vi nt, .ref (ad 4), .ref (ad 5), .ref (ad 6), vi tn, vi nu, .ref (ad 7), .ref (ad 8), .ref (ad 9), .ref (ad 10), .ref (ad 11), .ref (ad 12), vi ns, .ref (ad 13), .ref (ad 14), .ref (ad 15), .ref (ad 16), .ref (ad 17), .ref (ad 18), .ref (ad 19), vi tz, .ref (ad 20), .ref (ad 21), .ref (ad 22)], aI g (ad 2) 4 f2] H)) (jSi (fun z => z = wk f2 (kd c))) 0 0 jN := by
  refine jb_M (by decide) (Nat.le_of_ble_eq_true rfl) ?_
  intro p e s m below meth cq hx hb hr hml hown htl hlk hnm hKK hpre ls hl
  have hown : s.vm.findClass RX11 = some m.cls := hown
  have hl : lv_has ls 2 [(0, .ref (ad 0)), (1, vi c)] := hl
  have hP : PP g [ob (ad 0) 10 [vi th, .ref (ad 1), vi dn, .ref (ad 2), .ref (ad 3), vi nt, .ref (ad 4), .ref (ad 5), .ref (ad 6), vi tn, vi nu, .ref (ad 7), .ref (ad 8), .ref (ad 9), .ref (ad 10), .ref (ad 11), .ref (ad 12), vi ns, .ref (ad 13), .ref (ad 14), .ref (ad 15), .ref (ad 16), .ref (ad 17), .ref (ad 18), .ref (ad 19), vi tz, .ref (ad 20), .ref (ad 21), .ref (ad 22)], aI g (ad 2) 4 f2] s.heap := hpre
  refine lv_aload_n hx hb dX11_weightOf_0 rfl (lv_at hl 0 rfl) ?_
  refine va_get (D := gD g) (ci := 10) (v := .ref (ad 2)) (C := RX11) (T := TX11) (N := 29) hx hb htl ck_X11 hown hKK.k hP 0 rfl rfl 3 (by decide) (htl _ wd_5_16) (fun _ h9 => h9) rfl dX11_weightOf_1 ?_
  refine lv_iload_n hx hb dX11_weightOf_4 rfl (lv_at hl 1 rfl) ?_
  refine jr_sipush hx hb dX11_weightOf_5 (by decide) ?_
  refine jr_idiv hx hb (by omega) (by omega) (by omega) (by omega) dX11_weightOf_8 ?_
  refine jr_iald hx hb hKK.k hP 1 rfl (((c / 10000)).toNat) (by omega) (by omega) (by omega) dX11_weightOf_9 ?_
  exact je_Si hx hb hr hlk rfl (by rw [kd_n hc.1]; unfold wk; rw [if_pos ⟨by omega, by omega⟩]) dX11_weightOf_10
set_option maxHeartbeats 4000000 in
set_option maxRecDepth 100000 in
theorem m_X11_replaced (l : Launch) (g : GT) (ad : Nat → Nat) (th dn nt tn nu ns tz : Int) (f2 : Nat → Int) (hw : WB f2) (c d : Int) (hc : 0 ≤ c ∧ c < 40000) (hd : 0 ≤ d ∧ d < 40000) (hk : c / 10000 = d / 10000) : Met l yX11_replaced (ws_ yX11_replaced cX11_replaced 6 (some .int)) (rmm 1 0 0) (jPc g [.ref (ad 0), vi c, vi d] (fun H => PP g [ob (ad 0) 10 [vi th, .ref (ad 1), vi dn, .ref (ad 2), .ref (ad 3), vi nt, .ref (ad 4), .ref (ad 5), .ref (ad 6), vi tn, vi nu, .ref (ad 7), .ref (ad 8), .ref (ad 9), .ref (ad 10), .ref (ad 11), .ref (ad 12), vi ns, .ref (ad 13), .ref (ad 14), .ref (ad 15), .ref (ad 16), .ref (ad 17), .ref (ad 18), .ref (ad 19), vi tz, .ref (ad 20), .ref (ad 21), .ref (ad 22)], aI g (ad 2) 4 f2] H)) (jSi (fun z => z = rp f2 c d)) 0 0 jN := by
  refine jb_M (by decide) (Nat.le_of_ble_eq_true rfl) ?_
  intro p e s m below meth cq hx hb hr hml hown htl hlk hnm hKK hpre ls hl
  have hown : s.vm.findClass RX11 = some m.cls := hown
  have hl : lv_has ls 6 [(0, .ref (ad 0)), (1, vi c), (2, vi d)] := hl
  have hP : PP g [ob (ad 0) 10 [vi th, .ref (ad 1), vi dn, .ref (ad 2), .ref (ad 3), vi nt, .ref (ad 4), .ref (ad 5), .ref (ad 6), vi tn, vi nu, .ref (ad 7), .ref (ad 8), .ref (ad 9), .ref (ad 10), .ref (ad 11), .ref (ad 12), vi ns, .ref (ad 13), .ref (ad 14), .ref (ad 15), .ref (ad 16), .ref (ad 17), .ref (ad 18), .ref (ad 19), vi tz, .ref (ad 20), .ref (ad 21), .ref (ad 22)], aI g (ad 2) 4 f2] s.heap := hpre
  have hkc := kd_n hc.1
  have hkd := kd_n hd.1
  have hsc : sm c = c % 10000 / 10 := by unfold sm; rw [if_neg (by omega)]
  have hsd : sm d = d % 10000 / 10 := by unfold sm; rw [if_neg (by omega)]
  refine lv_aload_n hx hb dX11_replaced_0 rfl (lv_at hl 0 rfl) ?_
  refine lv_iload_n hx hb dX11_replaced_1 rfl (lv_at hl 1 rfl) ?_
  refine jk_Si (va_runV (As := [vi c]) (rest := []) ⟨hx, hb, hml, hown, htl⟩ (m_X11_weightOf l g ad th dn nt tn nu ns tz f2 hw c (by omega)) (cwV 1 htl lk_X11_117 rfl rfl rfl cwV_X11_weightOf ⟨Nat.le_of_ble_eq_true rfl, Nat.le_of_ble_eq_true rfl⟩) (jp_V hKK (va_S.rf (A := jN)) jNb (va_recv hKK.k hP (ci := 10) (q0 := 0) rfl rfl) hP) rfl rfl hl.1 rfl (lv_room (Nat.le_of_ble_eq_true rfl)) dX11_replaced_2 ⟨Nat.le_of_ble_eq_true rfl, Nat.le_of_ble_eq_true rfl⟩) (fun z2 hz2 => ?_)
  subst hz2
  have tw := wk_b hw (kd c)
  refine lv_istore_n (lv' := [(3, vi (wk f2 (kd c))), (0, .ref (ad 0)), (1, vi c), (2, vi d)]) hx hb dX11_replaced_5 rfl hl (by decide) rfl (fun ls hl => ?_)
  refine lv_iload_n hx hb dX11_replaced_6 rfl (lv_at hl 0 rfl) ?_
  refine jr_iconst hx hb dX11_replaced_7 ?_
  refine jr_iadd hx hb dX11_replaced_8 ?_
  refine jr_iconst hx hb dX11_replaced_9 ?_
  refine jr_idiv hx hb (by omega) (by omega) (by omega) (by omega) dX11_replaced_10 ?_
  refine lv_istore (lv' := [(4, vi (((wk f2 (kd c)) + 1) / 2)), (3, vi (wk f2 (kd c))), (0, .ref (ad 0)), (1, vi c), (2, vi d)]) hx hb dX11_replaced_11 hl (by decide) rfl (fun ls hl => ?_)
  refine lv_iload_n hx hb dX11_replaced_13 rfl (lv_at hl 3 rfl) ?_
  refine jr_sipush hx hb dX11_replaced_14 (by decide) ?_
  refine jr_idiv hx hb (by omega) (by omega) (by omega) (by omega) dX11_replaced_17 ?_
  refine jr_iconst hx hb dX11_replaced_18 ?_
  refine jr_eq (tgt := 41) hx hb dX11_replaced_19 (by decide) ⟨by omega, by omega⟩ ⟨by omega, by omega⟩ (fun c19 => ?_) (fun c19 => ?_)
  · refine jr_iconst hx hb dX11_replaced_41 ?_
    refine lv_goto (tgt := 46) hx hb dX11_replaced_42 (by decide) ?_
    refine lv_istore (lv' := [(5, vi 1), (4, vi (((wk f2 (kd c)) + 1) / 2)), (3, vi (wk f2 (kd c))), (0, .ref (ad 0)), (1, vi c), (2, vi d)]) hx hb dX11_replaced_46 hl (by decide) rfl (fun ls hl => ?_)
    refine lv_iload_n hx hb dX11_replaced_48 rfl (lv_at hl 4 rfl) ?_
    refine lv_iload_n hx hb dX11_replaced_49 rfl (lv_at hl 5 rfl) ?_
    refine jr_ne (tgt := 57) hx hb dX11_replaced_50 (by decide) ⟨by omega, by omega⟩ ⟨by omega, by omega⟩ (fun c50 => ?_) (fun c50 => ?_)
    · refine lv_iload hx hb dX11_replaced_57 (lv_at hl 0 rfl) ?_
      refine jr_ifeq (tgt := 67) hx hb dX11_replaced_59 (by decide) ⟨by omega, by omega⟩ (fun c59 => absurd c59 (by omega)) (fun c59 => ?_)
      refine lv_iload hx hb dX11_replaced_62 (lv_at hl 1 rfl) ?_
      refine lv_goto (tgt := 68) hx hb dX11_replaced_64 (by decide) ?_
      exact je_Si hx hb hr hlk rfl (by unfold rp; (repeat' split) <;> first | rfl | omega) dX11_replaced_68
    · refine jr_iconst hx hb dX11_replaced_53 ?_
      refine lv_goto (tgt := 68) hx hb dX11_replaced_54 (by decide) ?_
      exact je_Si hx hb hr hlk rfl (by unfold rp; (repeat' split) <;> first | rfl | omega) dX11_replaced_68
  · refine lv_iload_n hx hb dX11_replaced_22 rfl (lv_at hl 3 rfl) ?_
    refine jr_sipush hx hb dX11_replaced_23 (by decide) ?_
    refine jr_idiv hx hb (by omega) (by omega) (by omega) (by omega) dX11_replaced_26 ?_
    refine jr_ifne (tgt := 45) hx hb dX11_replaced_27 (by decide) ⟨by omega, by omega⟩ (fun c27 => ?_) (fun c27 => ?_)
    · refine jr_iconst hx hb dX11_replaced_45 ?_
      refine lv_istore (lv' := [(5, vi 0), (4, vi (((wk f2 (kd c)) + 1) / 2)), (3, vi (wk f2 (kd c))), (0, .ref (ad 0)), (1, vi c), (2, vi d)]) hx hb dX11_replaced_46 hl (by decide) rfl (fun ls hl => ?_)
      refine lv_iload_n hx hb dX11_replaced_48 rfl (lv_at hl 4 rfl) ?_
      refine lv_iload_n hx hb dX11_replaced_49 rfl (lv_at hl 5 rfl) ?_
      refine jr_ne (tgt := 57) hx hb dX11_replaced_50 (by decide) ⟨by omega, by omega⟩ ⟨by omega, by omega⟩ (fun c50 => ?_) (fun c50 => ?_)
      · refine lv_iload hx hb dX11_replaced_57 (lv_at hl 0 rfl) ?_
        refine jr_ifeq (tgt := 67) hx hb dX11_replaced_59 (by decide) ⟨by omega, by omega⟩ (fun c59 => ?_) (fun c59 => absurd c59 (by omega))
        refine lv_iload_n hx hb dX11_replaced_67 rfl (lv_at hl 2 rfl) ?_
        exact je_Si hx hb hr hlk rfl (by unfold rp; (repeat' split) <;> first | rfl | omega) dX11_replaced_68
      · refine jr_iconst hx hb dX11_replaced_53 ?_
        refine lv_goto (tgt := 68) hx hb dX11_replaced_54 (by decide) ?_
        exact je_Si hx hb hr hlk rfl (by unfold rp; (repeat' split) <;> first | rfl | omega) dX11_replaced_68
    · refine lv_iload_n hx hb dX11_replaced_30 rfl (lv_at hl 3 rfl) ?_
      refine jr_bipush hx hb dX11_replaced_31 (by decide) ?_
      refine jr_idiv hx hb (by omega) (by omega) (by omega) (by omega) dX11_replaced_33 ?_
      refine lv_iload_n hx hb dX11_replaced_34 rfl (lv_at hl 4 rfl) ?_
      refine jr_bipush hx hb dX11_replaced_35 (by decide) ?_
      refine jr_idiv hx hb (by omega) (by omega) (by omega) (by omega) dX11_replaced_37 ?_
      refine jr_ne (tgt := 45) hx hb dX11_replaced_38 (by decide) ⟨by omega, by omega⟩ ⟨by omega, by omega⟩ (fun c38 => ?_) (fun c38 => ?_)
      · refine jr_iconst hx hb dX11_replaced_45 ?_
        refine lv_istore (lv' := [(5, vi 0), (4, vi (((wk f2 (kd c)) + 1) / 2)), (3, vi (wk f2 (kd c))), (0, .ref (ad 0)), (1, vi c), (2, vi d)]) hx hb dX11_replaced_46 hl (by decide) rfl (fun ls hl => ?_)
        refine lv_iload_n hx hb dX11_replaced_48 rfl (lv_at hl 4 rfl) ?_
        refine lv_iload_n hx hb dX11_replaced_49 rfl (lv_at hl 5 rfl) ?_
        refine jr_ne (tgt := 57) hx hb dX11_replaced_50 (by decide) ⟨by omega, by omega⟩ ⟨by omega, by omega⟩ (fun c50 => ?_) (fun c50 => ?_)
        · refine lv_iload hx hb dX11_replaced_57 (lv_at hl 0 rfl) ?_
          refine jr_ifeq (tgt := 67) hx hb dX11_replaced_59 (by decide) ⟨by omega, by omega⟩ (fun c59 => ?_) (fun c59 => absurd c59 (by omega))
          refine lv_iload_n hx hb dX11_replaced_67 rfl (lv_at hl 2 rfl) ?_
          exact je_Si hx hb hr hlk rfl (by unfold rp; (repeat' split) <;> first | rfl | omega) dX11_replaced_68
        · refine jr_iconst hx hb dX11_replaced_53 ?_
          refine lv_goto (tgt := 68) hx hb dX11_replaced_54 (by decide) ?_
          exact je_Si hx hb hr hlk rfl (by unfold rp; (repeat' split) <;> first | rfl | omega) dX11_replaced_68
      · refine jr_iconst hx hb dX11_replaced_41 ?_
        refine lv_goto (tgt := 46) hx hb dX11_replaced_42 (by decide) ?_
        refine lv_istore (lv' := [(5, vi 1), (4, vi (((wk f2 (kd c)) + 1) / 2)), (3, vi (wk f2 (kd c))), (0, .ref (ad 0)), (1, vi c), (2, vi d)]) hx hb dX11_replaced_46 hl (by decide) rfl (fun ls hl => ?_)
        refine lv_iload_n hx hb dX11_replaced_48 rfl (lv_at hl 4 rfl) ?_
        refine lv_iload_n hx hb dX11_replaced_49 rfl (lv_at hl 5 rfl) ?_
        refine jr_ne (tgt := 57) hx hb dX11_replaced_50 (by decide) ⟨by omega, by omega⟩ ⟨by omega, by omega⟩ (fun c50 => ?_) (fun c50 => ?_)
        · refine lv_iload hx hb dX11_replaced_57 (lv_at hl 0 rfl) ?_
          refine jr_ifeq (tgt := 67) hx hb dX11_replaced_59 (by decide) ⟨by omega, by omega⟩ (fun c59 => absurd c59 (by omega)) (fun c59 => ?_)
          refine lv_iload hx hb dX11_replaced_62 (lv_at hl 1 rfl) ?_
          refine lv_goto (tgt := 68) hx hb dX11_replaced_64 (by decide) ?_
          exact je_Si hx hb hr hlk rfl (by unfold rp; (repeat' split) <;> first | rfl | omega) dX11_replaced_68
        · refine jr_iconst hx hb dX11_replaced_53 ?_
          refine lv_goto (tgt := 68) hx hb dX11_replaced_54 (by decide) ?_
          exact je_Si hx hb hr hlk rfl (by unfold rp; (repeat' split) <;> first | rfl | omega) dX11_replaced_68
set_option maxHeartbeats 4000000 in
set_option maxRecDepth 100000 in
theorem m_X11_length (l : Launch) (g : GT) (ad : Nat → Nat) (th dn nt tn nu ns tz : Int) (f13 : Nat → Int) (k : Nat) (b n : Nat) (hk : k < 60) (h1 : f13 k = (b : Int)) (h2 : f13 (k + 1) = ((b + n : Nat) : Int)) (h3 : b + n ≤ 60) : Met l yX11_length (ws_ yX11_length cX11_length 2 (some .int)) (rmm 0 0 0) (jPc g [.ref (ad 0), vi (k : Int)] (fun H => PP g [ob (ad 0) 10 [vi th, .ref (ad 1), vi dn, .ref (ad 2), .ref (ad 3), vi nt, .ref (ad 4), .ref (ad 5), .ref (ad 6), vi tn, vi nu, .ref (ad 7), .ref (ad 8), .ref (ad 9), .ref (ad 10), .ref (ad 11), .ref (ad 12), vi ns, .ref (ad 13), .ref (ad 14), .ref (ad 15), .ref (ad 16), .ref (ad 17), .ref (ad 18), .ref (ad 19), vi tz, .ref (ad 20), .ref (ad 21), .ref (ad 22)], aI g (ad 13) 61 f13] H)) (jSi (fun z => z = (n : Int))) 0 0 jN := by
  refine jb_M (by decide) (Nat.le_of_ble_eq_true rfl) ?_
  intro p e s m below meth cq hx hb hr hml hown htl hlk hnm hKK hpre ls hl
  have hown : s.vm.findClass RX11 = some m.cls := hown
  have hl : lv_has ls 2 [(0, .ref (ad 0)), (1, vi (k : Int))] := hl
  have hP : PP g [ob (ad 0) 10 [vi th, .ref (ad 1), vi dn, .ref (ad 2), .ref (ad 3), vi nt, .ref (ad 4), .ref (ad 5), .ref (ad 6), vi tn, vi nu, .ref (ad 7), .ref (ad 8), .ref (ad 9), .ref (ad 10), .ref (ad 11), .ref (ad 12), vi ns, .ref (ad 13), .ref (ad 14), .ref (ad 15), .ref (ad 16), .ref (ad 17), .ref (ad 18), .ref (ad 19), vi tz, .ref (ad 20), .ref (ad 21), .ref (ad 22)], aI g (ad 13) 61 f13] s.heap := hpre
  refine lv_aload_n hx hb dX11_length_0 rfl (lv_at hl 0 rfl) ?_
  refine va_get (D := gD g) (ci := 10) (v := .ref (ad 13)) (C := RX11) (T := TX11) (N := 29) hx hb htl ck_X11 hown hKK.k hP 0 rfl rfl 18 (by decide) (htl _ wd_6_3) (fun _ h9 => h9) rfl dX11_length_1 ?_
  refine lv_iload_n hx hb dX11_length_4 rfl (lv_at hl 1 rfl) ?_
  refine jr_iconst hx hb dX11_length_5 ?_
  refine jr_iadd hx hb dX11_length_6 ?_
  refine jr_iald hx hb hKK.k hP 1 rfl (k + 1) (by omega) (by omega) (by omega) dX11_length_7 ?_
  refine lv_aload_n hx hb dX11_length_8 rfl (lv_at hl 0 rfl) ?_
  refine va_get (D := gD g) (ci := 10) (v := .ref (ad 13)) (C := RX11) (T := TX11) (N := 29) hx hb htl ck_X11 hown hKK.k hP 0 rfl rfl 18 (by decide) (htl _ wd_6_3) (fun _ h9 => h9) rfl dX11_length_9 ?_
  refine lv_iload_n hx hb dX11_length_12 rfl (lv_at hl 1 rfl) ?_
  refine jr_iald hx hb hKK.k hP 1 rfl k rfl (by omega) (by omega) dX11_length_13 ?_
  refine jr_isub hx hb dX11_length_14 ?_
  exact je_Si hx hb hr hlk rfl (by omega) dX11_length_15
