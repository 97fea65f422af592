
theorem lk_X2_90 : GoodIn WSL (wsV RX2 90 RX2 yX2_findByBounds (ws_ yX2_findByBounds cX2_findByBounds 11 (some .int))) := gd_app (List.forall_mem_cons.mpr ⟨wd_34_5, List.forall_mem_cons.mpr ⟨wd_20_12, List.forall_mem_cons.mpr ⟨wd_20_13, List.forall_mem_cons.mpr ⟨wd_1_20, fun _ h => nomatch h⟩⟩⟩⟩) (gd_ wd_20_14)
theorem cwV_X2_findByBounds : yX2_findByBounds.cls = RX2 ∧ yX2_findByBounds.cls ≠ "java/lang/invoke/MethodHandle" ∧ yX2_findByBounds.cls ≠ "java/lang/invoke/VarHandle" ∧ (parseMethodDescriptor yX2_findByBounds.desc).map (fun d => d.parameters.length) = some 1 := by decide +kernel
theorem lk_X2_94 : GoodIn WSL (wsV RX2 94 RX2 yX2_findAmongAll (ws_ yX2_findAmongAll cX2_findAmongAll 10 (some .int))) := gd_app (List.forall_mem_cons.mpr ⟨wd_34_6, List.forall_mem_cons.mpr ⟨wd_29_23, List.forall_mem_cons.mpr ⟨wd_30_0, List.forall_mem_cons.mpr ⟨wd_1_20, fun _ h => nomatch h⟩⟩⟩⟩) (gd_ wd_30_1)
theorem cwV_X2_findAmongAll : yX2_findAmongAll.cls = RX2 ∧ yX2_findAmongAll.cls ≠ "java/lang/invoke/MethodHandle" ∧ yX2_findAmongAll.cls ≠ "java/lang/invoke/VarHandle" ∧ (parseMethodDescriptor yX2_findAmongAll.desc).map (fun d => d.parameters.length) = some 1 := by decide +kernel
theorem lk_X2_84 : GoodIn WSL (wsV RX2 84 RX1 yX1_costByRows (ws_ yX1_costByRows cX1_costByRows 12 (some .int))) := gd_app (List.forall_mem_cons.mpr ⟨wd_34_3, List.forall_mem_cons.mpr ⟨wd_22_11, List.forall_mem_cons.mpr ⟨wd_22_12, List.forall_mem_cons.mpr ⟨wd_2_22, fun _ h => nomatch h⟩⟩⟩⟩) (gd_ wd_22_13)
theorem lk_X2_87 : GoodIn WSL (wsV RX2 87 RX1 yX1_costByTails (ws_ yX1_costByTails cX1_costByTails 12 (some .int))) := gd_app (List.forall_mem_cons.mpr ⟨wd_34_4, List.forall_mem_cons.mpr ⟨wd_27_22, List.forall_mem_cons.mpr ⟨wd_27_23, List.forall_mem_cons.mpr ⟨wd_2_22, fun _ h => nomatch h⟩⟩⟩⟩) (gd_ wd_28_0)
theorem cwV_X1_costByTails : yX1_costByTails.cls = RX1 ∧ yX1_costByTails.cls ≠ "java/lang/invoke/MethodHandle" ∧ yX1_costByTails.cls ≠ "java/lang/invoke/VarHandle" ∧ (parseMethodDescriptor yX1_costByTails.desc).map (fun d => d.parameters.length) = some 2 := by decide +kernel
set_option maxHeartbeats 4000000 in
set_option maxRecDepth 100000 in
theorem m_X2_rate (l : Launch) (g : GT) (me t9 rows e0 wt wa r1 r2 ri : Nat) (w : Nat → Int) (hw : WB w) (g1 g2 g3 : Nat → Int) (b9 c9 n : Nat) (fs ft : Nat → Int) (ht : TB n fs ft) (a c : Nat) (t : List Int) (f : Nat → Int) (hf : TT t f) (ua us1 usc : Nat) (s0 : List Int) (fs0 : Nat → Int) (hs0 : TT s0 fs0) (ut utc : Nat) (t0 : List Int) (ft0 : Nat → Int) (ht0 : TT t0 ft0) (lv : Int) (hnq : ∀ x ∈ ([me] : List Nat), x ∉ ([r1, r2, ri] : List Nat)) (hne : ∀ x ∈ ([e0, wt, wa] : List Nat), x ∉ ([r1, r2, ri] : List Nat)) (hnt : ∀ x ∈ ([t9, b9, c9] : List Nat), x ∉ ([r1, r2, ri] : List Nat)) (hnx : ∀ x ∈ ([a, c] : List Nat), x ∉ ([r1, r2, ri] : List Nat)) (hnu : ∀ x ∈ ([ua, us1, usc, ut, utc] : List Nat), x ∉ ([r1, r2, ri] : List Nat)) : Met l yX2_rate (ws_ yX2_rate cX2_rate 3 (some .int)) (rmm 5 0 0) (jPc g [.ref me, .ref a, .ref ua] (fun H => PP g [aI g r1 61 g1, aI g r2 61 g2, aI g ri 60 g3] H ∧ va_D (fun q => gb g ≤ q) [aI g r1 61 g1, aI g r2 61 g2, aI g ri 60 g3] ∧ PP g [ob me 2 [.ref e0, .ref t9, .ref rows]] H ∧ PP g [ob e0 1 [.ref wt, .ref r1, .ref r2, .ref ri], ob wt 8 [.ref wa], aI g wa 4 w] H ∧ PP g [ob t9 5 [.ref b9, .ref c9, vi (n : Int)], aI g b9 20 fs, aI g c9 20 ft] H ∧ PP g [ob a 6 [.ref c, vi (t.length : Int)], aI g c 60 f] H ∧ PP g [ob ua 7 [.ref us1, .ref ut, vi lv], ob us1 6 [.ref usc, vi (s0.length : Int)], aI g usc 60 fs0, ob ut 6 [.ref utc, vi (t0.length : Int)], aI g utc 60 ft0] H)) (jQi (fun z H1 => z = rate w (n, fs, ft) t (s0, t0, lv) ∧ ∃ g1 g2 g3 : Nat → Int, PP g [aI g r1 61 g1, aI g r2 61 g2, aI g ri 60 g3] H1) (jA [aI g r1 61 g1, aI g r2 61 g2, aI g ri 60 g3])) 0 0 (jA [aI g r1 61 g1, aI g r2 61 g2, aI g ri 60 g3]) := by
  refine jb_M (by decide) (Nat.le_of_ble_eq_true rfl) ?_
  intro p e s m below meth cq hx hb hr hml hown htl hlk hnm hKK hpre ls hl
  have hown : s.vm.findClass RX2 = some m.cls := hown
  have hl : lv_has ls 3 [(0, .ref me), (1, .ref a), (2, .ref ua)] := hl
  obtain ⟨hP, hD0, hPm, hPe, hPt, hPx, hPu⟩ := hpre
  have hLx := hf.len
  have hn20 := ht.1
  have hLs := hs0.len
  have ap_hPm : ∀ (k : Nat) (q : Nat × va_E), ([ob me 2 [.ref e0, .ref t9, .ref rows]] : va_W)[k]? = some q → ¬ (jA [aI g r1 61 g1, aI g r2 61 g2, aI g ri 60 g3]) q.1 := jap (hnq)
  have ap_hPe : ∀ (k : Nat) (q : Nat × va_E), ([ob e0 1 [.ref wt, .ref r1, .ref r2, .ref ri], ob wt 8 [.ref wa], aI g wa 4 w] : va_W)[k]? = some q → ¬ (jA [aI g r1 61 g1, aI g r2 61 g2, aI g ri 60 g3]) q.1 := jap (hne)
  have ap_hPt : ∀ (k : Nat) (q : Nat × va_E), ([ob t9 5 [.ref b9, .ref c9, vi (n : Int)], aI g b9 20 fs, aI g c9 20 ft] : va_W)[k]? = some q → ¬ (jA [aI g r1 61 g1, aI g r2 61 g2, aI g ri 60 g3]) q.1 := jap (hnt)
  have ap_hPx : ∀ (k : Nat) (q : Nat × va_E), ([ob a 6 [.ref c, vi (t.length : Int)], aI g c 60 f] : va_W)[k]? = some q → ¬ (jA [aI g r1 61 g1, aI g r2 61 g2, aI g ri 60 g3]) q.1 := jap (hnx)
  have ap_hPu : ∀ (k : Nat) (q : Nat × va_E), ([ob ua 7 [.ref us1, .ref ut, vi lv], ob us1 6 [.ref usc, vi (s0.length : Int)], aI g usc 60 fs0, ob ut 6 [.ref utc, vi (t0.length : Int)], aI g utc 60 ft0] : va_W)[k]? = some q → ¬ (jA [aI g r1 61 g1, aI g r2 61 g2, aI g ri 60 g3]) q.1 := jap (hnu)
  have hD : va_D (jA [aI g r1 61 g1, aI g r2 61 g2, aI g ri 60 g3]) [aI g r1 61 g1, aI g r2 61 g2, aI g ri 60 g3] := hD0.inD
  have hAb : ∀ q, (jA [aI g r1 61 g1, aI g r2 61 g2, aI g ri 60 g3]) q → gb g ≤ q := fun q h => hD0.inA h
  generalize hAe : jA [aI g r1 61 g1, aI g r2 61 g2, aI g ri 60 g3] = A at *
  have hS : va_S A s.heap s.heap [] := va_S.rf
  suffices K : ∀ (H : Heap) (locs : List Loc), PP g [aI g r1 61 g1, aI g r2 61 g2, aI g ri 60 g3] H → va_D A [aI g r1 61 g1, aI g r2 61 g2, aI g ri 60 g3] → va_S A s.heap H locs → ∀ ls : Array Slot, lv_has ls 3 [(0, .ref me), (1, .ref a), (2, .ref ua)] → W p l e (rmm 5 0 0) s m ([.ref me, .ref a, .ref ua] : List Value).toArray below meth cq H locs 0 0 (MQ below (jQi (fun z H1 => z = rate w (n, fs, ft) t (s0, t0, lv) ∧ ∃ g1 g2 g3 : Nat → Int, PP g [aI g r1 61 g1, aI g r2 61 g2, aI g ri 60 g3] H1) A) ([.ref me, .ref a, .ref ua] : List Value).toArray s 0 0 A) (F0 m 0 ls []) from K _ _ hP hD hS _ hl
  clear hl; intro H locs hP hD hS ls hl
  refine lv_aload_n hx hb dX2_rate_0 rfl (lv_at hl 0 rfl) ?_
  refine va_get (D := gD g) (ci := 2) (v := .ref e0) (C := RX2) (T := TX2) (N := 3) hx hb htl ck_X2 hown hKK.k (jat hPm hS ap_hPm) 0 rfl rfl 0 (by decide) (htl _ wd_2_23) (fun _ h9 => h9) rfl dX2_rate_1 ?_
  refine lv_aload_n hx hb dX2_rate_4 rfl (lv_at hl 1 rfl) ?_
  refine lv_aload_n hx hb dX2_rate_5 rfl (lv_at hl 2 rfl) ?_
  refine va_get (D := gD g) (ci := 7) (v := .ref us1) (C := RX8) (T := TX8) (N := 3) hx hb htl ck_X8 hown hKK.k (jat hPu hS ap_hPu) 0 rfl rfl 0 (by decide) (htl _ wd_14_3) (fun _ h9 => h9) rfl dX2_rate_6 ?_
  have hDc : va_D A [aI g r1 61 g1, aI g r2 61 g2, aI g ri 60 g3] := hD.sub [0, 1, 2] (by decide) rfl
  refine jk_Qi (va_runV (As := [.ref a, .ref us1]) (rest := []) ⟨hx, hb, hml, hown, htl⟩ (m_X1_compare l g e0 wt wa r1 r2 ri w hw g1 g2 g3 a c t f hf us1 usc s0 fs0 hs0 (jdisR hD ap_hPe [0, 1, 2] [0, 1, 2] rfl rfl) (jdisR hD ap_hPx [0, 1] [0, 1, 2] rfl rfl) (jdisR hD ap_hPu [1, 2] [0, 1, 2] rfl rfl) ) (cwV 2 htl lk_X2_66 rfl rfl rfl cwV_X1_compare ⟨Nat.le_of_ble_eq_true rfl, Nat.le_of_ble_eq_true rfl⟩) (jp_V hKK hS hAb (va_recv hKK.k (jat hPe hS ap_hPe) (ci := 1) (q0 := 0) rfl rfl) ⟨hP, hDc.weaken (fun _ q _ h => hAb _ h), (jat hPe hS ap_hPe), (jat hPx hS ap_hPx), (va_P.sub (jat hPu hS ap_hPu) [1, 2] rfl)⟩) rfl rfl hl.1 rfl (lv_room (Nat.le_of_ble_eq_true rfl)) dX2_rate_9 ⟨Nat.le_of_ble_eq_true rfl, Nat.le_of_ble_eq_true rfl⟩) hS (fun q _ h => hDc.inA h) (fun q h => hDc.inA h) (fun z9 H1 locs hz9 hzs hks hS => ?_)
  obtain ⟨hz9, gr1_9, gr2_9, gr3_9, hP1⟩ := hz9
  obtain ⟨hP, hD⟩ := jput (wc := [aI g r1 61 g1, aI g r2 61 g2, aI g ri 60 g3]) (w1 := [aI g r1 61 gr1_9, aI g r2 61 gr2_9, aI g ri 60 gr3_9]) hP hD [0, 1, 2] rfl rfl hks (fun q _ h => h) hP1
  clear hzs hks; generalize H1 = H at hP hD hS ⊢
  have hP : PP g [aI g r1 61 gr1_9, aI g r2 61 gr2_9, aI g ri 60 gr3_9] H := hP
  have hD : va_D A [aI g r1 61 gr1_9, aI g r2 61 gr2_9, aI g ri 60 gr3_9] := hD
  subst hz9
  have tl := lk_b hw t s0
  refine lv_aload_n hx hb dX2_rate_12 rfl (lv_at hl 0 rfl) ?_
  refine va_get (D := gD g) (ci := 2) (v := .ref t9) (C := RX2) (T := TX2) (N := 3) hx hb htl ck_X2 hown hKK.k (jat hPm hS ap_hPm) 0 rfl rfl 1 (by decide) (htl _ wd_3_3) (fun _ h9 => h9) rfl dX2_rate_13 ?_
  refine lv_aload_n hx hb dX2_rate_16 rfl (lv_at hl 1 rfl) ?_
  refine lv_aload_n hx hb dX2_rate_17 rfl (lv_at hl 2 rfl) ?_
  refine va_get (D := gD g) (ci := 7) (v := .ref ut) (C := RX8) (T := TX8) (N := 3) hx hb htl ck_X8 hown hKK.k (jat hPu hS ap_hPu) 0 rfl rfl 1 (by decide) (htl _ wd_14_4) (fun _ h9 => h9) rfl dX2_rate_18 ?_
  refine jk_Si (va_runV (As := [.ref a, .ref ut]) (rest := [vi (lk w t s0)]) ⟨hx, hb, hml, hown, htl⟩ (m_X5_countMissed l g t9 b9 c9 n fs ft ht a c t f hf ut utc t0 ft0 ht0 ) (cwV 2 htl lk_X2_70 rfl rfl rfl cwV_X5_countMissed ⟨Nat.le_of_ble_eq_true rfl, Nat.le_of_ble_eq_true rfl⟩) (jp_V hKK hS hAb (va_recv hKK.k (jat hPt hS ap_hPt) (ci := 5) (q0 := 0) rfl rfl) ⟨(jat hPt hS ap_hPt), (jat hPx hS ap_hPx), (va_P.sub (jat hPu hS ap_hPu) [3, 4] rfl)⟩) rfl rfl hl.1 rfl (lv_room (Nat.le_of_ble_eq_true rfl)) dX2_rate_21 ⟨Nat.le_of_ble_eq_true rfl, Nat.le_of_ble_eq_true rfl⟩) (fun z21 hz21 => ?_)
  subst hz21
  have tc := cm_b fs ft t t0 n
  have tcn := ht.1
  refine jk_Si (va_runS (As := [vi (lk w t s0), vi (cm fs ft t t0 n)]) (rest := []) ⟨hx, hb, hml, hown, htl⟩ (m_X2_lessMissed l g (lk w t s0) (cm fs ft t t0 n) (by omega) (by omega)) (va_cwS 2 htl lk_X2_73 rfl rfl rfl cwS_X2_lessMissed ⟨Nat.le_of_ble_eq_true rfl, Nat.le_of_ble_eq_true rfl⟩) (jp_S hKK hS hAb trivial) rfl rfl hl.1 rfl (lv_room (Nat.le_of_ble_eq_true rfl)) dX2_rate_24 ⟨Nat.le_of_ble_eq_true rfl, Nat.le_of_ble_eq_true rfl⟩) (fun z24 hz24 => ?_)
  subst hz24
  have tlm := lm_b (a := (lk w t s0)) (m := (cm fs ft t t0 n)) (by omega) (by omega)
  exact je_Qi hx hb hr hlk rfl hS (⟨rfl, _, _, _, hP⟩) dX2_rate_27
set_option maxHeartbeats 4000000 in
set_option maxRecDepth 100000 in
theorem m_X2_agreesOn (l : Launch) (g : GT) (me t9 rows : Nat) (us : List UR) (lw : va_W) (hL : LW g rows (us.map uA) lw) (hUO : ∀ u ∈ us, UOK u) (h60 : us.length ≤ 60) (e0 wt wa r1 r2 ri : Nat) (w : Nat → Int) (hw : WB w) (g1 g2 g3 : Nat → Int) (b9 c9 n : Nat) (fs ft : Nat → Int) (ht : TB n fs ft) (a c : Nat) (t : List Int) (f : Nat → Int) (hf : TT t f) (hnq : ∀ x ∈ ([me] : List Nat), x ∉ ([r1, r2, ri] : List Nat)) (hnr : ∀ x ∈ (MR g us lw).map (·.1), x ∉ ([r1, r2, ri] : List Nat)) (hne : ∀ x ∈ ([e0, wt, wa] : List Nat), x ∉ ([r1, r2, ri] : List Nat)) (hnt : ∀ x ∈ ([t9, b9, c9] : List Nat), x ∉ ([r1, r2, ri] : List Nat)) (hnx : ∀ x ∈ ([a, c] : List Nat), x ∉ ([r1, r2, ri] : List Nat)) : Met l yX2_agreesOn (ws_ yX2_agreesOn cX2_agreesOn 4 (some .boolean)) (rmm 7 0 0) (jPc g [.ref me, .ref a] (fun H => PP g [aI g r1 61 g1, aI g r2 61 g2, aI g ri 60 g3] H ∧ va_D (fun q => gb g ≤ q) [aI g r1 61 g1, aI g r2 61 g2, aI g ri 60 g3] ∧ PP g [ob me 2 [.ref e0, .ref t9, .ref rows]] H ∧ PP g (MR g us lw) H ∧ PP g [ob e0 1 [.ref wt, .ref r1, .ref r2, .ref ri], ob wt 8 [.ref wa], aI g wa 4 w] H ∧ PP g [ob t9 5 [.ref b9, .ref c9, vi (n : Int)], aI g b9 20 fs, aI g c9 20 ft] H ∧ PP g [ob a 6 [.ref c, vi (t.length : Int)], aI g c 60 f] H)) (jQi (fun z H1 => z = 1 ∧ ∃ g1 g2 g3 : Nat → Int, PP g [aI g r1 61 g1, aI g r2 61 g2, aI g ri 60 g3] H1) (jA [aI g r1 61 g1, aI g r2 61 g2, aI g ri 60 g3])) 0 0 (jA [aI g r1 61 g1, aI g r2 61 g2, aI g ri 60 g3]) := by
  refine jb_M (by decide) (Nat.le_of_ble_eq_true rfl) ?_
  intro p e s m below meth cq hx hb hr hml hown htl hlk hnm hKK hpre ls hl
  have hown : s.vm.findClass RX2 = some m.cls := hown
  have hl : lv_has ls 4 [(0, .ref me), (1, .ref a)] := hl
  obtain ⟨hP, hD0, hPm, hPr, hPe, hPt, hPx⟩ := hpre
  have hLx := hf.len
  have hn20 := ht.1
  have ap_hPm : ∀ (k : Nat) (q : Nat × va_E), ([ob me 2 [.ref e0, .ref t9, .ref rows]] : va_W)[k]? = some q → ¬ (jA [aI g r1 61 g1, aI g r2 61 g2, aI g ri 60 g3]) q.1 := jap (hnq)
  have ap_hPr : ∀ (k : Nat) (q : Nat × va_E), ((MR g us lw) : va_W)[k]? = some q → ¬ (jA [aI g r1 61 g1, aI g r2 61 g2, aI g ri 60 g3]) q.1 := jap (hnr)
  have ap_hPe : ∀ (k : Nat) (q : Nat × va_E), ([ob e0 1 [.ref wt, .ref r1, .ref r2, .ref ri], ob wt 8 [.ref wa], aI g wa 4 w] : va_W)[k]? = some q → ¬ (jA [aI g r1 61 g1, aI g r2 61 g2, aI g ri 60 g3]) q.1 := jap (hne)
  have ap_hPt : ∀ (k : Nat) (q : Nat × va_E), ([ob t9 5 [.ref b9, .ref c9, vi (n : Int)], aI g b9 20 fs, aI g c9 20 ft] : va_W)[k]? = some q → ¬ (jA [aI g r1 61 g1, aI g r2 61 g2, aI g ri 60 g3]) q.1 := jap (hnt)
  have ap_hPx : ∀ (k : Nat) (q : Nat × va_E), ([ob a 6 [.ref c, vi (t.length : Int)], aI g c 60 f] : va_W)[k]? = some q → ¬ (jA [aI g r1 61 g1, aI g r2 61 g2, aI g ri 60 g3]) q.1 := jap (hnx)
  have hD : va_D (jA [aI g r1 61 g1, aI g r2 61 g2, aI g ri 60 g3]) [aI g r1 61 g1, aI g r2 61 g2, aI g ri 60 g3] := hD0.inD
  have hAb : ∀ q, (jA [aI g r1 61 g1, aI g r2 61 g2, aI g ri 60 g3]) q → gb g ≤ q := fun q h => hD0.inA h
  generalize hAe : jA [aI g r1 61 g1, aI g r2 61 g2, aI g ri 60 g3] = A at *
  have hS : va_S A s.heap s.heap [] := va_S.rf
  suffices K : ∀ (H : Heap) (locs : List Loc), PP g [aI g r1 61 g1, aI g r2 61 g2, aI g ri 60 g3] H → va_D A [aI g r1 61 g1, aI g r2 61 g2, aI g ri 60 g3] → va_S A s.heap H locs → ∀ ls : Array Slot, lv_has ls 4 [(0, .ref me), (1, .ref a)] → W p l e (rmm 7 0 0) s m ([.ref me, .ref a] : List Value).toArray below meth cq H locs 0 0 (MQ below (jQi (fun z H1 => z = 1 ∧ ∃ g1 g2 g3 : Nat → Int, PP g [aI g r1 61 g1, aI g r2 61 g2, aI g ri 60 g3] H1) A) ([.ref me, .ref a] : List Value).toArray s 0 0 A) (F0 m 0 ls []) from K _ _ hP hD hS _ hl
  clear hl; intro H locs hP hD hS ls hl
  refine jr_iconst hx hb dX2_agreesOn_0 ?_
  refine lv_istore_n (lv' := [(2, vi 0), (0, .ref me), (1, .ref a)]) hx hb dX2_agreesOn_1 rfl hl (by decide) rfl (fun ls hl => ?_)
  have lp2 : ∀ (N : Nat) (i : Nat) (h1 h2 h3 : Nat → Int), (i ≤ us.length) → us.length - i < N → ∀ (H : Heap) (locs : List Loc), PP g [aI g r1 61 h1, aI g r2 61 h2, aI g ri 60 h3] H → va_D A [aI g r1 61 h1, aI g r2 61 h2, aI g ri 60 h3] → va_S A s.heap H locs → ∀ ls : Array Slot, lv_has ls 4 [(2, vi (i : Int)), (0, .ref me), (1, .ref a)] → W p l e (rmm 7 0 0) s m ([.ref me, .ref a] : List Value).toArray below meth cq H locs 0 0 (MQ below (jQi (fun z H1 => z = 1 ∧ ∃ g1 g2 g3 : Nat → Int, PP g [aI g r1 61 g1, aI g r2 61 g2, aI g ri 60 g3] H1) A) ([.ref me, .ref a] : List Value).toArray s 0 0 A) (F0 m 2 ls []) := by
    intro N
    induction N with
    | zero => intro i h1 h2 h3 hi hM; exact absurd hM (Nat.not_lt_zero _)
    | succ N ih2 =>
      intro i h1 h2 h3 hi hM H locs hP hD hS ls hl
      refine lv_iload_n hx hb dX2_agreesOn_2 rfl (lv_at hl 0 rfl) ?_
      refine lv_aload_n hx hb dX2_agreesOn_3 rfl (lv_at hl 1 rfl) ?_
      refine va_get (D := gD g) (ci := 2) (v := .ref rows) (C := RX2) (T := TX2) (N := 3) hx hb htl ck_X2 hown hKK.k (jat hPm hS ap_hPm) 0 rfl rfl 2 (by decide) (htl _ wd_3_7) (fun _ h9 => h9) rfl dX2_agreesOn_4 ?_
      refine jk5_Si (va_runF (As := []) (rest := [vi (i : Int)]) (hKK.k.1 11 _ rfl).2 ⟨hx, hb, hml, hown, htl⟩ (m_Lsize l g rows (us.map uA) lw hL) (va_cwF 0 htl lkF_X2_32 rfl rfl rfl (fw_0 hKK) cwF_0 ⟨Nat.le_of_ble_eq_true rfl, Nat.le_of_ble_eq_true rfl⟩) (jp_V hKK hS hAb (LW.recv hKK hL ((jat hPr hS ap_hPr).mem MR.l)) ((jat hPr hS ap_hPr).mem MR.l)) rfl rfl hl.1 rfl (lv_room (Nat.le_of_ble_eq_true rfl)) dX2_agreesOn_7 ⟨Nat.le_of_ble_eq_true rfl, Nat.le_of_ble_eq_true rfl⟩) (fun z7 hz7 => ?_)
      rw [List.length_map] at hz7; subst hz7
      refine jr_ge (tgt := 61) hx hb dX2_agreesOn_12 (by decide) ⟨by omega, by omega⟩ ⟨by omega, by omega⟩ (fun c12 => ?_) (fun c12 => ?_)
      · refine lv_aload_n hx hb dX2_agreesOn_61 rfl (lv_at hl 1 rfl) ?_
        refine lv_aload_n hx hb dX2_agreesOn_62 rfl (lv_at hl 2 rfl) ?_
        have hDc : va_D A [aI g r1 61 h1, aI g r2 61 h2, aI g ri 60 h3] := hD.sub [0, 1, 2] (by decide) rfl
        refine jk_Qi (va_runV (As := [.ref a]) (rest := []) ⟨hx, hb, hml, hown, htl⟩ (m_X2_findByBounds l g me t9 rows us lw hL hUO h60 e0 wt wa r1 r2 ri w hw h1 h2 h3 b9 c9 n fs ft ht a c t f hf (jdisR hD ap_hPm [0] [0, 1, 2] rfl rfl) (jdisA hD ap_hPr [0, 1, 2] rfl) (jdisR hD ap_hPe [0, 1, 2] [0, 1, 2] rfl rfl) (jdisR hD ap_hPt [0, 1, 2] [0, 1, 2] rfl rfl) (jdisR hD ap_hPx [0, 1] [0, 1, 2] rfl rfl)) (cwV 1 htl lk_X2_90 rfl rfl rfl cwV_X2_findByBounds ⟨Nat.le_of_ble_eq_true rfl, Nat.le_of_ble_eq_true rfl⟩) (jp_V hKK hS hAb (va_recv hKK.k (jat hPm hS ap_hPm) (ci := 2) (q0 := 0) rfl rfl) ⟨hP, hDc.weaken (fun _ q _ h => hAb _ h), (jat hPm hS ap_hPm), (jat hPr hS ap_hPr), (jat hPe hS ap_hPe), (jat hPt hS ap_hPt), (jat hPx hS ap_hPx)⟩) rfl rfl hl.1 rfl (lv_room (Nat.le_of_ble_eq_true rfl)) dX2_agreesOn_63 ⟨Nat.le_of_ble_eq_true rfl, Nat.le_of_ble_eq_true rfl⟩) hS (fun q _ h => hDc.inA h) (fun q h => hDc.inA h) (fun z63 H1 locs hz63 hzs hks hS => ?_)
        obtain ⟨hz63, gr1_63, gr2_63, gr3_63, hP1⟩ := hz63
        obtain ⟨hP, hD⟩ := jput (wc := [aI g r1 61 h1, aI g r2 61 h2, aI g ri 60 h3]) (w1 := [aI g r1 61 gr1_63, aI g r2 61 gr2_63, aI g ri 60 gr3_63]) hP hD [0, 1, 2] rfl rfl hks (fun q _ h => h) hP1
        clear hzs hks; generalize H1 = H at hP hD hS ⊢
        have hP : PP g [aI g r1 61 gr1_63, aI g r2 61 gr2_63, aI g ri 60 gr3_63] H := hP
        have hD : va_D A [aI g r1 61 gr1_63, aI g r2 61 gr2_63, aI g ri 60 gr3_63] := hD
        subst hz63
        have tfb := fb_b hw (n, fs, ft) t (uv us) us.length us.length (Nat.le_refl _)
        refine lv_aload_n hx hb dX2_agreesOn_66 rfl (lv_at hl 1 rfl) ?_
        refine lv_aload_n hx hb dX2_agreesOn_67 rfl (lv_at hl 2 rfl) ?_
        have hfe := fb_fa (tm := (n, fs, ft)) (v := uv us) hw hf.len us.length (fun i hi => by obtain ⟨u, hu⟩ : ∃ u, us[i]? = some u := ⟨_, List.getElem?_eq_getElem hi⟩; rw [uv_get hu]; obtain ⟨_, _, _, _, _, s5, _, _, _, _⟩ := u; exact (hUO _ (List.mem_of_getElem? hu)).1.len)
        have hDc : va_D A [aI g r1 61 gr1_63, aI g r2 61 gr2_63, aI g ri 60 gr3_63] := hD.sub [0, 1, 2] (by decide) rfl
        refine jk_Qi (va_runV (As := [.ref a]) (rest := [vi ((fb w (n, fs, ft) t (uv us) us.length us.length).1)]) ⟨hx, hb, hml, hown, htl⟩ (m_X2_findAmongAll l g me t9 rows us lw hL hUO h60 e0 wt wa r1 r2 ri w hw gr1_63 gr2_63 gr3_63 b9 c9 n fs ft ht a c t f hf (jdisR hD ap_hPm [0] [0, 1, 2] rfl rfl) (jdisA hD ap_hPr [0, 1, 2] rfl) (jdisR hD ap_hPe [0, 1, 2] [0, 1, 2] rfl rfl) (jdisR hD ap_hPt [0, 1, 2] [0, 1, 2] rfl rfl) (jdisR hD ap_hPx [0, 1] [0, 1, 2] rfl rfl)) (cwV 1 htl lk_X2_94 rfl rfl rfl cwV_X2_findAmongAll ⟨Nat.le_of_ble_eq_true rfl, Nat.le_of_ble_eq_true rfl⟩) (jp_V hKK hS hAb (va_recv hKK.k (jat hPm hS ap_hPm) (ci := 2) (q0 := 0) rfl rfl) ⟨hP, hDc.weaken (fun _ q _ h => hAb _ h), (jat hPm hS ap_hPm), (jat hPr hS ap_hPr), (jat hPe hS ap_hPe), (jat hPt hS ap_hPt), (jat hPx hS ap_hPx)⟩) rfl rfl hl.1 rfl (lv_room (Nat.le_of_ble_eq_true rfl)) dX2_agreesOn_68 ⟨Nat.le_of_ble_eq_true rfl, Nat.le_of_ble_eq_true rfl⟩) hS (fun q _ h => hDc.inA h) (fun q h => hDc.inA h) (fun z68 H1 locs hz68 hzs hks hS => ?_)
        obtain ⟨hz68, gr1_68, gr2_68, gr3_68, hP1⟩ := hz68
        obtain ⟨hP, hD⟩ := jput (wc := [aI g r1 61 gr1_63, aI g r2 61 gr2_63, aI g ri 60 gr3_63]) (w1 := [aI g r1 61 gr1_68, aI g r2 61 gr2_68, aI g ri 60 gr3_68]) hP hD [0, 1, 2] rfl rfl hks (fun q _ h => h) hP1
        clear hzs hks; generalize H1 = H at hP hD hS ⊢
        have hP : PP g [aI g r1 61 gr1_68, aI g r2 61 gr2_68, aI g ri 60 gr3_68] H := hP
        have hD : va_D A [aI g r1 61 gr1_68, aI g r2 61 gr2_68, aI g ri 60 gr3_68] := hD
        subst hz68
        have tfa := fa_b hw (n, fs, ft) t (uv us) us.length
        obtain ⟨hfa1, -, -⟩ := tfa
        obtain ⟨hfb1, -, -⟩ := tfb
        refine jr_ne (tgt := 78) hx hb dX2_agreesOn_71 (by decide) ⟨by omega, by omega⟩ ⟨by omega, by omega⟩ (fun c71 => absurd c71 (by omega)) (fun c71 => ?_)
        refine jr_iconst hx hb dX2_agreesOn_74 ?_
        refine lv_goto (tgt := 79) hx hb dX2_agreesOn_75 (by decide) ?_
        exact je_Qi hx hb hr hlk (nz_b (by omega)).1 hS (⟨rfl, _, _, _, hP⟩) dX2_agreesOn_79
      · refine lv_aload_n hx hb dX2_agreesOn_15 rfl (lv_at hl 1 rfl) ?_
        refine va_get (D := gD g) (ci := 2) (v := .ref rows) (C := RX2) (T := TX2) (N := 3) hx hb htl ck_X2 hown hKK.k (jat hPm hS ap_hPm) 0 rfl rfl 2 (by decide) (htl _ wd_3_7) (fun _ h9 => h9) rfl dX2_agreesOn_16 ?_
        refine lv_iload_n hx hb dX2_agreesOn_19 rfl (lv_at hl 0 rfl) ?_
        refine jk5_Sr (va_runF (As := [vi (i : Int)]) (rest := []) (hKK.k.1 11 _ rfl).2 ⟨hx, hb, hml, hown, htl⟩ (m_Lget l g rows (us.map uA) lw hL i (by rw [List.length_map]; omega)) (va_cwF 1 htl lkF_X2_38 rfl rfl rfl (fw_1 hKK) cwF_1 ⟨Nat.le_of_ble_eq_true rfl, Nat.le_of_ble_eq_true rfl⟩) (jp_V hKK hS hAb (LW.recv hKK hL ((jat hPr hS ap_hPr).mem MR.l)) ((jat hPr hS ap_hPr).mem MR.l)) rfl rfl hl.1 rfl (lv_room (Nat.le_of_ble_eq_true rfl)) dX2_agreesOn_20 ⟨Nat.le_of_ble_eq_true rfl, Nat.le_of_ble_eq_true rfl⟩) (fun z20 hz20 => ?_)
        obtain ⟨u, hu⟩ : ∃ u, us[i]? = some u := ⟨_, List.getElem?_eq_getElem (show i < us.length by omega)⟩
        rw [uA_get hu] at hz20
        obtain ⟨ua, us1, usc, ut, utc, s0, fs0, t0, ft0, lv⟩ := u
        obtain ⟨hs0, ht0, hlv⟩ : TT s0 fs0 ∧ TT t0 ft0 ∧ (lv = 0 ∨ lv = 1) := hUO _ (List.mem_of_getElem? hu)
        have huv : uv us (i) = (s0, t0, lv) := uv_get hu
        have hPu : PP g [ob ua 7 [.ref us1, .ref ut, vi lv], ob us1 6 [.ref usc, vi (s0.length : Int)], aI g usc 60 fs0, ob ut 6 [.ref utc, vi (t0.length : Int)], aI g utc 60 ft0] s.heap := hPr.mem (MR.u hu)
        have ap_hPu : ∀ (k : Nat) (q : Nat × va_E), ([ob ua 7 [.ref us1, .ref ut, vi lv], ob us1 6 [.ref usc, vi (s0.length : Int)], aI g usc 60 fs0, ob ut 6 [.ref utc, vi (t0.length : Int)], aI g utc 60 ft0] : va_W)[k]? = some q → ¬ A q.1 := ap_mem ap_hPr (MR.u hu)
        have hz20 : z20 = ua := hz20
        rw [hz20]
        refine va_castS hx hb hown (htl _ wd_17_12) (hKK.k.1 7 _ rfl).2 (va_recv hKK.k (jat hPu hS ap_hPu) (ci := 7) (q0 := 0) rfl rfl) dX2_agreesOn_25 ?_
        refine va_get (D := gD g) (ci := 7) (v := .ref us1) (C := RX8) (T := TX8) (N := 3) hx hb htl ck_X8 hown hKK.k (jat hPu hS ap_hPu) 0 rfl rfl 0 (by decide) (htl _ wd_14_3) (fun _ h9 => h9) rfl dX2_agreesOn_28 ?_
        refine lv_astore_n (lv' := [(3, .ref us1), (2, vi (i : Int)), (0, .ref me), (1, .ref a)]) hx hb dX2_agreesOn_31 rfl hl (by decide) rfl (fun ls hl => ?_)
        refine lv_aload_n hx hb dX2_agreesOn_32 rfl (lv_at hl 2 rfl) ?_
        refine va_get (D := gD g) (ci := 2) (v := .ref e0) (C := RX2) (T := TX2) (N := 3) hx hb htl ck_X2 hown hKK.k (jat hPm hS ap_hPm) 0 rfl rfl 0 (by decide) (htl _ wd_2_23) (fun _ h9 => h9) rfl dX2_agreesOn_33 ?_
        refine lv_aload_n hx hb dX2_agreesOn_36 rfl (lv_at hl 3 rfl) ?_
        refine lv_aload_n hx hb dX2_agreesOn_37 rfl (lv_at hl 0 rfl) ?_
        have hLs := hs0.len
        have hDc : va_D A [aI g r1 61 h1, aI g r2 61 h2, aI g ri 60 h3] := hD.sub [0, 1, 2] (by decide) rfl
        refine jk_Qi (va_runV (As := [.ref a, .ref us1]) (rest := []) ⟨hx, hb, hml, hown, htl⟩ (m_X1_costByRows l g e0 wt wa r1 r2 ri w hw h1 h2 h3 a c t f hf us1 usc s0 fs0 hs0 (jdisR hD ap_hPe [0, 1, 2] [0, 1, 2] rfl rfl) (jdisR hD ap_hPx [0, 1] [0, 1, 2] rfl rfl) (jdisR hD ap_hPu [1, 2] [0, 1, 2] rfl rfl) ) (cwV 2 htl lk_X2_84 rfl rfl rfl cwV_X1_costByRows ⟨Nat.le_of_ble_eq_true rfl, Nat.le_of_ble_eq_true rfl⟩) (jp_V hKK hS hAb (va_recv hKK.k (jat hPe hS ap_hPe) (ci := 1) (q0 := 0) rfl rfl) ⟨hP, hDc.weaken (fun _ q _ h => hAb _ h), (jat hPe hS ap_hPe), (jat hPx hS ap_hPx), (va_P.sub (jat hPu hS ap_hPu) [1, 2] rfl)⟩) rfl rfl hl.1 rfl (lv_room (Nat.le_of_ble_eq_true rfl)) dX2_agreesOn_38 ⟨Nat.le_of_ble_eq_true rfl, Nat.le_of_ble_eq_true rfl⟩) hS (fun q _ h => hDc.inA h) (fun q h => hDc.inA h) (fun z38 H1 locs hz38 hzs hks hS => ?_)
        obtain ⟨hz38, gr1_38, gr2_38, gr3_38, hP1⟩ := hz38
        obtain ⟨hP, hD⟩ := jput (wc := [aI g r1 61 h1, aI g r2 61 h2, aI g ri 60 h3]) (w1 := [aI g r1 61 gr1_38, aI g r2 61 gr2_38, aI g ri 60 gr3_38]) hP hD [0, 1, 2] rfl rfl hks (fun q _ h => h) hP1
        clear hzs hks; generalize H1 = H at hP hD hS ⊢
        have hP : PP g [aI g r1 61 gr1_38, aI g r2 61 gr2_38, aI g ri 60 gr3_38] H := hP
        have hD : va_D A [aI g r1 61 gr1_38, aI g r2 61 gr2_38, aI g ri 60 gr3_38] := hD
        subst hz38
        have td := D_b hw t s0 t.length s0.length
        refine jr_nm (b := (ed w t s0)) (D_ed w t s0) ?_
        refine lv_aload_n hx hb dX2_agreesOn_41 rfl (lv_at hl 2 rfl) ?_
        refine va_get (D := gD g) (ci := 2) (v := .ref e0) (C := RX2) (T := TX2) (N := 3) hx hb htl ck_X2 hown hKK.k (jat hPm hS ap_hPm) 0 rfl rfl 0 (by decide) (htl _ wd_2_23) (fun _ h9 => h9) rfl dX2_agreesOn_42 ?_
        refine lv_aload_n hx hb dX2_agreesOn_45 rfl (lv_at hl 3 rfl) ?_
        refine lv_aload_n hx hb dX2_agreesOn_46 rfl (lv_at hl 0 rfl) ?_
        have td9 := ed_b hw t s0
        have hDc : va_D A [aI g r1 61 gr1_38, aI g r2 61 gr2_38, aI g ri 60 gr3_38] := hD.sub [0, 1, 2] (by decide) rfl
        refine jk_Qi (va_runV (As := [.ref a, .ref us1]) (rest := [vi (ed w t s0)]) ⟨hx, hb, hml, hown, htl⟩ (m_X1_costByTails l g e0 wt wa r1 r2 ri w hw gr1_38 gr2_38 gr3_38 a c t f hf us1 usc s0 fs0 hs0 (jdisR hD ap_hPe [0, 1, 2] [0, 1, 2] rfl rfl) (jdisR hD ap_hPx [0, 1] [0, 1, 2] rfl rfl) (jdisR hD ap_hPu [1, 2] [0, 1, 2] rfl rfl) ) (cwV 2 htl lk_X2_87 rfl rfl rfl cwV_X1_costByTails ⟨Nat.le_of_ble_eq_true rfl, Nat.le_of_ble_eq_true rfl⟩) (jp_V hKK hS hAb (va_recv hKK.k (jat hPe hS ap_hPe) (ci := 1) (q0 := 0) rfl rfl) ⟨hP, hDc.weaken (fun _ q _ h => hAb _ h), (jat hPe hS ap_hPe), (jat hPx hS ap_hPx), (va_P.sub (jat hPu hS ap_hPu) [1, 2] rfl)⟩) rfl rfl hl.1 rfl (lv_room (Nat.le_of_ble_eq_true rfl)) dX2_agreesOn_47 ⟨Nat.le_of_ble_eq_true rfl, Nat.le_of_ble_eq_true rfl⟩) hS (fun q _ h => hDc.inA h) (fun q h => hDc.inA h) (fun z47 H1 locs hz47 hzs hks hS => ?_)
        obtain ⟨hz47, gr1_47, gr2_47, gr3_47, hP1⟩ := hz47
        obtain ⟨hP, hD⟩ := jput (wc := [aI g r1 61 gr1_38, aI g r2 61 gr2_38, aI g ri 60 gr3_38]) (w1 := [aI g r1 61 gr1_47, aI g r2 61 gr2_47, aI g ri 60 gr3_47]) hP hD [0, 1, 2] rfl rfl hks (fun q _ h => h) hP1
        clear hzs hks; generalize H1 = H at hP hD hS ⊢
        have hP : PP g [aI g r1 61 gr1_47, aI g r2 61 gr2_47, aI g ri 60 gr3_47] H := hP
        have hD : va_D A [aI g r1 61 gr1_47, aI g r2 61 gr2_47, aI g ri 60 gr3_47] := hD
        subst hz47
        have td := ed_b hw t s0
        refine jr_eq (tgt := 55) hx hb dX2_agreesOn_50 (by decide) ⟨by omega, by omega⟩ ⟨by omega, by omega⟩ (fun c50 => ?_) (fun c50 => absurd c50 (by omega))
        refine jr_iinc (lv' := [(2, vi ((i : Int) + 1)), (3, .ref us1), (0, .ref me), (1, .ref a)]) hx hb dX2_agreesOn_55 hl (k := 1) rfl rfl (by decide) rfl (fun ls hl => ?_)
        refine lv_goto (tgt := 2) hx hb dX2_agreesOn_58 (by decide) ?_
        exact ih2 (i + 1) _ _ _ (by omega) (by omega) _ _ hP hD hS ls (lv_sub hl [0, 2, 3] rfl)
  exact lp2 _ 0 g1 g2 g3 (Nat.zero_le _) (Nat.lt_succ_self _) _ _ hP hD hS ls (lv_sub hl [0, 1, 2] rfl)
