
theorem lk_X11_129 : GoodIn WSL (wsV RX11 129 RX11 yX11_costOf (ws_ yX11_costOf cX11_costOf 8 (some .int))) := gd_app (List.forall_mem_cons.mpr ⟨wd_24_6, List.forall_mem_cons.mpr ⟨wd_24_7, List.forall_mem_cons.mpr ⟨wd_24_8, List.forall_mem_cons.mpr ⟨wd_1_5, fun _ h => nomatch h⟩⟩⟩⟩) (gd_ wd_24_9)
theorem cwV_X11_costOf : yX11_costOf.cls = RX11 ∧ yX11_costOf.cls ≠ "java/lang/invoke/MethodHandle" ∧ yX11_costOf.cls ≠ "java/lang/invoke/VarHandle" ∧ (parseMethodDescriptor yX11_costOf.desc).map (fun d => d.parameters.length) = some 1 := by decide +kernel
theorem lk_X11_132 : GoodIn WSL (wsV RX11 132 RX11 yX11_likenessOf (ws_ yX11_likenessOf cX11_likenessOf 6 (some .int))) := gd_app (List.forall_mem_cons.mpr ⟨wd_26_17, List.forall_mem_cons.mpr ⟨wd_26_18, List.forall_mem_cons.mpr ⟨wd_26_19, List.forall_mem_cons.mpr ⟨wd_1_5, fun _ h => nomatch h⟩⟩⟩⟩) (gd_ wd_26_20)
theorem cwV_X11_likenessOf : yX11_likenessOf.cls = RX11 ∧ yX11_likenessOf.cls ≠ "java/lang/invoke/MethodHandle" ∧ yX11_likenessOf.cls ≠ "java/lang/invoke/VarHandle" ∧ (parseMethodDescriptor yX11_likenessOf.desc).map (fun d => d.parameters.length) = some 1 := by decide +kernel
theorem lk_X11_135 : GoodIn WSL (wsV RX11 135 RX11 yX11_missingOf (ws_ yX11_missingOf cX11_missingOf 7 (some .int))) := gd_app (List.forall_mem_cons.mpr ⟨wd_27_17, List.forall_mem_cons.mpr ⟨wd_27_18, List.forall_mem_cons.mpr ⟨wd_27_19, List.forall_mem_cons.mpr ⟨wd_1_5, fun _ h => nomatch h⟩⟩⟩⟩) (gd_ wd_27_20)
theorem cwV_X11_missingOf : yX11_missingOf.cls = RX11 ∧ yX11_missingOf.cls ≠ "java/lang/invoke/MethodHandle" ∧ yX11_missingOf.cls ≠ "java/lang/invoke/VarHandle" ∧ (parseMethodDescriptor yX11_missingOf.desc).map (fun d => d.parameters.length) = some 1 := by decide +kernel
theorem lk_X11_138 : GoodIn WSL (wsV RX11 138 RX11 yX11_scoreOf (ws_ yX11_scoreOf cX11_scoreOf 3 (some .int))) := gd_app (List.forall_mem_cons.mpr ⟨wd_28_18, List.forall_mem_cons.mpr ⟨wd_28_19, List.forall_mem_cons.mpr ⟨wd_28_20, List.forall_mem_cons.mpr ⟨wd_1_5, fun _ h => nomatch h⟩⟩⟩⟩) (gd_ wd_28_21)
theorem cwV_X11_scoreOf : yX11_scoreOf.cls = RX11 ∧ yX11_scoreOf.cls ≠ "java/lang/invoke/MethodHandle" ∧ yX11_scoreOf.cls ≠ "java/lang/invoke/VarHandle" ∧ (parseMethodDescriptor yX11_scoreOf.desc).map (fun d => d.parameters.length) = some 2 := by decide +kernel
set_option maxHeartbeats 4000000 in
set_option maxRecDepth 100000 in
theorem m_X11_likenessOf (l : Launch) (g : GT) (ad : Nat → Nat) (th dn nt tn nu ns tz : Int) (f2 f7 f8 f19 f20 : Nat → Int) (u : Nat) (x y : List Int) (hw : WB f2) (hu : u < 40) (htz : tz = (x.length : Int)) (hx9 : TT x f19) (h8 : f8 u = (y.length : Int)) (hy : RWS f7 (60 * u) y) : Met l yX11_likenessOf (ws_ yX11_likenessOf cX11_likenessOf 6 (some .int)) (rmm 3 0 0) (jPc g [.ref (ad 0), vi (u : Int)] (fun H => PP g [ob (ad 0) 10 [vi th, .ref (ad 1), vi dn, .ref (ad 2), .ref (ad 3), vi nt, .ref (ad 4), .ref (ad 5), .ref (ad 6), vi tn, vi nu, .ref (ad 7), .ref (ad 8), .ref (ad 9), .ref (ad 10), .ref (ad 11), .ref (ad 12), vi ns, .ref (ad 13), .ref (ad 14), .ref (ad 15), .ref (ad 16), .ref (ad 17), .ref (ad 18), .ref (ad 19), vi tz, .ref (ad 20), .ref (ad 21), .ref (ad 22)], aI g (ad 2) 4 f2, aI g (ad 7) 2400 f7, aI g (ad 8) 40 f8, aI g (ad 19) 60 f19, aI g (ad 20) 3721 f20] H ∧ va_D (fun q => gb g ≤ q) [ob (ad 0) 10 [vi th, .ref (ad 1), vi dn, .ref (ad 2), .ref (ad 3), vi nt, .ref (ad 4), .ref (ad 5), .ref (ad 6), vi tn, vi nu, .ref (ad 7), .ref (ad 8), .ref (ad 9), .ref (ad 10), .ref (ad 11), .ref (ad 12), vi ns, .ref (ad 13), .ref (ad 14), .ref (ad 15), .ref (ad 16), .ref (ad 17), .ref (ad 18), .ref (ad 19), vi tz, .ref (ad 20), .ref (ad 21), .ref (ad 22)], aI g (ad 2) 4 f2, aI g (ad 7) 2400 f7, aI g (ad 8) 40 f8, aI g (ad 19) 60 f19, aI g (ad 20) 3721 f20])) (jQi (fun z H1 => z = lk f2 x y ∧ ∃ g20 : Nat → Int, PP g [ob (ad 0) 10 [vi th, .ref (ad 1), vi dn, .ref (ad 2), .ref (ad 3), vi nt, .ref (ad 4), .ref (ad 5), .ref (ad 6), vi tn, vi nu, .ref (ad 7), .ref (ad 8), .ref (ad 9), .ref (ad 10), .ref (ad 11), .ref (ad 12), vi ns, .ref (ad 13), .ref (ad 14), .ref (ad 15), .ref (ad 16), .ref (ad 17), .ref (ad 18), .ref (ad 19), vi tz, .ref (ad 20), .ref (ad 21), .ref (ad 22)], aI g (ad 2) 4 f2, aI g (ad 7) 2400 f7, aI g (ad 8) 40 f8, aI g (ad 19) 60 f19, aI g (ad 20) 3721 g20] H1) (jA [ob (ad 0) 10 [vi th, .ref (ad 1), vi dn, .ref (ad 2), .ref (ad 3), vi nt, .ref (ad 4), .ref (ad 5), .ref (ad 6), vi tn, vi nu, .ref (ad 7), .ref (ad 8), .ref (ad 9), .ref (ad 10), .ref (ad 11), .ref (ad 12), vi ns, .ref (ad 13), .ref (ad 14), .ref (ad 15), .ref (ad 16), .ref (ad 17), .ref (ad 18), .ref (ad 19), vi tz, .ref (ad 20), .ref (ad 21), .ref (ad 22)], aI g (ad 2) 4 f2, aI g (ad 7) 2400 f7, aI g (ad 8) 40 f8, aI g (ad 19) 60 f19, aI g (ad 20) 3721 f20])) 0 0 (jA [ob (ad 0) 10 [vi th, .ref (ad 1), vi dn, .ref (ad 2), .ref (ad 3), vi nt, .ref (ad 4), .ref (ad 5), .ref (ad 6), vi tn, vi nu, .ref (ad 7), .ref (ad 8), .ref (ad 9), .ref (ad 10), .ref (ad 11), .ref (ad 12), vi ns, .ref (ad 13), .ref (ad 14), .ref (ad 15), .ref (ad 16), .ref (ad 17), .ref (ad 18), .ref (ad 19), vi tz, .ref (ad 20), .ref (ad 21), .ref (ad 22)], aI g (ad 2) 4 f2, aI g (ad 7) 2400 f7, aI g (ad 8) 40 f8, aI g (ad 19) 60 f19, aI g (ad 20) 3721 f20]) := by
  refine jb_M (by decide) (Nat.le_of_ble_eq_true rfl) ?_
  intro p e s m below meth cq hx hb hr hml hown htl hlk hnm hKK hpre ls hl
  have hown : s.vm.findClass RX11 = some m.cls := hown
  have hl : lv_has ls 6 [(0, .ref (ad 0)), (1, vi (u : Int))] := hl
  obtain ⟨hP, hD0⟩ := hpre
  have hxl := hx9.len
  have hyl := hy.len
  have hD : va_D (jA [ob (ad 0) 10 [vi th, .ref (ad 1), vi dn, .ref (ad 2), .ref (ad 3), vi nt, .ref (ad 4), .ref (ad 5), .ref (ad 6), vi tn, vi nu, .ref (ad 7), .ref (ad 8), .ref (ad 9), .ref (ad 10), .ref (ad 11), .ref (ad 12), vi ns, .ref (ad 13), .ref (ad 14), .ref (ad 15), .ref (ad 16), .ref (ad 17), .ref (ad 18), .ref (ad 19), vi tz, .ref (ad 20), .ref (ad 21), .ref (ad 22)], aI g (ad 2) 4 f2, aI g (ad 7) 2400 f7, aI g (ad 8) 40 f8, aI g (ad 19) 60 f19, aI g (ad 20) 3721 f20]) [ob (ad 0) 10 [vi th, .ref (ad 1), vi dn, .ref (ad 2), .ref (ad 3), vi nt, .ref (ad 4), .ref (ad 5), .ref (ad 6), vi tn, vi nu, .ref (ad 7), .ref (ad 8), .ref (ad 9), .ref (ad 10), .ref (ad 11), .ref (ad 12), vi ns, .ref (ad 13), .ref (ad 14), .ref (ad 15), .ref (ad 16), .ref (ad 17), .ref (ad 18), .ref (ad 19), vi tz, .ref (ad 20), .ref (ad 21), .ref (ad 22)], aI g (ad 2) 4 f2, aI g (ad 7) 2400 f7, aI g (ad 8) 40 f8, aI g (ad 19) 60 f19, aI g (ad 20) 3721 f20] := hD0.inD
  have hAb : ∀ q, (jA [ob (ad 0) 10 [vi th, .ref (ad 1), vi dn, .ref (ad 2), .ref (ad 3), vi nt, .ref (ad 4), .ref (ad 5), .ref (ad 6), vi tn, vi nu, .ref (ad 7), .ref (ad 8), .ref (ad 9), .ref (ad 10), .ref (ad 11), .ref (ad 12), vi ns, .ref (ad 13), .ref (ad 14), .ref (ad 15), .ref (ad 16), .ref (ad 17), .ref (ad 18), .ref (ad 19), vi tz, .ref (ad 20), .ref (ad 21), .ref (ad 22)], aI g (ad 2) 4 f2, aI g (ad 7) 2400 f7, aI g (ad 8) 40 f8, aI g (ad 19) 60 f19, aI g (ad 20) 3721 f20]) q → gb g ≤ q := fun q h => hD0.inA h
  generalize hAe : jA [ob (ad 0) 10 [vi th, .ref (ad 1), vi dn, .ref (ad 2), .ref (ad 3), vi nt, .ref (ad 4), .ref (ad 5), .ref (ad 6), vi tn, vi nu, .ref (ad 7), .ref (ad 8), .ref (ad 9), .ref (ad 10), .ref (ad 11), .ref (ad 12), vi ns, .ref (ad 13), .ref (ad 14), .ref (ad 15), .ref (ad 16), .ref (ad 17), .ref (ad 18), .ref (ad 19), vi tz, .ref (ad 20), .ref (ad 21), .ref (ad 22)], aI g (ad 2) 4 f2, aI g (ad 7) 2400 f7, aI g (ad 8) 40 f8, aI g (ad 19) 60 f19, aI g (ad 20) 3721 f20] = A at *
  have hS : va_S A s.heap s.heap [] := va_S.rf
  suffices K : ∀ (H : Heap) (locs : List Loc), PP g [ob (ad 0) 10 [vi th, .ref (ad 1), vi dn, .ref (ad 2), .ref (ad 3), vi nt, .ref (ad 4), .ref (ad 5), .ref (ad 6), vi tn, vi nu, .ref (ad 7), .ref (ad 8), .ref (ad 9), .ref (ad 10), .ref (ad 11), .ref (ad 12), vi ns, .ref (ad 13), .ref (ad 14), .ref (ad 15), .ref (ad 16), .ref (ad 17), .ref (ad 18), .ref (ad 19), vi tz, .ref (ad 20), .ref (ad 21), .ref (ad 22)], aI g (ad 2) 4 f2, aI g (ad 7) 2400 f7, aI g (ad 8) 40 f8, aI g (ad 19) 60 f19, aI g (ad 20) 3721 f20] H → va_D A [ob (ad 0) 10 [vi th, .ref (ad 1), vi dn, .ref (ad 2), .ref (ad 3), vi nt, .ref (ad 4), .ref (ad 5), .ref (ad 6), vi tn, vi nu, .ref (ad 7), .ref (ad 8), .ref (ad 9), .ref (ad 10), .ref (ad 11), .ref (ad 12), vi ns, .ref (ad 13), .ref (ad 14), .ref (ad 15), .ref (ad 16), .ref (ad 17), .ref (ad 18), .ref (ad 19), vi tz, .ref (ad 20), .ref (ad 21), .ref (ad 22)], aI g (ad 2) 4 f2, aI g (ad 7) 2400 f7, aI g (ad 8) 40 f8, aI g (ad 19) 60 f19, aI g (ad 20) 3721 f20] → va_S A s.heap H locs → ∀ ls : Array Slot, lv_has ls 6 [(0, .ref (ad 0)), (1, vi (u : Int))] → W p l e (rmm 3 0 0) s m ([.ref (ad 0), vi (u : Int)] : List Value).toArray below meth cq H locs 0 0 (MQ below (jQi (fun z H1 => z = lk f2 x y ∧ ∃ g20 : Nat → Int, PP g [ob (ad 0) 10 [vi th, .ref (ad 1), vi dn, .ref (ad 2), .ref (ad 3), vi nt, .ref (ad 4), .ref (ad 5), .ref (ad 6), vi tn, vi nu, .ref (ad 7), .ref (ad 8), .ref (ad 9), .ref (ad 10), .ref (ad 11), .ref (ad 12), vi ns, .ref (ad 13), .ref (ad 14), .ref (ad 15), .ref (ad 16), .ref (ad 17), .ref (ad 18), .ref (ad 19), vi tz, .ref (ad 20), .ref (ad 21), .ref (ad 22)], aI g (ad 2) 4 f2, aI g (ad 7) 2400 f7, aI g (ad 8) 40 f8, aI g (ad 19) 60 f19, aI g (ad 20) 3721 g20] H1) A) ([.ref (ad 0), vi (u : Int)] : List Value).toArray s 0 0 A) (F0 m 0 ls []) from K _ _ hP hD hS _ hl
  clear hl; intro H locs hP hD hS ls hl
  refine jr_iconst hx hb dX11_likenessOf_0 ?_
  refine lv_istore_n (lv' := [(2, vi 0), (0, .ref (ad 0)), (1, vi (u : Int))]) hx hb dX11_likenessOf_1 rfl hl (by decide) rfl (fun ls hl => ?_)
  refine jr_iconst hx hb dX11_likenessOf_2 ?_
  refine lv_istore_n (lv' := [(3, vi 0), (2, vi 0), (0, .ref (ad 0)), (1, vi (u : Int))]) hx hb dX11_likenessOf_3 rfl hl (by decide) rfl (fun ls hl => ?_)
  refine jr_iconst hx hb dX11_likenessOf_4 ?_
  refine lv_istore (lv' := [(4, vi 0), (3, vi 0), (2, vi 0), (0, .ref (ad 0)), (1, vi (u : Int))]) hx hb dX11_likenessOf_5 hl (by decide) rfl (fun ls hl => ?_)
  have lp7 : ∀ (N : Nat) (i : Nat) (n : Int), (i ≤ x.length) → (0 ≤ n ∧ n ≤ 540) → (wtA f2 (x.drop i) n = wtA f2 x 0) → x.length - i < N → ∀ (H : Heap) (locs : List Loc), PP g [ob (ad 0) 10 [vi th, .ref (ad 1), vi dn, .ref (ad 2), .ref (ad 3), vi nt, .ref (ad 4), .ref (ad 5), .ref (ad 6), vi tn, vi nu, .ref (ad 7), .ref (ad 8), .ref (ad 9), .ref (ad 10), .ref (ad 11), .ref (ad 12), vi ns, .ref (ad 13), .ref (ad 14), .ref (ad 15), .ref (ad 16), .ref (ad 17), .ref (ad 18), .ref (ad 19), vi tz, .ref (ad 20), .ref (ad 21), .ref (ad 22)], aI g (ad 2) 4 f2, aI g (ad 7) 2400 f7, aI g (ad 8) 40 f8, aI g (ad 19) 60 f19, aI g (ad 20) 3721 f20] H → va_D A [ob (ad 0) 10 [vi th, .ref (ad 1), vi dn, .ref (ad 2), .ref (ad 3), vi nt, .ref (ad 4), .ref (ad 5), .ref (ad 6), vi tn, vi nu, .ref (ad 7), .ref (ad 8), .ref (ad 9), .ref (ad 10), .ref (ad 11), .ref (ad 12), vi ns, .ref (ad 13), .ref (ad 14), .ref (ad 15), .ref (ad 16), .ref (ad 17), .ref (ad 18), .ref (ad 19), vi tz, .ref (ad 20), .ref (ad 21), .ref (ad 22)], aI g (ad 2) 4 f2, aI g (ad 7) 2400 f7, aI g (ad 8) 40 f8, aI g (ad 19) 60 f19, aI g (ad 20) 3721 f20] → va_S A s.heap H locs → ∀ ls : Array Slot, lv_has ls 6 [(4, vi (i : Int)), (3, vi 0), (2, vi n), (0, .ref (ad 0)), (1, vi (u : Int))] → W p l e (rmm 3 0 0) s m ([.ref (ad 0), vi (u : Int)] : List Value).toArray below meth cq H locs 0 0 (MQ below (jQi (fun z H1 => z = lk f2 x y ∧ ∃ g20 : Nat → Int, PP g [ob (ad 0) 10 [vi th, .ref (ad 1), vi dn, .ref (ad 2), .ref (ad 3), vi nt, .ref (ad 4), .ref (ad 5), .ref (ad 6), vi tn, vi nu, .ref (ad 7), .ref (ad 8), .ref (ad 9), .ref (ad 10), .ref (ad 11), .ref (ad 12), vi ns, .ref (ad 13), .ref (ad 14), .ref (ad 15), .ref (ad 16), .ref (ad 17), .ref (ad 18), .ref (ad 19), vi tz, .ref (ad 20), .ref (ad 21), .ref (ad 22)], aI g (ad 2) 4 f2, aI g (ad 7) 2400 f7, aI g (ad 8) 40 f8, aI g (ad 19) 60 f19, aI g (ad 20) 3721 g20] H1) A) ([.ref (ad 0), vi (u : Int)] : List Value).toArray s 0 0 A) (F0 m 7 ls []) := by
    intro N
    induction N with
    | zero => intro i n hi hn0 hF hM; exact absurd hM (Nat.not_lt_zero _)
    | succ N ih7 =>
      intro i n hi hn0 hF hM H locs hP hD hS ls hl
      refine lv_iload hx hb dX11_likenessOf_7 (lv_at hl 0 rfl) ?_
      refine lv_aload_n hx hb dX11_likenessOf_9 rfl (lv_at hl 3 rfl) ?_
      refine va_get (D := gD g) (ci := 10) (v := vi tz) (C := RX11) (T := TX11) (N := 29) hx hb htl ck_X11 hown hKK.k hP 0 rfl rfl 25 (by decide) (htl _ wd_24_5) (fun _ h9 => h9) rfl dX11_likenessOf_10 ?_
      refine jr_ge (tgt := 36) hx hb dX11_likenessOf_13 (by decide) ⟨by omega, by omega⟩ ⟨by omega, by omega⟩ (fun c13 => ?_) (fun c13 => ?_)
      · have hone : n = wtA f2 x 0 := by rw [← hF, dr_e (by omega)]; rfl
        have hob := wtA_b hw x 0
        refine jr_iconst hx hb dX11_likenessOf_36 ?_
        refine lv_istore (lv' := [(4, vi 0), (3, vi 0), (2, vi n), (0, .ref (ad 0)), (1, vi (u : Int))]) hx hb dX11_likenessOf_37 hl (by decide) rfl (fun ls hl => ?_)
        have lp39 : ∀ (N : Nat) (i2 : Nat) (n2 : Int), (i2 ≤ y.length) → (0 ≤ n2 ∧ n2 ≤ 540) → (wtA f2 (y.drop i2) n2 = wtA f2 y 0) → y.length - i2 < N → ∀ (H : Heap) (locs : List Loc), PP g [ob (ad 0) 10 [vi th, .ref (ad 1), vi dn, .ref (ad 2), .ref (ad 3), vi nt, .ref (ad 4), .ref (ad 5), .ref (ad 6), vi tn, vi nu, .ref (ad 7), .ref (ad 8), .ref (ad 9), .ref (ad 10), .ref (ad 11), .ref (ad 12), vi ns, .ref (ad 13), .ref (ad 14), .ref (ad 15), .ref (ad 16), .ref (ad 17), .ref (ad 18), .ref (ad 19), vi tz, .ref (ad 20), .ref (ad 21), .ref (ad 22)], aI g (ad 2) 4 f2, aI g (ad 7) 2400 f7, aI g (ad 8) 40 f8, aI g (ad 19) 60 f19, aI g (ad 20) 3721 f20] H → va_D A [ob (ad 0) 10 [vi th, .ref (ad 1), vi dn, .ref (ad 2), .ref (ad 3), vi nt, .ref (ad 4), .ref (ad 5), .ref (ad 6), vi tn, vi nu, .ref (ad 7), .ref (ad 8), .ref (ad 9), .ref (ad 10), .ref (ad 11), .ref (ad 12), vi ns, .ref (ad 13), .ref (ad 14), .ref (ad 15), .ref (ad 16), .ref (ad 17), .ref (ad 18), .ref (ad 19), vi tz, .ref (ad 20), .ref (ad 21), .ref (ad 22)], aI g (ad 2) 4 f2, aI g (ad 7) 2400 f7, aI g (ad 8) 40 f8, aI g (ad 19) 60 f19, aI g (ad 20) 3721 f20] → va_S A s.heap H locs → ∀ ls : Array Slot, lv_has ls 6 [(4, vi (i2 : Int)), (3, vi n2), (2, vi n), (0, .ref (ad 0)), (1, vi (u : Int))] → W p l e (rmm 3 0 0) s m ([.ref (ad 0), vi (u : Int)] : List Value).toArray below meth cq H locs 0 0 (MQ below (jQi (fun z H1 => z = lk f2 x y ∧ ∃ g20 : Nat → Int, PP g [ob (ad 0) 10 [vi th, .ref (ad 1), vi dn, .ref (ad 2), .ref (ad 3), vi nt, .ref (ad 4), .ref (ad 5), .ref (ad 6), vi tn, vi nu, .ref (ad 7), .ref (ad 8), .ref (ad 9), .ref (ad 10), .ref (ad 11), .ref (ad 12), vi ns, .ref (ad 13), .ref (ad 14), .ref (ad 15), .ref (ad 16), .ref (ad 17), .ref (ad 18), .ref (ad 19), vi tz, .ref (ad 20), .ref (ad 21), .ref (ad 22)], aI g (ad 2) 4 f2, aI g (ad 7) 2400 f7, aI g (ad 8) 40 f8, aI g (ad 19) 60 f19, aI g (ad 20) 3721 g20] H1) A) ([.ref (ad 0), vi (u : Int)] : List Value).toArray s 0 0 A) (F0 m 39 ls []) := by
          intro N
          induction N with
          | zero => intro i2 n2 hi2 hn2 hF2 hM; exact absurd hM (Nat.not_lt_zero _)
          | succ N ih39 =>
            intro i2 n2 hi2 hn2 hF2 hM H locs hP hD hS ls hl
            refine lv_iload hx hb dX11_likenessOf_39 (lv_at hl 0 rfl) ?_
            refine lv_aload_n hx hb dX11_likenessOf_41 rfl (lv_at hl 3 rfl) ?_
            refine va_get (D := gD g) (ci := 10) (v := .ref (ad 8)) (C := RX11) (T := TX11) (N := 29) hx hb htl ck_X11 hown hKK.k hP 0 rfl rfl 12 (by decide) (htl _ wd_5_22) (fun _ h9 => h9) rfl dX11_likenessOf_42 ?_
            refine lv_iload_n hx hb dX11_likenessOf_45 rfl (lv_at hl 4 rfl) ?_
            refine jr_iald hx hb hKK.k hP 3 rfl u (by omega) (by omega) (by omega) dX11_likenessOf_46 ?_
            refine jr_ge (tgt := 75) hx hb dX11_likenessOf_47 (by decide) ⟨by omega, by omega⟩ ⟨by omega, by omega⟩ (fun c47 => ?_) (fun c47 => ?_)
            · have hoth : n2 = wtA f2 y 0 := by rw [← hF2, dr_e (by omega)]; rfl
              have hob2 := wtA_b hw y 0
              refine lv_iload_n hx hb dX11_likenessOf_75 rfl (lv_at hl 2 rfl) ?_
              refine lv_iload_n hx hb dX11_likenessOf_76 rfl (lv_at hl 1 rfl) ?_
              refine jr_le (tgt := 84) hx hb dX11_likenessOf_77 (by decide) ⟨by omega, by omega⟩ ⟨by omega, by omega⟩ (fun c77 => ?_) (fun c77 => ?_)
              · refine lv_iload_n hx hb dX11_likenessOf_84 rfl (lv_at hl 1 rfl) ?_
                refine lv_istore (lv' := [(4, vi n2), (3, vi n2), (2, vi n), (0, .ref (ad 0)), (1, vi (u : Int))]) hx hb dX11_likenessOf_85 hl (by decide) rfl (fun ls hl => ?_)
                refine lv_aload_n hx hb dX11_likenessOf_87 rfl (lv_at hl 3 rfl) ?_
                refine lv_iload_n hx hb dX11_likenessOf_88 rfl (lv_at hl 4 rfl) ?_
                have hDc : va_D A [ob (ad 0) 10 [vi th, .ref (ad 1), vi dn, .ref (ad 2), .ref (ad 3), vi nt, .ref (ad 4), .ref (ad 5), .ref (ad 6), vi tn, vi nu, .ref (ad 7), .ref (ad 8), .ref (ad 9), .ref (ad 10), .ref (ad 11), .ref (ad 12), vi ns, .ref (ad 13), .ref (ad 14), .ref (ad 15), .ref (ad 16), .ref (ad 17), .ref (ad 18), .ref (ad 19), vi tz, .ref (ad 20), .ref (ad 21), .ref (ad 22)], aI g (ad 2) 4 f2, aI g (ad 7) 2400 f7, aI g (ad 8) 40 f8, aI g (ad 19) 60 f19, aI g (ad 20) 3721 f20] := hD.sub [0, 1, 2, 3, 4, 5] (by decide) rfl
                refine jk_Qi (va_runV (As := [vi (u : Int)]) (rest := []) ⟨hx, hb, hml, hown, htl⟩ (m_X11_costOf l g ad th dn nt tn nu ns tz f2 f7 f8 f19 f20 u x y hw hu htz hx9 h8 hy) (cwV 1 htl lk_X11_129 rfl rfl rfl cwV_X11_costOf ⟨Nat.le_of_ble_eq_true rfl, Nat.le_of_ble_eq_true rfl⟩) (jp_V hKK hS hAb (va_recv hKK.k hP (ci := 10) (q0 := 0) rfl rfl) ⟨hP, hDc.weaken (fun _ q _ h => hAb _ h)⟩) rfl rfl hl.1 rfl (lv_room (Nat.le_of_ble_eq_true rfl)) dX11_likenessOf_89 ⟨Nat.le_of_ble_eq_true rfl, Nat.le_of_ble_eq_true rfl⟩) hS (fun q _ h => hDc.inA h) (fun q h => hDc.inA h) (fun z89 H1 locs hz89 hzs hks hS => ?_)
                obtain ⟨hz89, g20_89, hP1⟩ := hz89
                obtain ⟨hP, hD⟩ := jput (wc := [ob (ad 0) 10 [vi th, .ref (ad 1), vi dn, .ref (ad 2), .ref (ad 3), vi nt, .ref (ad 4), .ref (ad 5), .ref (ad 6), vi tn, vi nu, .ref (ad 7), .ref (ad 8), .ref (ad 9), .ref (ad 10), .ref (ad 11), .ref (ad 12), vi ns, .ref (ad 13), .ref (ad 14), .ref (ad 15), .ref (ad 16), .ref (ad 17), .ref (ad 18), .ref (ad 19), vi tz, .ref (ad 20), .ref (ad 21), .ref (ad 22)], aI g (ad 2) 4 f2, aI g (ad 7) 2400 f7, aI g (ad 8) 40 f8, aI g (ad 19) 60 f19, aI g (ad 20) 3721 f20]) (w1 := [ob (ad 0) 10 [vi th, .ref (ad 1), vi dn, .ref (ad 2), .ref (ad 3), vi nt, .ref (ad 4), .ref (ad 5), .ref (ad 6), vi tn, vi nu, .ref (ad 7), .ref (ad 8), .ref (ad 9), .ref (ad 10), .ref (ad 11), .ref (ad 12), vi ns, .ref (ad 13), .ref (ad 14), .ref (ad 15), .ref (ad 16), .ref (ad 17), .ref (ad 18), .ref (ad 19), vi tz, .ref (ad 20), .ref (ad 21), .ref (ad 22)], aI g (ad 2) 4 f2, aI g (ad 7) 2400 f7, aI g (ad 8) 40 f8, aI g (ad 19) 60 f19, aI g (ad 20) 3721 g20_89]) hP hD [0, 1, 2, 3, 4, 5] rfl rfl hks (fun q _ h => h) hP1
                clear hzs hks; generalize H1 = H at hP hD hS ⊢
                have hP : PP g [ob (ad 0) 10 [vi th, .ref (ad 1), vi dn, .ref (ad 2), .ref (ad 3), vi nt, .ref (ad 4), .ref (ad 5), .ref (ad 6), vi tn, vi nu, .ref (ad 7), .ref (ad 8), .ref (ad 9), .ref (ad 10), .ref (ad 11), .ref (ad 12), vi ns, .ref (ad 13), .ref (ad 14), .ref (ad 15), .ref (ad 16), .ref (ad 17), .ref (ad 18), .ref (ad 19), vi tz, .ref (ad 20), .ref (ad 21), .ref (ad 22)], aI g (ad 2) 4 f2, aI g (ad 7) 2400 f7, aI g (ad 8) 40 f8, aI g (ad 19) 60 f19, aI g (ad 20) 3721 g20_89] H := hP
                have hD : va_D A [ob (ad 0) 10 [vi th, .ref (ad 1), vi dn, .ref (ad 2), .ref (ad 3), vi nt, .ref (ad 4), .ref (ad 5), .ref (ad 6), vi tn, vi nu, .ref (ad 7), .ref (ad 8), .ref (ad 9), .ref (ad 10), .ref (ad 11), .ref (ad 12), vi ns, .ref (ad 13), .ref (ad 14), .ref (ad 15), .ref (ad 16), .ref (ad 17), .ref (ad 18), .ref (ad 19), vi tz, .ref (ad 20), .ref (ad 21), .ref (ad 22)], aI g (ad 2) 4 f2, aI g (ad 7) 2400 f7, aI g (ad 8) 40 f8, aI g (ad 19) 60 f19, aI g (ad 20) 3721 g20_89] := hD
                subst hz89
                have tdD := D_b hw x y x.length y.length
                refine lv_istore (lv' := [(5, vi (D f2 x y x.length y.length)), (4, vi n2), (3, vi n2), (2, vi n), (0, .ref (ad 0)), (1, vi (u : Int))]) hx hb dX11_likenessOf_92 hl (by decide) rfl (fun ls hl => ?_)
                refine lv_iload hx hb dX11_likenessOf_94 (lv_at hl 0 rfl) ?_
                refine lv_iload hx hb dX11_likenessOf_96 (lv_at hl 1 rfl) ?_
                refine jr_lt (tgt := 105) hx hb dX11_likenessOf_98 (by decide) ⟨by omega, by omega⟩ ⟨by omega, by omega⟩ (fun c98 => ?_) (fun c98 => ?_)
                · refine jr_bipush hx hb dX11_likenessOf_105 (by decide) ?_
                  refine lv_iload hx hb dX11_likenessOf_107 (lv_at hl 1 rfl) ?_
                  refine lv_iload hx hb dX11_likenessOf_109 (lv_at hl 0 rfl) ?_
                  refine jr_isub hx hb dX11_likenessOf_111 ?_
                  refine jr_imul hx hb dX11_likenessOf_112 ?_
                  refine lv_iload hx hb dX11_likenessOf_113 (lv_at hl 1 rfl) ?_
                  refine jr_idiv hx hb (by omega) (by omega) (by omega) (by omega) dX11_likenessOf_115 ?_
                  exact je_Qi hx hb hr hlk rfl hS (⟨by unfold lk lkf; rw [if_neg (by omega), show max (wtA f2 x 0) (wtA f2 y 0) = n2 by omega], _, hP⟩) dX11_likenessOf_116
                · refine jr_iconst hx hb dX11_likenessOf_101 ?_
                  refine lv_goto (tgt := 116) hx hb dX11_likenessOf_102 (by decide) ?_
                  exact je_Qi hx hb hr hlk rfl hS (⟨by unfold lk lkf; rw [if_pos (by omega)], _, hP⟩) dX11_likenessOf_116
              · refine lv_iload_n hx hb dX11_likenessOf_80 rfl (lv_at hl 2 rfl) ?_
                refine lv_goto (tgt := 85) hx hb dX11_likenessOf_81 (by decide) ?_
                refine lv_istore (lv' := [(4, vi n), (3, vi n2), (2, vi n), (0, .ref (ad 0)), (1, vi (u : Int))]) hx hb dX11_likenessOf_85 hl (by decide) rfl (fun ls hl => ?_)
                refine lv_aload_n hx hb dX11_likenessOf_87 rfl (lv_at hl 3 rfl) ?_
                refine lv_iload_n hx hb dX11_likenessOf_88 rfl (lv_at hl 4 rfl) ?_
                have hDc : va_D A [ob (ad 0) 10 [vi th, .ref (ad 1), vi dn, .ref (ad 2), .ref (ad 3), vi nt, .ref (ad 4), .ref (ad 5), .ref (ad 6), vi tn, vi nu, .ref (ad 7), .ref (ad 8), .ref (ad 9), .ref (ad 10), .ref (ad 11), .ref (ad 12), vi ns, .ref (ad 13), .ref (ad 14), .ref (ad 15), .ref (ad 16), .ref (ad 17), .ref (ad 18), .ref (ad 19), vi tz, .ref (ad 20), .ref (ad 21), .ref (ad 22)], aI g (ad 2) 4 f2, aI g (ad 7) 2400 f7, aI g (ad 8) 40 f8, aI g (ad 19) 60 f19, aI g (ad 20) 3721 f20] := hD.sub [0, 1, 2, 3, 4, 5] (by decide) rfl
                refine jk_Qi (va_runV (As := [vi (u : Int)]) (rest := []) ⟨hx, hb, hml, hown, htl⟩ (m_X11_costOf l g ad th dn nt tn nu ns tz f2 f7 f8 f19 f20 u x y hw hu htz hx9 h8 hy) (cwV 1 htl lk_X11_129 rfl rfl rfl cwV_X11_costOf ⟨Nat.le_of_ble_eq_true rfl, Nat.le_of_ble_eq_true rfl⟩) (jp_V hKK hS hAb (va_recv hKK.k hP (ci := 10) (q0 := 0) rfl rfl) ⟨hP, hDc.weaken (fun _ q _ h => hAb _ h)⟩) rfl rfl hl.1 rfl (lv_room (Nat.le_of_ble_eq_true rfl)) dX11_likenessOf_89 ⟨Nat.le_of_ble_eq_true rfl, Nat.le_of_ble_eq_true rfl⟩) hS (fun q _ h => hDc.inA h) (fun q h => hDc.inA h) (fun z89 H1 locs hz89 hzs hks hS => ?_)
                obtain ⟨hz89, g20_89, hP1⟩ := hz89
                obtain ⟨hP, hD⟩ := jput (wc := [ob (ad 0) 10 [vi th, .ref (ad 1), vi dn, .ref (ad 2), .ref (ad 3), vi nt, .ref (ad 4), .ref (ad 5), .ref (ad 6), vi tn, vi nu, .ref (ad 7), .ref (ad 8), .ref (ad 9), .ref (ad 10), .ref (ad 11), .ref (ad 12), vi ns, .ref (ad 13), .ref (ad 14), .ref (ad 15), .ref (ad 16), .ref (ad 17), .ref (ad 18), .ref (ad 19), vi tz, .ref (ad 20), .ref (ad 21), .ref (ad 22)], aI g (ad 2) 4 f2, aI g (ad 7) 2400 f7, aI g (ad 8) 40 f8, aI g (ad 19) 60 f19, aI g (ad 20) 3721 f20]) (w1 := [ob (ad 0) 10 [vi th, .ref (ad 1), vi dn, .ref (ad 2), .ref (ad 3), vi nt, .ref (ad 4), .ref (ad 5), .ref (ad 6), vi tn, vi nu, .ref (ad 7), .ref (ad 8), .ref (ad 9), .ref (ad 10), .ref (ad 11), .ref (ad 12), vi ns, .ref (ad 13), .ref (ad 14), .ref (ad 15), .ref (ad 16), .ref (ad 17), .ref (ad 18), .ref (ad 19), vi tz, .ref (ad 20), .ref (ad 21), .ref (ad 22)], aI g (ad 2) 4 f2, aI g (ad 7) 2400 f7, aI g (ad 8) 40 f8, aI g (ad 19) 60 f19, aI g (ad 20) 3721 g20_89]) hP hD [0, 1, 2, 3, 4, 5] rfl rfl hks (fun q _ h => h) hP1
                clear hzs hks; generalize H1 = H at hP hD hS ⊢
                have hP : PP g [ob (ad 0) 10 [vi th, .ref (ad 1), vi dn, .ref (ad 2), .ref (ad 3), vi nt, .ref (ad 4), .ref (ad 5), .ref (ad 6), vi tn, vi nu, .ref (ad 7), .ref (ad 8), .ref (ad 9), .ref (ad 10), .ref (ad 11), .ref (ad 12), vi ns, .ref (ad 13), .ref (ad 14), .ref (ad 15), .ref (ad 16), .ref (ad 17), .ref (ad 18), .ref (ad 19), vi tz, .ref (ad 20), .ref (ad 21), .ref (ad 22)], aI g (ad 2) 4 f2, aI g (ad 7) 2400 f7, aI g (ad 8) 40 f8, aI g (ad 19) 60 f19, aI g (ad 20) 3721 g20_89] H := hP
                have hD : va_D A [ob (ad 0) 10 [vi th, .ref (ad 1), vi dn, .ref (ad 2), .ref (ad 3), vi nt, .ref (ad 4), .ref (ad 5), .ref (ad 6), vi tn, vi nu, .ref (ad 7), .ref (ad 8), .ref (ad 9), .ref (ad 10), .ref (ad 11), .ref (ad 12), vi ns, .ref (ad 13), .ref (ad 14), .ref (ad 15), .ref (ad 16), .ref (ad 17), .ref (ad 18), .ref (ad 19), vi tz, .ref (ad 20), .ref (ad 21), .ref (ad 22)], aI g (ad 2) 4 f2, aI g (ad 7) 2400 f7, aI g (ad 8) 40 f8, aI g (ad 19) 60 f19, aI g (ad 20) 3721 g20_89] := hD
                subst hz89
                have tdD := D_b hw x y x.length y.length
                refine lv_istore (lv' := [(5, vi (D f2 x y x.length y.length)), (4, vi n), (3, vi n2), (2, vi n), (0, .ref (ad 0)), (1, vi (u : Int))]) hx hb dX11_likenessOf_92 hl (by decide) rfl (fun ls hl => ?_)
                refine lv_iload hx hb dX11_likenessOf_94 (lv_at hl 0 rfl) ?_
                refine lv_iload hx hb dX11_likenessOf_96 (lv_at hl 1 rfl) ?_
                refine jr_lt (tgt := 105) hx hb dX11_likenessOf_98 (by decide) ⟨by omega, by omega⟩ ⟨by omega, by omega⟩ (fun c98 => ?_) (fun c98 => ?_)
                · refine jr_bipush hx hb dX11_likenessOf_105 (by decide) ?_
                  refine lv_iload hx hb dX11_likenessOf_107 (lv_at hl 1 rfl) ?_
                  refine lv_iload hx hb dX11_likenessOf_109 (lv_at hl 0 rfl) ?_
                  refine jr_isub hx hb dX11_likenessOf_111 ?_
                  refine jr_imul hx hb dX11_likenessOf_112 ?_
                  refine lv_iload hx hb dX11_likenessOf_113 (lv_at hl 1 rfl) ?_
                  refine jr_idiv hx hb (by omega) (by omega) (by omega) (by omega) dX11_likenessOf_115 ?_
                  exact je_Qi hx hb hr hlk rfl hS (⟨by unfold lk lkf; rw [if_neg (by omega), show max (wtA f2 x 0) (wtA f2 y 0) = n by omega], _, hP⟩) dX11_likenessOf_116
                · refine jr_iconst hx hb dX11_likenessOf_101 ?_
                  refine lv_goto (tgt := 116) hx hb dX11_likenessOf_102 (by decide) ?_
                  exact je_Qi hx hb hr hlk rfl hS (⟨by unfold lk lkf; rw [if_pos (by omega)], _, hP⟩) dX11_likenessOf_116
            · refine lv_iload_n hx hb dX11_likenessOf_50 rfl (lv_at hl 1 rfl) ?_
              refine lv_aload_n hx hb dX11_likenessOf_51 rfl (lv_at hl 3 rfl) ?_
              refine lv_aload_n hx hb dX11_likenessOf_52 rfl (lv_at hl 3 rfl) ?_
              refine va_get (D := gD g) (ci := 10) (v := .ref (ad 7)) (C := RX11) (T := TX11) (N := 29) hx hb htl ck_X11 hown hKK.k hP 0 rfl rfl 11 (by decide) (htl _ wd_5_21) (fun _ h9 => h9) rfl dX11_likenessOf_53 ?_
              refine jr_bipush hx hb dX11_likenessOf_56 (by decide) ?_
              refine lv_iload_n hx hb dX11_likenessOf_58 rfl (lv_at hl 4 rfl) ?_
              refine jr_imul hx hb dX11_likenessOf_59 ?_
              refine lv_iload hx hb dX11_likenessOf_60 (lv_at hl 0 rfl) ?_
              refine jr_iadd hx hb dX11_likenessOf_62 ?_
              refine jr_iald hx hb hKK.k hP 2 rfl (60 * u + i2) (by omega) (by omega) (by omega) dX11_likenessOf_63 ?_
              have tby := hy.b (j := i2) (by omega)
              refine jr_nm (b := (y.getD i2 0)) (hy.at (by omega)) ?_
              refine jk_Si (va_runV (As := [vi (y.getD i2 0)]) (rest := [vi n2]) ⟨hx, hb, hml, hown, htl⟩ (m_X11_weightOf l g ad th dn nt tn nu ns tz f2 hw (y.getD i2 0) (by omega)) (cwV 1 htl lk_X11_117 rfl rfl rfl cwV_X11_weightOf ⟨Nat.le_of_ble_eq_true rfl, Nat.le_of_ble_eq_true rfl⟩) (jp_V hKK hS hAb (va_recv hKK.k hP (ci := 10) (q0 := 0) rfl rfl) (va_P.sub hP [0, 1] rfl)) rfl rfl hl.1 rfl (lv_room (Nat.le_of_ble_eq_true rfl)) dX11_likenessOf_64 ⟨Nat.le_of_ble_eq_true rfl, Nat.le_of_ble_eq_true rfl⟩) (fun z64 hz64 => ?_)
              subst hz64
              have tw := wk_b hw (kd (y.getD i2 0))
              obtain ⟨hrb2, hrn2⟩ := wt_run hw hF2 hyl (show i2 < y.length by omega)
              refine jr_iadd hx hb dX11_likenessOf_67 ?_
              refine lv_istore_n (lv' := [(3, vi (n2 + (wk f2 (kd (y.getD i2 0))))), (4, vi (i2 : Int)), (2, vi n), (0, .ref (ad 0)), (1, vi (u : Int))]) hx hb dX11_likenessOf_68 rfl hl (by decide) rfl (fun ls hl => ?_)
              refine jr_iinc (lv' := [(4, vi ((i2 : Int) + 1)), (3, vi (n2 + (wk f2 (kd (y.getD i2 0))))), (2, vi n), (0, .ref (ad 0)), (1, vi (u : Int))]) hx hb dX11_likenessOf_69 hl (k := 1) rfl rfl (by decide) rfl (fun ls hl => ?_)
              refine lv_goto (tgt := 39) hx hb dX11_likenessOf_72 (by decide) ?_
              exact ih39 (i2 + 1) _ (by omega) (by omega) (hrn2) (by omega) _ _ hP hD hS ls (lv_sub hl [0, 1, 2, 3, 4] rfl)
        exact lp39 _ 0 0 (Nat.zero_le _) (⟨by omega, by omega⟩) (rfl) (Nat.lt_succ_self _) _ _ hP hD hS ls (lv_sub hl [0, 1, 2, 3, 4] rfl)
      · refine lv_iload_n hx hb dX11_likenessOf_16 rfl (lv_at hl 2 rfl) ?_
        refine lv_aload_n hx hb dX11_likenessOf_17 rfl (lv_at hl 3 rfl) ?_
        refine lv_aload_n hx hb dX11_likenessOf_18 rfl (lv_at hl 3 rfl) ?_
        refine va_get (D := gD g) (ci := 10) (v := .ref (ad 19)) (C := RX11) (T := TX11) (N := 29) hx hb htl ck_X11 hown hKK.k hP 0 rfl rfl 24 (by decide) (htl _ wd_6_10) (fun _ h9 => h9) rfl dX11_likenessOf_19 ?_
        refine lv_iload hx hb dX11_likenessOf_22 (lv_at hl 0 rfl) ?_
        refine jr_iald hx hb hKK.k hP 4 rfl i rfl (by omega) (by omega) dX11_likenessOf_24 ?_
        have tbx := hx9.b (j := i) (by omega)
        refine jr_nm (b := (x.getD i 0)) (hx9.at (by omega)) ?_
        refine jk_Si (va_runV (As := [vi (x.getD i 0)]) (rest := [vi n]) ⟨hx, hb, hml, hown, htl⟩ (m_X11_weightOf l g ad th dn nt tn nu ns tz f2 hw (x.getD i 0) (by omega)) (cwV 1 htl lk_X11_117 rfl rfl rfl cwV_X11_weightOf ⟨Nat.le_of_ble_eq_true rfl, Nat.le_of_ble_eq_true rfl⟩) (jp_V hKK hS hAb (va_recv hKK.k hP (ci := 10) (q0 := 0) rfl rfl) (va_P.sub hP [0, 1] rfl)) rfl rfl hl.1 rfl (lv_room (Nat.le_of_ble_eq_true rfl)) dX11_likenessOf_25 ⟨Nat.le_of_ble_eq_true rfl, Nat.le_of_ble_eq_true rfl⟩) (fun z25 hz25 => ?_)
        subst hz25
        have tw := wk_b hw (kd (x.getD i 0))
        obtain ⟨hrb, hrn⟩ := wt_run hw hF hxl (show i < x.length by omega)
        refine jr_iadd hx hb dX11_likenessOf_28 ?_
        refine lv_istore_n (lv' := [(2, vi (n + (wk f2 (kd (x.getD i 0))))), (4, vi (i : Int)), (3, vi 0), (0, .ref (ad 0)), (1, vi (u : Int))]) hx hb dX11_likenessOf_29 rfl hl (by decide) rfl (fun ls hl => ?_)
        refine jr_iinc (lv' := [(4, vi ((i : Int) + 1)), (2, vi (n + (wk f2 (kd (x.getD i 0))))), (3, vi 0), (0, .ref (ad 0)), (1, vi (u : Int))]) hx hb dX11_likenessOf_30 hl (k := 1) rfl rfl (by decide) rfl (fun ls hl => ?_)
        refine lv_goto (tgt := 7) hx hb dX11_likenessOf_33 (by decide) ?_
        exact ih7 (i + 1) _ (by omega) (by omega) (hrn) (by omega) _ _ hP hD hS ls (lv_sub hl [0, 2, 1, 3, 4] rfl)
  exact lp7 _ 0 0 (Nat.zero_le _) (⟨by omega, by omega⟩) (rfl) (Nat.lt_succ_self _) _ _ hP hD hS ls (lv_sub hl [0, 1, 2, 3, 4] rfl)
set_option maxHeartbeats 4000000 in
set_option maxRecDepth 100000 in
theorem m_X11_missingOf (l : Launch) (g : GT) (ad : Nat → Nat) (th dn nt tn nu ns tz : Int) (f4 f5 f9 f10 f19 : Nat → Int) (u n : Nat) (x y : List Int) (hu : u < 40) (hnt : nt = (n : Int)) (hn : n ≤ 20) (hb4 : ∀ j, j < n → 0 ≤ f4 j ∧ f4 j < 100 ∧ 0 ≤ f5 j ∧ f5 j < 100) (htz : tz = (x.length : Int)) (hx9 : TT x f19) (h10 : f10 u = (y.length : Int)) (hy : RWS f9 (60 * u) y) : Met l yX11_missingOf (ws_ yX11_missingOf cX11_missingOf 7 (some .int)) (rmm 0 0 0) (jPc g [.ref (ad 0), vi (u : Int)] (fun H => PP g [ob (ad 0) 10 [vi th, .ref (ad 1), vi dn, .ref (ad 2), .ref (ad 3), vi nt, .ref (ad 4), .ref (ad 5), .ref (ad 6), vi tn, vi nu, .ref (ad 7), .ref (ad 8), .ref (ad 9), .ref (ad 10), .ref (ad 11), .ref (ad 12), vi ns, .ref (ad 13), .ref (ad 14), .ref (ad 15), .ref (ad 16), .ref (ad 17), .ref (ad 18), .ref (ad 19), vi tz, .ref (ad 20), .ref (ad 21), .ref (ad 22)], aI g (ad 4) 20 f4, aI g (ad 5) 20 f5, aI g (ad 9) 2400 f9, aI g (ad 10) 40 f10, aI g (ad 19) 60 f19] H)) (jSi (fun z => z = cm f4 f5 x y n)) 0 0 jN := by
  refine jb_M (by decide) (Nat.le_of_ble_eq_true rfl) ?_
  intro p e s m below meth cq hx hb hr hml hown htl hlk hnm hKK hpre ls hl
  have hown : s.vm.findClass RX11 = some m.cls := hown
  have hl : lv_has ls 7 [(0, .ref (ad 0)), (1, vi (u : Int))] := hl
  have hP : PP g [ob (ad 0) 10 [vi th, .ref (ad 1), vi dn, .ref (ad 2), .ref (ad 3), vi nt, .ref (ad 4), .ref (ad 5), .ref (ad 6), vi tn, vi nu, .ref (ad 7), .ref (ad 8), .ref (ad 9), .ref (ad 10), .ref (ad 11), .ref (ad 12), vi ns, .ref (ad 13), .ref (ad 14), .ref (ad 15), .ref (ad 16), .ref (ad 17), .ref (ad 18), .ref (ad 19), vi tz, .ref (ad 20), .ref (ad 21), .ref (ad 22)], aI g (ad 4) 20 f4, aI g (ad 5) 20 f5, aI g (ad 9) 2400 f9, aI g (ad 10) 40 f10, aI g (ad 19) 60 f19] s.heap := hpre
  have hxl := hx9.len
  have hyl := hy.len
  refine jr_iconst hx hb dX11_missingOf_0 ?_
  refine lv_istore_n (lv' := [(2, vi 0), (0, .ref (ad 0)), (1, vi (u : Int))]) hx hb dX11_missingOf_1 rfl hl (by decide) rfl (fun ls hl => ?_)
  refine jr_iconst hx hb dX11_missingOf_2 ?_
  refine lv_istore_n (lv' := [(3, vi 0), (2, vi 0), (0, .ref (ad 0)), (1, vi (u : Int))]) hx hb dX11_missingOf_3 rfl hl (by decide) rfl (fun ls hl => ?_)
  have lp4 : ∀ (N : Nat) (i : Nat) (k : Int), (i ≤ n) → (k = cm f4 f5 x y i) → n - i < N → ∀ ls : Array Slot, lv_has ls 7 [(3, vi (i : Int)), (2, vi k), (0, .ref (ad 0)), (1, vi (u : Int))] → W p l e (rmm 0 0 0) s m ([.ref (ad 0), vi (u : Int)] : List Value).toArray below meth cq s.heap [] 0 0 (MQ below (jSi (fun z => z = cm f4 f5 x y n)) ([.ref (ad 0), vi (u : Int)] : List Value).toArray s 0 0 jN) (F0 m 4 ls []) := by
    intro N
    induction N with
    | zero => intro i k hi hF hM; exact absurd hM (Nat.not_lt_zero _)
    | succ N ih4 =>
      intro i k hi hF hM ls hl
      have hcb := cm_b f4 f5 x y i
      refine lv_iload_n hx hb dX11_missingOf_4 rfl (lv_at hl 0 rfl) ?_
      refine lv_aload_n hx hb dX11_missingOf_5 rfl (lv_at hl 2 rfl) ?_
      refine va_get (D := gD g) (ci := 10) (v := vi nt) (C := RX11) (T := TX11) (N := 29) hx hb htl ck_X11 hown hKK.k hP 0 rfl rfl 5 (by decide) (htl _ wd_13_4) (fun _ h9 => h9) rfl dX11_missingOf_6 ?_
      refine jr_ge (tgt := 141) hx hb dX11_missingOf_9 (by decide) ⟨by omega, by omega⟩ ⟨by omega, by omega⟩ (fun c9 => ?_) (fun c9 => ?_)
      · refine lv_iload_n hx hb dX11_missingOf_141 rfl (lv_at hl 1 rfl) ?_
        exact je_Si hx hb hr hlk rfl (by obtain rfl : i = n := (by omega); exact hF) dX11_missingOf_142
      · have hbi := hb4 i (by omega)
        refine jr_iconst hx hb dX11_missingOf_12 ?_
        refine lv_istore (lv' := [(4, vi 0), (3, vi (i : Int)), (2, vi k), (0, .ref (ad 0)), (1, vi (u : Int))]) hx hb dX11_missingOf_13 hl (by decide) rfl (fun ls hl => ?_)
        refine jr_iconst hx hb dX11_missingOf_15 ?_
        refine lv_istore (lv' := [(5, vi 0), (4, vi 0), (3, vi (i : Int)), (2, vi k), (0, .ref (ad 0)), (1, vi (u : Int))]) hx hb dX11_missingOf_16 hl (by decide) rfl (fun ls hl => ?_)
        refine jr_iconst hx hb dX11_missingOf_18 ?_
        refine lv_istore (lv' := [(6, vi 0), (5, vi 0), (4, vi 0), (3, vi (i : Int)), (2, vi k), (0, .ref (ad 0)), (1, vi (u : Int))]) hx hb dX11_missingOf_19 hl (by decide) rfl (fun ls hl => ?_)
        have lp21 : ∀ (N : Nat) (j : Nat) (ee : Int), (j ≤ x.length) → (0 ≤ ee ∧ ee ≤ 1) → (ee = i01 (f4 i ∈ x.take j)) → x.length - j < N → ∀ ls : Array Slot, lv_has ls 7 [(6, vi (j : Int)), (5, vi 0), (4, vi ee), (3, vi (i : Int)), (2, vi k), (0, .ref (ad 0)), (1, vi (u : Int))] → W p l e (rmm 0 0 0) s m ([.ref (ad 0), vi (u : Int)] : List Value).toArray below meth cq s.heap [] 0 0 (MQ below (jSi (fun z => z = cm f4 f5 x y n)) ([.ref (ad 0), vi (u : Int)] : List Value).toArray s 0 0 jN) (F0 m 21 ls []) := by
          intro N
          induction N with
          | zero => intro j ee hj heb he hM; exact absurd hM (Nat.not_lt_zero _)
          | succ N ih21 =>
            intro j ee hj heb he hM ls hl
            refine lv_iload hx hb dX11_missingOf_21 (lv_at hl 0 rfl) ?_
            refine lv_aload_n hx hb dX11_missingOf_23 rfl (lv_at hl 5 rfl) ?_
            refine va_get (D := gD g) (ci := 10) (v := vi tz) (C := RX11) (T := TX11) (N := 29) hx hb htl ck_X11 hown hKK.k hP 0 rfl rfl 25 (by decide) (htl _ wd_24_5) (fun _ h9 => h9) rfl dX11_missingOf_24 ?_
            refine jr_ge (tgt := 64) hx hb dX11_missingOf_27 (by decide) ⟨by omega, by omega⟩ ⟨by omega, by omega⟩ (fun c27 => ?_) (fun c27 => ?_)
            · refine jr_iconst hx hb dX11_missingOf_64 ?_
              refine lv_istore (lv' := [(6, vi 0), (5, vi 0), (4, vi ee), (3, vi (i : Int)), (2, vi k), (0, .ref (ad 0)), (1, vi (u : Int))]) hx hb dX11_missingOf_65 hl (by decide) rfl (fun ls hl => ?_)
              have lp67 : ∀ (N : Nat) (j2 : Nat) (ee2 : Int), (j2 ≤ y.length) → (0 ≤ ee2 ∧ ee2 ≤ 1) → (ee2 = i01 (f5 i ∈ y.take j2)) → y.length - j2 < N → ∀ ls : Array Slot, lv_has ls 7 [(6, vi (j2 : Int)), (5, vi ee2), (4, vi ee), (3, vi (i : Int)), (2, vi k), (0, .ref (ad 0)), (1, vi (u : Int))] → W p l e (rmm 0 0 0) s m ([.ref (ad 0), vi (u : Int)] : List Value).toArray below meth cq s.heap [] 0 0 (MQ below (jSi (fun z => z = cm f4 f5 x y n)) ([.ref (ad 0), vi (u : Int)] : List Value).toArray s 0 0 jN) (F0 m 67 ls []) := by
                intro N
                induction N with
                | zero => intro j2 ee2 hj2 heb2 he2 hM; exact absurd hM (Nat.not_lt_zero _)
                | succ N ih67 =>
                  intro j2 ee2 hj2 heb2 he2 hM ls hl
                  refine lv_iload hx hb dX11_missingOf_67 (lv_at hl 0 rfl) ?_
                  refine lv_aload_n hx hb dX11_missingOf_69 rfl (lv_at hl 5 rfl) ?_
                  refine va_get (D := gD g) (ci := 10) (v := .ref (ad 10)) (C := RX11) (T := TX11) (N := 29) hx hb htl ck_X11 hown hKK.k hP 0 rfl rfl 14 (by decide) (htl _ wd_6_0) (fun _ h9 => h9) rfl dX11_missingOf_70 ?_
                  refine lv_iload_n hx hb dX11_missingOf_73 rfl (lv_at hl 6 rfl) ?_
                  refine jr_iald hx hb hKK.k hP 4 rfl u (by omega) (by omega) (by omega) dX11_missingOf_74 ?_
                  refine jr_ge (tgt := 117) hx hb dX11_missingOf_75 (by decide) ⟨by omega, by omega⟩ ⟨by omega, by omega⟩ (fun c75 => ?_) (fun c75 => ?_)
                  · have hsm : ee = i01 (f4 i ∈ x) := by rw [he, show x.take j = x from List.take_of_length_le (by omega)]
                    have htm : ee2 = i01 (f5 i ∈ y) := by rw [he2, show y.take j2 = y from List.take_of_length_le (by omega)]
                    have hsmR : jR ee := by rw [hsm]; exact i01R _
                    have htmR : jR ee2 := by rw [htm]; exact i01R _
                    refine lv_iload_n hx hb dX11_missingOf_117 rfl (lv_at hl 4 rfl) ?_
                    refine lv_iload hx hb dX11_missingOf_118 (lv_at hl 2 rfl) ?_
                    refine jr_ifeq (tgt := 132) hx hb dX11_missingOf_120 (by decide) hsmR (fun c120 => ?_) (fun c120 => ?_)
                    · have hsm0 := hsm ▸ c120
                      refine jr_iconst hx hb dX11_missingOf_132 ?_
                      refine jr_iadd hx hb dX11_missingOf_133 ?_
                      refine lv_istore_n (lv' := [(2, vi (k + 0)), (6, vi (j2 : Int)), (5, vi ee2), (4, vi ee), (3, vi (i : Int)), (0, .ref (ad 0)), (1, vi (u : Int))]) hx hb dX11_missingOf_134 rfl hl (by decide) rfl (fun ls hl => ?_)
                      refine jr_iinc (lv' := [(3, vi ((i : Int) + 1)), (2, vi (k + 0)), (6, vi (j2 : Int)), (5, vi ee2), (4, vi ee), (0, .ref (ad 0)), (1, vi (u : Int))]) hx hb dX11_missingOf_135 hl (k := 4) rfl rfl (by decide) rfl (fun ls hl => ?_)
                      refine lv_goto (tgt := 4) hx hb dX11_missingOf_138 (by decide) ?_
                      exact ih4 (i + 1) _ (by omega) (by rw [cm, hF]; rw [if_neg (fun q => i01f hsm0 q.1), Int.add_zero]) (by omega) ls (lv_sub hl [0, 1, 5, 6] rfl)
                    · have hsm0 := hsm ▸ c120
                      refine lv_iload hx hb dX11_missingOf_123 (lv_at hl 1 rfl) ?_
                      refine jr_ifne (tgt := 132) hx hb dX11_missingOf_125 (by decide) htmR (fun c125 => ?_) (fun c125 => ?_)
                      · have htm0 := htm ▸ c125
                        refine jr_iconst hx hb dX11_missingOf_132 ?_
                        refine jr_iadd hx hb dX11_missingOf_133 ?_
                        refine lv_istore_n (lv' := [(2, vi (k + 0)), (6, vi (j2 : Int)), (5, vi ee2), (4, vi ee), (3, vi (i : Int)), (0, .ref (ad 0)), (1, vi (u : Int))]) hx hb dX11_missingOf_134 rfl hl (by decide) rfl (fun ls hl => ?_)
                        refine jr_iinc (lv' := [(3, vi ((i : Int) + 1)), (2, vi (k + 0)), (6, vi (j2 : Int)), (5, vi ee2), (4, vi ee), (0, .ref (ad 0)), (1, vi (u : Int))]) hx hb dX11_missingOf_135 hl (k := 4) rfl rfl (by decide) rfl (fun ls hl => ?_)
                        refine lv_goto (tgt := 4) hx hb dX11_missingOf_138 (by decide) ?_
                        exact ih4 (i + 1) _ (by omega) (by rw [cm, hF]; rw [if_neg (fun q => q.2 (i01t htm0)), Int.add_zero]) (by omega) ls (lv_sub hl [0, 1, 5, 6] rfl)
                      · have htm0 := htm ▸ c125
                        refine jr_iconst hx hb dX11_missingOf_128 ?_
                        refine lv_goto (tgt := 133) hx hb dX11_missingOf_129 (by decide) ?_
                        refine jr_iadd hx hb dX11_missingOf_133 ?_
                        refine lv_istore_n (lv' := [(2, vi (k + 1)), (6, vi (j2 : Int)), (5, vi ee2), (4, vi ee), (3, vi (i : Int)), (0, .ref (ad 0)), (1, vi (u : Int))]) hx hb dX11_missingOf_134 rfl hl (by decide) rfl (fun ls hl => ?_)
                        refine jr_iinc (lv' := [(3, vi ((i : Int) + 1)), (2, vi (k + 1)), (6, vi (j2 : Int)), (5, vi ee2), (4, vi ee), (0, .ref (ad 0)), (1, vi (u : Int))]) hx hb dX11_missingOf_135 hl (k := 4) rfl rfl (by decide) rfl (fun ls hl => ?_)
                        refine lv_goto (tgt := 4) hx hb dX11_missingOf_138 (by decide) ?_
                        exact ih4 (i + 1) _ (by omega) (by rw [cm, hF]; rw [if_pos ⟨i01t hsm0, i01f htm0⟩]) (by omega) ls (lv_sub hl [0, 1, 5, 6] rfl)
                  · refine lv_iload hx hb dX11_missingOf_78 (lv_at hl 1 rfl) ?_
                    refine jr_ifne (tgt := 104) hx hb dX11_missingOf_80 (by decide) ⟨by omega, by omega⟩ (fun c80 => ?_) (fun c80 => ?_)
                    · refine jr_iconst hx hb dX11_missingOf_104 ?_
                      refine lv_goto (tgt := 109) hx hb dX11_missingOf_105 (by decide) ?_
                      refine lv_istore (lv' := [(5, vi 1), (6, vi (j2 : Int)), (4, vi ee), (3, vi (i : Int)), (2, vi k), (0, .ref (ad 0)), (1, vi (u : Int))]) hx hb dX11_missingOf_109 hl (by decide) rfl (fun ls hl => ?_)
                      refine jr_iinc (lv' := [(6, vi ((j2 : Int) + 1)), (5, vi 1), (4, vi ee), (3, vi (i : Int)), (2, vi k), (0, .ref (ad 0)), (1, vi (u : Int))]) hx hb dX11_missingOf_111 hl (k := 1) rfl rfl (by decide) rfl (fun ls hl => ?_)
                      refine lv_goto (tgt := 67) hx hb dX11_missingOf_114 (by decide) ?_
                      exact ih67 (j2 + 1) _ (by omega) (by omega) (i01_1 ((mem_tk (t := y) (i := j2) (by omega)).mpr (Or.inl (by rw [he2] at c80; exact i01t c80)))) (by omega) ls (lv_sub hl [0, 1, 2, 3, 4, 5, 6] rfl)
                    · refine lv_aload_n hx hb dX11_missingOf_83 rfl (lv_at hl 5 rfl) ?_
                      refine va_get (D := gD g) (ci := 10) (v := .ref (ad 9)) (C := RX11) (T := TX11) (N := 29) hx hb htl ck_X11 hown hKK.k hP 0 rfl rfl 13 (by decide) (htl _ wd_5_23) (fun _ h9 => h9) rfl dX11_missingOf_84 ?_
                      refine jr_bipush hx hb dX11_missingOf_87 (by decide) ?_
                      refine lv_iload_n hx hb dX11_missingOf_89 rfl (lv_at hl 6 rfl) ?_
                      refine jr_imul hx hb dX11_missingOf_90 ?_
                      refine lv_iload hx hb dX11_missingOf_91 (lv_at hl 0 rfl) ?_
                      refine jr_iadd hx hb dX11_missingOf_93 ?_
                      refine jr_iald hx hb hKK.k hP 3 rfl (60 * u + j2) (by omega) (by omega) (by omega) dX11_missingOf_94 ?_
                      have tby := hy.b (j := j2) (by omega)
                      refine jr_nm (b := (y.getD j2 0)) (hy.at (by omega)) ?_
                      refine lv_aload_n hx hb dX11_missingOf_95 rfl (lv_at hl 5 rfl) ?_
                      refine va_get (D := gD g) (ci := 10) (v := .ref (ad 5)) (C := RX11) (T := TX11) (N := 29) hx hb htl ck_X11 hown hKK.k hP 0 rfl rfl 7 (by decide) (htl _ wd_5_19) (fun _ h9 => h9) rfl dX11_missingOf_96 ?_
                      refine lv_iload_n hx hb dX11_missingOf_99 rfl (lv_at hl 3 rfl) ?_
                      refine jr_iald hx hb hKK.k hP 2 rfl i (by omega) (by omega) (by omega) dX11_missingOf_100 ?_
                      refine jr_ne (tgt := 108) hx hb dX11_missingOf_101 (by decide) ⟨by omega, by omega⟩ ⟨by omega, by omega⟩ (fun c101 => ?_) (fun c101 => ?_)
                      · refine jr_iconst hx hb dX11_missingOf_108 ?_
                        refine lv_istore (lv' := [(5, vi 0), (6, vi (j2 : Int)), (4, vi ee), (3, vi (i : Int)), (2, vi k), (0, .ref (ad 0)), (1, vi (u : Int))]) hx hb dX11_missingOf_109 hl (by decide) rfl (fun ls hl => ?_)
                        refine jr_iinc (lv' := [(6, vi ((j2 : Int) + 1)), (5, vi 0), (4, vi ee), (3, vi (i : Int)), (2, vi k), (0, .ref (ad 0)), (1, vi (u : Int))]) hx hb dX11_missingOf_111 hl (k := 1) rfl rfl (by decide) rfl (fun ls hl => ?_)
                        refine lv_goto (tgt := 67) hx hb dX11_missingOf_114 (by decide) ?_
                        exact ih67 (j2 + 1) _ (by omega) (by omega) (i01_0 (fun q => ((mem_tk (t := y) (i := j2) (by omega)).mp q).elim (by rw [he2] at c80; exact i01f c80) c101)) (by omega) ls (lv_sub hl [0, 1, 2, 3, 4, 5, 6] rfl)
                      · refine jr_iconst hx hb dX11_missingOf_104 ?_
                        refine lv_goto (tgt := 109) hx hb dX11_missingOf_105 (by decide) ?_
                        refine lv_istore (lv' := [(5, vi 1), (6, vi (j2 : Int)), (4, vi ee), (3, vi (i : Int)), (2, vi k), (0, .ref (ad 0)), (1, vi (u : Int))]) hx hb dX11_missingOf_109 hl (by decide) rfl (fun ls hl => ?_)
                        refine jr_iinc (lv' := [(6, vi ((j2 : Int) + 1)), (5, vi 1), (4, vi ee), (3, vi (i : Int)), (2, vi k), (0, .ref (ad 0)), (1, vi (u : Int))]) hx hb dX11_missingOf_111 hl (k := 1) rfl rfl (by decide) rfl (fun ls hl => ?_)
                        refine lv_goto (tgt := 67) hx hb dX11_missingOf_114 (by decide) ?_
                        exact ih67 (j2 + 1) _ (by omega) (by omega) (i01_1 ((mem_tk (t := y) (i := j2) (by omega)).mpr (Or.inr c101))) (by omega) ls (lv_sub hl [0, 1, 2, 3, 4, 5, 6] rfl)
              exact lp67 _ 0 0 (Nat.zero_le _) (⟨by omega, by omega⟩) (i01_0 (by rw [List.take_zero]; exact List.not_mem_nil)) (Nat.lt_succ_self _) ls (lv_sub hl [0, 1, 2, 3, 4, 5, 6] rfl)
            · refine lv_iload hx hb dX11_missingOf_30 (lv_at hl 2 rfl) ?_
              refine jr_ifne (tgt := 51) hx hb dX11_missingOf_32 (by decide) ⟨by omega, by omega⟩ (fun c32 => ?_) (fun c32 => ?_)
              · refine jr_iconst hx hb dX11_missingOf_51 ?_
                refine lv_goto (tgt := 56) hx hb dX11_missingOf_52 (by decide) ?_
                refine lv_istore (lv' := [(4, vi 1), (6, vi (j : Int)), (5, vi 0), (3, vi (i : Int)), (2, vi k), (0, .ref (ad 0)), (1, vi (u : Int))]) hx hb dX11_missingOf_56 hl (by decide) rfl (fun ls hl => ?_)
                refine jr_iinc (lv' := [(6, vi ((j : Int) + 1)), (4, vi 1), (5, vi 0), (3, vi (i : Int)), (2, vi k), (0, .ref (ad 0)), (1, vi (u : Int))]) hx hb dX11_missingOf_58 hl (k := 1) rfl rfl (by decide) rfl (fun ls hl => ?_)
                refine lv_goto (tgt := 21) hx hb dX11_missingOf_61 (by decide) ?_
                exact ih21 (j + 1) _ (by omega) (by omega) (i01_1 ((mem_tk (t := x) (i := j) (by omega)).mpr (Or.inl (by rw [he] at c32; exact i01t c32)))) (by omega) ls (lv_sub hl [0, 2, 1, 3, 4, 5, 6] rfl)
              · refine lv_aload_n hx hb dX11_missingOf_35 rfl (lv_at hl 5 rfl) ?_
                refine va_get (D := gD g) (ci := 10) (v := .ref (ad 19)) (C := RX11) (T := TX11) (N := 29) hx hb htl ck_X11 hown hKK.k hP 0 rfl rfl 24 (by decide) (htl _ wd_6_10) (fun _ h9 => h9) rfl dX11_missingOf_36 ?_
                refine lv_iload hx hb dX11_missingOf_39 (lv_at hl 0 rfl) ?_
                refine jr_iald hx hb hKK.k hP 5 rfl j (by omega) (by omega) (by omega) dX11_missingOf_41 ?_
                have tbx := hx9.b (j := j) (by omega)
                refine jr_nm (b := (x.getD j 0)) (hx9.at (by omega)) ?_
                refine lv_aload_n hx hb dX11_missingOf_42 rfl (lv_at hl 5 rfl) ?_
                refine va_get (D := gD g) (ci := 10) (v := .ref (ad 4)) (C := RX11) (T := TX11) (N := 29) hx hb htl ck_X11 hown hKK.k hP 0 rfl rfl 6 (by decide) (htl _ wd_5_18) (fun _ h9 => h9) rfl dX11_missingOf_43 ?_
                refine lv_iload_n hx hb dX11_missingOf_46 rfl (lv_at hl 3 rfl) ?_
                refine jr_iald hx hb hKK.k hP 1 rfl i (by omega) (by omega) (by omega) dX11_missingOf_47 ?_
                refine jr_ne (tgt := 55) hx hb dX11_missingOf_48 (by decide) ⟨by omega, by omega⟩ ⟨by omega, by omega⟩ (fun c48 => ?_) (fun c48 => ?_)
                · refine jr_iconst hx hb dX11_missingOf_55 ?_
                  refine lv_istore (lv' := [(4, vi 0), (6, vi (j : Int)), (5, vi 0), (3, vi (i : Int)), (2, vi k), (0, .ref (ad 0)), (1, vi (u : Int))]) hx hb dX11_missingOf_56 hl (by decide) rfl (fun ls hl => ?_)
                  refine jr_iinc (lv' := [(6, vi ((j : Int) + 1)), (4, vi 0), (5, vi 0), (3, vi (i : Int)), (2, vi k), (0, .ref (ad 0)), (1, vi (u : Int))]) hx hb dX11_missingOf_58 hl (k := 1) rfl rfl (by decide) rfl (fun ls hl => ?_)
                  refine lv_goto (tgt := 21) hx hb dX11_missingOf_61 (by decide) ?_
                  exact ih21 (j + 1) _ (by omega) (by omega) (i01_0 (fun q => ((mem_tk (t := x) (i := j) (by omega)).mp q).elim (by rw [he] at c32; exact i01f c32) c48)) (by omega) ls (lv_sub hl [0, 2, 1, 3, 4, 5, 6] rfl)
                · refine jr_iconst hx hb dX11_missingOf_51 ?_
                  refine lv_goto (tgt := 56) hx hb dX11_missingOf_52 (by decide) ?_
                  refine lv_istore (lv' := [(4, vi 1), (6, vi (j : Int)), (5, vi 0), (3, vi (i : Int)), (2, vi k), (0, .ref (ad 0)), (1, vi (u : Int))]) hx hb dX11_missingOf_56 hl (by decide) rfl (fun ls hl => ?_)
                  refine jr_iinc (lv' := [(6, vi ((j : Int) + 1)), (4, vi 1), (5, vi 0), (3, vi (i : Int)), (2, vi k), (0, .ref (ad 0)), (1, vi (u : Int))]) hx hb dX11_missingOf_58 hl (k := 1) rfl rfl (by decide) rfl (fun ls hl => ?_)
                  refine lv_goto (tgt := 21) hx hb dX11_missingOf_61 (by decide) ?_
                  exact ih21 (j + 1) _ (by omega) (by omega) (i01_1 ((mem_tk (t := x) (i := j) (by omega)).mpr (Or.inr c48))) (by omega) ls (lv_sub hl [0, 2, 1, 3, 4, 5, 6] rfl)
        exact lp21 _ 0 0 (Nat.zero_le _) (⟨by omega, by omega⟩) (i01_0 (by rw [List.take_zero]; exact List.not_mem_nil)) (Nat.lt_succ_self _) ls (lv_sub hl [0, 1, 2, 3, 4, 5, 6] rfl)
  exact lp4 _ 0 0 (Nat.zero_le _) (rfl) (Nat.lt_succ_self _) ls (lv_sub hl [0, 1, 2, 3] rfl)
set_option maxHeartbeats 4000000 in
set_option maxRecDepth 100000 in
theorem m_X11_bestNow (l : Launch) (g : GT) (ad : Nat → Nat) (th dn nt tn nu ns tz : Int) (f2 f4 f5 f7 f8 f9 f10 f11 f19 f20 : Nat → Int) (n : Nat) (x : List Int) (U : List UV) (hw : WB f2) (hnt : nt = (n : Int)) (hn : n ≤ 20) (hb4 : ∀ j, j < n → 0 ≤ f4 j ∧ f4 j < 100 ∧ 0 ≤ f5 j ∧ f5 j < 100) (htz : tz = (x.length : Int)) (hx9 : TT x f19) (hU : MU U f7 f8 f9 f10 f11) (hnu : nu = (U.length : Int)) (hU40 : U.length ≤ 40) : Met l yX11_bestNow (ws_ yX11_bestNow cX11_bestNow 7 (some .int)) (rmm 4 0 0) (jPc g [.ref (ad 0)] (fun H => PP g [ob (ad 0) 10 [vi th, .ref (ad 1), vi dn, .ref (ad 2), .ref (ad 3), vi nt, .ref (ad 4), .ref (ad 5), .ref (ad 6), vi tn, vi nu, .ref (ad 7), .ref (ad 8), .ref (ad 9), .ref (ad 10), .ref (ad 11), .ref (ad 12), vi ns, .ref (ad 13), .ref (ad 14), .ref (ad 15), .ref (ad 16), .ref (ad 17), .ref (ad 18), .ref (ad 19), vi tz, .ref (ad 20), .ref (ad 21), .ref (ad 22)], aI g (ad 2) 4 f2, aI g (ad 4) 20 f4, aI g (ad 5) 20 f5, aI g (ad 7) 2400 f7, aI g (ad 8) 40 f8, aI g (ad 9) 2400 f9, aI g (ad 10) 40 f10, aZ g (ad 11) 40 f11, aI g (ad 19) 60 f19, aI g (ad 20) 3721 f20] H ∧ va_D (fun q => gb g ≤ q) [ob (ad 0) 10 [vi th, .ref (ad 1), vi dn, .ref (ad 2), .ref (ad 3), vi nt, .ref (ad 4), .ref (ad 5), .ref (ad 6), vi tn, vi nu, .ref (ad 7), .ref (ad 8), .ref (ad 9), .ref (ad 10), .ref (ad 11), .ref (ad 12), vi ns, .ref (ad 13), .ref (ad 14), .ref (ad 15), .ref (ad 16), .ref (ad 17), .ref (ad 18), .ref (ad 19), vi tz, .ref (ad 20), .ref (ad 21), .ref (ad 22)], aI g (ad 2) 4 f2, aI g (ad 4) 20 f4, aI g (ad 5) 20 f5, aI g (ad 7) 2400 f7, aI g (ad 8) 40 f8, aI g (ad 9) 2400 f9, aI g (ad 10) 40 f10, aZ g (ad 11) 40 f11, aI g (ad 19) 60 f19, aI g (ad 20) 3721 f20])) (jQi (fun z H1 => z = (fa f2 (n, f4, f5) x (fun j => U.getD j ([], [], 0)) U.length).1 ∧ ∃ g20 : Nat → Int, PP g [ob (ad 0) 10 [vi th, .ref (ad 1), vi dn, .ref (ad 2), .ref (ad 3), vi nt, .ref (ad 4), .ref (ad 5), .ref (ad 6), vi tn, vi nu, .ref (ad 7), .ref (ad 8), .ref (ad 9), .ref (ad 10), .ref (ad 11), .ref (ad 12), vi ns, .ref (ad 13), .ref (ad 14), .ref (ad 15), .ref (ad 16), .ref (ad 17), .ref (ad 18), .ref (ad 19), vi tz, .ref (ad 20), .ref (ad 21), .ref (ad 22)], aI g (ad 2) 4 f2, aI g (ad 4) 20 f4, aI g (ad 5) 20 f5, aI g (ad 7) 2400 f7, aI g (ad 8) 40 f8, aI g (ad 9) 2400 f9, aI g (ad 10) 40 f10, aZ g (ad 11) 40 f11, aI g (ad 19) 60 f19, aI g (ad 20) 3721 g20] H1) (jA [ob (ad 0) 10 [vi th, .ref (ad 1), vi dn, .ref (ad 2), .ref (ad 3), vi nt, .ref (ad 4), .ref (ad 5), .ref (ad 6), vi tn, vi nu, .ref (ad 7), .ref (ad 8), .ref (ad 9), .ref (ad 10), .ref (ad 11), .ref (ad 12), vi ns, .ref (ad 13), .ref (ad 14), .ref (ad 15), .ref (ad 16), .ref (ad 17), .ref (ad 18), .ref (ad 19), vi tz, .ref (ad 20), .ref (ad 21), .ref (ad 22)], aI g (ad 2) 4 f2, aI g (ad 4) 20 f4, aI g (ad 5) 20 f5, aI g (ad 7) 2400 f7, aI g (ad 8) 40 f8, aI g (ad 9) 2400 f9, aI g (ad 10) 40 f10, aZ g (ad 11) 40 f11, aI g (ad 19) 60 f19, aI g (ad 20) 3721 f20])) 0 0 (jA [ob (ad 0) 10 [vi th, .ref (ad 1), vi dn, .ref (ad 2), .ref (ad 3), vi nt, .ref (ad 4), .ref (ad 5), .ref (ad 6), vi tn, vi nu, .ref (ad 7), .ref (ad 8), .ref (ad 9), .ref (ad 10), .ref (ad 11), .ref (ad 12), vi ns, .ref (ad 13), .ref (ad 14), .ref (ad 15), .ref (ad 16), .ref (ad 17), .ref (ad 18), .ref (ad 19), vi tz, .ref (ad 20), .ref (ad 21), .ref (ad 22)], aI g (ad 2) 4 f2, aI g (ad 4) 20 f4, aI g (ad 5) 20 f5, aI g (ad 7) 2400 f7, aI g (ad 8) 40 f8, aI g (ad 9) 2400 f9, aI g (ad 10) 40 f10, aZ g (ad 11) 40 f11, aI g (ad 19) 60 f19, aI g (ad 20) 3721 f20]) := by
  refine jb_M (by decide) (Nat.le_of_ble_eq_true rfl) ?_
  intro p e s m below meth cq hx hb hr hml hown htl hlk hnm hKK hpre ls hl
  have hown : s.vm.findClass RX11 = some m.cls := hown
  have hl : lv_has ls 7 [(0, .ref (ad 0))] := hl
  obtain ⟨hP, hD0⟩ := hpre
  have hD : va_D (jA [ob (ad 0) 10 [vi th, .ref (ad 1), vi dn, .ref (ad 2), .ref (ad 3), vi nt, .ref (ad 4), .ref (ad 5), .ref (ad 6), vi tn, vi nu, .ref (ad 7), .ref (ad 8), .ref (ad 9), .ref (ad 10), .ref (ad 11), .ref (ad 12), vi ns, .ref (ad 13), .ref (ad 14), .ref (ad 15), .ref (ad 16), .ref (ad 17), .ref (ad 18), .ref (ad 19), vi tz, .ref (ad 20), .ref (ad 21), .ref (ad 22)], aI g (ad 2) 4 f2, aI g (ad 4) 20 f4, aI g (ad 5) 20 f5, aI g (ad 7) 2400 f7, aI g (ad 8) 40 f8, aI g (ad 9) 2400 f9, aI g (ad 10) 40 f10, aZ g (ad 11) 40 f11, aI g (ad 19) 60 f19, aI g (ad 20) 3721 f20]) [ob (ad 0) 10 [vi th, .ref (ad 1), vi dn, .ref (ad 2), .ref (ad 3), vi nt, .ref (ad 4), .ref (ad 5), .ref (ad 6), vi tn, vi nu, .ref (ad 7), .ref (ad 8), .ref (ad 9), .ref (ad 10), .ref (ad 11), .ref (ad 12), vi ns, .ref (ad 13), .ref (ad 14), .ref (ad 15), .ref (ad 16), .ref (ad 17), .ref (ad 18), .ref (ad 19), vi tz, .ref (ad 20), .ref (ad 21), .ref (ad 22)], aI g (ad 2) 4 f2, aI g (ad 4) 20 f4, aI g (ad 5) 20 f5, aI g (ad 7) 2400 f7, aI g (ad 8) 40 f8, aI g (ad 9) 2400 f9, aI g (ad 10) 40 f10, aZ g (ad 11) 40 f11, aI g (ad 19) 60 f19, aI g (ad 20) 3721 f20] := hD0.inD
  have hAb : ∀ q, (jA [ob (ad 0) 10 [vi th, .ref (ad 1), vi dn, .ref (ad 2), .ref (ad 3), vi nt, .ref (ad 4), .ref (ad 5), .ref (ad 6), vi tn, vi nu, .ref (ad 7), .ref (ad 8), .ref (ad 9), .ref (ad 10), .ref (ad 11), .ref (ad 12), vi ns, .ref (ad 13), .ref (ad 14), .ref (ad 15), .ref (ad 16), .ref (ad 17), .ref (ad 18), .ref (ad 19), vi tz, .ref (ad 20), .ref (ad 21), .ref (ad 22)], aI g (ad 2) 4 f2, aI g (ad 4) 20 f4, aI g (ad 5) 20 f5, aI g (ad 7) 2400 f7, aI g (ad 8) 40 f8, aI g (ad 9) 2400 f9, aI g (ad 10) 40 f10, aZ g (ad 11) 40 f11, aI g (ad 19) 60 f19, aI g (ad 20) 3721 f20]) q → gb g ≤ q := fun q h => hD0.inA h
  generalize hAe : jA [ob (ad 0) 10 [vi th, .ref (ad 1), vi dn, .ref (ad 2), .ref (ad 3), vi nt, .ref (ad 4), .ref (ad 5), .ref (ad 6), vi tn, vi nu, .ref (ad 7), .ref (ad 8), .ref (ad 9), .ref (ad 10), .ref (ad 11), .ref (ad 12), vi ns, .ref (ad 13), .ref (ad 14), .ref (ad 15), .ref (ad 16), .ref (ad 17), .ref (ad 18), .ref (ad 19), vi tz, .ref (ad 20), .ref (ad 21), .ref (ad 22)], aI g (ad 2) 4 f2, aI g (ad 4) 20 f4, aI g (ad 5) 20 f5, aI g (ad 7) 2400 f7, aI g (ad 8) 40 f8, aI g (ad 9) 2400 f9, aI g (ad 10) 40 f10, aZ g (ad 11) 40 f11, aI g (ad 19) 60 f19, aI g (ad 20) 3721 f20] = A at *
  have hS : va_S A s.heap s.heap [] := va_S.rf
  suffices K : ∀ (H : Heap) (locs : List Loc), PP g [ob (ad 0) 10 [vi th, .ref (ad 1), vi dn, .ref (ad 2), .ref (ad 3), vi nt, .ref (ad 4), .ref (ad 5), .ref (ad 6), vi tn, vi nu, .ref (ad 7), .ref (ad 8), .ref (ad 9), .ref (ad 10), .ref (ad 11), .ref (ad 12), vi ns, .ref (ad 13), .ref (ad 14), .ref (ad 15), .ref (ad 16), .ref (ad 17), .ref (ad 18), .ref (ad 19), vi tz, .ref (ad 20), .ref (ad 21), .ref (ad 22)], aI g (ad 2) 4 f2, aI g (ad 4) 20 f4, aI g (ad 5) 20 f5, aI g (ad 7) 2400 f7, aI g (ad 8) 40 f8, aI g (ad 9) 2400 f9, aI g (ad 10) 40 f10, aZ g (ad 11) 40 f11, aI g (ad 19) 60 f19, aI g (ad 20) 3721 f20] H → va_D A [ob (ad 0) 10 [vi th, .ref (ad 1), vi dn, .ref (ad 2), .ref (ad 3), vi nt, .ref (ad 4), .ref (ad 5), .ref (ad 6), vi tn, vi nu, .ref (ad 7), .ref (ad 8), .ref (ad 9), .ref (ad 10), .ref (ad 11), .ref (ad 12), vi ns, .ref (ad 13), .ref (ad 14), .ref (ad 15), .ref (ad 16), .ref (ad 17), .ref (ad 18), .ref (ad 19), vi tz, .ref (ad 20), .ref (ad 21), .ref (ad 22)], aI g (ad 2) 4 f2, aI g (ad 4) 20 f4, aI g (ad 5) 20 f5, aI g (ad 7) 2400 f7, aI g (ad 8) 40 f8, aI g (ad 9) 2400 f9, aI g (ad 10) 40 f10, aZ g (ad 11) 40 f11, aI g (ad 19) 60 f19, aI g (ad 20) 3721 f20] → va_S A s.heap H locs → ∀ ls : Array Slot, lv_has ls 7 [(0, .ref (ad 0))] → W p l e (rmm 4 0 0) s m ([.ref (ad 0)] : List Value).toArray below meth cq H locs 0 0 (MQ below (jQi (fun z H1 => z = (fa f2 (n, f4, f5) x (fun j => U.getD j ([], [], 0)) U.length).1 ∧ ∃ g20 : Nat → Int, PP g [ob (ad 0) 10 [vi th, .ref (ad 1), vi dn, .ref (ad 2), .ref (ad 3), vi nt, .ref (ad 4), .ref (ad 5), .ref (ad 6), vi tn, vi nu, .ref (ad 7), .ref (ad 8), .ref (ad 9), .ref (ad 10), .ref (ad 11), .ref (ad 12), vi ns, .ref (ad 13), .ref (ad 14), .ref (ad 15), .ref (ad 16), .ref (ad 17), .ref (ad 18), .ref (ad 19), vi tz, .ref (ad 20), .ref (ad 21), .ref (ad 22)], aI g (ad 2) 4 f2, aI g (ad 4) 20 f4, aI g (ad 5) 20 f5, aI g (ad 7) 2400 f7, aI g (ad 8) 40 f8, aI g (ad 9) 2400 f9, aI g (ad 10) 40 f10, aZ g (ad 11) 40 f11, aI g (ad 19) 60 f19, aI g (ad 20) 3721 g20] H1) A) ([.ref (ad 0)] : List Value).toArray s 0 0 A) (F0 m 0 ls []) from K _ _ hP hD hS _ hl
  clear hl; intro H locs hP hD hS ls hl
  refine jr_iconst hx hb dX11_bestNow_0 ?_
  refine lv_istore_n (lv' := [(1, vi (-1)), (0, .ref (ad 0))]) hx hb dX11_bestNow_1 rfl hl (by decide) rfl (fun ls hl => ?_)
  refine jr_iconst hx hb dX11_bestNow_2 ?_
  refine lv_istore_n (lv' := [(2, vi 0), (1, vi (-1)), (0, .ref (ad 0))]) hx hb dX11_bestNow_3 rfl hl (by decide) rfl (fun ls hl => ?_)
  refine jr_iconst hx hb dX11_bestNow_4 ?_
  refine lv_istore_n (lv' := [(3, vi 0), (2, vi 0), (1, vi (-1)), (0, .ref (ad 0))]) hx hb dX11_bestNow_5 rfl hl (by decide) rfl (fun ls hl => ?_)
  refine jr_iconst hx hb dX11_bestNow_6 ?_
  refine lv_istore (lv' := [(4, vi 0), (3, vi 0), (2, vi 0), (1, vi (-1)), (0, .ref (ad 0))]) hx hb dX11_bestNow_7 hl (by decide) rfl (fun ls hl => ?_)
  have lp9 : ∀ (N : Nat) (i : Nat) (q : F3) (h : Nat → Int), (i ≤ U.length) → (q = fa f2 (n, f4, f5) x (fun j => U.getD j ([], [], 0)) i) → U.length - i < N → ∀ (H : Heap) (locs : List Loc), PP g [ob (ad 0) 10 [vi th, .ref (ad 1), vi dn, .ref (ad 2), .ref (ad 3), vi nt, .ref (ad 4), .ref (ad 5), .ref (ad 6), vi tn, vi nu, .ref (ad 7), .ref (ad 8), .ref (ad 9), .ref (ad 10), .ref (ad 11), .ref (ad 12), vi ns, .ref (ad 13), .ref (ad 14), .ref (ad 15), .ref (ad 16), .ref (ad 17), .ref (ad 18), .ref (ad 19), vi tz, .ref (ad 20), .ref (ad 21), .ref (ad 22)], aI g (ad 2) 4 f2, aI g (ad 4) 20 f4, aI g (ad 5) 20 f5, aI g (ad 7) 2400 f7, aI g (ad 8) 40 f8, aI g (ad 9) 2400 f9, aI g (ad 10) 40 f10, aZ g (ad 11) 40 f11, aI g (ad 19) 60 f19, aI g (ad 20) 3721 h] H → va_D A [ob (ad 0) 10 [vi th, .ref (ad 1), vi dn, .ref (ad 2), .ref (ad 3), vi nt, .ref (ad 4), .ref (ad 5), .ref (ad 6), vi tn, vi nu, .ref (ad 7), .ref (ad 8), .ref (ad 9), .ref (ad 10), .ref (ad 11), .ref (ad 12), vi ns, .ref (ad 13), .ref (ad 14), .ref (ad 15), .ref (ad 16), .ref (ad 17), .ref (ad 18), .ref (ad 19), vi tz, .ref (ad 20), .ref (ad 21), .ref (ad 22)], aI g (ad 2) 4 f2, aI g (ad 4) 20 f4, aI g (ad 5) 20 f5, aI g (ad 7) 2400 f7, aI g (ad 8) 40 f8, aI g (ad 9) 2400 f9, aI g (ad 10) 40 f10, aZ g (ad 11) 40 f11, aI g (ad 19) 60 f19, aI g (ad 20) 3721 h] → va_S A s.heap H locs → ∀ ls : Array Slot, lv_has ls 7 [(4, vi (i : Int)), (3, vi q.2.2), (2, vi q.2.1), (1, vi q.1), (0, .ref (ad 0))] → W p l e (rmm 4 0 0) s m ([.ref (ad 0)] : List Value).toArray below meth cq H locs 0 0 (MQ below (jQi (fun z H1 => z = (fa f2 (n, f4, f5) x (fun j => U.getD j ([], [], 0)) U.length).1 ∧ ∃ g20 : Nat → Int, PP g [ob (ad 0) 10 [vi th, .ref (ad 1), vi dn, .ref (ad 2), .ref (ad 3), vi nt, .ref (ad 4), .ref (ad 5), .ref (ad 6), vi tn, vi nu, .ref (ad 7), .ref (ad 8), .ref (ad 9), .ref (ad 10), .ref (ad 11), .ref (ad 12), vi ns, .ref (ad 13), .ref (ad 14), .ref (ad 15), .ref (ad 16), .ref (ad 17), .ref (ad 18), .ref (ad 19), vi tz, .ref (ad 20), .ref (ad 21), .ref (ad 22)], aI g (ad 2) 4 f2, aI g (ad 4) 20 f4, aI g (ad 5) 20 f5, aI g (ad 7) 2400 f7, aI g (ad 8) 40 f8, aI g (ad 9) 2400 f9, aI g (ad 10) 40 f10, aZ g (ad 11) 40 f11, aI g (ad 19) 60 f19, aI g (ad 20) 3721 g20] H1) A) ([.ref (ad 0)] : List Value).toArray s 0 0 A) (F0 m 9 ls []) := by
    intro N
    induction N with
    | zero => intro i q h hi hF hM; exact absurd hM (Nat.not_lt_zero _)
    | succ N ih9 =>
      intro i q h hi hF hM H locs hP hD hS ls hl
      have hq9 := fa_b hw (n, f4, f5) x (fun j => U.getD j ([], [], 0)) i
      rw [← hF] at hq9
      obtain ⟨hq1, hq2, hq3⟩ := hq9
      refine lv_iload hx hb dX11_bestNow_9 (lv_at hl 0 rfl) ?_
      refine lv_aload_n hx hb dX11_bestNow_11 rfl (lv_at hl 4 rfl) ?_
      refine va_get (D := gD g) (ci := 10) (v := vi nu) (C := RX11) (T := TX11) (N := 29) hx hb htl ck_X11 hown hKK.k hP 0 rfl rfl 10 (by decide) (htl _ wd_18_16) (fun _ h9 => h9) rfl dX11_bestNow_12 ?_
      refine jr_ge (tgt := 88) hx hb dX11_bestNow_15 (by decide) ⟨by omega, by omega⟩ ⟨by omega, by omega⟩ (fun c15 => ?_) (fun c15 => ?_)
      · refine lv_iload_n hx hb dX11_bestNow_88 rfl (lv_at hl 3 rfl) ?_
        exact je_Qi hx hb hr hlk rfl hS (⟨by obtain rfl : i = U.length := (by omega); rw [← hF], _, hP⟩) dX11_bestNow_89
      · obtain ⟨y, y2, lv, hUi, h8, hy, h10, hy2, h11, hlv⟩ := hU.at (j := i) (by omega)
        refine lv_aload_n hx hb dX11_bestNow_18 rfl (lv_at hl 4 rfl) ?_
        refine va_get (D := gD g) (ci := 10) (v := .ref (ad 11)) (C := RX11) (T := TX11) (N := 29) hx hb htl ck_X11 hown hKK.k hP 0 rfl rfl 15 (by decide) (htl _ wd_6_1) (fun _ h9 => h9) rfl dX11_bestNow_19 ?_
        refine lv_iload hx hb dX11_bestNow_22 (lv_at hl 0 rfl) ?_
        refine jr_zald hx hb hKK.k hP 8 rfl i (by omega) (by omega) (by omega) dX11_bestNow_24 ?_
        refine jr_ifeq (tgt := 82) hx hb dX11_bestNow_25 (by decide) ⟨by omega, by omega⟩ (fun c25 => ?_) (fun c25 => ?_)
        · refine jr_iinc (lv' := [(4, vi ((i : Int) + 1)), (3, vi q.2.2), (2, vi q.2.1), (1, vi q.1), (0, .ref (ad 0))]) hx hb dX11_bestNow_82 hl (k := 0) rfl rfl (by decide) rfl (fun ls hl => ?_)
          refine lv_goto (tgt := 9) hx hb dX11_bestNow_85 (by decide) ?_
          exact ih9 (i + 1) q _ (by omega) (by rw [fa, ← hF]; show _ = faS _ _ _ (U.getD i ([], [], 0)) i q; rw [hUi]; exact faS_0 (Or.inl (by omega))) (by omega) _ _ hP hD hS ls (lv_sub hl [0, 1, 2, 3, 4] rfl)
        · refine lv_aload_n hx hb dX11_bestNow_28 rfl (lv_at hl 4 rfl) ?_
          refine lv_iload hx hb dX11_bestNow_29 (lv_at hl 0 rfl) ?_
          have hDc : va_D A [ob (ad 0) 10 [vi th, .ref (ad 1), vi dn, .ref (ad 2), .ref (ad 3), vi nt, .ref (ad 4), .ref (ad 5), .ref (ad 6), vi tn, vi nu, .ref (ad 7), .ref (ad 8), .ref (ad 9), .ref (ad 10), .ref (ad 11), .ref (ad 12), vi ns, .ref (ad 13), .ref (ad 14), .ref (ad 15), .ref (ad 16), .ref (ad 17), .ref (ad 18), .ref (ad 19), vi tz, .ref (ad 20), .ref (ad 21), .ref (ad 22)], aI g (ad 2) 4 f2, aI g (ad 7) 2400 f7, aI g (ad 8) 40 f8, aI g (ad 19) 60 f19, aI g (ad 20) 3721 h] := hD.sub [0, 1, 4, 5, 9, 10] (by decide) rfl
          refine jk_Qi (va_runV (As := [vi (i : Int)]) (rest := []) ⟨hx, hb, hml, hown, htl⟩ (m_X11_likenessOf l g ad th dn nt tn nu ns tz f2 f7 f8 f19 h i x y hw (by omega) htz hx9 h8 hy) (cwV 1 htl lk_X11_132 rfl rfl rfl cwV_X11_likenessOf ⟨Nat.le_of_ble_eq_true rfl, Nat.le_of_ble_eq_true rfl⟩) (jp_V hKK hS hAb (va_recv hKK.k hP (ci := 10) (q0 := 0) rfl rfl) ⟨(va_P.sub hP [0, 1, 4, 5, 9, 10] rfl), hDc.weaken (fun _ q _ h => hAb _ h)⟩) rfl rfl hl.1 rfl (lv_room (Nat.le_of_ble_eq_true rfl)) dX11_bestNow_31 ⟨Nat.le_of_ble_eq_true rfl, Nat.le_of_ble_eq_true rfl⟩) hS (fun q _ h => hDc.inA h) (fun q h => hDc.inA h) (fun z31 H1 locs hz31 hzs hks hS => ?_)
          obtain ⟨hz31, g20_31, hP1⟩ := hz31
          obtain ⟨hP, hD⟩ := jput (wc := [ob (ad 0) 10 [vi th, .ref (ad 1), vi dn, .ref (ad 2), .ref (ad 3), vi nt, .ref (ad 4), .ref (ad 5), .ref (ad 6), vi tn, vi nu, .ref (ad 7), .ref (ad 8), .ref (ad 9), .ref (ad 10), .ref (ad 11), .ref (ad 12), vi ns, .ref (ad 13), .ref (ad 14), .ref (ad 15), .ref (ad 16), .ref (ad 17), .ref (ad 18), .ref (ad 19), vi tz, .ref (ad 20), .ref (ad 21), .ref (ad 22)], aI g (ad 2) 4 f2, aI g (ad 7) 2400 f7, aI g (ad 8) 40 f8, aI g (ad 19) 60 f19, aI g (ad 20) 3721 h]) (w1 := [ob (ad 0) 10 [vi th, .ref (ad 1), vi dn, .ref (ad 2), .ref (ad 3), vi nt, .ref (ad 4), .ref (ad 5), .ref (ad 6), vi tn, vi nu, .ref (ad 7), .ref (ad 8), .ref (ad 9), .ref (ad 10), .ref (ad 11), .ref (ad 12), vi ns, .ref (ad 13), .ref (ad 14), .ref (ad 15), .ref (ad 16), .ref (ad 17), .ref (ad 18), .ref (ad 19), vi tz, .ref (ad 20), .ref (ad 21), .ref (ad 22)], aI g (ad 2) 4 f2, aI g (ad 7) 2400 f7, aI g (ad 8) 40 f8, aI g (ad 19) 60 f19, aI g (ad 20) 3721 g20_31]) hP hD [0, 1, 4, 5, 9, 10] rfl rfl hks (fun q _ h => h) hP1
          clear hzs hks; generalize H1 = H at hP hD hS ⊢
          have hP : PP g [ob (ad 0) 10 [vi th, .ref (ad 1), vi dn, .ref (ad 2), .ref (ad 3), vi nt, .ref (ad 4), .ref (ad 5), .ref (ad 6), vi tn, vi nu, .ref (ad 7), .ref (ad 8), .ref (ad 9), .ref (ad 10), .ref (ad 11), .ref (ad 12), vi ns, .ref (ad 13), .ref (ad 14), .ref (ad 15), .ref (ad 16), .ref (ad 17), .ref (ad 18), .ref (ad 19), vi tz, .ref (ad 20), .ref (ad 21), .ref (ad 22)], aI g (ad 2) 4 f2, aI g (ad 4) 20 f4, aI g (ad 5) 20 f5, aI g (ad 7) 2400 f7, aI g (ad 8) 40 f8, aI g (ad 9) 2400 f9, aI g (ad 10) 40 f10, aZ g (ad 11) 40 f11, aI g (ad 19) 60 f19, aI g (ad 20) 3721 g20_31] H := hP
          have hD : va_D A [ob (ad 0) 10 [vi th, .ref (ad 1), vi dn, .ref (ad 2), .ref (ad 3), vi nt, .ref (ad 4), .ref (ad 5), .ref (ad 6), vi tn, vi nu, .ref (ad 7), .ref (ad 8), .ref (ad 9), .ref (ad 10), .ref (ad 11), .ref (ad 12), vi ns, .ref (ad 13), .ref (ad 14), .ref (ad 15), .ref (ad 16), .ref (ad 17), .ref (ad 18), .ref (ad 19), vi tz, .ref (ad 20), .ref (ad 21), .ref (ad 22)], aI g (ad 2) 4 f2, aI g (ad 4) 20 f4, aI g (ad 5) 20 f5, aI g (ad 7) 2400 f7, aI g (ad 8) 40 f8, aI g (ad 9) 2400 f9, aI g (ad 10) 40 f10, aZ g (ad 11) 40 f11, aI g (ad 19) 60 f19, aI g (ad 20) 3721 g20_31] := hD
          subst hz31
          have tlk := lk_b hw x y
          refine lv_istore (lv' := [(5, vi (lk f2 x y)), (4, vi (i : Int)), (3, vi q.2.2), (2, vi q.2.1), (1, vi q.1), (0, .ref (ad 0))]) hx hb dX11_bestNow_34 hl (by decide) rfl (fun ls hl => ?_)
          refine lv_aload_n hx hb dX11_bestNow_36 rfl (lv_at hl 5 rfl) ?_
          refine lv_iload hx hb dX11_bestNow_37 (lv_at hl 0 rfl) ?_
          refine lv_aload_n hx hb dX11_bestNow_39 rfl (lv_at hl 5 rfl) ?_
          refine lv_iload hx hb dX11_bestNow_40 (lv_at hl 1 rfl) ?_
          refine jk_Si (va_runV (As := [vi (i : Int)]) (rest := [vi (lk f2 x y), .ref (ad 0)]) ⟨hx, hb, hml, hown, htl⟩ (m_X11_missingOf l g ad th dn nt tn nu ns tz f4 f5 f9 f10 f19 i n x y2 (by omega) hnt hn hb4 htz hx9 h10 hy2) (cwV 1 htl lk_X11_135 rfl rfl rfl cwV_X11_missingOf ⟨Nat.le_of_ble_eq_true rfl, Nat.le_of_ble_eq_true rfl⟩) (jp_V hKK hS hAb (va_recv hKK.k hP (ci := 10) (q0 := 0) rfl rfl) (va_P.sub hP [0, 2, 3, 6, 7, 9] rfl)) rfl rfl hl.1 rfl (lv_room (Nat.le_of_ble_eq_true rfl)) dX11_bestNow_42 ⟨Nat.le_of_ble_eq_true rfl, Nat.le_of_ble_eq_true rfl⟩) (fun z42 hz42 => ?_)
          subst hz42
          have tcm := cm_b f4 f5 x y2 n
          refine jk_Si (va_runV (As := [vi (lk f2 x y), vi (cm f4 f5 x y2 n)]) (rest := []) ⟨hx, hb, hml, hown, htl⟩ (m_X11_scoreOf l g ad th dn nt tn nu ns tz (lk f2 x y) (cm f4 f5 x y2 n) (by omega) (by omega)) (cwV 2 htl lk_X11_138 rfl rfl rfl cwV_X11_scoreOf ⟨Nat.le_of_ble_eq_true rfl, Nat.le_of_ble_eq_true rfl⟩) (jp_V hKK hS hAb (va_recv hKK.k hP (ci := 10) (q0 := 0) rfl rfl) (va_P.sub hP [0] rfl)) rfl rfl hl.1 rfl (lv_room (Nat.le_of_ble_eq_true rfl)) dX11_bestNow_45 ⟨Nat.le_of_ble_eq_true rfl, Nat.le_of_ble_eq_true rfl⟩) (fun z45 hz45 => ?_)
          subst hz45
          have tlm := lm_b (a := (lk f2 x y)) (m := (cm f4 f5 x y2 n)) (by omega) (by omega)
          refine lv_istore (lv' := [(6, vi (lm (lk f2 x y) (cm f4 f5 x y2 n))), (5, vi (lk f2 x y)), (4, vi (i : Int)), (3, vi q.2.2), (2, vi q.2.1), (1, vi q.1), (0, .ref (ad 0))]) hx hb dX11_bestNow_48 hl (by decide) rfl (fun ls hl => ?_)
          refine lv_iload hx hb dX11_bestNow_50 (lv_at hl 0 rfl) ?_
          refine jr_ifle (tgt := 82) hx hb dX11_bestNow_52 (by decide) ⟨by omega, by omega⟩ (fun c52 => ?_) (fun c52 => ?_)
          · refine jr_iinc (lv' := [(4, vi ((i : Int) + 1)), (6, vi (lm (lk f2 x y) (cm f4 f5 x y2 n))), (5, vi (lk f2 x y)), (3, vi q.2.2), (2, vi q.2.1), (1, vi q.1), (0, .ref (ad 0))]) hx hb dX11_bestNow_82 hl (k := 2) rfl rfl (by decide) rfl (fun ls hl => ?_)
            refine lv_goto (tgt := 9) hx hb dX11_bestNow_85 (by decide) ?_
            exact ih9 (i + 1) q _ (by omega) (by rw [fa, ← hF]; show _ = faS _ _ _ (U.getD i ([], [], 0)) i q; rw [hUi]; exact faS_0 (Or.inr (Or.inl (by show lm (lk f2 x y) (cm f4 f5 x y2 n) < 1; omega)))) (by omega) _ _ hP hD hS ls (lv_sub hl [0, 3, 4, 5, 6] rfl)
          · refine lv_iload hx hb dX11_bestNow_55 (lv_at hl 0 rfl) ?_
            refine lv_iload_n hx hb dX11_bestNow_57 rfl (lv_at hl 4 rfl) ?_
            refine jr_gt (tgt := 73) hx hb dX11_bestNow_58 (by decide) ⟨by omega, by omega⟩ ⟨by omega, by omega⟩ (fun c58 => ?_) (fun c58 => ?_)
            · refine lv_iload hx hb dX11_bestNow_73 (lv_at hl 2 rfl) ?_
              refine lv_istore_n (lv' := [(1, vi (i : Int)), (6, vi (lm (lk f2 x y) (cm f4 f5 x y2 n))), (5, vi (lk f2 x y)), (4, vi (i : Int)), (3, vi q.2.2), (2, vi q.2.1), (0, .ref (ad 0))]) hx hb dX11_bestNow_75 rfl hl (by decide) rfl (fun ls hl => ?_)
              refine lv_iload hx hb dX11_bestNow_76 (lv_at hl 1 rfl) ?_
              refine lv_istore_n (lv' := [(2, vi (lm (lk f2 x y) (cm f4 f5 x y2 n))), (1, vi (i : Int)), (6, vi (lm (lk f2 x y) (cm f4 f5 x y2 n))), (5, vi (lk f2 x y)), (4, vi (i : Int)), (3, vi q.2.2), (0, .ref (ad 0))]) hx hb dX11_bestNow_78 rfl hl (by decide) rfl (fun ls hl => ?_)
              refine lv_iload hx hb dX11_bestNow_79 (lv_at hl 3 rfl) ?_
              refine lv_istore_n (lv' := [(3, vi (lk f2 x y)), (2, vi (lm (lk f2 x y) (cm f4 f5 x y2 n))), (1, vi (i : Int)), (6, vi (lm (lk f2 x y) (cm f4 f5 x y2 n))), (5, vi (lk f2 x y)), (4, vi (i : Int)), (0, .ref (ad 0))]) hx hb dX11_bestNow_81 rfl hl (by decide) rfl (fun ls hl => ?_)
              refine jr_iinc (lv' := [(4, vi ((i : Int) + 1)), (3, vi (lk f2 x y)), (2, vi (lm (lk f2 x y) (cm f4 f5 x y2 n))), (1, vi (i : Int)), (6, vi (lm (lk f2 x y) (cm f4 f5 x y2 n))), (5, vi (lk f2 x y)), (0, .ref (ad 0))]) hx hb dX11_bestNow_82 hl (k := 5) rfl rfl (by decide) rfl (fun ls hl => ?_)
              refine lv_goto (tgt := 9) hx hb dX11_bestNow_85 (by decide) ?_
              exact ih9 (i + 1) ((i : Int), lm (lk f2 x y) (cm f4 f5 x y2 n), lk f2 x y) _ (by omega) (by rw [fa, ← hF]; show _ = faS _ _ _ (U.getD i ([], [], 0)) i q; rw [hUi]; exact faS_1 (tm := (n, f4, f5)) (t0 := y2) (by omega) (by show 1 ≤ lm (lk f2 x y) (cm f4 f5 x y2 n); omega) (by show ¬ bt q.2.1 q.2.2 (lm (lk f2 x y) (cm f4 f5 x y2 n)) (lk f2 x y); omega)) (by omega) _ _ hP hD hS ls (lv_sub hl [0, 1, 2, 3, 6] rfl)
            · refine lv_iload hx hb dX11_bestNow_61 (lv_at hl 0 rfl) ?_
              refine lv_iload_n hx hb dX11_bestNow_63 rfl (lv_at hl 4 rfl) ?_
              refine jr_ne (tgt := 82) hx hb dX11_bestNow_64 (by decide) ⟨by omega, by omega⟩ ⟨by omega, by omega⟩ (fun c64 => ?_) (fun c64 => ?_)
              · refine jr_iinc (lv' := [(4, vi ((i : Int) + 1)), (6, vi (lm (lk f2 x y) (cm f4 f5 x y2 n))), (5, vi (lk f2 x y)), (3, vi q.2.2), (2, vi q.2.1), (1, vi q.1), (0, .ref (ad 0))]) hx hb dX11_bestNow_82 hl (k := 2) rfl rfl (by decide) rfl (fun ls hl => ?_)
                refine lv_goto (tgt := 9) hx hb dX11_bestNow_85 (by decide) ?_
                exact ih9 (i + 1) q _ (by omega) (by rw [fa, ← hF]; show _ = faS _ _ _ (U.getD i ([], [], 0)) i q; rw [hUi]; exact faS_0 (Or.inr (Or.inr (by show bt q.2.1 q.2.2 (lm (lk f2 x y) (cm f4 f5 x y2 n)) (lk f2 x y); omega)))) (by omega) _ _ hP hD hS ls (lv_sub hl [0, 3, 4, 5, 6] rfl)
              · refine lv_iload hx hb dX11_bestNow_67 (lv_at hl 1 rfl) ?_
                refine lv_iload_n hx hb dX11_bestNow_69 rfl (lv_at hl 3 rfl) ?_
                refine jr_lt (tgt := 82) hx hb dX11_bestNow_70 (by decide) ⟨by omega, by omega⟩ ⟨by omega, by omega⟩ (fun c70 => ?_) (fun c70 => ?_)
                · refine jr_iinc (lv' := [(4, vi ((i : Int) + 1)), (6, vi (lm (lk f2 x y) (cm f4 f5 x y2 n))), (5, vi (lk f2 x y)), (3, vi q.2.2), (2, vi q.2.1), (1, vi q.1), (0, .ref (ad 0))]) hx hb dX11_bestNow_82 hl (k := 2) rfl rfl (by decide) rfl (fun ls hl => ?_)
                  refine lv_goto (tgt := 9) hx hb dX11_bestNow_85 (by decide) ?_
                  exact ih9 (i + 1) q _ (by omega) (by rw [fa, ← hF]; show _ = faS _ _ _ (U.getD i ([], [], 0)) i q; rw [hUi]; exact faS_0 (Or.inr (Or.inr (by show bt q.2.1 q.2.2 (lm (lk f2 x y) (cm f4 f5 x y2 n)) (lk f2 x y); omega)))) (by omega) _ _ hP hD hS ls (lv_sub hl [0, 3, 4, 5, 6] rfl)
                · refine lv_iload hx hb dX11_bestNow_73 (lv_at hl 2 rfl) ?_
                  refine lv_istore_n (lv' := [(1, vi (i : Int)), (6, vi (lm (lk f2 x y) (cm f4 f5 x y2 n))), (5, vi (lk f2 x y)), (4, vi (i : Int)), (3, vi q.2.2), (2, vi q.2.1), (0, .ref (ad 0))]) hx hb dX11_bestNow_75 rfl hl (by decide) rfl (fun ls hl => ?_)
                  refine lv_iload hx hb dX11_bestNow_76 (lv_at hl 1 rfl) ?_
                  refine lv_istore_n (lv' := [(2, vi (lm (lk f2 x y) (cm f4 f5 x y2 n))), (1, vi (i : Int)), (6, vi (lm (lk f2 x y) (cm f4 f5 x y2 n))), (5, vi (lk f2 x y)), (4, vi (i : Int)), (3, vi q.2.2), (0, .ref (ad 0))]) hx hb dX11_bestNow_78 rfl hl (by decide) rfl (fun ls hl => ?_)
                  refine lv_iload hx hb dX11_bestNow_79 (lv_at hl 3 rfl) ?_
                  refine lv_istore_n (lv' := [(3, vi (lk f2 x y)), (2, vi (lm (lk f2 x y) (cm f4 f5 x y2 n))), (1, vi (i : Int)), (6, vi (lm (lk f2 x y) (cm f4 f5 x y2 n))), (5, vi (lk f2 x y)), (4, vi (i : Int)), (0, .ref (ad 0))]) hx hb dX11_bestNow_81 rfl hl (by decide) rfl (fun ls hl => ?_)
                  refine jr_iinc (lv' := [(4, vi ((i : Int) + 1)), (3, vi (lk f2 x y)), (2, vi (lm (lk f2 x y) (cm f4 f5 x y2 n))), (1, vi (i : Int)), (6, vi (lm (lk f2 x y) (cm f4 f5 x y2 n))), (5, vi (lk f2 x y)), (0, .ref (ad 0))]) hx hb dX11_bestNow_82 hl (k := 5) rfl rfl (by decide) rfl (fun ls hl => ?_)
                  refine lv_goto (tgt := 9) hx hb dX11_bestNow_85 (by decide) ?_
                  exact ih9 (i + 1) ((i : Int), lm (lk f2 x y) (cm f4 f5 x y2 n), lk f2 x y) _ (by omega) (by rw [fa, ← hF]; show _ = faS _ _ _ (U.getD i ([], [], 0)) i q; rw [hUi]; exact faS_1 (tm := (n, f4, f5)) (t0 := y2) (by omega) (by show 1 ≤ lm (lk f2 x y) (cm f4 f5 x y2 n); omega) (by show ¬ bt q.2.1 q.2.2 (lm (lk f2 x y) (cm f4 f5 x y2 n)) (lk f2 x y); omega)) (by omega) _ _ hP hD hS ls (lv_sub hl [0, 1, 2, 3, 6] rfl)
  exact lp9 _ 0 (-1, 0, 0) f20 (Nat.zero_le _) (by rw [fa]) (Nat.lt_succ_self _) _ _ hP hD hS ls (lv_sub hl [0, 1, 2, 3, 4] rfl)
