
theorem lk_X11_122 : GoodIn WSL (va_wsS RX11 122 yX11_least (ws_ yX11_least cX11_least 2 (some .int))) := gd_app (List.forall_mem_cons.mpr ⟨wd_24_15, List.forall_mem_cons.mpr ⟨wd_24_16, List.forall_mem_cons.mpr ⟨wd_1_5, fun _ h => nomatch h⟩⟩⟩) (gd_ wd_24_17)
theorem cwS_X11_least : yX11_least.cls ≠ "java/lang/invoke/MethodHandle" ∧ yX11_least.cls ≠ "java/lang/invoke/VarHandle" ∧ (parseMethodDescriptor yX11_least.desc).map (fun d => d.parameters.length) = some 2 := by decide +kernel
theorem lk_X11_126 : GoodIn WSL (wsV RX11 126 RX11 yX11_replaced (ws_ yX11_replaced cX11_replaced 6 (some .int))) := gd_app (List.forall_mem_cons.mpr ⟨wd_24_18, List.forall_mem_cons.mpr ⟨wd_24_19, List.forall_mem_cons.mpr ⟨wd_24_20, List.forall_mem_cons.mpr ⟨wd_1_5, fun _ h => nomatch h⟩⟩⟩⟩) (gd_ wd_24_21)
theorem cwV_X11_replaced : yX11_replaced.cls = RX11 ∧ yX11_replaced.cls ≠ "java/lang/invoke/MethodHandle" ∧ yX11_replaced.cls ≠ "java/lang/invoke/VarHandle" ∧ (parseMethodDescriptor yX11_replaced.desc).map (fun d => d.parameters.length) = some 2 := by decide +kernel
set_option maxHeartbeats 4000000 in
set_option maxRecDepth 100000 in
theorem m_X11_looksAtDraft (l : Launch) (g : GT) (ad : Nat → Nat) (th dn nt tn nu ns tz : Int) (f1 f19 : Nat → Int) (t : List Int) (ht : TT t f1) (hdn : dn = (t.length : Int)) : Met l yX11_looksAtDraft (ws_ yX11_looksAtDraft cX11_looksAtDraft 2 none) (rmm 0 0 0) (jPc g [.ref (ad 0)] (fun H => PP g [ob (ad 0) 10 [vi th, .ref (ad 1), vi dn, .ref (ad 2), .ref (ad 3), vi nt, .ref (ad 4), .ref (ad 5), .ref (ad 6), vi tn, vi nu, .ref (ad 7), .ref (ad 8), .ref (ad 9), .ref (ad 10), .ref (ad 11), .ref (ad 12), vi ns, .ref (ad 13), .ref (ad 14), .ref (ad 15), .ref (ad 16), .ref (ad 17), .ref (ad 18), .ref (ad 19), vi tz, .ref (ad 20), .ref (ad 21), .ref (ad 22)], aI g (ad 1) 60 f1, aI g (ad 19) 60 f19] H ∧ va_D (fun q => gb g ≤ q) [ob (ad 0) 10 [vi th, .ref (ad 1), vi dn, .ref (ad 2), .ref (ad 3), vi nt, .ref (ad 4), .ref (ad 5), .ref (ad 6), vi tn, vi nu, .ref (ad 7), .ref (ad 8), .ref (ad 9), .ref (ad 10), .ref (ad 11), .ref (ad 12), vi ns, .ref (ad 13), .ref (ad 14), .ref (ad 15), .ref (ad 16), .ref (ad 17), .ref (ad 18), .ref (ad 19), vi tz, .ref (ad 20), .ref (ad 21), .ref (ad 22)], aI g (ad 1) 60 f1, aI g (ad 19) 60 f19])) (jQv (fun H1 => ∃ g19 : Nat → Int, TT t g19 ∧ PP g [ob (ad 0) 10 [vi th, .ref (ad 1), vi dn, .ref (ad 2), .ref (ad 3), vi nt, .ref (ad 4), .ref (ad 5), .ref (ad 6), vi tn, vi nu, .ref (ad 7), .ref (ad 8), .ref (ad 9), .ref (ad 10), .ref (ad 11), .ref (ad 12), vi ns, .ref (ad 13), .ref (ad 14), .ref (ad 15), .ref (ad 16), .ref (ad 17), .ref (ad 18), .ref (ad 19), vi dn, .ref (ad 20), .ref (ad 21), .ref (ad 22)], aI g (ad 1) 60 f1, aI g (ad 19) 60 g19] H1) (jA [ob (ad 0) 10 [vi th, .ref (ad 1), vi dn, .ref (ad 2), .ref (ad 3), vi nt, .ref (ad 4), .ref (ad 5), .ref (ad 6), vi tn, vi nu, .ref (ad 7), .ref (ad 8), .ref (ad 9), .ref (ad 10), .ref (ad 11), .ref (ad 12), vi ns, .ref (ad 13), .ref (ad 14), .ref (ad 15), .ref (ad 16), .ref (ad 17), .ref (ad 18), .ref (ad 19), vi tz, .ref (ad 20), .ref (ad 21), .ref (ad 22)], aI g (ad 1) 60 f1, aI g (ad 19) 60 f19])) 0 0 (jA [ob (ad 0) 10 [vi th, .ref (ad 1), vi dn, .ref (ad 2), .ref (ad 3), vi nt, .ref (ad 4), .ref (ad 5), .ref (ad 6), vi tn, vi nu, .ref (ad 7), .ref (ad 8), .ref (ad 9), .ref (ad 10), .ref (ad 11), .ref (ad 12), vi ns, .ref (ad 13), .ref (ad 14), .ref (ad 15), .ref (ad 16), .ref (ad 17), .ref (ad 18), .ref (ad 19), vi tz, .ref (ad 20), .ref (ad 21), .ref (ad 22)], aI g (ad 1) 60 f1, aI g (ad 19) 60 f19]) := by
  refine jb_M (by decide) (Nat.le_of_ble_eq_true rfl) ?_
  intro p e s m below meth cq hx hb hr hml hown htl hlk hnm hKK hpre ls hl
  have hown : s.vm.findClass RX11 = some m.cls := hown
  have hl : lv_has ls 2 [(0, .ref (ad 0))] := hl
  obtain ⟨hP, hD0⟩ := hpre
  have htl0 := ht.len
  have hD : va_D (jA [ob (ad 0) 10 [vi th, .ref (ad 1), vi dn, .ref (ad 2), .ref (ad 3), vi nt, .ref (ad 4), .ref (ad 5), .ref (ad 6), vi tn, vi nu, .ref (ad 7), .ref (ad 8), .ref (ad 9), .ref (ad 10), .ref (ad 11), .ref (ad 12), vi ns, .ref (ad 13), .ref (ad 14), .ref (ad 15), .ref (ad 16), .ref (ad 17), .ref (ad 18), .ref (ad 19), vi tz, .ref (ad 20), .ref (ad 21), .ref (ad 22)], aI g (ad 1) 60 f1, aI g (ad 19) 60 f19]) [ob (ad 0) 10 [vi th, .ref (ad 1), vi dn, .ref (ad 2), .ref (ad 3), vi nt, .ref (ad 4), .ref (ad 5), .ref (ad 6), vi tn, vi nu, .ref (ad 7), .ref (ad 8), .ref (ad 9), .ref (ad 10), .ref (ad 11), .ref (ad 12), vi ns, .ref (ad 13), .ref (ad 14), .ref (ad 15), .ref (ad 16), .ref (ad 17), .ref (ad 18), .ref (ad 19), vi tz, .ref (ad 20), .ref (ad 21), .ref (ad 22)], aI g (ad 1) 60 f1, aI g (ad 19) 60 f19] := hD0.inD
  have hAb : ∀ q, (jA [ob (ad 0) 10 [vi th, .ref (ad 1), vi dn, .ref (ad 2), .ref (ad 3), vi nt, .ref (ad 4), .ref (ad 5), .ref (ad 6), vi tn, vi nu, .ref (ad 7), .ref (ad 8), .ref (ad 9), .ref (ad 10), .ref (ad 11), .ref (ad 12), vi ns, .ref (ad 13), .ref (ad 14), .ref (ad 15), .ref (ad 16), .ref (ad 17), .ref (ad 18), .ref (ad 19), vi tz, .ref (ad 20), .ref (ad 21), .ref (ad 22)], aI g (ad 1) 60 f1, aI g (ad 19) 60 f19]) q → gb g ≤ q := fun q h => hD0.inA h
  generalize hAe : jA [ob (ad 0) 10 [vi th, .ref (ad 1), vi dn, .ref (ad 2), .ref (ad 3), vi nt, .ref (ad 4), .ref (ad 5), .ref (ad 6), vi tn, vi nu, .ref (ad 7), .ref (ad 8), .ref (ad 9), .ref (ad 10), .ref (ad 11), .ref (ad 12), vi ns, .ref (ad 13), .ref (ad 14), .ref (ad 15), .ref (ad 16), .ref (ad 17), .ref (ad 18), .ref (ad 19), vi tz, .ref (ad 20), .ref (ad 21), .ref (ad 22)], aI g (ad 1) 60 f1, aI g (ad 19) 60 f19] = A at *
  have hS : va_S A s.heap s.heap [] := va_S.rf
  suffices K : ∀ (H : Heap) (locs : List Loc), PP g [ob (ad 0) 10 [vi th, .ref (ad 1), vi dn, .ref (ad 2), .ref (ad 3), vi nt, .ref (ad 4), .ref (ad 5), .ref (ad 6), vi tn, vi nu, .ref (ad 7), .ref (ad 8), .ref (ad 9), .ref (ad 10), .ref (ad 11), .ref (ad 12), vi ns, .ref (ad 13), .ref (ad 14), .ref (ad 15), .ref (ad 16), .ref (ad 17), .ref (ad 18), .ref (ad 19), vi tz, .ref (ad 20), .ref (ad 21), .ref (ad 22)], aI g (ad 1) 60 f1, aI g (ad 19) 60 f19] H → va_D A [ob (ad 0) 10 [vi th, .ref (ad 1), vi dn, .ref (ad 2), .ref (ad 3), vi nt, .ref (ad 4), .ref (ad 5), .ref (ad 6), vi tn, vi nu, .ref (ad 7), .ref (ad 8), .ref (ad 9), .ref (ad 10), .ref (ad 11), .ref (ad 12), vi ns, .ref (ad 13), .ref (ad 14), .ref (ad 15), .ref (ad 16), .ref (ad 17), .ref (ad 18), .ref (ad 19), vi tz, .ref (ad 20), .ref (ad 21), .ref (ad 22)], aI g (ad 1) 60 f1, aI g (ad 19) 60 f19] → va_S A s.heap H locs → ∀ ls : Array Slot, lv_has ls 2 [(0, .ref (ad 0))] → W p l e (rmm 0 0 0) s m ([.ref (ad 0)] : List Value).toArray below meth cq H locs 0 0 (MQ below (jQv (fun H1 => ∃ g19 : Nat → Int, TT t g19 ∧ PP g [ob (ad 0) 10 [vi th, .ref (ad 1), vi dn, .ref (ad 2), .ref (ad 3), vi nt, .ref (ad 4), .ref (ad 5), .ref (ad 6), vi tn, vi nu, .ref (ad 7), .ref (ad 8), .ref (ad 9), .ref (ad 10), .ref (ad 11), .ref (ad 12), vi ns, .ref (ad 13), .ref (ad 14), .ref (ad 15), .ref (ad 16), .ref (ad 17), .ref (ad 18), .ref (ad 19), vi dn, .ref (ad 20), .ref (ad 21), .ref (ad 22)], aI g (ad 1) 60 f1, aI g (ad 19) 60 g19] H1) A) ([.ref (ad 0)] : List Value).toArray s 0 0 A) (F0 m 0 ls []) from K _ _ hP hD hS _ hl
  clear hl; intro H locs hP hD hS ls hl
  refine jr_iconst hx hb dX11_looksAtDraft_0 ?_
  refine lv_istore_n (lv' := [(1, vi 0), (0, .ref (ad 0))]) hx hb dX11_looksAtDraft_1 rfl hl (by decide) rfl (fun ls hl => ?_)
  have lp2 : ∀ (N : Nat) (i : Nat) (h : Nat → Int), (i ≤ t.length) → (∀ j, j < i → h (0 + j) = t.getD j 0) → t.length - i < N → ∀ (H : Heap) (locs : List Loc), PP g [ob (ad 0) 10 [vi th, .ref (ad 1), vi dn, .ref (ad 2), .ref (ad 3), vi nt, .ref (ad 4), .ref (ad 5), .ref (ad 6), vi tn, vi nu, .ref (ad 7), .ref (ad 8), .ref (ad 9), .ref (ad 10), .ref (ad 11), .ref (ad 12), vi ns, .ref (ad 13), .ref (ad 14), .ref (ad 15), .ref (ad 16), .ref (ad 17), .ref (ad 18), .ref (ad 19), vi tz, .ref (ad 20), .ref (ad 21), .ref (ad 22)], aI g (ad 1) 60 f1, aI g (ad 19) 60 h] H → va_D A [ob (ad 0) 10 [vi th, .ref (ad 1), vi dn, .ref (ad 2), .ref (ad 3), vi nt, .ref (ad 4), .ref (ad 5), .ref (ad 6), vi tn, vi nu, .ref (ad 7), .ref (ad 8), .ref (ad 9), .ref (ad 10), .ref (ad 11), .ref (ad 12), vi ns, .ref (ad 13), .ref (ad 14), .ref (ad 15), .ref (ad 16), .ref (ad 17), .ref (ad 18), .ref (ad 19), vi tz, .ref (ad 20), .ref (ad 21), .ref (ad 22)], aI g (ad 1) 60 f1, aI g (ad 19) 60 h] → va_S A s.heap H locs → ∀ ls : Array Slot, lv_has ls 2 [(1, vi (i : Int)), (0, .ref (ad 0))] → W p l e (rmm 0 0 0) s m ([.ref (ad 0)] : List Value).toArray below meth cq H locs 0 0 (MQ below (jQv (fun H1 => ∃ g19 : Nat → Int, TT t g19 ∧ PP g [ob (ad 0) 10 [vi th, .ref (ad 1), vi dn, .ref (ad 2), .ref (ad 3), vi nt, .ref (ad 4), .ref (ad 5), .ref (ad 6), vi tn, vi nu, .ref (ad 7), .ref (ad 8), .ref (ad 9), .ref (ad 10), .ref (ad 11), .ref (ad 12), vi ns, .ref (ad 13), .ref (ad 14), .ref (ad 15), .ref (ad 16), .ref (ad 17), .ref (ad 18), .ref (ad 19), vi dn, .ref (ad 20), .ref (ad 21), .ref (ad 22)], aI g (ad 1) 60 f1, aI g (ad 19) 60 g19] H1) A) ([.ref (ad 0)] : List Value).toArray s 0 0 A) (F0 m 2 ls []) := by
    intro N
    induction N with
    | zero => intro i h hi hF hM; exact absurd hM (Nat.not_lt_zero _)
    | succ N ih2 =>
      intro i h hi hF hM H locs hP hD hS ls hl
      refine lv_iload_n hx hb dX11_looksAtDraft_2 rfl (lv_at hl 0 rfl) ?_
      refine lv_aload_n hx hb dX11_looksAtDraft_3 rfl (lv_at hl 1 rfl) ?_
      refine va_get (D := gD g) (ci := 10) (v := vi dn) (C := RX11) (T := TX11) (N := 29) hx hb htl ck_X11 hown hKK.k hP 0 rfl rfl 2 (by decide) (htl _ wd_8_11) (fun _ h9 => h9) rfl dX11_looksAtDraft_4 ?_
      refine jr_ge (tgt := 28) hx hb dX11_looksAtDraft_7 (by decide) ⟨by omega, by omega⟩ ⟨by omega, by omega⟩ (fun c7 => ?_) (fun c7 => ?_)
      · refine lv_aload_n hx hb dX11_looksAtDraft_28 rfl (lv_at hl 1 rfl) ?_
        refine lv_aload_n hx hb dX11_looksAtDraft_29 rfl (lv_at hl 1 rfl) ?_
        refine va_get (D := gD g) (ci := 10) (v := vi dn) (C := RX11) (T := TX11) (N := 29) hx hb htl ck_X11 hown hKK.k hP 0 rfl rfl 2 (by decide) (htl _ wd_8_11) (fun _ h9 => h9) rfl dX11_looksAtDraft_30 ?_
        refine va_put (D := gD g) (ci := 10) (v := vi dn) (ty := .int) (C := RX11) (T := TX11) (N := 29) hx hb htl ck_X11 tyX11 tyX11_ok nmX11 hown hKK.k hP hD hS 0 rfl rfl 25 (by decide) (htl _ wd_24_5) (fun _ h9 => h9) rfl (by decide +kernel) rfl rfl (Nat.le_of_ble_eq_true rfl) dX11_looksAtDraft_33 (fun H locs hP hD hS => ?_)
        have hP : PP g [ob (ad 0) 10 [vi th, .ref (ad 1), vi dn, .ref (ad 2), .ref (ad 3), vi nt, .ref (ad 4), .ref (ad 5), .ref (ad 6), vi tn, vi nu, .ref (ad 7), .ref (ad 8), .ref (ad 9), .ref (ad 10), .ref (ad 11), .ref (ad 12), vi ns, .ref (ad 13), .ref (ad 14), .ref (ad 15), .ref (ad 16), .ref (ad 17), .ref (ad 18), .ref (ad 19), vi dn, .ref (ad 20), .ref (ad 21), .ref (ad 22)], aI g (ad 1) 60 f1, aI g (ad 19) 60 h] H := hP
        have hD : va_D A [ob (ad 0) 10 [vi th, .ref (ad 1), vi dn, .ref (ad 2), .ref (ad 3), vi nt, .ref (ad 4), .ref (ad 5), .ref (ad 6), vi tn, vi nu, .ref (ad 7), .ref (ad 8), .ref (ad 9), .ref (ad 10), .ref (ad 11), .ref (ad 12), vi ns, .ref (ad 13), .ref (ad 14), .ref (ad 15), .ref (ad 16), .ref (ad 17), .ref (ad 18), .ref (ad 19), vi dn, .ref (ad 20), .ref (ad 21), .ref (ad 22)], aI g (ad 1) 60 f1, aI g (ad 19) 60 h] := hD
        exact je_Qv hx hb hr hlk hS (⟨h, ht.of_eq (fun j hj => by have h9 := hF j (by omega); rw [Nat.zero_add] at h9; exact h9), hP⟩) dX11_looksAtDraft_36
      · refine lv_aload_n hx hb dX11_looksAtDraft_10 rfl (lv_at hl 1 rfl) ?_
        refine va_get (D := gD g) (ci := 10) (v := .ref (ad 19)) (C := RX11) (T := TX11) (N := 29) hx hb htl ck_X11 hown hKK.k hP 0 rfl rfl 24 (by decide) (htl _ wd_6_10) (fun _ h9 => h9) rfl dX11_looksAtDraft_11 ?_
        refine lv_iload_n hx hb dX11_looksAtDraft_14 rfl (lv_at hl 0 rfl) ?_
        refine lv_aload_n hx hb dX11_looksAtDraft_15 rfl (lv_at hl 1 rfl) ?_
        refine va_get (D := gD g) (ci := 10) (v := .ref (ad 1)) (C := RX11) (T := TX11) (N := 29) hx hb htl ck_X11 hown hKK.k hP 0 rfl rfl 1 (by decide) (htl _ wd_5_15) (fun _ h9 => h9) rfl dX11_looksAtDraft_16 ?_
        refine lv_iload_n hx hb dX11_looksAtDraft_19 rfl (lv_at hl 0 rfl) ?_
        refine jr_iald hx hb hKK.k hP 1 rfl i rfl (by omega) (by omega) dX11_looksAtDraft_20 ?_
        refine jr_iast hx hb hKK.k hP hD hS 2 rfl i rfl (by omega) (by omega) dX11_looksAtDraft_21 (fun H locs hP hD hS => ?_)
        have hP : PP g [ob (ad 0) 10 [vi th, .ref (ad 1), vi dn, .ref (ad 2), .ref (ad 3), vi nt, .ref (ad 4), .ref (ad 5), .ref (ad 6), vi tn, vi nu, .ref (ad 7), .ref (ad 8), .ref (ad 9), .ref (ad 10), .ref (ad 11), .ref (ad 12), vi ns, .ref (ad 13), .ref (ad 14), .ref (ad 15), .ref (ad 16), .ref (ad 17), .ref (ad 18), .ref (ad 19), vi tz, .ref (ad 20), .ref (ad 21), .ref (ad 22)], aI g (ad 1) 60 f1, aI g (ad 19) 60 (ju h i (f1 i))] H := hP
        have hD : va_D A [ob (ad 0) 10 [vi th, .ref (ad 1), vi dn, .ref (ad 2), .ref (ad 3), vi nt, .ref (ad 4), .ref (ad 5), .ref (ad 6), vi tn, vi nu, .ref (ad 7), .ref (ad 8), .ref (ad 9), .ref (ad 10), .ref (ad 11), .ref (ad 12), vi ns, .ref (ad 13), .ref (ad 14), .ref (ad 15), .ref (ad 16), .ref (ad 17), .ref (ad 18), .ref (ad 19), vi tz, .ref (ad 20), .ref (ad 21), .ref (ad 22)], aI g (ad 1) 60 f1, aI g (ad 19) 60 (ju h i (f1 i))] := hD
        refine jr_iinc (lv' := [(1, vi ((i : Int) + 1)), (0, .ref (ad 0))]) hx hb dX11_looksAtDraft_22 hl (k := 0) rfl rfl (by decide) rfl (fun ls hl => ?_)
        refine lv_goto (tgt := 2) hx hb dX11_looksAtDraft_25 (by decide) ?_
        exact ih2 (i + 1) _ (by omega) (by have h9 := ju_pre (b := 0) (v := f1 i) hF (ht.at (by omega)); rw [Nat.zero_add] at h9; exact h9) (by omega) _ _ hP hD hS ls (lv_sub hl [0, 1] rfl)
  exact lp2 _ 0 f19 (Nat.zero_le _) (fun j hj => absurd hj (Nat.not_lt_zero _)) (Nat.lt_succ_self _) _ _ hP hD hS ls (lv_sub hl [0, 1] rfl)
set_option maxHeartbeats 4000000 in
set_option maxRecDepth 100000 in
theorem m_X11_looksAtSegment (l : Launch) (g : GT) (ad : Nat → Nat) (th dn nt tn nu ns tz : Int) (f12 f13 f19 : Nat → Int) (k b : Nat) (y : List Int) (hk : k < 60) (h1 : f13 k = (b : Int)) (h2 : f13 (k + 1) = ((b + y.length : Nat) : Int)) (h3 : b + y.length ≤ 60) (hy : RWS f12 b y) : Met l yX11_looksAtSegment (ws_ yX11_looksAtSegment cX11_looksAtSegment 3 none) (rmm 0 0 0) (jPc g [.ref (ad 0), vi (k : Int)] (fun H => PP g [ob (ad 0) 10 [vi th, .ref (ad 1), vi dn, .ref (ad 2), .ref (ad 3), vi nt, .ref (ad 4), .ref (ad 5), .ref (ad 6), vi tn, vi nu, .ref (ad 7), .ref (ad 8), .ref (ad 9), .ref (ad 10), .ref (ad 11), .ref (ad 12), vi ns, .ref (ad 13), .ref (ad 14), .ref (ad 15), .ref (ad 16), .ref (ad 17), .ref (ad 18), .ref (ad 19), vi tz, .ref (ad 20), .ref (ad 21), .ref (ad 22)], aI g (ad 12) 60 f12, aI g (ad 13) 61 f13, aI g (ad 19) 60 f19] H ∧ va_D (fun q => gb g ≤ q) [ob (ad 0) 10 [vi th, .ref (ad 1), vi dn, .ref (ad 2), .ref (ad 3), vi nt, .ref (ad 4), .ref (ad 5), .ref (ad 6), vi tn, vi nu, .ref (ad 7), .ref (ad 8), .ref (ad 9), .ref (ad 10), .ref (ad 11), .ref (ad 12), vi ns, .ref (ad 13), .ref (ad 14), .ref (ad 15), .ref (ad 16), .ref (ad 17), .ref (ad 18), .ref (ad 19), vi tz, .ref (ad 20), .ref (ad 21), .ref (ad 22)], aI g (ad 12) 60 f12, aI g (ad 13) 61 f13, aI g (ad 19) 60 f19])) (jQv (fun H1 => ∃ g19 : Nat → Int, TT y g19 ∧ PP g [ob (ad 0) 10 [vi th, .ref (ad 1), vi dn, .ref (ad 2), .ref (ad 3), vi nt, .ref (ad 4), .ref (ad 5), .ref (ad 6), vi tn, vi nu, .ref (ad 7), .ref (ad 8), .ref (ad 9), .ref (ad 10), .ref (ad 11), .ref (ad 12), vi ns, .ref (ad 13), .ref (ad 14), .ref (ad 15), .ref (ad 16), .ref (ad 17), .ref (ad 18), .ref (ad 19), vi (y.length : Int), .ref (ad 20), .ref (ad 21), .ref (ad 22)], aI g (ad 12) 60 f12, aI g (ad 13) 61 f13, aI g (ad 19) 60 g19] H1) (jA [ob (ad 0) 10 [vi th, .ref (ad 1), vi dn, .ref (ad 2), .ref (ad 3), vi nt, .ref (ad 4), .ref (ad 5), .ref (ad 6), vi tn, vi nu, .ref (ad 7), .ref (ad 8), .ref (ad 9), .ref (ad 10), .ref (ad 11), .ref (ad 12), vi ns, .ref (ad 13), .ref (ad 14), .ref (ad 15), .ref (ad 16), .ref (ad 17), .ref (ad 18), .ref (ad 19), vi tz, .ref (ad 20), .ref (ad 21), .ref (ad 22)], aI g (ad 12) 60 f12, aI g (ad 13) 61 f13, aI g (ad 19) 60 f19])) 0 0 (jA [ob (ad 0) 10 [vi th, .ref (ad 1), vi dn, .ref (ad 2), .ref (ad 3), vi nt, .ref (ad 4), .ref (ad 5), .ref (ad 6), vi tn, vi nu, .ref (ad 7), .ref (ad 8), .ref (ad 9), .ref (ad 10), .ref (ad 11), .ref (ad 12), vi ns, .ref (ad 13), .ref (ad 14), .ref (ad 15), .ref (ad 16), .ref (ad 17), .ref (ad 18), .ref (ad 19), vi tz, .ref (ad 20), .ref (ad 21), .ref (ad 22)], aI g (ad 12) 60 f12, aI g (ad 13) 61 f13, aI g (ad 19) 60 f19]) := by
  refine jb_M (by decide) (Nat.le_of_ble_eq_true rfl) ?_
  intro p e s m below meth cq hx hb hr hml hown htl hlk hnm hKK hpre ls hl
  have hown : s.vm.findClass RX11 = some m.cls := hown
  have hl : lv_has ls 3 [(0, .ref (ad 0)), (1, vi (k : Int))] := hl
  obtain ⟨hP, hD0⟩ := hpre
  have hD : va_D (jA [ob (ad 0) 10 [vi th, .ref (ad 1), vi dn, .ref (ad 2), .ref (ad 3), vi nt, .ref (ad 4), .ref (ad 5), .ref (ad 6), vi tn, vi nu, .ref (ad 7), .ref (ad 8), .ref (ad 9), .ref (ad 10), .ref (ad 11), .ref (ad 12), vi ns, .ref (ad 13), .ref (ad 14), .ref (ad 15), .ref (ad 16), .ref (ad 17), .ref (ad 18), .ref (ad 19), vi tz, .ref (ad 20), .ref (ad 21), .ref (ad 22)], aI g (ad 12) 60 f12, aI g (ad 13) 61 f13, aI g (ad 19) 60 f19]) [ob (ad 0) 10 [vi th, .ref (ad 1), vi dn, .ref (ad 2), .ref (ad 3), vi nt, .ref (ad 4), .ref (ad 5), .ref (ad 6), vi tn, vi nu, .ref (ad 7), .ref (ad 8), .ref (ad 9), .ref (ad 10), .ref (ad 11), .ref (ad 12), vi ns, .ref (ad 13), .ref (ad 14), .ref (ad 15), .ref (ad 16), .ref (ad 17), .ref (ad 18), .ref (ad 19), vi tz, .ref (ad 20), .ref (ad 21), .ref (ad 22)], aI g (ad 12) 60 f12, aI g (ad 13) 61 f13, aI g (ad 19) 60 f19] := hD0.inD
  have hAb : ∀ q, (jA [ob (ad 0) 10 [vi th, .ref (ad 1), vi dn, .ref (ad 2), .ref (ad 3), vi nt, .ref (ad 4), .ref (ad 5), .ref (ad 6), vi tn, vi nu, .ref (ad 7), .ref (ad 8), .ref (ad 9), .ref (ad 10), .ref (ad 11), .ref (ad 12), vi ns, .ref (ad 13), .ref (ad 14), .ref (ad 15), .ref (ad 16), .ref (ad 17), .ref (ad 18), .ref (ad 19), vi tz, .ref (ad 20), .ref (ad 21), .ref (ad 22)], aI g (ad 12) 60 f12, aI g (ad 13) 61 f13, aI g (ad 19) 60 f19]) q → gb g ≤ q := fun q h => hD0.inA h
  generalize hAe : jA [ob (ad 0) 10 [vi th, .ref (ad 1), vi dn, .ref (ad 2), .ref (ad 3), vi nt, .ref (ad 4), .ref (ad 5), .ref (ad 6), vi tn, vi nu, .ref (ad 7), .ref (ad 8), .ref (ad 9), .ref (ad 10), .ref (ad 11), .ref (ad 12), vi ns, .ref (ad 13), .ref (ad 14), .ref (ad 15), .ref (ad 16), .ref (ad 17), .ref (ad 18), .ref (ad 19), vi tz, .ref (ad 20), .ref (ad 21), .ref (ad 22)], aI g (ad 12) 60 f12, aI g (ad 13) 61 f13, aI g (ad 19) 60 f19] = A at *
  have hS : va_S A s.heap s.heap [] := va_S.rf
  suffices K : ∀ (H : Heap) (locs : List Loc), PP g [ob (ad 0) 10 [vi th, .ref (ad 1), vi dn, .ref (ad 2), .ref (ad 3), vi nt, .ref (ad 4), .ref (ad 5), .ref (ad 6), vi tn, vi nu, .ref (ad 7), .ref (ad 8), .ref (ad 9), .ref (ad 10), .ref (ad 11), .ref (ad 12), vi ns, .ref (ad 13), .ref (ad 14), .ref (ad 15), .ref (ad 16), .ref (ad 17), .ref (ad 18), .ref (ad 19), vi tz, .ref (ad 20), .ref (ad 21), .ref (ad 22)], aI g (ad 12) 60 f12, aI g (ad 13) 61 f13, aI g (ad 19) 60 f19] H → va_D A [ob (ad 0) 10 [vi th, .ref (ad 1), vi dn, .ref (ad 2), .ref (ad 3), vi nt, .ref (ad 4), .ref (ad 5), .ref (ad 6), vi tn, vi nu, .ref (ad 7), .ref (ad 8), .ref (ad 9), .ref (ad 10), .ref (ad 11), .ref (ad 12), vi ns, .ref (ad 13), .ref (ad 14), .ref (ad 15), .ref (ad 16), .ref (ad 17), .ref (ad 18), .ref (ad 19), vi tz, .ref (ad 20), .ref (ad 21), .ref (ad 22)], aI g (ad 12) 60 f12, aI g (ad 13) 61 f13, aI g (ad 19) 60 f19] → va_S A s.heap H locs → ∀ ls : Array Slot, lv_has ls 3 [(0, .ref (ad 0)), (1, vi (k : Int))] → W p l e (rmm 0 0 0) s m ([.ref (ad 0), vi (k : Int)] : List Value).toArray below meth cq H locs 0 0 (MQ below (jQv (fun H1 => ∃ g19 : Nat → Int, TT y g19 ∧ PP g [ob (ad 0) 10 [vi th, .ref (ad 1), vi dn, .ref (ad 2), .ref (ad 3), vi nt, .ref (ad 4), .ref (ad 5), .ref (ad 6), vi tn, vi nu, .ref (ad 7), .ref (ad 8), .ref (ad 9), .ref (ad 10), .ref (ad 11), .ref (ad 12), vi ns, .ref (ad 13), .ref (ad 14), .ref (ad 15), .ref (ad 16), .ref (ad 17), .ref (ad 18), .ref (ad 19), vi (y.length : Int), .ref (ad 20), .ref (ad 21), .ref (ad 22)], aI g (ad 12) 60 f12, aI g (ad 13) 61 f13, aI g (ad 19) 60 g19] H1) A) ([.ref (ad 0), vi (k : Int)] : List Value).toArray s 0 0 A) (F0 m 0 ls []) from K _ _ hP hD hS _ hl
  clear hl; intro H locs hP hD hS ls hl
  refine lv_aload_n hx hb dX11_looksAtSegment_0 rfl (lv_at hl 0 rfl) ?_
  refine lv_aload_n hx hb dX11_looksAtSegment_1 rfl (lv_at hl 0 rfl) ?_
  refine va_get (D := gD g) (ci := 10) (v := .ref (ad 13)) (C := RX11) (T := TX11) (N := 29) hx hb htl ck_X11 hown hKK.k hP 0 rfl rfl 18 (by decide) (htl _ wd_6_3) (fun _ h9 => h9) rfl dX11_looksAtSegment_2 ?_
  refine lv_iload_n hx hb dX11_looksAtSegment_5 rfl (lv_at hl 1 rfl) ?_
  refine jr_iconst hx hb dX11_looksAtSegment_6 ?_
  refine jr_iadd hx hb dX11_looksAtSegment_7 ?_
  refine jr_iald hx hb hKK.k hP 2 rfl (k + 1) (by omega) (by omega) (by omega) dX11_looksAtSegment_8 ?_
  refine lv_aload_n hx hb dX11_looksAtSegment_9 rfl (lv_at hl 0 rfl) ?_
  refine va_get (D := gD g) (ci := 10) (v := .ref (ad 13)) (C := RX11) (T := TX11) (N := 29) hx hb htl ck_X11 hown hKK.k hP 0 rfl rfl 18 (by decide) (htl _ wd_6_3) (fun _ h9 => h9) rfl dX11_looksAtSegment_10 ?_
  refine lv_iload_n hx hb dX11_looksAtSegment_13 rfl (lv_at hl 1 rfl) ?_
  refine jr_iald hx hb hKK.k hP 2 rfl k (by omega) (by omega) (by omega) dX11_looksAtSegment_14 ?_
  refine jr_isub hx hb dX11_looksAtSegment_15 ?_
  refine jr_nm (b := (y.length : Int)) (by omega) ?_
  refine va_put (D := gD g) (ci := 10) (v := vi (y.length : Int)) (ty := .int) (C := RX11) (T := TX11) (N := 29) hx hb htl ck_X11 tyX11 tyX11_ok nmX11 hown hKK.k hP hD hS 0 rfl rfl 25 (by decide) (htl _ wd_24_5) (fun _ h9 => h9) rfl (by decide +kernel) rfl rfl (Nat.le_of_ble_eq_true rfl) dX11_looksAtSegment_16 (fun H locs hP hD hS => ?_)
  have hP : PP g [ob (ad 0) 10 [vi th, .ref (ad 1), vi dn, .ref (ad 2), .ref (ad 3), vi nt, .ref (ad 4), .ref (ad 5), .ref (ad 6), vi tn, vi nu, .ref (ad 7), .ref (ad 8), .ref (ad 9), .ref (ad 10), .ref (ad 11), .ref (ad 12), vi ns, .ref (ad 13), .ref (ad 14), .ref (ad 15), .ref (ad 16), .ref (ad 17), .ref (ad 18), .ref (ad 19), vi (y.length : Int), .ref (ad 20), .ref (ad 21), .ref (ad 22)], aI g (ad 12) 60 f12, aI g (ad 13) 61 f13, aI g (ad 19) 60 f19] H := hP
  have hD : va_D A [ob (ad 0) 10 [vi th, .ref (ad 1), vi dn, .ref (ad 2), .ref (ad 3), vi nt, .ref (ad 4), .ref (ad 5), .ref (ad 6), vi tn, vi nu, .ref (ad 7), .ref (ad 8), .ref (ad 9), .ref (ad 10), .ref (ad 11), .ref (ad 12), vi ns, .ref (ad 13), .ref (ad 14), .ref (ad 15), .ref (ad 16), .ref (ad 17), .ref (ad 18), .ref (ad 19), vi (y.length : Int), .ref (ad 20), .ref (ad 21), .ref (ad 22)], aI g (ad 12) 60 f12, aI g (ad 13) 61 f13, aI g (ad 19) 60 f19] := hD
  refine jr_iconst hx hb dX11_looksAtSegment_19 ?_
  refine lv_istore_n (lv' := [(2, vi 0), (0, .ref (ad 0)), (1, vi (k : Int))]) hx hb dX11_looksAtSegment_20 rfl hl (by decide) rfl (fun ls hl => ?_)
  have lp21 : ∀ (N : Nat) (i : Nat) (h : Nat → Int), (i ≤ y.length) → (∀ j, j < i → h (0 + j) = y.getD j 0) → y.length - i < N → ∀ (H : Heap) (locs : List Loc), PP g [ob (ad 0) 10 [vi th, .ref (ad 1), vi dn, .ref (ad 2), .ref (ad 3), vi nt, .ref (ad 4), .ref (ad 5), .ref (ad 6), vi tn, vi nu, .ref (ad 7), .ref (ad 8), .ref (ad 9), .ref (ad 10), .ref (ad 11), .ref (ad 12), vi ns, .ref (ad 13), .ref (ad 14), .ref (ad 15), .ref (ad 16), .ref (ad 17), .ref (ad 18), .ref (ad 19), vi (y.length : Int), .ref (ad 20), .ref (ad 21), .ref (ad 22)], aI g (ad 12) 60 f12, aI g (ad 13) 61 f13, aI g (ad 19) 60 h] H → va_D A [ob (ad 0) 10 [vi th, .ref (ad 1), vi dn, .ref (ad 2), .ref (ad 3), vi nt, .ref (ad 4), .ref (ad 5), .ref (ad 6), vi tn, vi nu, .ref (ad 7), .ref (ad 8), .ref (ad 9), .ref (ad 10), .ref (ad 11), .ref (ad 12), vi ns, .ref (ad 13), .ref (ad 14), .ref (ad 15), .ref (ad 16), .ref (ad 17), .ref (ad 18), .ref (ad 19), vi (y.length : Int), .ref (ad 20), .ref (ad 21), .ref (ad 22)], aI g (ad 12) 60 f12, aI g (ad 13) 61 f13, aI g (ad 19) 60 h] → va_S A s.heap H locs → ∀ ls : Array Slot, lv_has ls 3 [(2, vi (i : Int)), (0, .ref (ad 0)), (1, vi (k : Int))] → W p l e (rmm 0 0 0) s m ([.ref (ad 0), vi (k : Int)] : List Value).toArray below meth cq H locs 0 0 (MQ below (jQv (fun H1 => ∃ g19 : Nat → Int, TT y g19 ∧ PP g [ob (ad 0) 10 [vi th, .ref (ad 1), vi dn, .ref (ad 2), .ref (ad 3), vi nt, .ref (ad 4), .ref (ad 5), .ref (ad 6), vi tn, vi nu, .ref (ad 7), .ref (ad 8), .ref (ad 9), .ref (ad 10), .ref (ad 11), .ref (ad 12), vi ns, .ref (ad 13), .ref (ad 14), .ref (ad 15), .ref (ad 16), .ref (ad 17), .ref (ad 18), .ref (ad 19), vi (y.length : Int), .ref (ad 20), .ref (ad 21), .ref (ad 22)], aI g (ad 12) 60 f12, aI g (ad 13) 61 f13, aI g (ad 19) 60 g19] H1) A) ([.ref (ad 0), vi (k : Int)] : List Value).toArray s 0 0 A) (F0 m 21 ls []) := by
    intro N
    induction N with
    | zero => intro i h hi hF hM; exact absurd hM (Nat.not_lt_zero _)
    | succ N ih21 =>
      intro i h hi hF hM H locs hP hD hS ls hl
      refine lv_iload_n hx hb dX11_looksAtSegment_21 rfl (lv_at hl 0 rfl) ?_
      refine lv_aload_n hx hb dX11_looksAtSegment_22 rfl (lv_at hl 1 rfl) ?_
      refine va_get (D := gD g) (ci := 10) (v := vi (y.length : Int)) (C := RX11) (T := TX11) (N := 29) hx hb htl ck_X11 hown hKK.k hP 0 rfl rfl 25 (by decide) (htl _ wd_24_5) (fun _ h9 => h9) rfl dX11_looksAtSegment_23 ?_
      refine jr_ge (tgt := 54) hx hb dX11_looksAtSegment_26 (by decide) ⟨by omega, by omega⟩ ⟨by omega, by omega⟩ (fun c26 => ?_) (fun c26 => ?_)
      · exact je_Qv hx hb hr hlk hS (⟨h, hy.tt (fun j hj => by have h9 := hF j (by omega); rw [Nat.zero_add] at h9; exact h9), hP⟩) dX11_looksAtSegment_54
      · refine lv_aload_n hx hb dX11_looksAtSegment_29 rfl (lv_at hl 1 rfl) ?_
        refine va_get (D := gD g) (ci := 10) (v := .ref (ad 19)) (C := RX11) (T := TX11) (N := 29) hx hb htl ck_X11 hown hKK.k hP 0 rfl rfl 24 (by decide) (htl _ wd_6_10) (fun _ h9 => h9) rfl dX11_looksAtSegment_30 ?_
        refine lv_iload_n hx hb dX11_looksAtSegment_33 rfl (lv_at hl 0 rfl) ?_
        refine lv_aload_n hx hb dX11_looksAtSegment_34 rfl (lv_at hl 1 rfl) ?_
        refine va_get (D := gD g) (ci := 10) (v := .ref (ad 12)) (C := RX11) (T := TX11) (N := 29) hx hb htl ck_X11 hown hKK.k hP 0 rfl rfl 16 (by decide) (htl _ wd_6_2) (fun _ h9 => h9) rfl dX11_looksAtSegment_35 ?_
        refine lv_aload_n hx hb dX11_looksAtSegment_38 rfl (lv_at hl 1 rfl) ?_
        refine va_get (D := gD g) (ci := 10) (v := .ref (ad 13)) (C := RX11) (T := TX11) (N := 29) hx hb htl ck_X11 hown hKK.k hP 0 rfl rfl 18 (by decide) (htl _ wd_6_3) (fun _ h9 => h9) rfl dX11_looksAtSegment_39 ?_
        refine lv_iload_n hx hb dX11_looksAtSegment_42 rfl (lv_at hl 2 rfl) ?_
        refine jr_iald hx hb hKK.k hP 2 rfl k (by omega) (by omega) (by omega) dX11_looksAtSegment_43 ?_
        refine lv_iload_n hx hb dX11_looksAtSegment_44 rfl (lv_at hl 0 rfl) ?_
        refine jr_iadd hx hb dX11_looksAtSegment_45 ?_
        refine jr_iald hx hb hKK.k hP 1 rfl (b + i) (by omega) (by omega) (by omega) dX11_looksAtSegment_46 ?_
        refine jr_iast hx hb hKK.k hP hD hS 3 rfl i rfl (by omega) (by omega) dX11_looksAtSegment_47 (fun H locs hP hD hS => ?_)
        have hP : PP g [ob (ad 0) 10 [vi th, .ref (ad 1), vi dn, .ref (ad 2), .ref (ad 3), vi nt, .ref (ad 4), .ref (ad 5), .ref (ad 6), vi tn, vi nu, .ref (ad 7), .ref (ad 8), .ref (ad 9), .ref (ad 10), .ref (ad 11), .ref (ad 12), vi ns, .ref (ad 13), .ref (ad 14), .ref (ad 15), .ref (ad 16), .ref (ad 17), .ref (ad 18), .ref (ad 19), vi (y.length : Int), .ref (ad 20), .ref (ad 21), .ref (ad 22)], aI g (ad 12) 60 f12, aI g (ad 13) 61 f13, aI g (ad 19) 60 (ju h i (f12 (b + i)))] H := hP
        have hD : va_D A [ob (ad 0) 10 [vi th, .ref (ad 1), vi dn, .ref (ad 2), .ref (ad 3), vi nt, .ref (ad 4), .ref (ad 5), .ref (ad 6), vi tn, vi nu, .ref (ad 7), .ref (ad 8), .ref (ad 9), .ref (ad 10), .ref (ad 11), .ref (ad 12), vi ns, .ref (ad 13), .ref (ad 14), .ref (ad 15), .ref (ad 16), .ref (ad 17), .ref (ad 18), .ref (ad 19), vi (y.length : Int), .ref (ad 20), .ref (ad 21), .ref (ad 22)], aI g (ad 12) 60 f12, aI g (ad 13) 61 f13, aI g (ad 19) 60 (ju h i (f12 (b + i)))] := hD
        refine jr_iinc (lv' := [(2, vi ((i : Int) + 1)), (0, .ref (ad 0)), (1, vi (k : Int))]) hx hb dX11_looksAtSegment_48 hl (k := 0) rfl rfl (by decide) rfl (fun ls hl => ?_)
        refine lv_goto (tgt := 21) hx hb dX11_looksAtSegment_51 (by decide) ?_
        exact ih21 (i + 1) _ (by omega) (by have h9 := ju_pre (b := 0) (v := f12 (b + i)) hF (hy.at (by omega)); rw [Nat.zero_add] at h9; exact h9) (by omega) _ _ hP hD hS ls (lv_sub hl [0, 1, 2] rfl)
  exact lp21 _ 0 f19 (Nat.zero_le _) (fun j hj => absurd hj (Nat.not_lt_zero _)) (Nat.lt_succ_self _) _ _ hP hD hS ls (lv_sub hl [0, 1, 2] rfl)
set_option maxHeartbeats 4000000 in
set_option maxRecDepth 100000 in
theorem m_X11_costOf (l : Launch) (g : GT) (ad : Nat → Nat) (th dn nt tn nu ns tz : Int) (f2 f7 f8 f19 f20 : Nat → Int) (u : Nat) (x y : List Int) (hw : WB f2) (hu : u < 40) (htz : tz = (x.length : Int)) (hx9 : TT x f19) (h8 : f8 u = (y.length : Int)) (hy : RWS f7 (60 * u) y) : Met l yX11_costOf (ws_ yX11_costOf cX11_costOf 8 (some .int)) (rmm 2 0 0) (jPc g [.ref (ad 0), vi (u : Int)] (fun H => PP g [ob (ad 0) 10 [vi th, .ref (ad 1), vi dn, .ref (ad 2), .ref (ad 3), vi nt, .ref (ad 4), .ref (ad 5), .ref (ad 6), vi tn, vi nu, .ref (ad 7), .ref (ad 8), .ref (ad 9), .ref (ad 10), .ref (ad 11), .ref (ad 12), vi ns, .ref (ad 13), .ref (ad 14), .ref (ad 15), .ref (ad 16), .ref (ad 17), .ref (ad 18), .ref (ad 19), vi tz, .ref (ad 20), .ref (ad 21), .ref (ad 22)], aI g (ad 2) 4 f2, aI g (ad 7) 2400 f7, aI g (ad 8) 40 f8, aI g (ad 19) 60 f19, aI g (ad 20) 3721 f20] H ∧ va_D (fun q => gb g ≤ q) [ob (ad 0) 10 [vi th, .ref (ad 1), vi dn, .ref (ad 2), .ref (ad 3), vi nt, .ref (ad 4), .ref (ad 5), .ref (ad 6), vi tn, vi nu, .ref (ad 7), .ref (ad 8), .ref (ad 9), .ref (ad 10), .ref (ad 11), .ref (ad 12), vi ns, .ref (ad 13), .ref (ad 14), .ref (ad 15), .ref (ad 16), .ref (ad 17), .ref (ad 18), .ref (ad 19), vi tz, .ref (ad 20), .ref (ad 21), .ref (ad 22)], aI g (ad 2) 4 f2, aI g (ad 7) 2400 f7, aI g (ad 8) 40 f8, aI g (ad 19) 60 f19, aI g (ad 20) 3721 f20])) (jQi (fun z H1 => z = D f2 x y x.length y.length ∧ ∃ g20 : Nat → Int, PP g [ob (ad 0) 10 [vi th, .ref (ad 1), vi dn, .ref (ad 2), .ref (ad 3), vi nt, .ref (ad 4), .ref (ad 5), .ref (ad 6), vi tn, vi nu, .ref (ad 7), .ref (ad 8), .ref (ad 9), .ref (ad 10), .ref (ad 11), .ref (ad 12), vi ns, .ref (ad 13), .ref (ad 14), .ref (ad 15), .ref (ad 16), .ref (ad 17), .ref (ad 18), .ref (ad 19), vi tz, .ref (ad 20), .ref (ad 21), .ref (ad 22)], aI g (ad 2) 4 f2, aI g (ad 7) 2400 f7, aI g (ad 8) 40 f8, aI g (ad 19) 60 f19, aI g (ad 20) 3721 g20] H1) (jA [ob (ad 0) 10 [vi th, .ref (ad 1), vi dn, .ref (ad 2), .ref (ad 3), vi nt, .ref (ad 4), .ref (ad 5), .ref (ad 6), vi tn, vi nu, .ref (ad 7), .ref (ad 8), .ref (ad 9), .ref (ad 10), .ref (ad 11), .ref (ad 12), vi ns, .ref (ad 13), .ref (ad 14), .ref (ad 15), .ref (ad 16), .ref (ad 17), .ref (ad 18), .ref (ad 19), vi tz, .ref (ad 20), .ref (ad 21), .ref (ad 22)], aI g (ad 2) 4 f2, aI g (ad 7) 2400 f7, aI g (ad 8) 40 f8, aI g (ad 19) 60 f19, aI g (ad 20) 3721 f20])) 0 0 (jA [ob (ad 0) 10 [vi th, .ref (ad 1), vi dn, .ref (ad 2), .ref (ad 3), vi nt, .ref (ad 4), .ref (ad 5), .ref (ad 6), vi tn, vi nu, .ref (ad 7), .ref (ad 8), .ref (ad 9), .ref (ad 10), .ref (ad 11), .ref (ad 12), vi ns, .ref (ad 13), .ref (ad 14), .ref (ad 15), .ref (ad 16), .ref (ad 17), .ref (ad 18), .ref (ad 19), vi tz, .ref (ad 20), .ref (ad 21), .ref (ad 22)], aI g (ad 2) 4 f2, aI g (ad 7) 2400 f7, aI g (ad 8) 40 f8, aI g (ad 19) 60 f19, aI g (ad 20) 3721 f20]) := by
  refine jb_M (by decide) (Nat.le_of_ble_eq_true rfl) ?_
  intro p e s m below meth cq hx hb hr hml hown htl hlk hnm hKK hpre ls hl
  have hown : s.vm.findClass RX11 = some m.cls := hown
  have hl : lv_has ls 8 [(0, .ref (ad 0)), (1, vi (u : Int))] := hl
  obtain ⟨hP, hD0⟩ := hpre
  have hxl := hx9.len
  have hyl := hy.len
  have hD : va_D (jA [ob (ad 0) 10 [vi th, .ref (ad 1), vi dn, .ref (ad 2), .ref (ad 3), vi nt, .ref (ad 4), .ref (ad 5), .ref (ad 6), vi tn, vi nu, .ref (ad 7), .ref (ad 8), .ref (ad 9), .ref (ad 10), .ref (ad 11), .ref (ad 12), vi ns, .ref (ad 13), .ref (ad 14), .ref (ad 15), .ref (ad 16), .ref (ad 17), .ref (ad 18), .ref (ad 19), vi tz, .ref (ad 20), .ref (ad 21), .ref (ad 22)], aI g (ad 2) 4 f2, aI g (ad 7) 2400 f7, aI g (ad 8) 40 f8, aI g (ad 19) 60 f19, aI g (ad 20) 3721 f20]) [ob (ad 0) 10 [vi th, .ref (ad 1), vi dn, .ref (ad 2), .ref (ad 3), vi nt, .ref (ad 4), .ref (ad 5), .ref (ad 6), vi tn, vi nu, .ref (ad 7), .ref (ad 8), .ref (ad 9), .ref (ad 10), .ref (ad 11), .ref (ad 12), vi ns, .ref (ad 13), .ref (ad 14), .ref (ad 15), .ref (ad 16), .ref (ad 17), .ref (ad 18), .ref (ad 19), vi tz, .ref (ad 20), .ref (ad 21), .ref (ad 22)], aI g (ad 2) 4 f2, aI g (ad 7) 2400 f7, aI g (ad 8) 40 f8, aI g (ad 19) 60 f19, aI g (ad 20) 3721 f20] := hD0.inD
  have hAb : ∀ q, (jA [ob (ad 0) 10 [vi th, .ref (ad 1), vi dn, .ref (ad 2), .ref (ad 3), vi nt, .ref (ad 4), .ref (ad 5), .ref (ad 6), vi tn, vi nu, .ref (ad 7), .ref (ad 8), .ref (ad 9), .ref (ad 10), .ref (ad 11), .ref (ad 12), vi ns, .ref (ad 13), .ref (ad 14), .ref (ad 15), .ref (ad 16), .ref (ad 17), .ref (ad 18), .ref (ad 19), vi tz, .ref (ad 20), .ref (ad 21), .ref (ad 22)], aI g (ad 2) 4 f2, aI g (ad 7) 2400 f7, aI g (ad 8) 40 f8, aI g (ad 19) 60 f19, aI g (ad 20) 3721 f20]) q → gb g ≤ q := fun q h => hD0.inA h
  generalize hAe : jA [ob (ad 0) 10 [vi th, .ref (ad 1), vi dn, .ref (ad 2), .ref (ad 3), vi nt, .ref (ad 4), .ref (ad 5), .ref (ad 6), vi tn, vi nu, .ref (ad 7), .ref (ad 8), .ref (ad 9), .ref (ad 10), .ref (ad 11), .ref (ad 12), vi ns, .ref (ad 13), .ref (ad 14), .ref (ad 15), .ref (ad 16), .ref (ad 17), .ref (ad 18), .ref (ad 19), vi tz, .ref (ad 20), .ref (ad 21), .ref (ad 22)], aI g (ad 2) 4 f2, aI g (ad 7) 2400 f7, aI g (ad 8) 40 f8, aI g (ad 19) 60 f19, aI g (ad 20) 3721 f20] = A at *
  have hS : va_S A s.heap s.heap [] := va_S.rf
  suffices K : ∀ (H : Heap) (locs : List Loc), PP g [ob (ad 0) 10 [vi th, .ref (ad 1), vi dn, .ref (ad 2), .ref (ad 3), vi nt, .ref (ad 4), .ref (ad 5), .ref (ad 6), vi tn, vi nu, .ref (ad 7), .ref (ad 8), .ref (ad 9), .ref (ad 10), .ref (ad 11), .ref (ad 12), vi ns, .ref (ad 13), .ref (ad 14), .ref (ad 15), .ref (ad 16), .ref (ad 17), .ref (ad 18), .ref (ad 19), vi tz, .ref (ad 20), .ref (ad 21), .ref (ad 22)], aI g (ad 2) 4 f2, aI g (ad 7) 2400 f7, aI g (ad 8) 40 f8, aI g (ad 19) 60 f19, aI g (ad 20) 3721 f20] H → va_D A [ob (ad 0) 10 [vi th, .ref (ad 1), vi dn, .ref (ad 2), .ref (ad 3), vi nt, .ref (ad 4), .ref (ad 5), .ref (ad 6), vi tn, vi nu, .ref (ad 7), .ref (ad 8), .ref (ad 9), .ref (ad 10), .ref (ad 11), .ref (ad 12), vi ns, .ref (ad 13), .ref (ad 14), .ref (ad 15), .ref (ad 16), .ref (ad 17), .ref (ad 18), .ref (ad 19), vi tz, .ref (ad 20), .ref (ad 21), .ref (ad 22)], aI g (ad 2) 4 f2, aI g (ad 7) 2400 f7, aI g (ad 8) 40 f8, aI g (ad 19) 60 f19, aI g (ad 20) 3721 f20] → va_S A s.heap H locs → ∀ ls : Array Slot, lv_has ls 8 [(0, .ref (ad 0)), (1, vi (u : Int))] → W p l e (rmm 2 0 0) s m ([.ref (ad 0), vi (u : Int)] : List Value).toArray below meth cq H locs 0 0 (MQ below (jQi (fun z H1 => z = D f2 x y x.length y.length ∧ ∃ g20 : Nat → Int, PP g [ob (ad 0) 10 [vi th, .ref (ad 1), vi dn, .ref (ad 2), .ref (ad 3), vi nt, .ref (ad 4), .ref (ad 5), .ref (ad 6), vi tn, vi nu, .ref (ad 7), .ref (ad 8), .ref (ad 9), .ref (ad 10), .ref (ad 11), .ref (ad 12), vi ns, .ref (ad 13), .ref (ad 14), .ref (ad 15), .ref (ad 16), .ref (ad 17), .ref (ad 18), .ref (ad 19), vi tz, .ref (ad 20), .ref (ad 21), .ref (ad 22)], aI g (ad 2) 4 f2, aI g (ad 7) 2400 f7, aI g (ad 8) 40 f8, aI g (ad 19) 60 f19, aI g (ad 20) 3721 g20] H1) A) ([.ref (ad 0), vi (u : Int)] : List Value).toArray s 0 0 A) (F0 m 0 ls []) from K _ _ hP hD hS _ hl
  clear hl; intro H locs hP hD hS ls hl
  refine jr_iconst hx hb dX11_costOf_0 ?_
  refine lv_istore_n (lv' := [(2, vi 0), (0, .ref (ad 0)), (1, vi (u : Int))]) hx hb dX11_costOf_1 rfl hl (by decide) rfl (fun ls hl => ?_)
  have lp2 : ∀ (N : Nat) (i : Nat) (h : Nat → Int), (i ≤ x.length + 1) → (∀ a c, a < i → c ≤ y.length → h (61 * a + c) = D f2 x y a c) → x.length + 1 - i < N → ∀ (H : Heap) (locs : List Loc), PP g [ob (ad 0) 10 [vi th, .ref (ad 1), vi dn, .ref (ad 2), .ref (ad 3), vi nt, .ref (ad 4), .ref (ad 5), .ref (ad 6), vi tn, vi nu, .ref (ad 7), .ref (ad 8), .ref (ad 9), .ref (ad 10), .ref (ad 11), .ref (ad 12), vi ns, .ref (ad 13), .ref (ad 14), .ref (ad 15), .ref (ad 16), .ref (ad 17), .ref (ad 18), .ref (ad 19), vi tz, .ref (ad 20), .ref (ad 21), .ref (ad 22)], aI g (ad 2) 4 f2, aI g (ad 7) 2400 f7, aI g (ad 8) 40 f8, aI g (ad 19) 60 f19, aI g (ad 20) 3721 h] H → va_D A [ob (ad 0) 10 [vi th, .ref (ad 1), vi dn, .ref (ad 2), .ref (ad 3), vi nt, .ref (ad 4), .ref (ad 5), .ref (ad 6), vi tn, vi nu, .ref (ad 7), .ref (ad 8), .ref (ad 9), .ref (ad 10), .ref (ad 11), .ref (ad 12), vi ns, .ref (ad 13), .ref (ad 14), .ref (ad 15), .ref (ad 16), .ref (ad 17), .ref (ad 18), .ref (ad 19), vi tz, .ref (ad 20), .ref (ad 21), .ref (ad 22)], aI g (ad 2) 4 f2, aI g (ad 7) 2400 f7, aI g (ad 8) 40 f8, aI g (ad 19) 60 f19, aI g (ad 20) 3721 h] → va_S A s.heap H locs → ∀ ls : Array Slot, lv_has ls 8 [(2, vi (i : Int)), (0, .ref (ad 0)), (1, vi (u : Int))] → W p l e (rmm 2 0 0) s m ([.ref (ad 0), vi (u : Int)] : List Value).toArray below meth cq H locs 0 0 (MQ below (jQi (fun z H1 => z = D f2 x y x.length y.length ∧ ∃ g20 : Nat → Int, PP g [ob (ad 0) 10 [vi th, .ref (ad 1), vi dn, .ref (ad 2), .ref (ad 3), vi nt, .ref (ad 4), .ref (ad 5), .ref (ad 6), vi tn, vi nu, .ref (ad 7), .ref (ad 8), .ref (ad 9), .ref (ad 10), .ref (ad 11), .ref (ad 12), vi ns, .ref (ad 13), .ref (ad 14), .ref (ad 15), .ref (ad 16), .ref (ad 17), .ref (ad 18), .ref (ad 19), vi tz, .ref (ad 20), .ref (ad 21), .ref (ad 22)], aI g (ad 2) 4 f2, aI g (ad 7) 2400 f7, aI g (ad 8) 40 f8, aI g (ad 19) 60 f19, aI g (ad 20) 3721 g20] H1) A) ([.ref (ad 0), vi (u : Int)] : List Value).toArray s 0 0 A) (F0 m 2 ls []) := by
    intro N
    induction N with
    | zero => intro i h hi hC hM; exact absurd hM (Nat.not_lt_zero _)
    | succ N ih2 =>
      intro i h hi hC hM H locs hP hD hS ls hl
      refine lv_iload_n hx hb dX11_costOf_2 rfl (lv_at hl 0 rfl) ?_
      refine lv_aload_n hx hb dX11_costOf_3 rfl (lv_at hl 1 rfl) ?_
      refine va_get (D := gD g) (ci := 10) (v := vi tz) (C := RX11) (T := TX11) (N := 29) hx hb htl ck_X11 hown hKK.k hP 0 rfl rfl 25 (by decide) (htl _ wd_24_5) (fun _ h9 => h9) rfl dX11_costOf_4 ?_
      refine jr_gt (tgt := 227) hx hb dX11_costOf_7 (by decide) ⟨by omega, by omega⟩ ⟨by omega, by omega⟩ (fun c7 => ?_) (fun c7 => ?_)
      · refine lv_aload_n hx hb dX11_costOf_227 rfl (lv_at hl 1 rfl) ?_
        refine va_get (D := gD g) (ci := 10) (v := .ref (ad 20)) (C := RX11) (T := TX11) (N := 29) hx hb htl ck_X11 hown hKK.k hP 0 rfl rfl 26 (by decide) (htl _ wd_6_11) (fun _ h9 => h9) rfl dX11_costOf_228 ?_
        refine jr_bipush hx hb dX11_costOf_231 (by decide) ?_
        refine lv_aload_n hx hb dX11_costOf_233 rfl (lv_at hl 1 rfl) ?_
        refine va_get (D := gD g) (ci := 10) (v := vi tz) (C := RX11) (T := TX11) (N := 29) hx hb htl ck_X11 hown hKK.k hP 0 rfl rfl 25 (by decide) (htl _ wd_24_5) (fun _ h9 => h9) rfl dX11_costOf_234 ?_
        refine jr_imul hx hb dX11_costOf_237 ?_
        refine lv_aload_n hx hb dX11_costOf_238 rfl (lv_at hl 1 rfl) ?_
        refine va_get (D := gD g) (ci := 10) (v := .ref (ad 8)) (C := RX11) (T := TX11) (N := 29) hx hb htl ck_X11 hown hKK.k hP 0 rfl rfl 12 (by decide) (htl _ wd_5_22) (fun _ h9 => h9) rfl dX11_costOf_239 ?_
        refine lv_iload_n hx hb dX11_costOf_242 rfl (lv_at hl 2 rfl) ?_
        refine jr_iald hx hb hKK.k hP 3 rfl u (by omega) (by omega) (by omega) dX11_costOf_243 ?_
        refine jr_iadd hx hb dX11_costOf_244 ?_
        refine jr_iald hx hb hKK.k hP 5 rfl (61 * x.length + y.length) (by omega) (by omega) (by omega) dX11_costOf_245 ?_
        exact je_Qi hx hb hr hlk rfl hS (⟨hC x.length y.length (by omega) (Nat.le_refl _), _, hP⟩) dX11_costOf_246
      · refine jr_iconst hx hb dX11_costOf_10 ?_
        refine lv_istore_n (lv' := [(3, vi 0), (2, vi (i : Int)), (0, .ref (ad 0)), (1, vi (u : Int))]) hx hb dX11_costOf_11 rfl hl (by decide) rfl (fun ls hl => ?_)
        have lp12 : ∀ (N : Nat) (j : Nat) (h1 : Nat → Int), (j ≤ y.length + 1) → (∀ a c, a < i → c ≤ y.length → h1 (61 * a + c) = D f2 x y a c) → (∀ c, c < j → h1 (61 * i + c) = D f2 x y i c) → y.length + 1 - j < N → ∀ (H : Heap) (locs : List Loc), PP g [ob (ad 0) 10 [vi th, .ref (ad 1), vi dn, .ref (ad 2), .ref (ad 3), vi nt, .ref (ad 4), .ref (ad 5), .ref (ad 6), vi tn, vi nu, .ref (ad 7), .ref (ad 8), .ref (ad 9), .ref (ad 10), .ref (ad 11), .ref (ad 12), vi ns, .ref (ad 13), .ref (ad 14), .ref (ad 15), .ref (ad 16), .ref (ad 17), .ref (ad 18), .ref (ad 19), vi tz, .ref (ad 20), .ref (ad 21), .ref (ad 22)], aI g (ad 2) 4 f2, aI g (ad 7) 2400 f7, aI g (ad 8) 40 f8, aI g (ad 19) 60 f19, aI g (ad 20) 3721 h1] H → va_D A [ob (ad 0) 10 [vi th, .ref (ad 1), vi dn, .ref (ad 2), .ref (ad 3), vi nt, .ref (ad 4), .ref (ad 5), .ref (ad 6), vi tn, vi nu, .ref (ad 7), .ref (ad 8), .ref (ad 9), .ref (ad 10), .ref (ad 11), .ref (ad 12), vi ns, .ref (ad 13), .ref (ad 14), .ref (ad 15), .ref (ad 16), .ref (ad 17), .ref (ad 18), .ref (ad 19), vi tz, .ref (ad 20), .ref (ad 21), .ref (ad 22)], aI g (ad 2) 4 f2, aI g (ad 7) 2400 f7, aI g (ad 8) 40 f8, aI g (ad 19) 60 f19, aI g (ad 20) 3721 h1] → va_S A s.heap H locs → ∀ ls : Array Slot, lv_has ls 8 [(3, vi (j : Int)), (2, vi (i : Int)), (0, .ref (ad 0)), (1, vi (u : Int))] → W p l e (rmm 2 0 0) s m ([.ref (ad 0), vi (u : Int)] : List Value).toArray below meth cq H locs 0 0 (MQ below (jQi (fun z H1 => z = D f2 x y x.length y.length ∧ ∃ g20 : Nat → Int, PP g [ob (ad 0) 10 [vi th, .ref (ad 1), vi dn, .ref (ad 2), .ref (ad 3), vi nt, .ref (ad 4), .ref (ad 5), .ref (ad 6), vi tn, vi nu, .ref (ad 7), .ref (ad 8), .ref (ad 9), .ref (ad 10), .ref (ad 11), .ref (ad 12), vi ns, .ref (ad 13), .ref (ad 14), .ref (ad 15), .ref (ad 16), .ref (ad 17), .ref (ad 18), .ref (ad 19), vi tz, .ref (ad 20), .ref (ad 21), .ref (ad 22)], aI g (ad 2) 4 f2, aI g (ad 7) 2400 f7, aI g (ad 8) 40 f8, aI g (ad 19) 60 f19, aI g (ad 20) 3721 g20] H1) A) ([.ref (ad 0), vi (u : Int)] : List Value).toArray s 0 0 A) (F0 m 12 ls []) := by
          intro N
          induction N with
          | zero => intro j h1 hj hC hE hM; exact absurd hM (Nat.not_lt_zero _)
          | succ N ih12 =>
            intro j h1 hj hC hE hM H locs hP hD hS ls hl
            refine lv_iload_n hx hb dX11_costOf_12 rfl (lv_at hl 0 rfl) ?_
            refine lv_aload_n hx hb dX11_costOf_13 rfl (lv_at hl 2 rfl) ?_
            refine va_get (D := gD g) (ci := 10) (v := .ref (ad 8)) (C := RX11) (T := TX11) (N := 29) hx hb htl ck_X11 hown hKK.k hP 0 rfl rfl 12 (by decide) (htl _ wd_5_22) (fun _ h9 => h9) rfl dX11_costOf_14 ?_
            refine lv_iload_n hx hb dX11_costOf_17 rfl (lv_at hl 3 rfl) ?_
            refine jr_iald hx hb hKK.k hP 3 rfl u (by omega) (by omega) (by omega) dX11_costOf_18 ?_
            refine jr_gt (tgt := 221) hx hb dX11_costOf_19 (by decide) ⟨by omega, by omega⟩ ⟨by omega, by omega⟩ (fun c19 => ?_) (fun c19 => ?_)
            · refine jr_iinc (lv' := [(2, vi ((i : Int) + 1)), (3, vi (j : Int)), (0, .ref (ad 0)), (1, vi (u : Int))]) hx hb dX11_costOf_221 hl (k := 1) rfl rfl (by decide) rfl (fun ls hl => ?_)
              refine lv_goto (tgt := 2) hx hb dX11_costOf_224 (by decide) ?_
              exact ih2 (i + 1) _ (by omega) (fun a c ha hc => by by_cases e : a = i; subst e; exact hE c (by omega); exact hC a c (by omega) hc) (by omega) _ _ hP hD hS ls (lv_sub hl [0, 2, 3] rfl)
            · refine jr_bipush hx hb dX11_costOf_22 (by decide) ?_
              refine lv_iload_n hx hb dX11_costOf_24 rfl (lv_at hl 1 rfl) ?_
              refine jr_imul hx hb dX11_costOf_25 ?_
              refine lv_iload_n hx hb dX11_costOf_26 rfl (lv_at hl 0 rfl) ?_
              refine jr_iadd hx hb dX11_costOf_27 ?_
              refine lv_istore (lv' := [(4, vi ((61 * (i : Int)) + (j : Int))), (3, vi (j : Int)), (2, vi (i : Int)), (0, .ref (ad 0)), (1, vi (u : Int))]) hx hb dX11_costOf_28 hl (by decide) rfl (fun ls hl => ?_)
              refine lv_iload_n hx hb dX11_costOf_30 rfl (lv_at hl 2 rfl) ?_
              refine jr_ifne (tgt := 38) hx hb dX11_costOf_31 (by decide) ⟨by omega, by omega⟩ (fun c31 => ?_) (fun c31 => ?_)
              · refine lv_aload_n hx hb dX11_costOf_38 rfl (lv_at hl 3 rfl) ?_
                refine va_get (D := gD g) (ci := 10) (v := .ref (ad 19)) (C := RX11) (T := TX11) (N := 29) hx hb htl ck_X11 hown hKK.k hP 0 rfl rfl 24 (by decide) (htl _ wd_6_10) (fun _ h9 => h9) rfl dX11_costOf_39 ?_
                refine lv_iload_n hx hb dX11_costOf_42 rfl (lv_at hl 2 rfl) ?_
                refine jr_iconst hx hb dX11_costOf_43 ?_
                refine jr_isub hx hb dX11_costOf_44 ?_
                refine jr_iald hx hb hKK.k hP 4 rfl (i - 1) (by omega) (by omega) (by omega) dX11_costOf_45 ?_
                have tbx := hx9.b (j := i - 1) (by omega)
                refine jr_nm (b := (x.getD (i - 1) 0)) (hx9.at (by omega)) ?_
                refine lv_istore (lv' := [(5, vi (x.getD (i - 1) 0)), (4, vi ((61 * (i : Int)) + (j : Int))), (3, vi (j : Int)), (2, vi (i : Int)), (0, .ref (ad 0)), (1, vi (u : Int))]) hx hb dX11_costOf_46 hl (by decide) rfl (fun ls hl => ?_)
                refine lv_iload_n hx hb dX11_costOf_48 rfl (lv_at hl 2 rfl) ?_
                refine jr_ifne (tgt := 56) hx hb dX11_costOf_49 (by decide) ⟨by omega, by omega⟩ (fun c49 => ?_) (fun c49 => ?_)
                · refine lv_aload_n hx hb dX11_costOf_56 rfl (lv_at hl 4 rfl) ?_
                  refine va_get (D := gD g) (ci := 10) (v := .ref (ad 7)) (C := RX11) (T := TX11) (N := 29) hx hb htl ck_X11 hown hKK.k hP 0 rfl rfl 11 (by decide) (htl _ wd_5_21) (fun _ h9 => h9) rfl dX11_costOf_57 ?_
                  refine jr_bipush hx hb dX11_costOf_60 (by decide) ?_
                  refine lv_iload_n hx hb dX11_costOf_62 rfl (lv_at hl 5 rfl) ?_
                  refine jr_imul hx hb dX11_costOf_63 ?_
                  refine lv_iload_n hx hb dX11_costOf_64 rfl (lv_at hl 2 rfl) ?_
                  refine jr_iadd hx hb dX11_costOf_65 ?_
                  refine jr_iconst hx hb dX11_costOf_66 ?_
                  refine jr_isub hx hb dX11_costOf_67 ?_
                  refine jr_iald hx hb hKK.k hP 2 rfl (60 * u + (j - 1)) (by omega) (by omega) (by omega) dX11_costOf_68 ?_
                  have tby := hy.b (j := j - 1) (by omega)
                  refine jr_nm (b := (y.getD (j - 1) 0)) (hy.at (by omega)) ?_
                  refine lv_istore (lv' := [(6, vi (y.getD (j - 1) 0)), (5, vi (x.getD (i - 1) 0)), (4, vi ((61 * (i : Int)) + (j : Int))), (3, vi (j : Int)), (2, vi (i : Int)), (0, .ref (ad 0)), (1, vi (u : Int))]) hx hb dX11_costOf_69 hl (by decide) rfl (fun ls hl => ?_)
                  refine lv_iload_n hx hb dX11_costOf_71 rfl (lv_at hl 4 rfl) ?_
                  refine jr_ifne (tgt := 83) hx hb dX11_costOf_72 (by decide) ⟨by omega, by omega⟩ (fun c72 => ?_) (fun c72 => absurd c72 (by omega))
                  refine lv_ldc (v := jI 1000000) hx hb hown (htl _ wd_24_10) dX11_costOf_83 ?_
                  refine lv_istore (lv' := [(7, vi 1000000), (6, vi (y.getD (j - 1) 0)), (5, vi (x.getD (i - 1) 0)), (4, vi ((61 * (i : Int)) + (j : Int))), (3, vi (j : Int)), (2, vi (i : Int)), (0, .ref (ad 0)), (1, vi (u : Int))]) hx hb dX11_costOf_85 hl (by decide) rfl (fun ls hl => ?_)
                  refine lv_iload_n hx hb dX11_costOf_87 rfl (lv_at hl 5 rfl) ?_
                  refine jr_ifne (tgt := 96) hx hb dX11_costOf_88 (by decide) ⟨by omega, by omega⟩ (fun c88 => ?_) (fun c88 => absurd c88 (by omega))
                  refine lv_iload hx hb dX11_costOf_96 (lv_at hl 0 rfl) ?_
                  refine lv_aload_n hx hb dX11_costOf_98 rfl (lv_at hl 6 rfl) ?_
                  refine va_get (D := gD g) (ci := 10) (v := .ref (ad 20)) (C := RX11) (T := TX11) (N := 29) hx hb htl ck_X11 hown hKK.k hP 0 rfl rfl 26 (by decide) (htl _ wd_6_11) (fun _ h9 => h9) rfl dX11_costOf_99 ?_
                  refine lv_iload hx hb dX11_costOf_102 (lv_at hl 3 rfl) ?_
                  refine jr_bipush hx hb dX11_costOf_104 (by decide) ?_
                  refine jr_isub hx hb dX11_costOf_106 ?_
                  refine jr_iald hx hb hKK.k hP 5 rfl (61 * (i - 1) + j) (by omega) (by omega) (by omega) dX11_costOf_107 ?_
                  refine jr_nm (b := (D f2 x y (i - 1) j)) (hC (i - 1) j (by omega) (by omega)) ?_
                  have db_i1_j := D_b hw x y (i - 1) j
                  refine lv_aload_n hx hb dX11_costOf_108 rfl (lv_at hl 6 rfl) ?_
                  refine lv_iload hx hb dX11_costOf_109 (lv_at hl 2 rfl) ?_
                  refine jk_Si (va_runV (As := [vi (x.getD (i - 1) 0)]) (rest := [vi (D f2 x y (i - 1) j), vi 1000000]) ⟨hx, hb, hml, hown, htl⟩ (m_X11_weightOf l g ad th dn nt tn nu ns tz f2 hw (x.getD (i - 1) 0) (by omega)) (cwV 1 htl lk_X11_117 rfl rfl rfl cwV_X11_weightOf ⟨Nat.le_of_ble_eq_true rfl, Nat.le_of_ble_eq_true rfl⟩) (jp_V hKK hS hAb (va_recv hKK.k hP (ci := 10) (q0 := 0) rfl rfl) (va_P.sub hP [0, 1] rfl)) rfl rfl hl.1 rfl (lv_room (Nat.le_of_ble_eq_true rfl)) dX11_costOf_111 ⟨Nat.le_of_ble_eq_true rfl, Nat.le_of_ble_eq_true rfl⟩) (fun z111 hz111 => ?_)
                  subst hz111
                  have tw := wk_b hw (kd (x.getD (i - 1) 0))
                  have tw1 := tw
                  refine jr_iadd hx hb dX11_costOf_114 ?_
                  refine jr_nm (b := (D f2 x y (i - 1) j + wk f2 (kd (x.getD (i - 1) 0)))) (rfl) ?_
                  refine jk_Si (va_runS (As := [vi 1000000, vi (D f2 x y (i - 1) j + wk f2 (kd (x.getD (i - 1) 0)))]) (rest := []) ⟨hx, hb, hml, hown, htl⟩ (m_X11_least l g 1000000 (D f2 x y (i - 1) j + wk f2 (kd (x.getD (i - 1) 0))) ⟨by omega, by omega⟩ ⟨by omega, by omega⟩ ) (va_cwS 2 htl lk_X11_122 rfl rfl rfl cwS_X11_least ⟨Nat.le_of_ble_eq_true rfl, Nat.le_of_ble_eq_true rfl⟩) (jp_S hKK hS hAb trivial) rfl rfl hl.1 rfl (lv_room (Nat.le_of_ble_eq_true rfl)) dX11_costOf_115 ⟨Nat.le_of_ble_eq_true rfl, Nat.le_of_ble_eq_true rfl⟩) (fun z115 hz115 => ?_)
                  subst hz115
                  refine lv_istore (lv' := [(7, vi (min 1000000 (D f2 x y (i - 1) j + wk f2 (kd (x.getD (i - 1) 0))))), (6, vi (y.getD (j - 1) 0)), (5, vi (x.getD (i - 1) 0)), (4, vi ((61 * (i : Int)) + (j : Int))), (3, vi (j : Int)), (2, vi (i : Int)), (0, .ref (ad 0)), (1, vi (u : Int))]) hx hb dX11_costOf_118 hl (by decide) rfl (fun ls hl => ?_)
                  refine lv_iload_n hx hb dX11_costOf_120 rfl (lv_at hl 4 rfl) ?_
                  refine jr_ifne (tgt := 129) hx hb dX11_costOf_121 (by decide) ⟨by omega, by omega⟩ (fun c121 => ?_) (fun c121 => absurd c121 (by omega))
                  refine lv_iload hx hb dX11_costOf_129 (lv_at hl 0 rfl) ?_
                  refine lv_aload_n hx hb dX11_costOf_131 rfl (lv_at hl 6 rfl) ?_
                  refine va_get (D := gD g) (ci := 10) (v := .ref (ad 20)) (C := RX11) (T := TX11) (N := 29) hx hb htl ck_X11 hown hKK.k hP 0 rfl rfl 26 (by decide) (htl _ wd_6_11) (fun _ h9 => h9) rfl dX11_costOf_132 ?_
                  refine lv_iload hx hb dX11_costOf_135 (lv_at hl 3 rfl) ?_
                  refine jr_iconst hx hb dX11_costOf_137 ?_
                  refine jr_isub hx hb dX11_costOf_138 ?_
                  refine jr_iald hx hb hKK.k hP 5 rfl (61 * i + (j - 1)) (by omega) (by omega) (by omega) dX11_costOf_139 ?_
                  refine jr_nm (b := (D f2 x y i (j - 1))) (hE (j - 1) (by omega)) ?_
                  have db_i_j1 := D_b hw x y i (j - 1)
                  refine lv_aload_n hx hb dX11_costOf_140 rfl (lv_at hl 6 rfl) ?_
                  refine lv_iload hx hb dX11_costOf_141 (lv_at hl 1 rfl) ?_
                  refine jk_Si (va_runV (As := [vi (y.getD (j - 1) 0)]) (rest := [vi (D f2 x y i (j - 1)), vi (min 1000000 (D f2 x y (i - 1) j + wk f2 (kd (x.getD (i - 1) 0))))]) ⟨hx, hb, hml, hown, htl⟩ (m_X11_weightOf l g ad th dn nt tn nu ns tz f2 hw (y.getD (j - 1) 0) (by omega)) (cwV 1 htl lk_X11_117 rfl rfl rfl cwV_X11_weightOf ⟨Nat.le_of_ble_eq_true rfl, Nat.le_of_ble_eq_true rfl⟩) (jp_V hKK hS hAb (va_recv hKK.k hP (ci := 10) (q0 := 0) rfl rfl) (va_P.sub hP [0, 1] rfl)) rfl rfl hl.1 rfl (lv_room (Nat.le_of_ble_eq_true rfl)) dX11_costOf_143 ⟨Nat.le_of_ble_eq_true rfl, Nat.le_of_ble_eq_true rfl⟩) (fun z143 hz143 => ?_)
                  subst hz143
                  have tw := wk_b hw (kd (y.getD (j - 1) 0))
                  have tw2 := tw
                  refine jr_iadd hx hb dX11_costOf_146 ?_
                  refine jk_Si (va_runS (As := [vi (min 1000000 (D f2 x y (i - 1) j + wk f2 (kd (x.getD (i - 1) 0)))), vi ((D f2 x y i (j - 1)) + (wk f2 (kd (y.getD (j - 1) 0))))]) (rest := []) ⟨hx, hb, hml, hown, htl⟩ (m_X11_least l g (min 1000000 (D f2 x y (i - 1) j + wk f2 (kd (x.getD (i - 1) 0)))) ((D f2 x y i (j - 1)) + (wk f2 (kd (y.getD (j - 1) 0)))) ⟨by omega, by omega⟩ ⟨by omega, by omega⟩ ) (va_cwS 2 htl lk_X11_122 rfl rfl rfl cwS_X11_least ⟨Nat.le_of_ble_eq_true rfl, Nat.le_of_ble_eq_true rfl⟩) (jp_S hKK hS hAb trivial) rfl rfl hl.1 rfl (lv_room (Nat.le_of_ble_eq_true rfl)) dX11_costOf_147 ⟨Nat.le_of_ble_eq_true rfl, Nat.le_of_ble_eq_true rfl⟩) (fun z147 hz147 => ?_)
                  subst hz147
                  refine lv_istore (lv' := [(7, vi (min (min 1000000 (D f2 x y (i - 1) j + wk f2 (kd (x.getD (i - 1) 0)))) ((D f2 x y i (j - 1)) + (wk f2 (kd (y.getD (j - 1) 0)))))), (6, vi (y.getD (j - 1) 0)), (5, vi (x.getD (i - 1) 0)), (4, vi ((61 * (i : Int)) + (j : Int))), (3, vi (j : Int)), (2, vi (i : Int)), (0, .ref (ad 0)), (1, vi (u : Int))]) hx hb dX11_costOf_150 hl (by decide) rfl (fun ls hl => ?_)
                  refine lv_iload_n hx hb dX11_costOf_152 rfl (lv_at hl 5 rfl) ?_
                  refine jr_ifeq (tgt := 175) hx hb dX11_costOf_153 (by decide) ⟨by omega, by omega⟩ (fun c153 => absurd c153 (by omega)) (fun c153 => ?_)
                  refine lv_iload_n hx hb dX11_costOf_156 rfl (lv_at hl 4 rfl) ?_
                  refine jr_ifeq (tgt := 175) hx hb dX11_costOf_157 (by decide) ⟨by omega, by omega⟩ (fun c157 => absurd c157 (by omega)) (fun c157 => ?_)
                  refine lv_iload hx hb dX11_costOf_160 (lv_at hl 2 rfl) ?_
                  refine jr_sipush hx hb dX11_costOf_162 (by decide) ?_
                  refine jr_idiv hx hb (by omega) (by omega) (by omega) (by omega) dX11_costOf_165 ?_
                  refine lv_iload hx hb dX11_costOf_166 (lv_at hl 1 rfl) ?_
                  refine jr_sipush hx hb dX11_costOf_168 (by decide) ?_
                  refine jr_idiv hx hb (by omega) (by omega) (by omega) (by omega) dX11_costOf_171 ?_
                  refine jr_eq (tgt := 180) hx hb dX11_costOf_172 (by decide) ⟨by omega, by omega⟩ ⟨by omega, by omega⟩ (fun c172 => ?_) (fun c172 => ?_)
                  · refine lv_iload hx hb dX11_costOf_180 (lv_at hl 0 rfl) ?_
                    refine lv_aload_n hx hb dX11_costOf_182 rfl (lv_at hl 6 rfl) ?_
                    refine va_get (D := gD g) (ci := 10) (v := .ref (ad 20)) (C := RX11) (T := TX11) (N := 29) hx hb htl ck_X11 hown hKK.k hP 0 rfl rfl 26 (by decide) (htl _ wd_6_11) (fun _ h9 => h9) rfl dX11_costOf_183 ?_
                    refine lv_iload hx hb dX11_costOf_186 (lv_at hl 3 rfl) ?_
                    refine jr_bipush hx hb dX11_costOf_188 (by decide) ?_
                    refine jr_isub hx hb dX11_costOf_190 ?_
                    refine jr_iald hx hb hKK.k hP 5 rfl (61 * (i - 1) + (j - 1)) (by omega) (by omega) (by omega) dX11_costOf_191 ?_
                    refine jr_nm (b := (D f2 x y (i - 1) (j - 1))) (hC (i - 1) (j - 1) (by omega) (by omega)) ?_
                    have db_i1_j1 := D_b hw x y (i - 1) (j - 1)
                    refine lv_aload_n hx hb dX11_costOf_192 rfl (lv_at hl 6 rfl) ?_
                    refine lv_iload hx hb dX11_costOf_193 (lv_at hl 2 rfl) ?_
                    refine lv_iload hx hb dX11_costOf_195 (lv_at hl 1 rfl) ?_
                    refine jk_Si (va_runV (As := [vi (x.getD (i - 1) 0), vi (y.getD (j - 1) 0)]) (rest := [vi (D f2 x y (i - 1) (j - 1)), vi (min (min 1000000 (D f2 x y (i - 1) j + wk f2 (kd (x.getD (i - 1) 0)))) ((D f2 x y i (j - 1)) + (wk f2 (kd (y.getD (j - 1) 0)))))]) ⟨hx, hb, hml, hown, htl⟩ (m_X11_replaced l g ad th dn nt tn nu ns tz f2 hw (x.getD (i - 1) 0) (y.getD (j - 1) 0) (by omega) (by omega) c172) (cwV 2 htl lk_X11_126 rfl rfl rfl cwV_X11_replaced ⟨Nat.le_of_ble_eq_true rfl, Nat.le_of_ble_eq_true rfl⟩) (jp_V hKK hS hAb (va_recv hKK.k hP (ci := 10) (q0 := 0) rfl rfl) (va_P.sub hP [0, 1] rfl)) rfl rfl hl.1 rfl (lv_room (Nat.le_of_ble_eq_true rfl)) dX11_costOf_197 ⟨Nat.le_of_ble_eq_true rfl, Nat.le_of_ble_eq_true rfl⟩) (fun z197 hz197 => ?_)
                    subst hz197
                    have trp := rp_b hw (x.getD (i - 1) 0) (y.getD (j - 1) 0)
                    refine jr_iadd hx hb dX11_costOf_200 ?_
                    refine jk_Si (va_runS (As := [vi (min (min 1000000 (D f2 x y (i - 1) j + wk f2 (kd (x.getD (i - 1) 0)))) ((D f2 x y i (j - 1)) + (wk f2 (kd (y.getD (j - 1) 0))))), vi ((D f2 x y (i - 1) (j - 1)) + (rp f2 (x.getD (i - 1) 0) (y.getD (j - 1) 0)))]) (rest := []) ⟨hx, hb, hml, hown, htl⟩ (m_X11_least l g (min (min 1000000 (D f2 x y (i - 1) j + wk f2 (kd (x.getD (i - 1) 0)))) ((D f2 x y i (j - 1)) + (wk f2 (kd (y.getD (j - 1) 0))))) ((D f2 x y (i - 1) (j - 1)) + (rp f2 (x.getD (i - 1) 0) (y.getD (j - 1) 0))) ⟨by omega, by omega⟩ ⟨by omega, by omega⟩ ) (va_cwS 2 htl lk_X11_122 rfl rfl rfl cwS_X11_least ⟨Nat.le_of_ble_eq_true rfl, Nat.le_of_ble_eq_true rfl⟩) (jp_S hKK hS hAb trivial) rfl rfl hl.1 rfl (lv_room (Nat.le_of_ble_eq_true rfl)) dX11_costOf_201 ⟨Nat.le_of_ble_eq_true rfl, Nat.le_of_ble_eq_true rfl⟩) (fun z201 hz201 => ?_)
                    subst hz201
                    refine lv_istore (lv' := [(7, vi (min (min (min 1000000 (D f2 x y (i - 1) j + wk f2 (kd (x.getD (i - 1) 0)))) ((D f2 x y i (j - 1)) + (wk f2 (kd (y.getD (j - 1) 0))))) ((D f2 x y (i - 1) (j - 1)) + (rp f2 (x.getD (i - 1) 0) (y.getD (j - 1) 0))))), (6, vi (y.getD (j - 1) 0)), (5, vi (x.getD (i - 1) 0)), (4, vi ((61 * (i : Int)) + (j : Int))), (3, vi (j : Int)), (2, vi (i : Int)), (0, .ref (ad 0)), (1, vi (u : Int))]) hx hb dX11_costOf_204 hl (by decide) rfl (fun ls hl => ?_)
                    refine lv_aload_n hx hb dX11_costOf_206 rfl (lv_at hl 6 rfl) ?_
                    refine va_get (D := gD g) (ci := 10) (v := .ref (ad 20)) (C := RX11) (T := TX11) (N := 29) hx hb htl ck_X11 hown hKK.k hP 0 rfl rfl 26 (by decide) (htl _ wd_6_11) (fun _ h9 => h9) rfl dX11_costOf_207 ?_
                    refine lv_iload hx hb dX11_costOf_210 (lv_at hl 3 rfl) ?_
                    refine lv_iload hx hb dX11_costOf_212 (lv_at hl 0 rfl) ?_
                    refine jr_iast hx hb hKK.k hP hD hS 5 rfl (61 * i + j) (by omega) (by omega) (by omega) dX11_costOf_214 (fun H locs hP hD hS => ?_)
                    have hP : PP g [ob (ad 0) 10 [vi th, .ref (ad 1), vi dn, .ref (ad 2), .ref (ad 3), vi nt, .ref (ad 4), .ref (ad 5), .ref (ad 6), vi tn, vi nu, .ref (ad 7), .ref (ad 8), .ref (ad 9), .ref (ad 10), .ref (ad 11), .ref (ad 12), vi ns, .ref (ad 13), .ref (ad 14), .ref (ad 15), .ref (ad 16), .ref (ad 17), .ref (ad 18), .ref (ad 19), vi tz, .ref (ad 20), .ref (ad 21), .ref (ad 22)], aI g (ad 2) 4 f2, aI g (ad 7) 2400 f7, aI g (ad 8) 40 f8, aI g (ad 19) 60 f19, aI g (ad 20) 3721 (ju h1 (61 * i + j) (min (min (min 1000000 (D f2 x y (i - 1) j + wk f2 (kd (x.getD (i - 1) 0)))) ((D f2 x y i (j - 1)) + (wk f2 (kd (y.getD (j - 1) 0))))) ((D f2 x y (i - 1) (j - 1)) + (rp f2 (x.getD (i - 1) 0) (y.getD (j - 1) 0)))))] H := hP
                    have hD : va_D A [ob (ad 0) 10 [vi th, .ref (ad 1), vi dn, .ref (ad 2), .ref (ad 3), vi nt, .ref (ad 4), .ref (ad 5), .ref (ad 6), vi tn, vi nu, .ref (ad 7), .ref (ad 8), .ref (ad 9), .ref (ad 10), .ref (ad 11), .ref (ad 12), vi ns, .ref (ad 13), .ref (ad 14), .ref (ad 15), .ref (ad 16), .ref (ad 17), .ref (ad 18), .ref (ad 19), vi tz, .ref (ad 20), .ref (ad 21), .ref (ad 22)], aI g (ad 2) 4 f2, aI g (ad 7) 2400 f7, aI g (ad 8) 40 f8, aI g (ad 19) 60 f19, aI g (ad 20) 3721 (ju h1 (61 * i + j) (min (min (min 1000000 (D f2 x y (i - 1) j + wk f2 (kd (x.getD (i - 1) 0)))) ((D f2 x y i (j - 1)) + (wk f2 (kd (y.getD (j - 1) 0))))) ((D f2 x y (i - 1) (j - 1)) + (rp f2 (x.getD (i - 1) 0) (y.getD (j - 1) 0)))))] := hD
                    refine jr_iinc (lv' := [(3, vi ((j : Int) + 1)), (7, vi (min (min (min 1000000 (D f2 x y (i - 1) j + wk f2 (kd (x.getD (i - 1) 0)))) ((D f2 x y i (j - 1)) + (wk f2 (kd (y.getD (j - 1) 0))))) ((D f2 x y (i - 1) (j - 1)) + (rp f2 (x.getD (i - 1) 0) (y.getD (j - 1) 0))))), (6, vi (y.getD (j - 1) 0)), (5, vi (x.getD (i - 1) 0)), (4, vi ((61 * (i : Int)) + (j : Int))), (2, vi (i : Int)), (0, .ref (ad 0)), (1, vi (u : Int))]) hx hb dX11_costOf_215 hl (k := 4) rfl rfl (by decide) rfl (fun ls hl => ?_)
                    refine lv_goto (tgt := 12) hx hb dX11_costOf_218 (by decide) ?_
                    obtain ⟨hC9, hE9⟩ := cost_s (v := (min (min (min 1000000 (D f2 x y (i - 1) j + wk f2 (kd (x.getD (i - 1) 0)))) ((D f2 x y i (j - 1)) + (wk f2 (kd (y.getD (j - 1) 0))))) ((D f2 x y (i - 1) (j - 1)) + (rp f2 (x.getD (i - 1) 0) (y.getD (j - 1) 0))))) hC hE (by omega) hyl (by rw [D_ij f2 x y (show 1 ≤ i by omega) (show 1 ≤ j by omega)]; omega)
                    exact ih12 (j + 1) _ (by omega) (hC9) (hE9) (by omega) _ _ hP hD hS ls (lv_sub hl [0, 5, 6, 7] rfl)
                  · refine lv_iload hx hb dX11_costOf_175 (lv_at hl 0 rfl) ?_
                    refine lv_goto (tgt := 204) hx hb dX11_costOf_177 (by decide) ?_
                    refine lv_istore (lv' := [(7, vi (min (min 1000000 (D f2 x y (i - 1) j + wk f2 (kd (x.getD (i - 1) 0)))) ((D f2 x y i (j - 1)) + (wk f2 (kd (y.getD (j - 1) 0)))))), (6, vi (y.getD (j - 1) 0)), (5, vi (x.getD (i - 1) 0)), (4, vi ((61 * (i : Int)) + (j : Int))), (3, vi (j : Int)), (2, vi (i : Int)), (0, .ref (ad 0)), (1, vi (u : Int))]) hx hb dX11_costOf_204 hl (by decide) rfl (fun ls hl => ?_)
                    refine lv_aload_n hx hb dX11_costOf_206 rfl (lv_at hl 6 rfl) ?_
                    refine va_get (D := gD g) (ci := 10) (v := .ref (ad 20)) (C := RX11) (T := TX11) (N := 29) hx hb htl ck_X11 hown hKK.k hP 0 rfl rfl 26 (by decide) (htl _ wd_6_11) (fun _ h9 => h9) rfl dX11_costOf_207 ?_
                    refine lv_iload hx hb dX11_costOf_210 (lv_at hl 3 rfl) ?_
                    refine lv_iload hx hb dX11_costOf_212 (lv_at hl 0 rfl) ?_
                    refine jr_iast hx hb hKK.k hP hD hS 5 rfl (61 * i + j) (by omega) (by omega) (by omega) dX11_costOf_214 (fun H locs hP hD hS => ?_)
                    have hP : PP g [ob (ad 0) 10 [vi th, .ref (ad 1), vi dn, .ref (ad 2), .ref (ad 3), vi nt, .ref (ad 4), .ref (ad 5), .ref (ad 6), vi tn, vi nu, .ref (ad 7), .ref (ad 8), .ref (ad 9), .ref (ad 10), .ref (ad 11), .ref (ad 12), vi ns, .ref (ad 13), .ref (ad 14), .ref (ad 15), .ref (ad 16), .ref (ad 17), .ref (ad 18), .ref (ad 19), vi tz, .ref (ad 20), .ref (ad 21), .ref (ad 22)], aI g (ad 2) 4 f2, aI g (ad 7) 2400 f7, aI g (ad 8) 40 f8, aI g (ad 19) 60 f19, aI g (ad 20) 3721 (ju h1 (61 * i + j) (min (min 1000000 (D f2 x y (i - 1) j + wk f2 (kd (x.getD (i - 1) 0)))) ((D f2 x y i (j - 1)) + (wk f2 (kd (y.getD (j - 1) 0))))))] H := hP
                    have hD : va_D A [ob (ad 0) 10 [vi th, .ref (ad 1), vi dn, .ref (ad 2), .ref (ad 3), vi nt, .ref (ad 4), .ref (ad 5), .ref (ad 6), vi tn, vi nu, .ref (ad 7), .ref (ad 8), .ref (ad 9), .ref (ad 10), .ref (ad 11), .ref (ad 12), vi ns, .ref (ad 13), .ref (ad 14), .ref (ad 15), .ref (ad 16), .ref (ad 17), .ref (ad 18), .ref (ad 19), vi tz, .ref (ad 20), .ref (ad 21), .ref (ad 22)], aI g (ad 2) 4 f2, aI g (ad 7) 2400 f7, aI g (ad 8) 40 f8, aI g (ad 19) 60 f19, aI g (ad 20) 3721 (ju h1 (61 * i + j) (min (min 1000000 (D f2 x y (i - 1) j + wk f2 (kd (x.getD (i - 1) 0)))) ((D f2 x y i (j - 1)) + (wk f2 (kd (y.getD (j - 1) 0))))))] := hD
                    refine jr_iinc (lv' := [(3, vi ((j : Int) + 1)), (7, vi (min (min 1000000 (D f2 x y (i - 1) j + wk f2 (kd (x.getD (i - 1) 0)))) ((D f2 x y i (j - 1)) + (wk f2 (kd (y.getD (j - 1) 0)))))), (6, vi (y.getD (j - 1) 0)), (5, vi (x.getD (i - 1) 0)), (4, vi ((61 * (i : Int)) + (j : Int))), (2, vi (i : Int)), (0, .ref (ad 0)), (1, vi (u : Int))]) hx hb dX11_costOf_215 hl (k := 4) rfl rfl (by decide) rfl (fun ls hl => ?_)
                    refine lv_goto (tgt := 12) hx hb dX11_costOf_218 (by decide) ?_
                    have db_i1_j1 := D_b hw x y (i - 1) (j - 1)
                    obtain ⟨hC9, hE9⟩ := cost_s (v := (min (min 1000000 (D f2 x y (i - 1) j + wk f2 (kd (x.getD (i - 1) 0)))) ((D f2 x y i (j - 1)) + (wk f2 (kd (y.getD (j - 1) 0)))))) hC hE (by omega) hyl (by rw [D_ij f2 x y (show 1 ≤ i by omega) (show 1 ≤ j by omega), rp_far (by rw [kd_n tbx.1, kd_n tby.1]; exact c172)]; omega)
                    exact ih12 (j + 1) _ (by omega) (hC9) (hE9) (by omega) _ _ hP hD hS ls (lv_sub hl [0, 5, 6, 7] rfl)
                · refine jr_iconst hx hb dX11_costOf_52 ?_
                  refine lv_goto (tgt := 69) hx hb dX11_costOf_53 (by decide) ?_
                  refine lv_istore (lv' := [(6, vi 0), (5, vi (x.getD (i - 1) 0)), (4, vi ((61 * (i : Int)) + (j : Int))), (3, vi (j : Int)), (2, vi (i : Int)), (0, .ref (ad 0)), (1, vi (u : Int))]) hx hb dX11_costOf_69 hl (by decide) rfl (fun ls hl => ?_)
                  refine lv_iload_n hx hb dX11_costOf_71 rfl (lv_at hl 4 rfl) ?_
                  refine jr_ifne (tgt := 83) hx hb dX11_costOf_72 (by decide) ⟨by omega, by omega⟩ (fun c72 => ?_) (fun c72 => absurd c72 (by omega))
                  refine lv_ldc (v := jI 1000000) hx hb hown (htl _ wd_24_10) dX11_costOf_83 ?_
                  refine lv_istore (lv' := [(7, vi 1000000), (6, vi 0), (5, vi (x.getD (i - 1) 0)), (4, vi ((61 * (i : Int)) + (j : Int))), (3, vi (j : Int)), (2, vi (i : Int)), (0, .ref (ad 0)), (1, vi (u : Int))]) hx hb dX11_costOf_85 hl (by decide) rfl (fun ls hl => ?_)
                  refine lv_iload_n hx hb dX11_costOf_87 rfl (lv_at hl 5 rfl) ?_
                  refine jr_ifne (tgt := 96) hx hb dX11_costOf_88 (by decide) ⟨by omega, by omega⟩ (fun c88 => ?_) (fun c88 => absurd c88 (by omega))
                  refine lv_iload hx hb dX11_costOf_96 (lv_at hl 0 rfl) ?_
                  refine lv_aload_n hx hb dX11_costOf_98 rfl (lv_at hl 6 rfl) ?_
                  refine va_get (D := gD g) (ci := 10) (v := .ref (ad 20)) (C := RX11) (T := TX11) (N := 29) hx hb htl ck_X11 hown hKK.k hP 0 rfl rfl 26 (by decide) (htl _ wd_6_11) (fun _ h9 => h9) rfl dX11_costOf_99 ?_
                  refine lv_iload hx hb dX11_costOf_102 (lv_at hl 3 rfl) ?_
                  refine jr_bipush hx hb dX11_costOf_104 (by decide) ?_
                  refine jr_isub hx hb dX11_costOf_106 ?_
                  refine jr_iald hx hb hKK.k hP 5 rfl (61 * (i - 1) + j) (by omega) (by omega) (by omega) dX11_costOf_107 ?_
                  refine jr_nm (b := (D f2 x y (i - 1) j)) (hC (i - 1) j (by omega) (by omega)) ?_
                  have db_i1_j := D_b hw x y (i - 1) j
                  refine lv_aload_n hx hb dX11_costOf_108 rfl (lv_at hl 6 rfl) ?_
                  refine lv_iload hx hb dX11_costOf_109 (lv_at hl 2 rfl) ?_
                  refine jk_Si (va_runV (As := [vi (x.getD (i - 1) 0)]) (rest := [vi (D f2 x y (i - 1) j), vi 1000000]) ⟨hx, hb, hml, hown, htl⟩ (m_X11_weightOf l g ad th dn nt tn nu ns tz f2 hw (x.getD (i - 1) 0) (by omega)) (cwV 1 htl lk_X11_117 rfl rfl rfl cwV_X11_weightOf ⟨Nat.le_of_ble_eq_true rfl, Nat.le_of_ble_eq_true rfl⟩) (jp_V hKK hS hAb (va_recv hKK.k hP (ci := 10) (q0 := 0) rfl rfl) (va_P.sub hP [0, 1] rfl)) rfl rfl hl.1 rfl (lv_room (Nat.le_of_ble_eq_true rfl)) dX11_costOf_111 ⟨Nat.le_of_ble_eq_true rfl, Nat.le_of_ble_eq_true rfl⟩) (fun z111 hz111 => ?_)
                  subst hz111
                  have tw := wk_b hw (kd (x.getD (i - 1) 0))
                  have tw1 := tw
                  refine jr_iadd hx hb dX11_costOf_114 ?_
                  refine jr_nm (b := (D f2 x y (i - 1) j + wk f2 (kd (x.getD (i - 1) 0)))) (rfl) ?_
                  refine jk_Si (va_runS (As := [vi 1000000, vi (D f2 x y (i - 1) j + wk f2 (kd (x.getD (i - 1) 0)))]) (rest := []) ⟨hx, hb, hml, hown, htl⟩ (m_X11_least l g 1000000 (D f2 x y (i - 1) j + wk f2 (kd (x.getD (i - 1) 0))) ⟨by omega, by omega⟩ ⟨by omega, by omega⟩ ) (va_cwS 2 htl lk_X11_122 rfl rfl rfl cwS_X11_least ⟨Nat.le_of_ble_eq_true rfl, Nat.le_of_ble_eq_true rfl⟩) (jp_S hKK hS hAb trivial) rfl rfl hl.1 rfl (lv_room (Nat.le_of_ble_eq_true rfl)) dX11_costOf_115 ⟨Nat.le_of_ble_eq_true rfl, Nat.le_of_ble_eq_true rfl⟩) (fun z115 hz115 => ?_)
                  subst hz115
                  refine lv_istore (lv' := [(7, vi (min 1000000 (D f2 x y (i - 1) j + wk f2 (kd (x.getD (i - 1) 0))))), (6, vi 0), (5, vi (x.getD (i - 1) 0)), (4, vi ((61 * (i : Int)) + (j : Int))), (3, vi (j : Int)), (2, vi (i : Int)), (0, .ref (ad 0)), (1, vi (u : Int))]) hx hb dX11_costOf_118 hl (by decide) rfl (fun ls hl => ?_)
                  refine lv_iload_n hx hb dX11_costOf_120 rfl (lv_at hl 4 rfl) ?_
                  refine jr_ifne (tgt := 129) hx hb dX11_costOf_121 (by decide) ⟨by omega, by omega⟩ (fun c121 => absurd c121 (by omega)) (fun c121 => ?_)
                  refine lv_iload hx hb dX11_costOf_124 (lv_at hl 0 rfl) ?_
                  refine lv_goto (tgt := 150) hx hb dX11_costOf_126 (by decide) ?_
                  refine lv_istore (lv' := [(7, vi (min 1000000 (D f2 x y (i - 1) j + wk f2 (kd (x.getD (i - 1) 0))))), (6, vi 0), (5, vi (x.getD (i - 1) 0)), (4, vi ((61 * (i : Int)) + (j : Int))), (3, vi (j : Int)), (2, vi (i : Int)), (0, .ref (ad 0)), (1, vi (u : Int))]) hx hb dX11_costOf_150 hl (by decide) rfl (fun ls hl => ?_)
                  refine lv_iload_n hx hb dX11_costOf_152 rfl (lv_at hl 5 rfl) ?_
                  refine jr_ifeq (tgt := 175) hx hb dX11_costOf_153 (by decide) ⟨by omega, by omega⟩ (fun c153 => absurd c153 (by omega)) (fun c153 => ?_)
                  refine lv_iload_n hx hb dX11_costOf_156 rfl (lv_at hl 4 rfl) ?_
                  refine jr_ifeq (tgt := 175) hx hb dX11_costOf_157 (by decide) ⟨by omega, by omega⟩ (fun c157 => ?_) (fun c157 => absurd c157 (by omega))
                  refine lv_iload hx hb dX11_costOf_175 (lv_at hl 0 rfl) ?_
                  refine lv_goto (tgt := 204) hx hb dX11_costOf_177 (by decide) ?_
                  refine lv_istore (lv' := [(7, vi (min 1000000 (D f2 x y (i - 1) j + wk f2 (kd (x.getD (i - 1) 0))))), (6, vi 0), (5, vi (x.getD (i - 1) 0)), (4, vi ((61 * (i : Int)) + (j : Int))), (3, vi (j : Int)), (2, vi (i : Int)), (0, .ref (ad 0)), (1, vi (u : Int))]) hx hb dX11_costOf_204 hl (by decide) rfl (fun ls hl => ?_)
                  refine lv_aload_n hx hb dX11_costOf_206 rfl (lv_at hl 6 rfl) ?_
                  refine va_get (D := gD g) (ci := 10) (v := .ref (ad 20)) (C := RX11) (T := TX11) (N := 29) hx hb htl ck_X11 hown hKK.k hP 0 rfl rfl 26 (by decide) (htl _ wd_6_11) (fun _ h9 => h9) rfl dX11_costOf_207 ?_
                  refine lv_iload hx hb dX11_costOf_210 (lv_at hl 3 rfl) ?_
                  refine lv_iload hx hb dX11_costOf_212 (lv_at hl 0 rfl) ?_
                  refine jr_iast hx hb hKK.k hP hD hS 5 rfl (61 * i + j) (by omega) (by omega) (by omega) dX11_costOf_214 (fun H locs hP hD hS => ?_)
                  have hP : PP g [ob (ad 0) 10 [vi th, .ref (ad 1), vi dn, .ref (ad 2), .ref (ad 3), vi nt, .ref (ad 4), .ref (ad 5), .ref (ad 6), vi tn, vi nu, .ref (ad 7), .ref (ad 8), .ref (ad 9), .ref (ad 10), .ref (ad 11), .ref (ad 12), vi ns, .ref (ad 13), .ref (ad 14), .ref (ad 15), .ref (ad 16), .ref (ad 17), .ref (ad 18), .ref (ad 19), vi tz, .ref (ad 20), .ref (ad 21), .ref (ad 22)], aI g (ad 2) 4 f2, aI g (ad 7) 2400 f7, aI g (ad 8) 40 f8, aI g (ad 19) 60 f19, aI g (ad 20) 3721 (ju h1 (61 * i + j) (min 1000000 (D f2 x y (i - 1) j + wk f2 (kd (x.getD (i - 1) 0)))))] H := hP
                  have hD : va_D A [ob (ad 0) 10 [vi th, .ref (ad 1), vi dn, .ref (ad 2), .ref (ad 3), vi nt, .ref (ad 4), .ref (ad 5), .ref (ad 6), vi tn, vi nu, .ref (ad 7), .ref (ad 8), .ref (ad 9), .ref (ad 10), .ref (ad 11), .ref (ad 12), vi ns, .ref (ad 13), .ref (ad 14), .ref (ad 15), .ref (ad 16), .ref (ad 17), .ref (ad 18), .ref (ad 19), vi tz, .ref (ad 20), .ref (ad 21), .ref (ad 22)], aI g (ad 2) 4 f2, aI g (ad 7) 2400 f7, aI g (ad 8) 40 f8, aI g (ad 19) 60 f19, aI g (ad 20) 3721 (ju h1 (61 * i + j) (min 1000000 (D f2 x y (i - 1) j + wk f2 (kd (x.getD (i - 1) 0)))))] := hD
                  refine jr_iinc (lv' := [(3, vi ((j : Int) + 1)), (7, vi (min 1000000 (D f2 x y (i - 1) j + wk f2 (kd (x.getD (i - 1) 0))))), (6, vi 0), (5, vi (x.getD (i - 1) 0)), (4, vi ((61 * (i : Int)) + (j : Int))), (2, vi (i : Int)), (0, .ref (ad 0)), (1, vi (u : Int))]) hx hb dX11_costOf_215 hl (k := 4) rfl rfl (by decide) rfl (fun ls hl => ?_)
                  refine lv_goto (tgt := 12) hx hb dX11_costOf_218 (by decide) ?_
                  obtain ⟨hC9, hE9⟩ := cost_s (v := (min 1000000 (D f2 x y (i - 1) j + wk f2 (kd (x.getD (i - 1) 0))))) hC hE (by omega) hyl (by obtain rfl : j = 0 := (by omega); rw [D_i0 f2 x y (show 1 ≤ i by omega)]; omega)
                  exact ih12 (j + 1) _ (by omega) (hC9) (hE9) (by omega) _ _ hP hD hS ls (lv_sub hl [0, 5, 6, 7] rfl)
              · refine jr_iconst hx hb dX11_costOf_34 ?_
                refine lv_goto (tgt := 46) hx hb dX11_costOf_35 (by decide) ?_
                refine lv_istore (lv' := [(5, vi 0), (4, vi ((61 * (i : Int)) + (j : Int))), (3, vi (j : Int)), (2, vi (i : Int)), (0, .ref (ad 0)), (1, vi (u : Int))]) hx hb dX11_costOf_46 hl (by decide) rfl (fun ls hl => ?_)
                refine lv_iload_n hx hb dX11_costOf_48 rfl (lv_at hl 2 rfl) ?_
                refine jr_ifne (tgt := 56) hx hb dX11_costOf_49 (by decide) ⟨by omega, by omega⟩ (fun c49 => ?_) (fun c49 => ?_)
                · refine lv_aload_n hx hb dX11_costOf_56 rfl (lv_at hl 4 rfl) ?_
                  refine va_get (D := gD g) (ci := 10) (v := .ref (ad 7)) (C := RX11) (T := TX11) (N := 29) hx hb htl ck_X11 hown hKK.k hP 0 rfl rfl 11 (by decide) (htl _ wd_5_21) (fun _ h9 => h9) rfl dX11_costOf_57 ?_
                  refine jr_bipush hx hb dX11_costOf_60 (by decide) ?_
                  refine lv_iload_n hx hb dX11_costOf_62 rfl (lv_at hl 5 rfl) ?_
                  refine jr_imul hx hb dX11_costOf_63 ?_
                  refine lv_iload_n hx hb dX11_costOf_64 rfl (lv_at hl 2 rfl) ?_
                  refine jr_iadd hx hb dX11_costOf_65 ?_
                  refine jr_iconst hx hb dX11_costOf_66 ?_
                  refine jr_isub hx hb dX11_costOf_67 ?_
                  refine jr_iald hx hb hKK.k hP 2 rfl (60 * u + (j - 1)) (by omega) (by omega) (by omega) dX11_costOf_68 ?_
                  have tby := hy.b (j := j - 1) (by omega)
                  refine jr_nm (b := (y.getD (j - 1) 0)) (hy.at (by omega)) ?_
                  refine lv_istore (lv' := [(6, vi (y.getD (j - 1) 0)), (5, vi 0), (4, vi ((61 * (i : Int)) + (j : Int))), (3, vi (j : Int)), (2, vi (i : Int)), (0, .ref (ad 0)), (1, vi (u : Int))]) hx hb dX11_costOf_69 hl (by decide) rfl (fun ls hl => ?_)
                  refine lv_iload_n hx hb dX11_costOf_71 rfl (lv_at hl 4 rfl) ?_
                  refine jr_ifne (tgt := 83) hx hb dX11_costOf_72 (by decide) ⟨by omega, by omega⟩ (fun c72 => absurd c72 (by omega)) (fun c72 => ?_)
                  refine lv_iload_n hx hb dX11_costOf_75 rfl (lv_at hl 3 rfl) ?_
                  refine jr_ifne (tgt := 83) hx hb dX11_costOf_76 (by decide) ⟨by omega, by omega⟩ (fun c76 => ?_) (fun c76 => absurd c76 (by omega))
                  refine lv_ldc (v := jI 1000000) hx hb hown (htl _ wd_24_10) dX11_costOf_83 ?_
                  refine lv_istore (lv' := [(7, vi 1000000), (6, vi (y.getD (j - 1) 0)), (5, vi 0), (4, vi ((61 * (i : Int)) + (j : Int))), (3, vi (j : Int)), (2, vi (i : Int)), (0, .ref (ad 0)), (1, vi (u : Int))]) hx hb dX11_costOf_85 hl (by decide) rfl (fun ls hl => ?_)
                  refine lv_iload_n hx hb dX11_costOf_87 rfl (lv_at hl 5 rfl) ?_
                  refine jr_ifne (tgt := 96) hx hb dX11_costOf_88 (by decide) ⟨by omega, by omega⟩ (fun c88 => absurd c88 (by omega)) (fun c88 => ?_)
                  refine lv_iload hx hb dX11_costOf_91 (lv_at hl 0 rfl) ?_
                  refine lv_goto (tgt := 118) hx hb dX11_costOf_93 (by decide) ?_
                  refine lv_istore (lv' := [(7, vi 1000000), (6, vi (y.getD (j - 1) 0)), (5, vi 0), (4, vi ((61 * (i : Int)) + (j : Int))), (3, vi (j : Int)), (2, vi (i : Int)), (0, .ref (ad 0)), (1, vi (u : Int))]) hx hb dX11_costOf_118 hl (by decide) rfl (fun ls hl => ?_)
                  refine lv_iload_n hx hb dX11_costOf_120 rfl (lv_at hl 4 rfl) ?_
                  refine jr_ifne (tgt := 129) hx hb dX11_costOf_121 (by decide) ⟨by omega, by omega⟩ (fun c121 => ?_) (fun c121 => absurd c121 (by omega))
                  refine lv_iload hx hb dX11_costOf_129 (lv_at hl 0 rfl) ?_
                  refine lv_aload_n hx hb dX11_costOf_131 rfl (lv_at hl 6 rfl) ?_
                  refine va_get (D := gD g) (ci := 10) (v := .ref (ad 20)) (C := RX11) (T := TX11) (N := 29) hx hb htl ck_X11 hown hKK.k hP 0 rfl rfl 26 (by decide) (htl _ wd_6_11) (fun _ h9 => h9) rfl dX11_costOf_132 ?_
                  refine lv_iload hx hb dX11_costOf_135 (lv_at hl 3 rfl) ?_
                  refine jr_iconst hx hb dX11_costOf_137 ?_
                  refine jr_isub hx hb dX11_costOf_138 ?_
                  refine jr_iald hx hb hKK.k hP 5 rfl (61 * i + (j - 1)) (by omega) (by omega) (by omega) dX11_costOf_139 ?_
                  refine jr_nm (b := (D f2 x y i (j - 1))) (hE (j - 1) (by omega)) ?_
                  have db_i_j1 := D_b hw x y i (j - 1)
                  refine lv_aload_n hx hb dX11_costOf_140 rfl (lv_at hl 6 rfl) ?_
                  refine lv_iload hx hb dX11_costOf_141 (lv_at hl 1 rfl) ?_
                  refine jk_Si (va_runV (As := [vi (y.getD (j - 1) 0)]) (rest := [vi (D f2 x y i (j - 1)), vi 1000000]) ⟨hx, hb, hml, hown, htl⟩ (m_X11_weightOf l g ad th dn nt tn nu ns tz f2 hw (y.getD (j - 1) 0) (by omega)) (cwV 1 htl lk_X11_117 rfl rfl rfl cwV_X11_weightOf ⟨Nat.le_of_ble_eq_true rfl, Nat.le_of_ble_eq_true rfl⟩) (jp_V hKK hS hAb (va_recv hKK.k hP (ci := 10) (q0 := 0) rfl rfl) (va_P.sub hP [0, 1] rfl)) rfl rfl hl.1 rfl (lv_room (Nat.le_of_ble_eq_true rfl)) dX11_costOf_143 ⟨Nat.le_of_ble_eq_true rfl, Nat.le_of_ble_eq_true rfl⟩) (fun z143 hz143 => ?_)
                  subst hz143
                  have tw := wk_b hw (kd (y.getD (j - 1) 0))
                  have tw2 := tw
                  refine jr_iadd hx hb dX11_costOf_146 ?_
                  refine jk_Si (va_runS (As := [vi 1000000, vi ((D f2 x y i (j - 1)) + (wk f2 (kd (y.getD (j - 1) 0))))]) (rest := []) ⟨hx, hb, hml, hown, htl⟩ (m_X11_least l g 1000000 ((D f2 x y i (j - 1)) + (wk f2 (kd (y.getD (j - 1) 0)))) ⟨by omega, by omega⟩ ⟨by omega, by omega⟩ ) (va_cwS 2 htl lk_X11_122 rfl rfl rfl cwS_X11_least ⟨Nat.le_of_ble_eq_true rfl, Nat.le_of_ble_eq_true rfl⟩) (jp_S hKK hS hAb trivial) rfl rfl hl.1 rfl (lv_room (Nat.le_of_ble_eq_true rfl)) dX11_costOf_147 ⟨Nat.le_of_ble_eq_true rfl, Nat.le_of_ble_eq_true rfl⟩) (fun z147 hz147 => ?_)
                  subst hz147
                  refine lv_istore (lv' := [(7, vi (min 1000000 ((D f2 x y i (j - 1)) + (wk f2 (kd (y.getD (j - 1) 0)))))), (6, vi (y.getD (j - 1) 0)), (5, vi 0), (4, vi ((61 * (i : Int)) + (j : Int))), (3, vi (j : Int)), (2, vi (i : Int)), (0, .ref (ad 0)), (1, vi (u : Int))]) hx hb dX11_costOf_150 hl (by decide) rfl (fun ls hl => ?_)
                  refine lv_iload_n hx hb dX11_costOf_152 rfl (lv_at hl 5 rfl) ?_
                  refine jr_ifeq (tgt := 175) hx hb dX11_costOf_153 (by decide) ⟨by omega, by omega⟩ (fun c153 => ?_) (fun c153 => absurd c153 (by omega))
                  refine lv_iload hx hb dX11_costOf_175 (lv_at hl 0 rfl) ?_
                  refine lv_goto (tgt := 204) hx hb dX11_costOf_177 (by decide) ?_
                  refine lv_istore (lv' := [(7, vi (min 1000000 ((D f2 x y i (j - 1)) + (wk f2 (kd (y.getD (j - 1) 0)))))), (6, vi (y.getD (j - 1) 0)), (5, vi 0), (4, vi ((61 * (i : Int)) + (j : Int))), (3, vi (j : Int)), (2, vi (i : Int)), (0, .ref (ad 0)), (1, vi (u : Int))]) hx hb dX11_costOf_204 hl (by decide) rfl (fun ls hl => ?_)
                  refine lv_aload_n hx hb dX11_costOf_206 rfl (lv_at hl 6 rfl) ?_
                  refine va_get (D := gD g) (ci := 10) (v := .ref (ad 20)) (C := RX11) (T := TX11) (N := 29) hx hb htl ck_X11 hown hKK.k hP 0 rfl rfl 26 (by decide) (htl _ wd_6_11) (fun _ h9 => h9) rfl dX11_costOf_207 ?_
                  refine lv_iload hx hb dX11_costOf_210 (lv_at hl 3 rfl) ?_
                  refine lv_iload hx hb dX11_costOf_212 (lv_at hl 0 rfl) ?_
                  refine jr_iast hx hb hKK.k hP hD hS 5 rfl (61 * i + j) (by omega) (by omega) (by omega) dX11_costOf_214 (fun H locs hP hD hS => ?_)
                  have hP : PP g [ob (ad 0) 10 [vi th, .ref (ad 1), vi dn, .ref (ad 2), .ref (ad 3), vi nt, .ref (ad 4), .ref (ad 5), .ref (ad 6), vi tn, vi nu, .ref (ad 7), .ref (ad 8), .ref (ad 9), .ref (ad 10), .ref (ad 11), .ref (ad 12), vi ns, .ref (ad 13), .ref (ad 14), .ref (ad 15), .ref (ad 16), .ref (ad 17), .ref (ad 18), .ref (ad 19), vi tz, .ref (ad 20), .ref (ad 21), .ref (ad 22)], aI g (ad 2) 4 f2, aI g (ad 7) 2400 f7, aI g (ad 8) 40 f8, aI g (ad 19) 60 f19, aI g (ad 20) 3721 (ju h1 (61 * i + j) (min 1000000 ((D f2 x y i (j - 1)) + (wk f2 (kd (y.getD (j - 1) 0))))))] H := hP
                  have hD : va_D A [ob (ad 0) 10 [vi th, .ref (ad 1), vi dn, .ref (ad 2), .ref (ad 3), vi nt, .ref (ad 4), .ref (ad 5), .ref (ad 6), vi tn, vi nu, .ref (ad 7), .ref (ad 8), .ref (ad 9), .ref (ad 10), .ref (ad 11), .ref (ad 12), vi ns, .ref (ad 13), .ref (ad 14), .ref (ad 15), .ref (ad 16), .ref (ad 17), .ref (ad 18), .ref (ad 19), vi tz, .ref (ad 20), .ref (ad 21), .ref (ad 22)], aI g (ad 2) 4 f2, aI g (ad 7) 2400 f7, aI g (ad 8) 40 f8, aI g (ad 19) 60 f19, aI g (ad 20) 3721 (ju h1 (61 * i + j) (min 1000000 ((D f2 x y i (j - 1)) + (wk f2 (kd (y.getD (j - 1) 0))))))] := hD
                  refine jr_iinc (lv' := [(3, vi ((j : Int) + 1)), (7, vi (min 1000000 ((D f2 x y i (j - 1)) + (wk f2 (kd (y.getD (j - 1) 0)))))), (6, vi (y.getD (j - 1) 0)), (5, vi 0), (4, vi ((61 * (i : Int)) + (j : Int))), (2, vi (i : Int)), (0, .ref (ad 0)), (1, vi (u : Int))]) hx hb dX11_costOf_215 hl (k := 4) rfl rfl (by decide) rfl (fun ls hl => ?_)
                  refine lv_goto (tgt := 12) hx hb dX11_costOf_218 (by decide) ?_
                  obtain ⟨hC9, hE9⟩ := cost_s (v := (min 1000000 ((D f2 x y i (j - 1)) + (wk f2 (kd (y.getD (j - 1) 0)))))) hC hE (by omega) hyl (by obtain rfl : i = 0 := (by omega); rw [D_0j f2 x y (show 1 ≤ j by omega)]; omega)
                  exact ih12 (j + 1) _ (by omega) (hC9) (hE9) (by omega) _ _ hP hD hS ls (lv_sub hl [0, 5, 6, 7] rfl)
                · refine jr_iconst hx hb dX11_costOf_52 ?_
                  refine lv_goto (tgt := 69) hx hb dX11_costOf_53 (by decide) ?_
                  refine lv_istore (lv' := [(6, vi 0), (5, vi 0), (4, vi ((61 * (i : Int)) + (j : Int))), (3, vi (j : Int)), (2, vi (i : Int)), (0, .ref (ad 0)), (1, vi (u : Int))]) hx hb dX11_costOf_69 hl (by decide) rfl (fun ls hl => ?_)
                  refine lv_iload_n hx hb dX11_costOf_71 rfl (lv_at hl 4 rfl) ?_
                  refine jr_ifne (tgt := 83) hx hb dX11_costOf_72 (by decide) ⟨by omega, by omega⟩ (fun c72 => absurd c72 (by omega)) (fun c72 => ?_)
                  refine lv_iload_n hx hb dX11_costOf_75 rfl (lv_at hl 3 rfl) ?_
                  refine jr_ifne (tgt := 83) hx hb dX11_costOf_76 (by decide) ⟨by omega, by omega⟩ (fun c76 => absurd c76 (by omega)) (fun c76 => ?_)
                  refine jr_iconst hx hb dX11_costOf_79 ?_
                  refine lv_goto (tgt := 85) hx hb dX11_costOf_80 (by decide) ?_
                  refine lv_istore (lv' := [(7, vi 0), (6, vi 0), (5, vi 0), (4, vi ((61 * (i : Int)) + (j : Int))), (3, vi (j : Int)), (2, vi (i : Int)), (0, .ref (ad 0)), (1, vi (u : Int))]) hx hb dX11_costOf_85 hl (by decide) rfl (fun ls hl => ?_)
                  refine lv_iload_n hx hb dX11_costOf_87 rfl (lv_at hl 5 rfl) ?_
                  refine jr_ifne (tgt := 96) hx hb dX11_costOf_88 (by decide) ⟨by omega, by omega⟩ (fun c88 => absurd c88 (by omega)) (fun c88 => ?_)
                  refine lv_iload hx hb dX11_costOf_91 (lv_at hl 0 rfl) ?_
                  refine lv_goto (tgt := 118) hx hb dX11_costOf_93 (by decide) ?_
                  refine lv_istore (lv' := [(7, vi 0), (6, vi 0), (5, vi 0), (4, vi ((61 * (i : Int)) + (j : Int))), (3, vi (j : Int)), (2, vi (i : Int)), (0, .ref (ad 0)), (1, vi (u : Int))]) hx hb dX11_costOf_118 hl (by decide) rfl (fun ls hl => ?_)
                  refine lv_iload_n hx hb dX11_costOf_120 rfl (lv_at hl 4 rfl) ?_
                  refine jr_ifne (tgt := 129) hx hb dX11_costOf_121 (by decide) ⟨by omega, by omega⟩ (fun c121 => absurd c121 (by omega)) (fun c121 => ?_)
                  refine lv_iload hx hb dX11_costOf_124 (lv_at hl 0 rfl) ?_
                  refine lv_goto (tgt := 150) hx hb dX11_costOf_126 (by decide) ?_
                  refine lv_istore (lv' := [(7, vi 0), (6, vi 0), (5, vi 0), (4, vi ((61 * (i : Int)) + (j : Int))), (3, vi (j : Int)), (2, vi (i : Int)), (0, .ref (ad 0)), (1, vi (u : Int))]) hx hb dX11_costOf_150 hl (by decide) rfl (fun ls hl => ?_)
                  refine lv_iload_n hx hb dX11_costOf_152 rfl (lv_at hl 5 rfl) ?_
                  refine jr_ifeq (tgt := 175) hx hb dX11_costOf_153 (by decide) ⟨by omega, by omega⟩ (fun c153 => ?_) (fun c153 => absurd c153 (by omega))
                  refine lv_iload hx hb dX11_costOf_175 (lv_at hl 0 rfl) ?_
                  refine lv_goto (tgt := 204) hx hb dX11_costOf_177 (by decide) ?_
                  refine lv_istore (lv' := [(7, vi 0), (6, vi 0), (5, vi 0), (4, vi ((61 * (i : Int)) + (j : Int))), (3, vi (j : Int)), (2, vi (i : Int)), (0, .ref (ad 0)), (1, vi (u : Int))]) hx hb dX11_costOf_204 hl (by decide) rfl (fun ls hl => ?_)
                  refine lv_aload_n hx hb dX11_costOf_206 rfl (lv_at hl 6 rfl) ?_
                  refine va_get (D := gD g) (ci := 10) (v := .ref (ad 20)) (C := RX11) (T := TX11) (N := 29) hx hb htl ck_X11 hown hKK.k hP 0 rfl rfl 26 (by decide) (htl _ wd_6_11) (fun _ h9 => h9) rfl dX11_costOf_207 ?_
                  refine lv_iload hx hb dX11_costOf_210 (lv_at hl 3 rfl) ?_
                  refine lv_iload hx hb dX11_costOf_212 (lv_at hl 0 rfl) ?_
                  refine jr_iast hx hb hKK.k hP hD hS 5 rfl (61 * i + j) (by omega) (by omega) (by omega) dX11_costOf_214 (fun H locs hP hD hS => ?_)
                  have hP : PP g [ob (ad 0) 10 [vi th, .ref (ad 1), vi dn, .ref (ad 2), .ref (ad 3), vi nt, .ref (ad 4), .ref (ad 5), .ref (ad 6), vi tn, vi nu, .ref (ad 7), .ref (ad 8), .ref (ad 9), .ref (ad 10), .ref (ad 11), .ref (ad 12), vi ns, .ref (ad 13), .ref (ad 14), .ref (ad 15), .ref (ad 16), .ref (ad 17), .ref (ad 18), .ref (ad 19), vi tz, .ref (ad 20), .ref (ad 21), .ref (ad 22)], aI g (ad 2) 4 f2, aI g (ad 7) 2400 f7, aI g (ad 8) 40 f8, aI g (ad 19) 60 f19, aI g (ad 20) 3721 (ju h1 (61 * i + j) 0)] H := hP
                  have hD : va_D A [ob (ad 0) 10 [vi th, .ref (ad 1), vi dn, .ref (ad 2), .ref (ad 3), vi nt, .ref (ad 4), .ref (ad 5), .ref (ad 6), vi tn, vi nu, .ref (ad 7), .ref (ad 8), .ref (ad 9), .ref (ad 10), .ref (ad 11), .ref (ad 12), vi ns, .ref (ad 13), .ref (ad 14), .ref (ad 15), .ref (ad 16), .ref (ad 17), .ref (ad 18), .ref (ad 19), vi tz, .ref (ad 20), .ref (ad 21), .ref (ad 22)], aI g (ad 2) 4 f2, aI g (ad 7) 2400 f7, aI g (ad 8) 40 f8, aI g (ad 19) 60 f19, aI g (ad 20) 3721 (ju h1 (61 * i + j) 0)] := hD
                  refine jr_iinc (lv' := [(3, vi ((j : Int) + 1)), (7, vi 0), (6, vi 0), (5, vi 0), (4, vi ((61 * (i : Int)) + (j : Int))), (2, vi (i : Int)), (0, .ref (ad 0)), (1, vi (u : Int))]) hx hb dX11_costOf_215 hl (k := 4) rfl rfl (by decide) rfl (fun ls hl => ?_)
                  refine lv_goto (tgt := 12) hx hb dX11_costOf_218 (by decide) ?_
                  obtain ⟨hC9, hE9⟩ := cost_s (v := 0) hC hE (by omega) hyl (by obtain rfl : i = 0 := (by omega); obtain rfl : j = 0 := (by omega); exact (D_00 f2 x y).symm)
                  exact ih12 (j + 1) _ (by omega) (hC9) (hE9) (by omega) _ _ hP hD hS ls (lv_sub hl [0, 5, 6, 7] rfl)
        exact lp12 _ 0 _ (Nat.zero_le _) (hC) (fun c hc => absurd hc (Nat.not_lt_zero _)) (Nat.lt_succ_self _) _ _ hP hD hS ls (lv_sub hl [0, 1, 2, 3] rfl)
  exact lp2 _ 0 f20 (Nat.zero_le _) (fun a c ha _ => absurd ha (Nat.not_lt_zero _)) (Nat.lt_succ_self _) _ _ hP hD hS ls (lv_sub hl [0, 1, 2] rfl)
