
theorem lk_X1_28 : GoodIn WSL (wsV RX1 28 RX6 yX6_size (ws_ yX6_size cX6_size 1 (some .int))) := gd_app (List.forall_mem_cons.mpr ⟨wd_22_15, List.forall_mem_cons.mpr ⟨wd_8_3, List.forall_mem_cons.mpr ⟨wd_8_4, List.forall_mem_cons.mpr ⟨wd_1_13, fun _ h => nomatch h⟩⟩⟩⟩) (gd_ wd_8_5)
theorem lk_X1_40 : GoodIn WSL (wsV RX1 40 RX6 yX6_at (ws_ yX6_at cX6_at 2 (some .int))) := gd_app (List.forall_mem_cons.mpr ⟨wd_22_16, List.forall_mem_cons.mpr ⟨wd_7_7, List.forall_mem_cons.mpr ⟨wd_7_8, List.forall_mem_cons.mpr ⟨wd_1_13, fun _ h => nomatch h⟩⟩⟩⟩) (gd_ wd_7_9)
theorem lk_X1_44 : GoodIn WSL (wsV RX1 44 RX9 yX9_ofToken (ws_ yX9_ofToken cX9_ofToken 2 (some .int))) := gd_app (List.forall_mem_cons.mpr ⟨wd_22_17, List.forall_mem_cons.mpr ⟨wd_22_18, List.forall_mem_cons.mpr ⟨wd_22_19, List.forall_mem_cons.mpr ⟨wd_3_13, fun _ h => nomatch h⟩⟩⟩⟩) (gd_ wd_22_20)
theorem cwV_X9_ofToken : yX9_ofToken.cls = RX9 ∧ yX9_ofToken.cls ≠ "java/lang/invoke/MethodHandle" ∧ yX9_ofToken.cls ≠ "java/lang/invoke/VarHandle" ∧ (parseMethodDescriptor yX9_ofToken.desc).map (fun d => d.parameters.length) = some 1 := by decide +kernel
theorem lk_X1_47 : GoodIn WSL (wsV RX1 47 RX9 yX9_ofReplacing (ws_ yX9_ofReplacing cX9_ofReplacing 6 (some .int))) := gd_app (List.forall_mem_cons.mpr ⟨wd_22_21, List.forall_mem_cons.mpr ⟨wd_22_22, List.forall_mem_cons.mpr ⟨wd_22_23, List.forall_mem_cons.mpr ⟨wd_3_13, fun _ h => nomatch h⟩⟩⟩⟩) (gd_ wd_23_0)
theorem cwV_X9_ofReplacing : yX9_ofReplacing.cls = RX9 ∧ yX9_ofReplacing.cls ≠ "java/lang/invoke/MethodHandle" ∧ yX9_ofReplacing.cls ≠ "java/lang/invoke/VarHandle" ∧ (parseMethodDescriptor yX9_ofReplacing.desc).map (fun d => d.parameters.length) = some 2 := by decide +kernel
theorem lk_X1_70 : GoodIn WSL (wsV RX1 70 RX9 yX9_ofText (ws_ yX9_ofText cX9_ofText 4 (some .int))) := gd_app (List.forall_mem_cons.mpr ⟨wd_21_22, List.forall_mem_cons.mpr ⟨wd_7_23, List.forall_mem_cons.mpr ⟨wd_8_0, List.forall_mem_cons.mpr ⟨wd_3_13, fun _ h => nomatch h⟩⟩⟩⟩) (gd_ wd_8_1)
theorem cwV_X9_ofText : yX9_ofText.cls = RX9 ∧ yX9_ofText.cls ≠ "java/lang/invoke/MethodHandle" ∧ yX9_ofText.cls ≠ "java/lang/invoke/VarHandle" ∧ (parseMethodDescriptor yX9_ofText.desc).map (fun d => d.parameters.length) = some 1 := by decide +kernel
theorem lk_X1_61 : GoodIn WSL (wsV RX1 61 RX6 yX6_countKind (ws_ yX6_countKind cX6_countKind 4 (some .int))) := gd_app (List.forall_mem_cons.mpr ⟨wd_21_11, List.forall_mem_cons.mpr ⟨wd_21_12, List.forall_mem_cons.mpr ⟨wd_21_13, List.forall_mem_cons.mpr ⟨wd_1_13, fun _ h => nomatch h⟩⟩⟩⟩) (gd_ wd_21_14)
theorem cwV_X6_countKind : yX6_countKind.cls = RX6 ∧ yX6_countKind.cls ≠ "java/lang/invoke/MethodHandle" ∧ yX6_countKind.cls ≠ "java/lang/invoke/VarHandle" ∧ (parseMethodDescriptor yX6_countKind.desc).map (fun d => d.parameters.length) = some 1 := by decide +kernel
theorem lk_X1_67 : GoodIn WSL (wsV RX1 67 RX9 yX9_ofKind (ws_ yX9_ofKind cX9_ofKind 2 (some .int))) := gd_app (List.forall_mem_cons.mpr ⟨wd_21_16, List.forall_mem_cons.mpr ⟨wd_8_12, List.forall_mem_cons.mpr ⟨wd_8_13, List.forall_mem_cons.mpr ⟨wd_3_13, fun _ h => nomatch h⟩⟩⟩⟩) (gd_ wd_8_14)
theorem lk_X1_58 : GoodIn WSL (wsV RX1 58 RX1 yX1_costAtLeast (ws_ yX1_costAtLeast cX1_costAtLeast 6 (some .int))) := gd_app (List.forall_mem_cons.mpr ⟨wd_21_4, List.forall_mem_cons.mpr ⟨wd_21_5, List.forall_mem_cons.mpr ⟨wd_21_6, List.forall_mem_cons.mpr ⟨wd_2_22, fun _ h => nomatch h⟩⟩⟩⟩) (gd_ wd_21_7)
theorem cwV_X1_costAtLeast : yX1_costAtLeast.cls = RX1 ∧ yX1_costAtLeast.cls ≠ "java/lang/invoke/MethodHandle" ∧ yX1_costAtLeast.cls ≠ "java/lang/invoke/VarHandle" ∧ (parseMethodDescriptor yX1_costAtLeast.desc).map (fun d => d.parameters.length) = some 2 := by decide +kernel
theorem lk_X1_54 : GoodIn WSL (wsV RX1 54 RX1 yX1_share (ws_ yX1_share cX1_share 5 (some .int))) := gd_app (List.forall_mem_cons.mpr ⟨wd_21_17, List.forall_mem_cons.mpr ⟨wd_21_18, List.forall_mem_cons.mpr ⟨wd_21_19, List.forall_mem_cons.mpr ⟨wd_2_22, fun _ h => nomatch h⟩⟩⟩⟩) (gd_ wd_21_20)
theorem cwV_X1_share : yX1_share.cls = RX1 ∧ yX1_share.cls ≠ "java/lang/invoke/MethodHandle" ∧ yX1_share.cls ≠ "java/lang/invoke/VarHandle" ∧ (parseMethodDescriptor yX1_share.desc).map (fun d => d.parameters.length) = some 3 := by decide +kernel
theorem lk_X1_50 : GoodIn WSL (wsV RX1 50 RX1 yX1_costByRows (ws_ yX1_costByRows cX1_costByRows 12 (some .int))) := gd_app (List.forall_mem_cons.mpr ⟨wd_22_10, List.forall_mem_cons.mpr ⟨wd_22_11, List.forall_mem_cons.mpr ⟨wd_22_12, List.forall_mem_cons.mpr ⟨wd_2_22, fun _ h => nomatch h⟩⟩⟩⟩) (gd_ wd_22_13)
theorem cwV_X1_costByRows : yX1_costByRows.cls = RX1 ∧ yX1_costByRows.cls ≠ "java/lang/invoke/MethodHandle" ∧ yX1_costByRows.cls ≠ "java/lang/invoke/VarHandle" ∧ (parseMethodDescriptor yX1_costByRows.desc).map (fun d => d.parameters.length) = some 2 := by decide +kernel
set_option maxHeartbeats 4000000 in
set_option maxRecDepth 100000 in
theorem m_X1_costByRows (l : Launch) (g : GT) (e0 wt wa r1 r2 ri : Nat) (w : Nat → Int) (hw : WB w) (g1 g2 g3 : Nat → Int) (a c : Nat) (t : List Int) (f : Nat → Int) (hf : TT t f) (b d : Nat) (u : List Int) (f2 : Nat → Int) (hf2 : TT u f2) (hne : ∀ x ∈ ([e0, wt, wa] : List Nat), x ∉ ([r1, r2, ri] : List Nat)) (hnx : ∀ x ∈ ([a, c] : List Nat), x ∉ ([r1, r2, ri] : List Nat)) (hny : ∀ x ∈ ([b, d] : List Nat), x ∉ ([r1, r2, ri] : List Nat)) : Met l yX1_costByRows (ws_ yX1_costByRows cX1_costByRows 12 (some .int)) (rmm 2 0 0) (jPc g [.ref e0, .ref a, .ref b] (fun H => PP g [aI g r1 61 g1, aI g r2 61 g2, aI g ri 60 g3] H ∧ va_D (fun q => gb g ≤ q) [aI g r1 61 g1, aI g r2 61 g2, aI g ri 60 g3] ∧ PP g [ob e0 1 [.ref wt, .ref r1, .ref r2, .ref ri], ob wt 8 [.ref wa], aI g wa 4 w] H ∧ PP g [ob a 6 [.ref c, vi (t.length : Int)], aI g c 60 f] H ∧ PP g [ob b 6 [.ref d, vi (u.length : Int)], aI g d 60 f2] H)) (jQi (fun z H1 => z = D w t u t.length u.length ∧ ∃ g1 g2 g3 : Nat → Int, PP g [aI g r1 61 g1, aI g r2 61 g2, aI g ri 60 g3] H1) (jA [aI g r1 61 g1, aI g r2 61 g2, aI g ri 60 g3])) 0 0 (jA [aI g r1 61 g1, aI g r2 61 g2, aI g ri 60 g3]) := by
  refine jb_M (by decide) (Nat.le_of_ble_eq_true rfl) ?_
  intro p e s m below meth cq hx hb hr hml hown htl hlk hnm hKK hpre ls hl
  have hown : s.vm.findClass RX1 = some m.cls := hown
  have hl : lv_has ls 12 [(0, .ref e0), (1, .ref a), (2, .ref b)] := hl
  obtain ⟨hP, hD0, hPe, hPx, hPy⟩ := hpre
  have hL := hf.len
  have hL2 := hf2.len
  have ap_hPe : ∀ (k : Nat) (q : Nat × va_E), ([ob e0 1 [.ref wt, .ref r1, .ref r2, .ref ri], ob wt 8 [.ref wa], aI g wa 4 w] : va_W)[k]? = some q → ¬ (jA [aI g r1 61 g1, aI g r2 61 g2, aI g ri 60 g3]) q.1 := jap (hne)
  have ap_hPx : ∀ (k : Nat) (q : Nat × va_E), ([ob a 6 [.ref c, vi (t.length : Int)], aI g c 60 f] : va_W)[k]? = some q → ¬ (jA [aI g r1 61 g1, aI g r2 61 g2, aI g ri 60 g3]) q.1 := jap (hnx)
  have ap_hPy : ∀ (k : Nat) (q : Nat × va_E), ([ob b 6 [.ref d, vi (u.length : Int)], aI g d 60 f2] : va_W)[k]? = some q → ¬ (jA [aI g r1 61 g1, aI g r2 61 g2, aI g ri 60 g3]) q.1 := jap (hny)
  have hD : va_D (jA [aI g r1 61 g1, aI g r2 61 g2, aI g ri 60 g3]) [aI g r1 61 g1, aI g r2 61 g2, aI g ri 60 g3] := hD0.inD
  have hAb : ∀ q, (jA [aI g r1 61 g1, aI g r2 61 g2, aI g ri 60 g3]) q → gb g ≤ q := fun q h => hD0.inA h
  generalize hAe : jA [aI g r1 61 g1, aI g r2 61 g2, aI g ri 60 g3] = A at *
  have hS : va_S A s.heap s.heap [] := va_S.rf
  suffices K : ∀ (H : Heap) (locs : List Loc), PP g [aI g r1 61 g1, aI g r2 61 g2, aI g ri 60 g3] H → va_D A [aI g r1 61 g1, aI g r2 61 g2, aI g ri 60 g3] → va_S A s.heap H locs → ∀ ls : Array Slot, lv_has ls 12 [(0, .ref e0), (1, .ref a), (2, .ref b)] → W p l e (rmm 2 0 0) s m ([.ref e0, .ref a, .ref b] : List Value).toArray below meth cq H locs 0 0 (MQ below (jQi (fun z H1 => z = D w t u t.length u.length ∧ ∃ g1 g2 g3 : Nat → Int, PP g [aI g r1 61 g1, aI g r2 61 g2, aI g ri 60 g3] H1) A) ([.ref e0, .ref a, .ref b] : List Value).toArray s 0 0 A) (F0 m 0 ls []) from K _ _ hP hD hS _ hl
  clear hl; intro H locs hP hD hS ls hl
  refine lv_aload_n hx hb dX1_costByRows_0 rfl (lv_at hl 0 rfl) ?_
  refine va_get (D := gD g) (ci := 1) (v := .ref r1) (C := RX1) (T := TX1) (N := 4) hx hb htl ck_X1 hown hKK.k (jat hPe hS ap_hPe) 0 rfl rfl 1 (by decide) (htl _ wd_3_15) (fun _ h9 => h9) rfl dX1_costByRows_1 ?_
  refine lv_astore_n (lv' := [(3, .ref r1), (0, .ref e0), (1, .ref a), (2, .ref b)]) hx hb dX1_costByRows_4 rfl hl (by decide) rfl (fun ls hl => ?_)
  refine lv_aload_n hx hb dX1_costByRows_5 rfl (lv_at hl 1 rfl) ?_
  refine va_get (D := gD g) (ci := 1) (v := .ref r2) (C := RX1) (T := TX1) (N := 4) hx hb htl ck_X1 hown hKK.k (jat hPe hS ap_hPe) 0 rfl rfl 2 (by decide) (htl _ wd_3_16) (fun _ h9 => h9) rfl dX1_costByRows_6 ?_
  refine lv_astore (lv' := [(4, .ref r2), (3, .ref r1), (0, .ref e0), (1, .ref a), (2, .ref b)]) hx hb dX1_costByRows_9 hl (by decide) rfl (fun ls hl => ?_)
  refine lv_aload_n hx hb dX1_costByRows_11 rfl (lv_at hl 4 rfl) ?_
  refine jk_Si (va_runV (As := []) (rest := []) ⟨hx, hb, hml, hown, htl⟩ (m_X6_size l g b d u f2 hf2  ) (cwV 0 htl lk_X1_28 rfl rfl rfl cwV_X6_size ⟨Nat.le_of_ble_eq_true rfl, Nat.le_of_ble_eq_true rfl⟩) (jp_V hKK hS hAb (va_recv hKK.k (jat hPy hS ap_hPy) (ci := 6) (q0 := 0) rfl rfl) (jat hPy hS ap_hPy)) rfl rfl hl.1 rfl (lv_room (Nat.le_of_ble_eq_true rfl)) dX1_costByRows_12 ⟨Nat.le_of_ble_eq_true rfl, Nat.le_of_ble_eq_true rfl⟩) (fun z12 hz12 => ?_)
  subst hz12
  refine jr_bipush hx hb dX1_costByRows_15 (by decide) ?_
  refine jr_mmin hx hb (by rw [hml]; exact hl.1.symm) hown (htl _ wd_22_14) (htl _ wd_16_11) (htl _ wd_15_9) (htl _ wd_16_12) (Nat.le_of_ble_eq_true rfl) (Nat.le_of_ble_eq_true rfl) (Nat.le_of_ble_eq_true rfl) (Nat.le_of_ble_eq_true rfl) ⟨by omega, by omega⟩ ⟨by omega, by omega⟩ dX1_costByRows_17 ?_
  refine jr_nm (b := (u.length : Int)) (by omega) ?_
  refine lv_istore (lv' := [(5, vi (u.length : Int)), (4, .ref r2), (3, .ref r1), (0, .ref e0), (1, .ref a), (2, .ref b)]) hx hb dX1_costByRows_20 hl (by decide) rfl (fun ls hl => ?_)
  refine lv_aload_n hx hb dX1_costByRows_22 rfl (lv_at hl 2 rfl) ?_
  refine jr_iconst hx hb dX1_costByRows_23 ?_
  refine jr_iconst hx hb dX1_costByRows_24 ?_
  refine jr_iast hx hb hKK.k hP hD hS 0 rfl 0 rfl (by omega) (by omega) dX1_costByRows_25 (fun H locs hP hD hS => ?_)
  have hP : PP g [aI g r1 61 (ju g1 0 0), aI g r2 61 g2, aI g ri 60 g3] H := hP
  have hD : va_D A [aI g r1 61 (ju g1 0 0), aI g r2 61 g2, aI g ri 60 g3] := hD
  refine jr_iconst hx hb dX1_costByRows_26 ?_
  refine lv_istore (lv' := [(6, vi 1), (5, vi (u.length : Int)), (4, .ref r2), (3, .ref r1), (0, .ref e0), (1, .ref a), (2, .ref b)]) hx hb dX1_costByRows_27 hl (by decide) rfl (fun ls hl => ?_)
  have lp29 : ∀ (N : Nat) (j : Nat) (h1 h3 : Nat → Int), (1 ≤ j) → (j ≤ u.length + 1) → (RW w t u h1 0 j) → (IN w u h3 (j - 1)) → u.length + 1 - j < N → ∀ (H : Heap) (locs : List Loc), PP g [aI g r1 61 h1, aI g r2 61 g2, aI g ri 60 h3] H → va_D A [aI g r1 61 h1, aI g r2 61 g2, aI g ri 60 h3] → va_S A s.heap H locs → ∀ ls : Array Slot, lv_has ls 12 [(6, vi (j : Int)), (5, vi (u.length : Int)), (4, .ref r2), (3, .ref r1), (0, .ref e0), (1, .ref a), (2, .ref b)] → W p l e (rmm 2 0 0) s m ([.ref e0, .ref a, .ref b] : List Value).toArray below meth cq H locs 0 0 (MQ below (jQi (fun z H1 => z = D w t u t.length u.length ∧ ∃ g1 g2 g3 : Nat → Int, PP g [aI g r1 61 g1, aI g r2 61 g2, aI g ri 60 g3] H1) A) ([.ref e0, .ref a, .ref b] : List Value).toArray s 0 0 A) (F0 m 29 ls []) := by
    intro N
    induction N with
    | zero => intro j h1 h3 hj1 hj2 hR hI hM; exact absurd hM (Nat.not_lt_zero _)
    | succ N ih29 =>
      intro j h1 h3 hj1 hj2 hR hI hM H locs hP hD hS ls hl
      refine lv_iload hx hb dX1_costByRows_29 (lv_at hl 0 rfl) ?_
      refine lv_iload hx hb dX1_costByRows_31 (lv_at hl 1 rfl) ?_
      refine jr_gt (tgt := 86) hx hb dX1_costByRows_33 (by decide) ⟨by omega, by omega⟩ ⟨by omega, by omega⟩ (fun c33 => ?_) (fun c33 => ?_)
      · refine jr_iconst hx hb dX1_costByRows_86 ?_
        refine lv_istore (lv' := [(6, vi 0), (5, vi (u.length : Int)), (4, .ref r2), (3, .ref r1), (0, .ref e0), (1, .ref a), (2, .ref b)]) hx hb dX1_costByRows_87 hl (by decide) rfl (fun ls hl => ?_)
        have lp89 : ∀ (N : Nat) (i pa qa : Nat) (h1 h2 h3 : Nat → Int), (i ≤ t.length) → ((pa = r1 ∧ qa = r2) ∨ (pa = r2 ∧ qa = r1)) → (RW w t u h1 i (u.length + 1)) → (IN w u h3 u.length) → t.length - i < N → ∀ (H : Heap) (locs : List Loc), PP g [aI g pa 61 h1, aI g qa 61 h2, aI g ri 60 h3] H → va_D A [aI g pa 61 h1, aI g qa 61 h2, aI g ri 60 h3] → va_S A s.heap H locs → ∀ ls : Array Slot, lv_has ls 12 [(6, vi (i : Int)), (5, vi (u.length : Int)), (4, .ref qa), (3, .ref pa), (0, .ref e0), (1, .ref a), (2, .ref b)] → W p l e (rmm 2 0 0) s m ([.ref e0, .ref a, .ref b] : List Value).toArray below meth cq H locs 0 0 (MQ below (jQi (fun z H1 => z = D w t u t.length u.length ∧ ∃ g1 g2 g3 : Nat → Int, PP g [aI g r1 61 g1, aI g r2 61 g2, aI g ri 60 g3] H1) A) ([.ref e0, .ref a, .ref b] : List Value).toArray s 0 0 A) (F0 m 89 ls []) := by
          intro N
          induction N with
          | zero => intro i pa qa h1 h2 h3 hi hpq hR hI hM; exact absurd hM (Nat.not_lt_zero _)
          | succ N ih89 =>
            intro i pa qa h1 h2 h3 hi hpq hR hI hM H locs hP hD hS ls hl
            refine lv_iload hx hb dX1_costByRows_89 (lv_at hl 0 rfl) ?_
            refine lv_aload_n hx hb dX1_costByRows_91 rfl (lv_at hl 5 rfl) ?_
            refine jk_Si (va_runV (As := []) (rest := [vi (i : Int)]) ⟨hx, hb, hml, hown, htl⟩ (m_X6_size l g a c t f hf  ) (cwV 0 htl lk_X1_28 rfl rfl rfl cwV_X6_size ⟨Nat.le_of_ble_eq_true rfl, Nat.le_of_ble_eq_true rfl⟩) (jp_V hKK hS hAb (va_recv hKK.k (jat hPx hS ap_hPx) (ci := 6) (q0 := 0) rfl rfl) (jat hPx hS ap_hPx)) rfl rfl hl.1 rfl (lv_room (Nat.le_of_ble_eq_true rfl)) dX1_costByRows_92 ⟨Nat.le_of_ble_eq_true rfl, Nat.le_of_ble_eq_true rfl⟩) (fun z92 hz92 => ?_)
            subst hz92
            refine jr_ge (tgt := 226) hx hb dX1_costByRows_95 (by decide) ⟨by omega, by omega⟩ ⟨by omega, by omega⟩ (fun c95 => ?_) (fun c95 => ?_)
            · refine lv_aload_n hx hb dX1_costByRows_226 rfl (lv_at hl 3 rfl) ?_
              refine lv_iload hx hb dX1_costByRows_227 (lv_at hl 1 rfl) ?_
              refine jr_iald hx hb hKK.k hP 0 rfl u.length rfl (by omega) (by omega) dX1_costByRows_229 ?_
              refine jr_nm (b := (D w t u t.length u.length)) (by obtain rfl : i = t.length := (by omega); exact hR u.length (by omega)) ?_
              exact je_Qi hx hb hr hlk rfl hS (⟨rfl, by rcases hpq with ⟨z1, z2⟩ | ⟨z1, z2⟩ <;> rw [z1, z2] at hP <;> first | exact ⟨_, _, _, hP⟩ | exact ⟨_, _, _, va_P.sub hP [1, 0, 2] rfl⟩⟩) dX1_costByRows_230
            · refine lv_aload_n hx hb dX1_costByRows_98 rfl (lv_at hl 5 rfl) ?_
              refine lv_iload hx hb dX1_costByRows_99 (lv_at hl 0 rfl) ?_
              refine jk_Si (va_runV (As := [vi (i : Int)]) (rest := []) ⟨hx, hb, hml, hown, htl⟩ (m_X6_at l g a c t f hf (i : Int) ⟨by omega, by omega⟩) (cwV 1 htl lk_X1_40 rfl rfl rfl cwV_X6_at ⟨Nat.le_of_ble_eq_true rfl, Nat.le_of_ble_eq_true rfl⟩) (jp_V hKK hS hAb (va_recv hKK.k (jat hPx hS ap_hPx) (ci := 6) (q0 := 0) rfl rfl) (jat hPx hS ap_hPx)) rfl rfl hl.1 rfl (lv_room (Nat.le_of_ble_eq_true rfl)) dX1_costByRows_101 ⟨Nat.le_of_ble_eq_true rfl, Nat.le_of_ble_eq_true rfl⟩) (fun z101 hz101 => ?_)
              subst hz101
              have ta := TT.tAt_b hf (i : Int)
              rw [tAt_in (t := t) (j := i) (by omega)] at ta ⊢
              have tax := ta
              refine lv_istore (lv' := [(7, vi (t.getD i 0)), (6, vi (i : Int)), (5, vi (u.length : Int)), (4, .ref qa), (3, .ref pa), (0, .ref e0), (1, .ref a), (2, .ref b)]) hx hb dX1_costByRows_104 hl (by decide) rfl (fun ls hl => ?_)
              refine lv_aload_n hx hb dX1_costByRows_106 rfl (lv_at hl 5 rfl) ?_
              refine va_get (D := gD g) (ci := 1) (v := .ref wt) (C := RX1) (T := TX1) (N := 4) hx hb htl ck_X1 hown hKK.k (jat hPe hS ap_hPe) 0 rfl rfl 0 (by decide) (htl _ wd_3_14) (fun _ h9 => h9) rfl dX1_costByRows_107 ?_
              refine lv_iload hx hb dX1_costByRows_110 (lv_at hl 0 rfl) ?_
              refine jk_Si (va_runV (As := [vi (t.getD i 0)]) (rest := []) ⟨hx, hb, hml, hown, htl⟩ (m_X9_ofToken l g wt wa w (t.getD i 0) ⟨by omega, by omega⟩) (cwV 1 htl lk_X1_44 rfl rfl rfl cwV_X9_ofToken ⟨Nat.le_of_ble_eq_true rfl, Nat.le_of_ble_eq_true rfl⟩) (jp_V hKK hS hAb (va_recv hKK.k (jat hPe hS ap_hPe) (ci := 8) (q0 := 1) rfl rfl) (va_P.sub (jat hPe hS ap_hPe) [1, 2] rfl)) rfl rfl hl.1 rfl (lv_room (Nat.le_of_ble_eq_true rfl)) dX1_costByRows_112 ⟨Nat.le_of_ble_eq_true rfl, Nat.le_of_ble_eq_true rfl⟩) (fun z112 hz112 => ?_)
              subst hz112
              have tw := wk_b hw (kd (t.getD i 0))
              have twx := tw
              refine lv_istore (lv' := [(8, vi (wk w (kd (t.getD i 0)))), (7, vi (t.getD i 0)), (6, vi (i : Int)), (5, vi (u.length : Int)), (4, .ref qa), (3, .ref pa), (0, .ref e0), (1, .ref a), (2, .ref b)]) hx hb dX1_costByRows_115 hl (by decide) rfl (fun ls hl => ?_)
              refine lv_aload hx hb dX1_costByRows_117 (lv_at hl 4 rfl) ?_
              refine jr_iconst hx hb dX1_costByRows_119 ?_
              refine lv_aload_n hx hb dX1_costByRows_120 rfl (lv_at hl 5 rfl) ?_
              refine jr_iconst hx hb dX1_costByRows_121 ?_
              refine jr_iald hx hb hKK.k hP 0 rfl 0 rfl (by omega) (by omega) dX1_costByRows_122 ?_
              refine jr_nm (b := (D w t u i 0)) (hR 0 (by omega)) ?_
              refine lv_iload hx hb dX1_costByRows_123 (lv_at hl 0 rfl) ?_
              refine jr_iadd hx hb dX1_costByRows_125 ?_
              refine jr_iast hx hb hKK.k hP hD hS 1 rfl 0 rfl (by omega) (by omega) dX1_costByRows_126 (fun H locs hP hD hS => ?_)
              have hP : PP g [aI g pa 61 h1, aI g qa 61 (ju h2 0 ((D w t u i 0) + (wk w (kd (t.getD i 0))))), aI g ri 60 h3] H := hP
              have hD : va_D A [aI g pa 61 h1, aI g qa 61 (ju h2 0 ((D w t u i 0) + (wk w (kd (t.getD i 0))))), aI g ri 60 h3] := hD
              refine jr_iconst hx hb dX1_costByRows_127 ?_
              refine lv_istore (lv' := [(9, vi 1), (8, vi (wk w (kd (t.getD i 0)))), (7, vi (t.getD i 0)), (6, vi (i : Int)), (5, vi (u.length : Int)), (4, .ref qa), (3, .ref pa), (0, .ref e0), (1, .ref a), (2, .ref b)]) hx hb dX1_costByRows_128 hl (by decide) rfl (fun ls hl => ?_)
              have lp130 : ∀ (N : Nat) (j : Nat) (h4 : Nat → Int), (1 ≤ j) → (j ≤ u.length + 1) → (RW w t u h4 (i + 1) j) → u.length + 1 - j < N → ∀ (H : Heap) (locs : List Loc), PP g [aI g pa 61 h1, aI g qa 61 h4, aI g ri 60 h3] H → va_D A [aI g pa 61 h1, aI g qa 61 h4, aI g ri 60 h3] → va_S A s.heap H locs → ∀ ls : Array Slot, lv_has ls 12 [(9, vi (j : Int)), (8, vi (wk w (kd (t.getD i 0)))), (7, vi (t.getD i 0)), (6, vi (i : Int)), (5, vi (u.length : Int)), (4, .ref qa), (3, .ref pa), (0, .ref e0), (1, .ref a), (2, .ref b)] → W p l e (rmm 2 0 0) s m ([.ref e0, .ref a, .ref b] : List Value).toArray below meth cq H locs 0 0 (MQ below (jQi (fun z H1 => z = D w t u t.length u.length ∧ ∃ g1 g2 g3 : Nat → Int, PP g [aI g r1 61 g1, aI g r2 61 g2, aI g ri 60 g3] H1) A) ([.ref e0, .ref a, .ref b] : List Value).toArray s 0 0 A) (F0 m 130 ls []) := by
                intro N
                induction N with
                | zero => intro j h4 hj1 hj2 hR2 hM; exact absurd hM (Nat.not_lt_zero _)
                | succ N ih130 =>
                  intro j h4 hj1 hj2 hR2 hM H locs hP hD hS ls hl
                  refine lv_iload hx hb dX1_costByRows_130 (lv_at hl 0 rfl) ?_
                  refine lv_iload hx hb dX1_costByRows_132 (lv_at hl 4 rfl) ?_
                  refine jr_gt (tgt := 210) hx hb dX1_costByRows_134 (by decide) ⟨by omega, by omega⟩ ⟨by omega, by omega⟩ (fun c134 => ?_) (fun c134 => ?_)
                  · refine lv_aload_n hx hb dX1_costByRows_210 rfl (lv_at hl 6 rfl) ?_
                    refine lv_astore (lv' := [(9, .ref pa), (8, vi (wk w (kd (t.getD i 0)))), (7, vi (t.getD i 0)), (6, vi (i : Int)), (5, vi (u.length : Int)), (4, .ref qa), (3, .ref pa), (0, .ref e0), (1, .ref a), (2, .ref b)]) hx hb dX1_costByRows_211 hl (by decide) rfl (fun ls hl => ?_)
                    refine lv_aload hx hb dX1_costByRows_213 (lv_at hl 5 rfl) ?_
                    refine lv_astore_n (lv' := [(3, .ref qa), (9, .ref pa), (8, vi (wk w (kd (t.getD i 0)))), (7, vi (t.getD i 0)), (6, vi (i : Int)), (5, vi (u.length : Int)), (4, .ref qa), (0, .ref e0), (1, .ref a), (2, .ref b)]) hx hb dX1_costByRows_215 rfl hl (by decide) rfl (fun ls hl => ?_)
                    refine lv_aload hx hb dX1_costByRows_216 (lv_at hl 1 rfl) ?_
                    refine lv_astore (lv' := [(4, .ref pa), (3, .ref qa), (9, .ref pa), (8, vi (wk w (kd (t.getD i 0)))), (7, vi (t.getD i 0)), (6, vi (i : Int)), (5, vi (u.length : Int)), (0, .ref e0), (1, .ref a), (2, .ref b)]) hx hb dX1_costByRows_218 hl (by decide) rfl (fun ls hl => ?_)
                    have hP : PP g [aI g qa 61 h4, aI g pa 61 h1, aI g ri 60 h3] H := va_P.sub hP [1, 0, 2] rfl
                    have hD : va_D A [aI g qa 61 h4, aI g pa 61 h1, aI g ri 60 h3] := hD.sub [1, 0, 2] (by decide) rfl
                    refine jr_iinc (lv' := [(6, vi ((i : Int) + 1)), (4, .ref pa), (3, .ref qa), (9, .ref pa), (8, vi (wk w (kd (t.getD i 0)))), (7, vi (t.getD i 0)), (5, vi (u.length : Int)), (0, .ref e0), (1, .ref a), (2, .ref b)]) hx hb dX1_costByRows_220 hl (k := 5) rfl rfl (by decide) rfl (fun ls hl => ?_)
                    refine lv_goto (tgt := 89) hx hb dX1_costByRows_223 (by decide) ?_
                    exact ih89 (i + 1) qa pa _ _ _ (by omega) (hpq.elim (fun z => Or.inr ⟨z.2, z.1⟩) (fun z => Or.inl ⟨z.2, z.1⟩)) (by rw [show u.length + 1 = j by omega]; exact hR2) (hI) (by omega) _ _ hP hD hS ls (lv_sub hl [0, 6, 1, 2, 7, 8, 9] rfl)
                  · refine lv_aload_n hx hb dX1_costByRows_137 rfl (lv_at hl 7 rfl) ?_
                    refine va_get (D := gD g) (ci := 1) (v := .ref wt) (C := RX1) (T := TX1) (N := 4) hx hb htl ck_X1 hown hKK.k (jat hPe hS ap_hPe) 0 rfl rfl 0 (by decide) (htl _ wd_3_14) (fun _ h9 => h9) rfl dX1_costByRows_138 ?_
                    refine lv_iload hx hb dX1_costByRows_141 (lv_at hl 2 rfl) ?_
                    refine lv_aload_n hx hb dX1_costByRows_143 rfl (lv_at hl 9 rfl) ?_
                    refine lv_iload hx hb dX1_costByRows_144 (lv_at hl 0 rfl) ?_
                    refine jr_iconst hx hb dX1_costByRows_146 ?_
                    refine jr_isub hx hb dX1_costByRows_147 ?_
                    refine jk_Si (va_runV (As := [vi ((j : Int) - 1)]) (rest := [vi (t.getD i 0), .ref wt]) ⟨hx, hb, hml, hown, htl⟩ (m_X6_at l g b d u f2 hf2 ((j : Int) - 1) ⟨by omega, by omega⟩) (cwV 1 htl lk_X1_40 rfl rfl rfl cwV_X6_at ⟨Nat.le_of_ble_eq_true rfl, Nat.le_of_ble_eq_true rfl⟩) (jp_V hKK hS hAb (va_recv hKK.k (jat hPy hS ap_hPy) (ci := 6) (q0 := 0) rfl rfl) (jat hPy hS ap_hPy)) rfl rfl hl.1 rfl (lv_room (Nat.le_of_ble_eq_true rfl)) dX1_costByRows_148 ⟨Nat.le_of_ble_eq_true rfl, Nat.le_of_ble_eq_true rfl⟩) (fun z148 hz148 => ?_)
                    subst hz148
                    have ta := TT.tAt_b hf2 ((j : Int) - 1)
                    rw [tAt_p (t := u) (j := j) (by omega) (by omega)] at ta ⊢
                    refine jk_Si (va_runV (As := [vi (t.getD i 0), vi (u.getD (j - 1) 0)]) (rest := []) ⟨hx, hb, hml, hown, htl⟩ (m_X9_ofReplacing l g wt wa w hw (t.getD i 0) (u.getD (j - 1) 0) ⟨by omega, by omega⟩ ⟨by omega, by omega⟩) (cwV 2 htl lk_X1_47 rfl rfl rfl cwV_X9_ofReplacing ⟨Nat.le_of_ble_eq_true rfl, Nat.le_of_ble_eq_true rfl⟩) (jp_V hKK hS hAb (va_recv hKK.k (jat hPe hS ap_hPe) (ci := 8) (q0 := 1) rfl rfl) (va_P.sub (jat hPe hS ap_hPe) [1, 2] rfl)) rfl rfl hl.1 rfl (lv_room (Nat.le_of_ble_eq_true rfl)) dX1_costByRows_151 ⟨Nat.le_of_ble_eq_true rfl, Nat.le_of_ble_eq_true rfl⟩) (fun z151 hz151 => ?_)
                    subst hz151
                    have tr := rp_b hw (t.getD i 0) (u.getD (j - 1) 0)
                    refine lv_istore (lv' := [(10, vi (rp w (t.getD i 0) (u.getD (j - 1) 0))), (9, vi (j : Int)), (8, vi (wk w (kd (t.getD i 0)))), (7, vi (t.getD i 0)), (6, vi (i : Int)), (5, vi (u.length : Int)), (4, .ref qa), (3, .ref pa), (0, .ref e0), (1, .ref a), (2, .ref b)]) hx hb dX1_costByRows_154 hl (by decide) rfl (fun ls hl => ?_)
                    refine lv_aload_n hx hb dX1_costByRows_156 rfl (lv_at hl 7 rfl) ?_
                    refine lv_iload hx hb dX1_costByRows_157 (lv_at hl 1 rfl) ?_
                    refine jr_iald hx hb hKK.k hP 0 rfl j rfl (by omega) (by omega) dX1_costByRows_159 ?_
                    refine jr_nm (b := (D w t u i j)) (hR j (by omega)) ?_
                    refine lv_iload hx hb dX1_costByRows_160 (lv_at hl 2 rfl) ?_
                    refine jr_iadd hx hb dX1_costByRows_162 ?_
                    refine lv_aload hx hb dX1_costByRows_163 (lv_at hl 6 rfl) ?_
                    refine lv_iload hx hb dX1_costByRows_165 (lv_at hl 1 rfl) ?_
                    refine jr_iconst hx hb dX1_costByRows_167 ?_
                    refine jr_isub hx hb dX1_costByRows_168 ?_
                    refine jr_iald hx hb hKK.k hP 1 rfl (j - 1) (by omega) (by omega) (by omega) dX1_costByRows_169 ?_
                    refine jr_nm (b := (D w t u (i + 1) (j - 1))) (hR2 (j - 1) (by omega)) ?_
                    refine lv_aload_n hx hb dX1_costByRows_170 rfl (lv_at hl 8 rfl) ?_
                    refine va_get (D := gD g) (ci := 1) (v := .ref ri) (C := RX1) (T := TX1) (N := 4) hx hb htl ck_X1 hown hKK.k (jat hPe hS ap_hPe) 0 rfl rfl 3 (by decide) (htl _ wd_3_17) (fun _ h9 => h9) rfl dX1_costByRows_171 ?_
                    refine lv_iload hx hb dX1_costByRows_174 (lv_at hl 1 rfl) ?_
                    refine jr_iconst hx hb dX1_costByRows_176 ?_
                    refine jr_isub hx hb dX1_costByRows_177 ?_
                    refine jr_iald hx hb hKK.k hP 2 rfl (j - 1) (by omega) (by omega) (by omega) dX1_costByRows_178 ?_
                    refine jr_nm (b := (wk w (kd (u.getD (j - 1) 0)))) (hI (j - 1) (by omega)) ?_
                    have b1 := D_b hw t u i j
                    have b2 := D_b hw t u (i + 1) (j - 1)
                    have b3 := D_b hw t u i (j - 1)
                    have b4 := wk_b hw (kd (u.getD (j - 1) 0))
                    refine jr_iadd hx hb dX1_costByRows_179 ?_
                    refine jr_mmin hx hb (by rw [hml]; exact hl.1.symm) hown (htl _ wd_22_14) (htl _ wd_16_11) (htl _ wd_15_9) (htl _ wd_16_12) (Nat.le_of_ble_eq_true rfl) (Nat.le_of_ble_eq_true rfl) (Nat.le_of_ble_eq_true rfl) (Nat.le_of_ble_eq_true rfl) ⟨by omega, by omega⟩ ⟨by omega, by omega⟩ dX1_costByRows_180 ?_
                    refine lv_istore (lv' := [(11, vi (min ((D w t u i j) + (wk w (kd (t.getD i 0)))) ((D w t u (i + 1) (j - 1)) + (wk w (kd (u.getD (j - 1) 0)))))), (10, vi (rp w (t.getD i 0) (u.getD (j - 1) 0))), (9, vi (j : Int)), (8, vi (wk w (kd (t.getD i 0)))), (7, vi (t.getD i 0)), (6, vi (i : Int)), (5, vi (u.length : Int)), (4, .ref qa), (3, .ref pa), (0, .ref e0), (1, .ref a), (2, .ref b)]) hx hb dX1_costByRows_183 hl (by decide) rfl (fun ls hl => ?_)
                    refine lv_aload hx hb dX1_costByRows_185 (lv_at hl 7 rfl) ?_
                    refine lv_iload hx hb dX1_costByRows_187 (lv_at hl 2 rfl) ?_
                    refine lv_iload hx hb dX1_costByRows_189 (lv_at hl 0 rfl) ?_
                    refine lv_aload_n hx hb dX1_costByRows_191 rfl (lv_at hl 8 rfl) ?_
                    refine lv_iload hx hb dX1_costByRows_192 (lv_at hl 2 rfl) ?_
                    refine jr_iconst hx hb dX1_costByRows_194 ?_
                    refine jr_isub hx hb dX1_costByRows_195 ?_
                    refine jr_iald hx hb hKK.k hP 0 rfl (j - 1) (by omega) (by omega) (by omega) dX1_costByRows_196 ?_
                    refine jr_nm (b := (D w t u i (j - 1))) (hR (j - 1) (by omega)) ?_
                    refine lv_iload hx hb dX1_costByRows_197 (lv_at hl 1 rfl) ?_
                    refine jr_iadd hx hb dX1_costByRows_199 ?_
                    refine jr_mmin hx hb (by rw [hml]; exact hl.1.symm) hown (htl _ wd_22_14) (htl _ wd_16_11) (htl _ wd_15_9) (htl _ wd_16_12) (Nat.le_of_ble_eq_true rfl) (Nat.le_of_ble_eq_true rfl) (Nat.le_of_ble_eq_true rfl) (Nat.le_of_ble_eq_true rfl) ⟨by omega, by omega⟩ ⟨by omega, by omega⟩ dX1_costByRows_200 ?_
                    refine jr_iast hx hb hKK.k hP hD hS 1 rfl j rfl (by omega) (by omega) dX1_costByRows_203 (fun H locs hP hD hS => ?_)
                    have hP : PP g [aI g pa 61 h1, aI g qa 61 (ju h4 j (min (min ((D w t u i j) + (wk w (kd (t.getD i 0)))) ((D w t u (i + 1) (j - 1)) + (wk w (kd (u.getD (j - 1) 0))))) ((D w t u i (j - 1)) + (rp w (t.getD i 0) (u.getD (j - 1) 0))))), aI g ri 60 h3] H := hP
                    have hD : va_D A [aI g pa 61 h1, aI g qa 61 (ju h4 j (min (min ((D w t u i j) + (wk w (kd (t.getD i 0)))) ((D w t u (i + 1) (j - 1)) + (wk w (kd (u.getD (j - 1) 0))))) ((D w t u i (j - 1)) + (rp w (t.getD i 0) (u.getD (j - 1) 0))))), aI g ri 60 h3] := hD
                    refine jr_iinc (lv' := [(9, vi ((j : Int) + 1)), (11, vi (min ((D w t u i j) + (wk w (kd (t.getD i 0)))) ((D w t u (i + 1) (j - 1)) + (wk w (kd (u.getD (j - 1) 0)))))), (10, vi (rp w (t.getD i 0) (u.getD (j - 1) 0))), (8, vi (wk w (kd (t.getD i 0)))), (7, vi (t.getD i 0)), (6, vi (i : Int)), (5, vi (u.length : Int)), (4, .ref qa), (3, .ref pa), (0, .ref e0), (1, .ref a), (2, .ref b)]) hx hb dX1_costByRows_204 hl (k := 2) rfl rfl (by decide) rfl (fun ls hl => ?_)
                    refine lv_goto (tgt := 130) hx hb dX1_costByRows_207 (by decide) ?_
                    exact ih130 (j + 1) _ (by omega) (by omega) (RW.s hj1 hR2) (by omega) _ _ hP hD hS ls (lv_sub hl [0, 3, 4, 5, 6, 7, 8, 9, 10, 11] rfl)
              exact lp130 _ 1 _ (Nat.le_refl _) (by omega) (RW.f) (Nat.lt_succ_self _) _ _ hP hD hS ls (lv_sub hl [0, 1, 2, 3, 4, 5, 6, 7, 8, 9] rfl)
        exact lp89 _ 0 r1 r2 h1 g2 h3 (Nat.zero_le _) (Or.inl ⟨rfl, rfl⟩) (by rw [show u.length + 1 = j by omega]; exact hR) (by rw [show u.length = j - 1 by omega]; exact hI) (Nat.lt_succ_self _) _ _ hP hD hS ls (lv_sub hl [0, 1, 2, 3, 4, 5, 6] rfl)
      · refine lv_aload_n hx hb dX1_costByRows_36 rfl (lv_at hl 4 rfl) ?_
        refine va_get (D := gD g) (ci := 1) (v := .ref ri) (C := RX1) (T := TX1) (N := 4) hx hb htl ck_X1 hown hKK.k (jat hPe hS ap_hPe) 0 rfl rfl 3 (by decide) (htl _ wd_3_17) (fun _ h9 => h9) rfl dX1_costByRows_37 ?_
        refine lv_iload hx hb dX1_costByRows_40 (lv_at hl 0 rfl) ?_
        refine jr_iconst hx hb dX1_costByRows_42 ?_
        refine jr_isub hx hb dX1_costByRows_43 ?_
        refine lv_aload_n hx hb dX1_costByRows_44 rfl (lv_at hl 4 rfl) ?_
        refine va_get (D := gD g) (ci := 1) (v := .ref wt) (C := RX1) (T := TX1) (N := 4) hx hb htl ck_X1 hown hKK.k (jat hPe hS ap_hPe) 0 rfl rfl 0 (by decide) (htl _ wd_3_14) (fun _ h9 => h9) rfl dX1_costByRows_45 ?_
        refine lv_aload_n hx hb dX1_costByRows_48 rfl (lv_at hl 6 rfl) ?_
        refine lv_iload hx hb dX1_costByRows_49 (lv_at hl 0 rfl) ?_
        refine jr_iconst hx hb dX1_costByRows_51 ?_
        refine jr_isub hx hb dX1_costByRows_52 ?_
        refine jk_Si (va_runV (As := [vi ((j : Int) - 1)]) (rest := [.ref wt, vi ((j : Int) - 1), .ref ri]) ⟨hx, hb, hml, hown, htl⟩ (m_X6_at l g b d u f2 hf2 ((j : Int) - 1) ⟨by omega, by omega⟩) (cwV 1 htl lk_X1_40 rfl rfl rfl cwV_X6_at ⟨Nat.le_of_ble_eq_true rfl, Nat.le_of_ble_eq_true rfl⟩) (jp_V hKK hS hAb (va_recv hKK.k (jat hPy hS ap_hPy) (ci := 6) (q0 := 0) rfl rfl) (jat hPy hS ap_hPy)) rfl rfl hl.1 rfl (lv_room (Nat.le_of_ble_eq_true rfl)) dX1_costByRows_53 ⟨Nat.le_of_ble_eq_true rfl, Nat.le_of_ble_eq_true rfl⟩) (fun z53 hz53 => ?_)
        subst hz53
        have ta := TT.tAt_b hf2 ((j : Int) - 1)
        rw [tAt_p (t := u) (j := j) (by omega) (by omega)] at ta ⊢
        refine jk_Si (va_runV (As := [vi (u.getD (j - 1) 0)]) (rest := [vi ((j : Int) - 1), .ref ri]) ⟨hx, hb, hml, hown, htl⟩ (m_X9_ofToken l g wt wa w (u.getD (j - 1) 0) ⟨by omega, by omega⟩) (cwV 1 htl lk_X1_44 rfl rfl rfl cwV_X9_ofToken ⟨Nat.le_of_ble_eq_true rfl, Nat.le_of_ble_eq_true rfl⟩) (jp_V hKK hS hAb (va_recv hKK.k (jat hPe hS ap_hPe) (ci := 8) (q0 := 1) rfl rfl) (va_P.sub (jat hPe hS ap_hPe) [1, 2] rfl)) rfl rfl hl.1 rfl (lv_room (Nat.le_of_ble_eq_true rfl)) dX1_costByRows_56 ⟨Nat.le_of_ble_eq_true rfl, Nat.le_of_ble_eq_true rfl⟩) (fun z56 hz56 => ?_)
        subst hz56
        have tw := wk_b hw (kd (u.getD (j - 1) 0))
        refine jr_iast hx hb hKK.k hP hD hS 2 rfl (j - 1) (by omega) (by omega) (by omega) dX1_costByRows_59 (fun H locs hP hD hS => ?_)
        have hP : PP g [aI g r1 61 h1, aI g r2 61 g2, aI g ri 60 (ju h3 (j - 1) (wk w (kd (u.getD (j - 1) 0))))] H := hP
        have hD : va_D A [aI g r1 61 h1, aI g r2 61 g2, aI g ri 60 (ju h3 (j - 1) (wk w (kd (u.getD (j - 1) 0))))] := hD
        refine lv_aload_n hx hb dX1_costByRows_60 rfl (lv_at hl 3 rfl) ?_
        refine lv_iload hx hb dX1_costByRows_61 (lv_at hl 0 rfl) ?_
        refine lv_aload_n hx hb dX1_costByRows_63 rfl (lv_at hl 3 rfl) ?_
        refine lv_iload hx hb dX1_costByRows_64 (lv_at hl 0 rfl) ?_
        refine jr_iconst hx hb dX1_costByRows_66 ?_
        refine jr_isub hx hb dX1_costByRows_67 ?_
        refine jr_iald hx hb hKK.k hP 0 rfl (j - 1) (by omega) (by omega) (by omega) dX1_costByRows_68 ?_
        refine jr_nm (b := (D w t u 0 (j - 1))) (hR (j - 1) (by omega)) ?_
        refine lv_aload_n hx hb dX1_costByRows_69 rfl (lv_at hl 4 rfl) ?_
        refine va_get (D := gD g) (ci := 1) (v := .ref ri) (C := RX1) (T := TX1) (N := 4) hx hb htl ck_X1 hown hKK.k (jat hPe hS ap_hPe) 0 rfl rfl 3 (by decide) (htl _ wd_3_17) (fun _ h9 => h9) rfl dX1_costByRows_70 ?_
        refine lv_iload hx hb dX1_costByRows_73 (lv_at hl 0 rfl) ?_
        refine jr_iconst hx hb dX1_costByRows_75 ?_
        refine jr_isub hx hb dX1_costByRows_76 ?_
        refine jr_iald hx hb hKK.k hP 2 rfl (j - 1) (by omega) (by omega) (by omega) dX1_costByRows_77 ?_
        refine jr_nm (b := (wk w (kd (u.getD (j - 1) 0)))) (ju_s _ _ _) ?_
        refine jr_iadd hx hb dX1_costByRows_78 ?_
        refine jr_iast hx hb hKK.k hP hD hS 0 rfl j rfl (by omega) (by omega) dX1_costByRows_79 (fun H locs hP hD hS => ?_)
        have hP : PP g [aI g r1 61 (ju h1 j ((D w t u 0 (j - 1)) + (wk w (kd (u.getD (j - 1) 0))))), aI g r2 61 g2, aI g ri 60 (ju h3 (j - 1) (wk w (kd (u.getD (j - 1) 0))))] H := hP
        have hD : va_D A [aI g r1 61 (ju h1 j ((D w t u 0 (j - 1)) + (wk w (kd (u.getD (j - 1) 0))))), aI g r2 61 g2, aI g ri 60 (ju h3 (j - 1) (wk w (kd (u.getD (j - 1) 0))))] := hD
        refine jr_iinc (lv' := [(6, vi ((j : Int) + 1)), (5, vi (u.length : Int)), (4, .ref r2), (3, .ref r1), (0, .ref e0), (1, .ref a), (2, .ref b)]) hx hb dX1_costByRows_80 hl (k := 0) rfl rfl (by decide) rfl (fun ls hl => ?_)
        refine lv_goto (tgt := 29) hx hb dX1_costByRows_83 (by decide) ?_
        exact ih29 (j + 1) _ _ (by omega) (by omega) (RW.s0 hj1 hR) (by rw [show j + 1 - 1 = (j - 1) + 1 by omega]; exact hI.s) (by omega) _ _ hP hD hS ls (lv_sub hl [0, 1, 2, 3, 4, 5, 6] rfl)
  exact lp29 _ 1 (ju g1 0 0) g3 (Nat.le_refl _) (by omega) (RW.z) (fun k hk => absurd hk (Nat.not_lt_zero _)) (Nat.lt_succ_self _) _ _ hP hD hS ls (lv_sub hl [0, 1, 2, 3, 4, 5, 6] rfl)
set_option maxHeartbeats 4000000 in
set_option maxRecDepth 100000 in
theorem m_X1_costByTails (l : Launch) (g : GT) (e0 wt wa r1 r2 ri : Nat) (w : Nat → Int) (hw : WB w) (g1 g2 g3 : Nat → Int) (a c : Nat) (t : List Int) (f : Nat → Int) (hf : TT t f) (b d : Nat) (u : List Int) (f2 : Nat → Int) (hf2 : TT u f2) (hne : ∀ x ∈ ([e0, wt, wa] : List Nat), x ∉ ([r1, r2, ri] : List Nat)) (hnx : ∀ x ∈ ([a, c] : List Nat), x ∉ ([r1, r2, ri] : List Nat)) (hny : ∀ x ∈ ([b, d] : List Nat), x ∉ ([r1, r2, ri] : List Nat)) : Met l yX1_costByTails (ws_ yX1_costByTails cX1_costByTails 12 (some .int)) (rmm 2 0 0) (jPc g [.ref e0, .ref a, .ref b] (fun H => PP g [aI g r1 61 g1, aI g r2 61 g2, aI g ri 60 g3] H ∧ va_D (fun q => gb g ≤ q) [aI g r1 61 g1, aI g r2 61 g2, aI g ri 60 g3] ∧ PP g [ob e0 1 [.ref wt, .ref r1, .ref r2, .ref ri], ob wt 8 [.ref wa], aI g wa 4 w] H ∧ PP g [ob a 6 [.ref c, vi (t.length : Int)], aI g c 60 f] H ∧ PP g [ob b 6 [.ref d, vi (u.length : Int)], aI g d 60 f2] H)) (jQi (fun z H1 => z = ed w t u ∧ ∃ g1 g2 g3 : Nat → Int, PP g [aI g r1 61 g1, aI g r2 61 g2, aI g ri 60 g3] H1) (jA [aI g r1 61 g1, aI g r2 61 g2, aI g ri 60 g3])) 0 0 (jA [aI g r1 61 g1, aI g r2 61 g2, aI g ri 60 g3]) := by
  refine jb_M (by decide) (Nat.le_of_ble_eq_true rfl) ?_
  intro p e s m below meth cq hx hb hr hml hown htl hlk hnm hKK hpre ls hl
  have hown : s.vm.findClass RX1 = some m.cls := hown
  have hl : lv_has ls 12 [(0, .ref e0), (1, .ref a), (2, .ref b)] := hl
  obtain ⟨hP, hD0, hPe, hPx, hPy⟩ := hpre
  have hL := hf.len
  have hL2 := hf2.len
  have ap_hPe : ∀ (k : Nat) (q : Nat × va_E), ([ob e0 1 [.ref wt, .ref r1, .ref r2, .ref ri], ob wt 8 [.ref wa], aI g wa 4 w] : va_W)[k]? = some q → ¬ (jA [aI g r1 61 g1, aI g r2 61 g2, aI g ri 60 g3]) q.1 := jap (hne)
  have ap_hPx : ∀ (k : Nat) (q : Nat × va_E), ([ob a 6 [.ref c, vi (t.length : Int)], aI g c 60 f] : va_W)[k]? = some q → ¬ (jA [aI g r1 61 g1, aI g r2 61 g2, aI g ri 60 g3]) q.1 := jap (hnx)
  have ap_hPy : ∀ (k : Nat) (q : Nat × va_E), ([ob b 6 [.ref d, vi (u.length : Int)], aI g d 60 f2] : va_W)[k]? = some q → ¬ (jA [aI g r1 61 g1, aI g r2 61 g2, aI g ri 60 g3]) q.1 := jap (hny)
  have hD : va_D (jA [aI g r1 61 g1, aI g r2 61 g2, aI g ri 60 g3]) [aI g r1 61 g1, aI g r2 61 g2, aI g ri 60 g3] := hD0.inD
  have hAb : ∀ q, (jA [aI g r1 61 g1, aI g r2 61 g2, aI g ri 60 g3]) q → gb g ≤ q := fun q h => hD0.inA h
  generalize hAe : jA [aI g r1 61 g1, aI g r2 61 g2, aI g ri 60 g3] = A at *
  have hS : va_S A s.heap s.heap [] := va_S.rf
  suffices K : ∀ (H : Heap) (locs : List Loc), PP g [aI g r1 61 g1, aI g r2 61 g2, aI g ri 60 g3] H → va_D A [aI g r1 61 g1, aI g r2 61 g2, aI g ri 60 g3] → va_S A s.heap H locs → ∀ ls : Array Slot, lv_has ls 12 [(0, .ref e0), (1, .ref a), (2, .ref b)] → W p l e (rmm 2 0 0) s m ([.ref e0, .ref a, .ref b] : List Value).toArray below meth cq H locs 0 0 (MQ below (jQi (fun z H1 => z = ed w t u ∧ ∃ g1 g2 g3 : Nat → Int, PP g [aI g r1 61 g1, aI g r2 61 g2, aI g ri 60 g3] H1) A) ([.ref e0, .ref a, .ref b] : List Value).toArray s 0 0 A) (F0 m 0 ls []) from K _ _ hP hD hS _ hl
  clear hl; intro H locs hP hD hS ls hl
  refine lv_aload_n hx hb dX1_costByTails_0 rfl (lv_at hl 0 rfl) ?_
  refine va_get (D := gD g) (ci := 1) (v := .ref r1) (C := RX1) (T := TX1) (N := 4) hx hb htl ck_X1 hown hKK.k (jat hPe hS ap_hPe) 0 rfl rfl 1 (by decide) (htl _ wd_3_15) (fun _ h9 => h9) rfl dX1_costByTails_1 ?_
  refine lv_astore_n (lv' := [(3, .ref r1), (0, .ref e0), (1, .ref a), (2, .ref b)]) hx hb dX1_costByTails_4 rfl hl (by decide) rfl (fun ls hl => ?_)
  refine lv_aload_n hx hb dX1_costByTails_5 rfl (lv_at hl 1 rfl) ?_
  refine va_get (D := gD g) (ci := 1) (v := .ref r2) (C := RX1) (T := TX1) (N := 4) hx hb htl ck_X1 hown hKK.k (jat hPe hS ap_hPe) 0 rfl rfl 2 (by decide) (htl _ wd_3_16) (fun _ h9 => h9) rfl dX1_costByTails_6 ?_
  refine lv_astore (lv' := [(4, .ref r2), (3, .ref r1), (0, .ref e0), (1, .ref a), (2, .ref b)]) hx hb dX1_costByTails_9 hl (by decide) rfl (fun ls hl => ?_)
  refine lv_aload_n hx hb dX1_costByTails_11 rfl (lv_at hl 4 rfl) ?_
  refine jk_Si (va_runV (As := []) (rest := []) ⟨hx, hb, hml, hown, htl⟩ (m_X6_size l g b d u f2 hf2  ) (cwV 0 htl lk_X1_28 rfl rfl rfl cwV_X6_size ⟨Nat.le_of_ble_eq_true rfl, Nat.le_of_ble_eq_true rfl⟩) (jp_V hKK hS hAb (va_recv hKK.k (jat hPy hS ap_hPy) (ci := 6) (q0 := 0) rfl rfl) (jat hPy hS ap_hPy)) rfl rfl hl.1 rfl (lv_room (Nat.le_of_ble_eq_true rfl)) dX1_costByTails_12 ⟨Nat.le_of_ble_eq_true rfl, Nat.le_of_ble_eq_true rfl⟩) (fun z12 hz12 => ?_)
  subst hz12
  refine jr_bipush hx hb dX1_costByTails_15 (by decide) ?_
  refine jr_mmin hx hb (by rw [hml]; exact hl.1.symm) hown (htl _ wd_22_14) (htl _ wd_16_11) (htl _ wd_15_9) (htl _ wd_16_12) (Nat.le_of_ble_eq_true rfl) (Nat.le_of_ble_eq_true rfl) (Nat.le_of_ble_eq_true rfl) (Nat.le_of_ble_eq_true rfl) ⟨by omega, by omega⟩ ⟨by omega, by omega⟩ dX1_costByTails_17 ?_
  refine jr_nm (b := (u.length : Int)) (by omega) ?_
  refine lv_istore (lv' := [(5, vi (u.length : Int)), (4, .ref r2), (3, .ref r1), (0, .ref e0), (1, .ref a), (2, .ref b)]) hx hb dX1_costByTails_20 hl (by decide) rfl (fun ls hl => ?_)
  refine lv_aload_n hx hb dX1_costByTails_22 rfl (lv_at hl 2 rfl) ?_
  refine lv_iload hx hb dX1_costByTails_23 (lv_at hl 0 rfl) ?_
  refine jr_iconst hx hb dX1_costByTails_25 ?_
  refine jr_iast hx hb hKK.k hP hD hS 0 rfl u.length rfl (by omega) (by omega) dX1_costByTails_26 (fun H locs hP hD hS => ?_)
  have hP : PP g [aI g r1 61 (ju g1 u.length 0), aI g r2 61 g2, aI g ri 60 g3] H := hP
  have hD : va_D A [aI g r1 61 (ju g1 u.length 0), aI g r2 61 g2, aI g ri 60 g3] := hD
  refine lv_iload hx hb dX1_costByTails_27 (lv_at hl 0 rfl) ?_
  refine jr_iconst hx hb dX1_costByTails_29 ?_
  refine jr_isub hx hb dX1_costByTails_30 ?_
  refine lv_istore (lv' := [(6, vi ((u.length : Int) - 1)), (5, vi (u.length : Int)), (4, .ref r2), (3, .ref r1), (0, .ref e0), (1, .ref a), (2, .ref b)]) hx hb dX1_costByTails_31 hl (by decide) rfl (fun ls hl => ?_)
  have lp33 : ∀ (N : Nat) (j : Nat) (h1 h3 : Nat → Int), (j ≤ u.length) → (SW w t u h1 t.length j) → (INt w u h3 j) → j < N → ∀ (H : Heap) (locs : List Loc), PP g [aI g r1 61 h1, aI g r2 61 g2, aI g ri 60 h3] H → va_D A [aI g r1 61 h1, aI g r2 61 g2, aI g ri 60 h3] → va_S A s.heap H locs → ∀ ls : Array Slot, lv_has ls 12 [(6, vi ((j : Int) - 1)), (5, vi (u.length : Int)), (4, .ref r2), (3, .ref r1), (0, .ref e0), (1, .ref a), (2, .ref b)] → W p l e (rmm 2 0 0) s m ([.ref e0, .ref a, .ref b] : List Value).toArray below meth cq H locs 0 0 (MQ below (jQi (fun z H1 => z = ed w t u ∧ ∃ g1 g2 g3 : Nat → Int, PP g [aI g r1 61 g1, aI g r2 61 g2, aI g ri 60 g3] H1) A) ([.ref e0, .ref a, .ref b] : List Value).toArray s 0 0 A) (F0 m 33 ls []) := by
    intro N
    induction N with
    | zero => intro j h1 h3 hj2 hR hI hM; exact absurd hM (Nat.not_lt_zero _)
    | succ N ih33 =>
      intro j h1 h3 hj2 hR hI hM H locs hP hD hS ls hl
      refine lv_iload hx hb dX1_costByTails_33 (lv_at hl 0 rfl) ?_
      refine jr_iflt (tgt := 82) hx hb dX1_costByTails_35 (by decide) ⟨by omega, by omega⟩ (fun c35 => ?_) (fun c35 => ?_)
      · refine lv_aload_n hx hb dX1_costByTails_82 rfl (lv_at hl 5 rfl) ?_
        refine jk_Si (va_runV (As := []) (rest := []) ⟨hx, hb, hml, hown, htl⟩ (m_X6_size l g a c t f hf  ) (cwV 0 htl lk_X1_28 rfl rfl rfl cwV_X6_size ⟨Nat.le_of_ble_eq_true rfl, Nat.le_of_ble_eq_true rfl⟩) (jp_V hKK hS hAb (va_recv hKK.k (jat hPx hS ap_hPx) (ci := 6) (q0 := 0) rfl rfl) (jat hPx hS ap_hPx)) rfl rfl hl.1 rfl (lv_room (Nat.le_of_ble_eq_true rfl)) dX1_costByTails_83 ⟨Nat.le_of_ble_eq_true rfl, Nat.le_of_ble_eq_true rfl⟩) (fun z83 hz83 => ?_)
        subst hz83
        refine jr_iconst hx hb dX1_costByTails_86 ?_
        refine jr_isub hx hb dX1_costByTails_87 ?_
        refine lv_istore (lv' := [(6, vi ((t.length : Int) - 1)), (5, vi (u.length : Int)), (4, .ref r2), (3, .ref r1), (0, .ref e0), (1, .ref a), (2, .ref b)]) hx hb dX1_costByTails_88 hl (by decide) rfl (fun ls hl => ?_)
        have lp90 : ∀ (N : Nat) (i pa qa : Nat) (h1 h2 h3 : Nat → Int), (i ≤ t.length) → ((pa = r1 ∧ qa = r2) ∨ (pa = r2 ∧ qa = r1)) → (SW w t u h1 i 0) → (INt w u h3 0) → i < N → ∀ (H : Heap) (locs : List Loc), PP g [aI g pa 61 h1, aI g qa 61 h2, aI g ri 60 h3] H → va_D A [aI g pa 61 h1, aI g qa 61 h2, aI g ri 60 h3] → va_S A s.heap H locs → ∀ ls : Array Slot, lv_has ls 12 [(6, vi ((i : Int) - 1)), (5, vi (u.length : Int)), (4, .ref qa), (3, .ref pa), (0, .ref e0), (1, .ref a), (2, .ref b)] → W p l e (rmm 2 0 0) s m ([.ref e0, .ref a, .ref b] : List Value).toArray below meth cq H locs 0 0 (MQ below (jQi (fun z H1 => z = ed w t u ∧ ∃ g1 g2 g3 : Nat → Int, PP g [aI g r1 61 g1, aI g r2 61 g2, aI g ri 60 g3] H1) A) ([.ref e0, .ref a, .ref b] : List Value).toArray s 0 0 A) (F0 m 90 ls []) := by
          intro N
          induction N with
          | zero => intro i pa qa h1 h2 h3 hi hpq hR hI hM; exact absurd hM (Nat.not_lt_zero _)
          | succ N ih90 =>
            intro i pa qa h1 h2 h3 hi hpq hR hI hM H locs hP hD hS ls hl
            refine lv_iload hx hb dX1_costByTails_90 (lv_at hl 0 rfl) ?_
            refine jr_iflt (tgt := 222) hx hb dX1_costByTails_92 (by decide) ⟨by omega, by omega⟩ (fun c92 => ?_) (fun c92 => ?_)
            · refine lv_aload_n hx hb dX1_costByTails_222 rfl (lv_at hl 3 rfl) ?_
              refine jr_iconst hx hb dX1_costByTails_223 ?_
              refine jr_iald hx hb hKK.k hP 0 rfl 0 rfl (by omega) (by omega) dX1_costByTails_224 ?_
              refine jr_nm (b := (ed w t u)) (by obtain rfl : i = 0 := (by omega); exact hR 0 (Nat.le_refl _) (Nat.zero_le _)) ?_
              exact je_Qi hx hb hr hlk rfl hS (⟨rfl, by rcases hpq with ⟨z1, z2⟩ | ⟨z1, z2⟩ <;> rw [z1, z2] at hP <;> first | exact ⟨_, _, _, hP⟩ | exact ⟨_, _, _, va_P.sub hP [1, 0, 2] rfl⟩⟩) dX1_costByTails_225
            · refine lv_aload_n hx hb dX1_costByTails_95 rfl (lv_at hl 5 rfl) ?_
              refine lv_iload hx hb dX1_costByTails_96 (lv_at hl 0 rfl) ?_
              refine jk_Si (va_runV (As := [vi ((i : Int) - 1)]) (rest := []) ⟨hx, hb, hml, hown, htl⟩ (m_X6_at l g a c t f hf ((i : Int) - 1) ⟨by omega, by omega⟩) (cwV 1 htl lk_X1_40 rfl rfl rfl cwV_X6_at ⟨Nat.le_of_ble_eq_true rfl, Nat.le_of_ble_eq_true rfl⟩) (jp_V hKK hS hAb (va_recv hKK.k (jat hPx hS ap_hPx) (ci := 6) (q0 := 0) rfl rfl) (jat hPx hS ap_hPx)) rfl rfl hl.1 rfl (lv_room (Nat.le_of_ble_eq_true rfl)) dX1_costByTails_98 ⟨Nat.le_of_ble_eq_true rfl, Nat.le_of_ble_eq_true rfl⟩) (fun z98 hz98 => ?_)
              subst hz98
              have ta := TT.tAt_b hf ((i : Int) - 1)
              rw [tAt_p (t := t) (j := i) (by omega) (by omega)] at ta ⊢
              have tax := ta
              refine lv_istore (lv' := [(7, vi (t.getD (i - 1) 0)), (6, vi ((i : Int) - 1)), (5, vi (u.length : Int)), (4, .ref qa), (3, .ref pa), (0, .ref e0), (1, .ref a), (2, .ref b)]) hx hb dX1_costByTails_101 hl (by decide) rfl (fun ls hl => ?_)
              refine lv_aload_n hx hb dX1_costByTails_103 rfl (lv_at hl 5 rfl) ?_
              refine va_get (D := gD g) (ci := 1) (v := .ref wt) (C := RX1) (T := TX1) (N := 4) hx hb htl ck_X1 hown hKK.k (jat hPe hS ap_hPe) 0 rfl rfl 0 (by decide) (htl _ wd_3_14) (fun _ h9 => h9) rfl dX1_costByTails_104 ?_
              refine lv_iload hx hb dX1_costByTails_107 (lv_at hl 0 rfl) ?_
              refine jk_Si (va_runV (As := [vi (t.getD (i - 1) 0)]) (rest := []) ⟨hx, hb, hml, hown, htl⟩ (m_X9_ofToken l g wt wa w (t.getD (i - 1) 0) ⟨by omega, by omega⟩) (cwV 1 htl lk_X1_44 rfl rfl rfl cwV_X9_ofToken ⟨Nat.le_of_ble_eq_true rfl, Nat.le_of_ble_eq_true rfl⟩) (jp_V hKK hS hAb (va_recv hKK.k (jat hPe hS ap_hPe) (ci := 8) (q0 := 1) rfl rfl) (va_P.sub (jat hPe hS ap_hPe) [1, 2] rfl)) rfl rfl hl.1 rfl (lv_room (Nat.le_of_ble_eq_true rfl)) dX1_costByTails_109 ⟨Nat.le_of_ble_eq_true rfl, Nat.le_of_ble_eq_true rfl⟩) (fun z109 hz109 => ?_)
              subst hz109
              have tw := wk_b hw (kd (t.getD (i - 1) 0))
              have twx := tw
              refine lv_istore (lv' := [(8, vi (wk w (kd (t.getD (i - 1) 0)))), (7, vi (t.getD (i - 1) 0)), (6, vi ((i : Int) - 1)), (5, vi (u.length : Int)), (4, .ref qa), (3, .ref pa), (0, .ref e0), (1, .ref a), (2, .ref b)]) hx hb dX1_costByTails_112 hl (by decide) rfl (fun ls hl => ?_)
              refine lv_aload hx hb dX1_costByTails_114 (lv_at hl 4 rfl) ?_
              refine lv_iload hx hb dX1_costByTails_116 (lv_at hl 3 rfl) ?_
              refine lv_aload_n hx hb dX1_costByTails_118 rfl (lv_at hl 5 rfl) ?_
              refine lv_iload hx hb dX1_costByTails_119 (lv_at hl 3 rfl) ?_
              refine jr_iald hx hb hKK.k hP 0 rfl u.length rfl (by omega) (by omega) dX1_costByTails_121 ?_
              refine jr_nm (b := (ed w (t.drop i) [])) ((hR.le (Nat.zero_le _)).nil) ?_
              refine lv_iload hx hb dX1_costByTails_122 (lv_at hl 0 rfl) ?_
              refine jr_iadd hx hb dX1_costByTails_124 ?_
              refine jr_iast hx hb hKK.k hP hD hS 1 rfl u.length rfl (by omega) (by omega) dX1_costByTails_125 (fun H locs hP hD hS => ?_)
              have hP : PP g [aI g pa 61 h1, aI g qa 61 (ju h2 u.length ((ed w (t.drop i) []) + (wk w (kd (t.getD (i - 1) 0))))), aI g ri 60 h3] H := hP
              have hD : va_D A [aI g pa 61 h1, aI g qa 61 (ju h2 u.length ((ed w (t.drop i) []) + (wk w (kd (t.getD (i - 1) 0))))), aI g ri 60 h3] := hD
              refine lv_iload hx hb dX1_costByTails_126 (lv_at hl 3 rfl) ?_
              refine jr_iconst hx hb dX1_costByTails_128 ?_
              refine jr_isub hx hb dX1_costByTails_129 ?_
              refine lv_istore (lv' := [(9, vi ((u.length : Int) - 1)), (8, vi (wk w (kd (t.getD (i - 1) 0)))), (7, vi (t.getD (i - 1) 0)), (6, vi ((i : Int) - 1)), (5, vi (u.length : Int)), (4, .ref qa), (3, .ref pa), (0, .ref e0), (1, .ref a), (2, .ref b)]) hx hb dX1_costByTails_130 hl (by decide) rfl (fun ls hl => ?_)
              have lp132 : ∀ (N : Nat) (j : Nat) (h4 : Nat → Int), (j ≤ u.length) → (SW w t u h4 (i - 1) j) → j < N → ∀ (H : Heap) (locs : List Loc), PP g [aI g pa 61 h1, aI g qa 61 h4, aI g ri 60 h3] H → va_D A [aI g pa 61 h1, aI g qa 61 h4, aI g ri 60 h3] → va_S A s.heap H locs → ∀ ls : Array Slot, lv_has ls 12 [(9, vi ((j : Int) - 1)), (8, vi (wk w (kd (t.getD (i - 1) 0)))), (7, vi (t.getD (i - 1) 0)), (6, vi ((i : Int) - 1)), (5, vi (u.length : Int)), (4, .ref qa), (3, .ref pa), (0, .ref e0), (1, .ref a), (2, .ref b)] → W p l e (rmm 2 0 0) s m ([.ref e0, .ref a, .ref b] : List Value).toArray below meth cq H locs 0 0 (MQ below (jQi (fun z H1 => z = ed w t u ∧ ∃ g1 g2 g3 : Nat → Int, PP g [aI g r1 61 g1, aI g r2 61 g2, aI g ri 60 g3] H1) A) ([.ref e0, .ref a, .ref b] : List Value).toArray s 0 0 A) (F0 m 132 ls []) := by
                intro N
                induction N with
                | zero => intro j h4 hj2 hR2 hM; exact absurd hM (Nat.not_lt_zero _)
                | succ N ih132 =>
                  intro j h4 hj2 hR2 hM H locs hP hD hS ls hl
                  refine lv_iload hx hb dX1_costByTails_132 (lv_at hl 0 rfl) ?_
                  refine jr_iflt (tgt := 206) hx hb dX1_costByTails_134 (by decide) ⟨by omega, by omega⟩ (fun c134 => ?_) (fun c134 => ?_)
                  · refine lv_aload_n hx hb dX1_costByTails_206 rfl (lv_at hl 6 rfl) ?_
                    refine lv_astore (lv' := [(9, .ref pa), (8, vi (wk w (kd (t.getD (i - 1) 0)))), (7, vi (t.getD (i - 1) 0)), (6, vi ((i : Int) - 1)), (5, vi (u.length : Int)), (4, .ref qa), (3, .ref pa), (0, .ref e0), (1, .ref a), (2, .ref b)]) hx hb dX1_costByTails_207 hl (by decide) rfl (fun ls hl => ?_)
                    refine lv_aload hx hb dX1_costByTails_209 (lv_at hl 5 rfl) ?_
                    refine lv_astore_n (lv' := [(3, .ref qa), (9, .ref pa), (8, vi (wk w (kd (t.getD (i - 1) 0)))), (7, vi (t.getD (i - 1) 0)), (6, vi ((i : Int) - 1)), (5, vi (u.length : Int)), (4, .ref qa), (0, .ref e0), (1, .ref a), (2, .ref b)]) hx hb dX1_costByTails_211 rfl hl (by decide) rfl (fun ls hl => ?_)
                    refine lv_aload hx hb dX1_costByTails_212 (lv_at hl 1 rfl) ?_
                    refine lv_astore (lv' := [(4, .ref pa), (3, .ref qa), (9, .ref pa), (8, vi (wk w (kd (t.getD (i - 1) 0)))), (7, vi (t.getD (i - 1) 0)), (6, vi ((i : Int) - 1)), (5, vi (u.length : Int)), (0, .ref e0), (1, .ref a), (2, .ref b)]) hx hb dX1_costByTails_214 hl (by decide) rfl (fun ls hl => ?_)
                    have hP : PP g [aI g qa 61 h4, aI g pa 61 h1, aI g ri 60 h3] H := va_P.sub hP [1, 0, 2] rfl
                    have hD : va_D A [aI g qa 61 h4, aI g pa 61 h1, aI g ri 60 h3] := hD.sub [1, 0, 2] (by decide) rfl
                    refine jr_iinc (lv' := [(6, vi (((i : Int) - 1) + (-1))), (4, .ref pa), (3, .ref qa), (9, .ref pa), (8, vi (wk w (kd (t.getD (i - 1) 0)))), (7, vi (t.getD (i - 1) 0)), (5, vi (u.length : Int)), (0, .ref e0), (1, .ref a), (2, .ref b)]) hx hb dX1_costByTails_216 hl (k := 5) rfl rfl (by decide) rfl (fun ls hl => ?_)
                    have hl : lv_has ls 12 [(6, vi (((i - 1 : Nat) : Int) - 1)), (4, .ref pa), (3, .ref qa), (9, .ref pa), (8, vi (wk w (kd (t.getD (i - 1) 0)))), (7, vi (t.getD (i - 1) 0)), (5, vi (u.length : Int)), (0, .ref e0), (1, .ref a), (2, .ref b)] := (show ((((i : Int) - 1) + (-1)) : Int) = (((i - 1 : Nat) : Int) - 1) from by omega) ▸ hl
                    refine lv_goto (tgt := 90) hx hb dX1_costByTails_219 (by decide) ?_
                    exact ih90 (i - 1) qa pa _ _ _ (by omega) (hpq.elim (fun z => Or.inr ⟨z.2, z.1⟩) (fun z => Or.inl ⟨z.2, z.1⟩)) (by obtain rfl : j = 0 := (by omega); exact hR2) (hI) (by omega) _ _ hP hD hS ls (lv_sub hl [0, 6, 1, 2, 7, 8, 9] rfl)
                  · refine lv_aload_n hx hb dX1_costByTails_137 rfl (lv_at hl 7 rfl) ?_
                    refine va_get (D := gD g) (ci := 1) (v := .ref wt) (C := RX1) (T := TX1) (N := 4) hx hb htl ck_X1 hown hKK.k (jat hPe hS ap_hPe) 0 rfl rfl 0 (by decide) (htl _ wd_3_14) (fun _ h9 => h9) rfl dX1_costByTails_138 ?_
                    refine lv_iload hx hb dX1_costByTails_141 (lv_at hl 2 rfl) ?_
                    refine lv_aload_n hx hb dX1_costByTails_143 rfl (lv_at hl 9 rfl) ?_
                    refine lv_iload hx hb dX1_costByTails_144 (lv_at hl 0 rfl) ?_
                    refine jk_Si (va_runV (As := [vi ((j : Int) - 1)]) (rest := [vi (t.getD (i - 1) 0), .ref wt]) ⟨hx, hb, hml, hown, htl⟩ (m_X6_at l g b d u f2 hf2 ((j : Int) - 1) ⟨by omega, by omega⟩) (cwV 1 htl lk_X1_40 rfl rfl rfl cwV_X6_at ⟨Nat.le_of_ble_eq_true rfl, Nat.le_of_ble_eq_true rfl⟩) (jp_V hKK hS hAb (va_recv hKK.k (jat hPy hS ap_hPy) (ci := 6) (q0 := 0) rfl rfl) (jat hPy hS ap_hPy)) rfl rfl hl.1 rfl (lv_room (Nat.le_of_ble_eq_true rfl)) dX1_costByTails_146 ⟨Nat.le_of_ble_eq_true rfl, Nat.le_of_ble_eq_true rfl⟩) (fun z146 hz146 => ?_)
                    subst hz146
                    have ta := TT.tAt_b hf2 ((j : Int) - 1)
                    rw [tAt_p (t := u) (j := j) (by omega) (by omega)] at ta ⊢
                    refine jk_Si (va_runV (As := [vi (t.getD (i - 1) 0), vi (u.getD (j - 1) 0)]) (rest := []) ⟨hx, hb, hml, hown, htl⟩ (m_X9_ofReplacing l g wt wa w hw (t.getD (i - 1) 0) (u.getD (j - 1) 0) ⟨by omega, by omega⟩ ⟨by omega, by omega⟩) (cwV 2 htl lk_X1_47 rfl rfl rfl cwV_X9_ofReplacing ⟨Nat.le_of_ble_eq_true rfl, Nat.le_of_ble_eq_true rfl⟩) (jp_V hKK hS hAb (va_recv hKK.k (jat hPe hS ap_hPe) (ci := 8) (q0 := 1) rfl rfl) (va_P.sub (jat hPe hS ap_hPe) [1, 2] rfl)) rfl rfl hl.1 rfl (lv_room (Nat.le_of_ble_eq_true rfl)) dX1_costByTails_149 ⟨Nat.le_of_ble_eq_true rfl, Nat.le_of_ble_eq_true rfl⟩) (fun z149 hz149 => ?_)
                    subst hz149
                    have tr := rp_b hw (t.getD (i - 1) 0) (u.getD (j - 1) 0)
                    refine lv_istore (lv' := [(10, vi (rp w (t.getD (i - 1) 0) (u.getD (j - 1) 0))), (9, vi ((j : Int) - 1)), (8, vi (wk w (kd (t.getD (i - 1) 0)))), (7, vi (t.getD (i - 1) 0)), (6, vi ((i : Int) - 1)), (5, vi (u.length : Int)), (4, .ref qa), (3, .ref pa), (0, .ref e0), (1, .ref a), (2, .ref b)]) hx hb dX1_costByTails_152 hl (by decide) rfl (fun ls hl => ?_)
                    refine lv_aload_n hx hb dX1_costByTails_154 rfl (lv_at hl 7 rfl) ?_
                    refine lv_iload hx hb dX1_costByTails_155 (lv_at hl 1 rfl) ?_
                    refine jr_iald hx hb hKK.k hP 0 rfl (j - 1) (by omega) (by omega) (by omega) dX1_costByTails_157 ?_
                    refine jr_nm (b := (ed w (t.drop i) (u.drop (j - 1)))) (hR (j - 1) (Nat.zero_le _) (by omega)) ?_
                    refine lv_iload hx hb dX1_costByTails_158 (lv_at hl 2 rfl) ?_
                    refine jr_iadd hx hb dX1_costByTails_160 ?_
                    refine lv_aload hx hb dX1_costByTails_161 (lv_at hl 6 rfl) ?_
                    refine lv_iload hx hb dX1_costByTails_163 (lv_at hl 1 rfl) ?_
                    refine jr_iconst hx hb dX1_costByTails_165 ?_
                    refine jr_iadd hx hb dX1_costByTails_166 ?_
                    refine jr_iald hx hb hKK.k hP 1 rfl j (by omega) (by omega) (by omega) dX1_costByTails_167 ?_
                    refine jr_nm (b := (ed w (t.drop (i - 1)) (u.drop j))) (hR2 j (Nat.le_refl _) (by omega)) ?_
                    refine lv_aload_n hx hb dX1_costByTails_168 rfl (lv_at hl 8 rfl) ?_
                    refine va_get (D := gD g) (ci := 1) (v := .ref ri) (C := RX1) (T := TX1) (N := 4) hx hb htl ck_X1 hown hKK.k (jat hPe hS ap_hPe) 0 rfl rfl 3 (by decide) (htl _ wd_3_17) (fun _ h9 => h9) rfl dX1_costByTails_169 ?_
                    refine lv_iload hx hb dX1_costByTails_172 (lv_at hl 1 rfl) ?_
                    refine jr_iald hx hb hKK.k hP 2 rfl (j - 1) (by omega) (by omega) (by omega) dX1_costByTails_174 ?_
                    refine jr_nm (b := (wk w (kd (u.getD (j - 1) 0)))) (hI (j - 1) (Nat.zero_le _) (by omega)) ?_
                    have b1 := ed_b hw (t.drop i) (u.drop (j - 1))
                    have b2 := ed_b hw (t.drop (i - 1)) (u.drop j)
                    have b3 := ed_b hw (t.drop i) (u.drop j)
                    have b4 := wk_b hw (kd (u.getD (j - 1) 0))
                    simp only [List.length_drop] at b1 b2 b3
                    refine jr_iadd hx hb dX1_costByTails_175 ?_
                    refine jr_mmin hx hb (by rw [hml]; exact hl.1.symm) hown (htl _ wd_22_14) (htl _ wd_16_11) (htl _ wd_15_9) (htl _ wd_16_12) (Nat.le_of_ble_eq_true rfl) (Nat.le_of_ble_eq_true rfl) (Nat.le_of_ble_eq_true rfl) (Nat.le_of_ble_eq_true rfl) ⟨by omega, by omega⟩ ⟨by omega, by omega⟩ dX1_costByTails_176 ?_
                    refine lv_istore (lv' := [(11, vi (min ((ed w (t.drop i) (u.drop (j - 1))) + (wk w (kd (t.getD (i - 1) 0)))) ((ed w (t.drop (i - 1)) (u.drop j)) + (wk w (kd (u.getD (j - 1) 0)))))), (10, vi (rp w (t.getD (i - 1) 0) (u.getD (j - 1) 0))), (9, vi ((j : Int) - 1)), (8, vi (wk w (kd (t.getD (i - 1) 0)))), (7, vi (t.getD (i - 1) 0)), (6, vi ((i : Int) - 1)), (5, vi (u.length : Int)), (4, .ref qa), (3, .ref pa), (0, .ref e0), (1, .ref a), (2, .ref b)]) hx hb dX1_costByTails_179 hl (by decide) rfl (fun ls hl => ?_)
                    refine lv_aload hx hb dX1_costByTails_181 (lv_at hl 7 rfl) ?_
                    refine lv_iload hx hb dX1_costByTails_183 (lv_at hl 2 rfl) ?_
                    refine lv_iload hx hb dX1_costByTails_185 (lv_at hl 0 rfl) ?_
                    refine lv_aload_n hx hb dX1_costByTails_187 rfl (lv_at hl 8 rfl) ?_
                    refine lv_iload hx hb dX1_costByTails_188 (lv_at hl 2 rfl) ?_
                    refine jr_iconst hx hb dX1_costByTails_190 ?_
                    refine jr_iadd hx hb dX1_costByTails_191 ?_
                    refine jr_iald hx hb hKK.k hP 0 rfl j (by omega) (by omega) (by omega) dX1_costByTails_192 ?_
                    refine jr_nm (b := (ed w (t.drop i) (u.drop j))) (hR j (Nat.zero_le _) (by omega)) ?_
                    refine lv_iload hx hb dX1_costByTails_193 (lv_at hl 1 rfl) ?_
                    refine jr_iadd hx hb dX1_costByTails_195 ?_
                    refine jr_mmin hx hb (by rw [hml]; exact hl.1.symm) hown (htl _ wd_22_14) (htl _ wd_16_11) (htl _ wd_15_9) (htl _ wd_16_12) (Nat.le_of_ble_eq_true rfl) (Nat.le_of_ble_eq_true rfl) (Nat.le_of_ble_eq_true rfl) (Nat.le_of_ble_eq_true rfl) ⟨by omega, by omega⟩ ⟨by omega, by omega⟩ dX1_costByTails_196 ?_
                    refine jr_iast hx hb hKK.k hP hD hS 1 rfl (j - 1) (by omega) (by omega) (by omega) dX1_costByTails_199 (fun H locs hP hD hS => ?_)
                    have hP : PP g [aI g pa 61 h1, aI g qa 61 (ju h4 (j - 1) (min (min ((ed w (t.drop i) (u.drop (j - 1))) + (wk w (kd (t.getD (i - 1) 0)))) ((ed w (t.drop (i - 1)) (u.drop j)) + (wk w (kd (u.getD (j - 1) 0))))) ((ed w (t.drop i) (u.drop j)) + (rp w (t.getD (i - 1) 0) (u.getD (j - 1) 0))))), aI g ri 60 h3] H := hP
                    have hD : va_D A [aI g pa 61 h1, aI g qa 61 (ju h4 (j - 1) (min (min ((ed w (t.drop i) (u.drop (j - 1))) + (wk w (kd (t.getD (i - 1) 0)))) ((ed w (t.drop (i - 1)) (u.drop j)) + (wk w (kd (u.getD (j - 1) 0))))) ((ed w (t.drop i) (u.drop j)) + (rp w (t.getD (i - 1) 0) (u.getD (j - 1) 0))))), aI g ri 60 h3] := hD
                    refine jr_iinc (lv' := [(9, vi (((j : Int) - 1) + (-1))), (11, vi (min ((ed w (t.drop i) (u.drop (j - 1))) + (wk w (kd (t.getD (i - 1) 0)))) ((ed w (t.drop (i - 1)) (u.drop j)) + (wk w (kd (u.getD (j - 1) 0)))))), (10, vi (rp w (t.getD (i - 1) 0) (u.getD (j - 1) 0))), (8, vi (wk w (kd (t.getD (i - 1) 0)))), (7, vi (t.getD (i - 1) 0)), (6, vi ((i : Int) - 1)), (5, vi (u.length : Int)), (4, .ref qa), (3, .ref pa), (0, .ref e0), (1, .ref a), (2, .ref b)]) hx hb dX1_costByTails_200 hl (k := 2) rfl rfl (by decide) rfl (fun ls hl => ?_)
                    have hl : lv_has ls 12 [(9, vi (((j - 1 : Nat) : Int) - 1)), (11, vi (min ((ed w (t.drop i) (u.drop (j - 1))) + (wk w (kd (t.getD (i - 1) 0)))) ((ed w (t.drop (i - 1)) (u.drop j)) + (wk w (kd (u.getD (j - 1) 0)))))), (10, vi (rp w (t.getD (i - 1) 0) (u.getD (j - 1) 0))), (8, vi (wk w (kd (t.getD (i - 1) 0)))), (7, vi (t.getD (i - 1) 0)), (6, vi ((i : Int) - 1)), (5, vi (u.length : Int)), (4, .ref qa), (3, .ref pa), (0, .ref e0), (1, .ref a), (2, .ref b)] := (show ((((j : Int) - 1) + (-1)) : Int) = (((j - 1 : Nat) : Int) - 1) from by omega) ▸ hl
                    refine lv_goto (tgt := 132) hx hb dX1_costByTails_203 (by decide) ?_
                    exact ih132 (j - 1) _ (by omega) (SW.t (by omega) hi (by omega) hj2 hR2) (by omega) _ _ hP hD hS ls (lv_sub hl [0, 3, 4, 5, 6, 7, 8, 9, 10, 11] rfl)
              exact lp132 _ u.length _ (Nat.le_refl _) (SW.tf (by omega) hi) (Nat.lt_succ_self _) _ _ hP hD hS ls (lv_sub hl [0, 1, 2, 3, 4, 5, 6, 7, 8, 9] rfl)
        exact lp90 _ t.length r1 r2 h1 g2 h3 (Nat.le_refl _) (Or.inl ⟨rfl, rfl⟩) (by obtain rfl : j = 0 := (by omega); exact hR) (by obtain rfl : j = 0 := (by omega); exact hI) (Nat.lt_succ_self _) _ _ hP hD hS ls (lv_sub hl [0, 1, 2, 3, 4, 5, 6] rfl)
      · refine lv_aload_n hx hb dX1_costByTails_38 rfl (lv_at hl 4 rfl) ?_
        refine va_get (D := gD g) (ci := 1) (v := .ref ri) (C := RX1) (T := TX1) (N := 4) hx hb htl ck_X1 hown hKK.k (jat hPe hS ap_hPe) 0 rfl rfl 3 (by decide) (htl _ wd_3_17) (fun _ h9 => h9) rfl dX1_costByTails_39 ?_
        refine lv_iload hx hb dX1_costByTails_42 (lv_at hl 0 rfl) ?_
        refine lv_aload_n hx hb dX1_costByTails_44 rfl (lv_at hl 4 rfl) ?_
        refine va_get (D := gD g) (ci := 1) (v := .ref wt) (C := RX1) (T := TX1) (N := 4) hx hb htl ck_X1 hown hKK.k (jat hPe hS ap_hPe) 0 rfl rfl 0 (by decide) (htl _ wd_3_14) (fun _ h9 => h9) rfl dX1_costByTails_45 ?_
        refine lv_aload_n hx hb dX1_costByTails_48 rfl (lv_at hl 6 rfl) ?_
        refine lv_iload hx hb dX1_costByTails_49 (lv_at hl 0 rfl) ?_
        refine jk_Si (va_runV (As := [vi ((j : Int) - 1)]) (rest := [.ref wt, vi ((j : Int) - 1), .ref ri]) ⟨hx, hb, hml, hown, htl⟩ (m_X6_at l g b d u f2 hf2 ((j : Int) - 1) ⟨by omega, by omega⟩) (cwV 1 htl lk_X1_40 rfl rfl rfl cwV_X6_at ⟨Nat.le_of_ble_eq_true rfl, Nat.le_of_ble_eq_true rfl⟩) (jp_V hKK hS hAb (va_recv hKK.k (jat hPy hS ap_hPy) (ci := 6) (q0 := 0) rfl rfl) (jat hPy hS ap_hPy)) rfl rfl hl.1 rfl (lv_room (Nat.le_of_ble_eq_true rfl)) dX1_costByTails_51 ⟨Nat.le_of_ble_eq_true rfl, Nat.le_of_ble_eq_true rfl⟩) (fun z51 hz51 => ?_)
        subst hz51
        have ta := TT.tAt_b hf2 ((j : Int) - 1)
        rw [tAt_p (t := u) (j := j) (by omega) (by omega)] at ta ⊢
        refine jk_Si (va_runV (As := [vi (u.getD (j - 1) 0)]) (rest := [vi ((j : Int) - 1), .ref ri]) ⟨hx, hb, hml, hown, htl⟩ (m_X9_ofToken l g wt wa w (u.getD (j - 1) 0) ⟨by omega, by omega⟩) (cwV 1 htl lk_X1_44 rfl rfl rfl cwV_X9_ofToken ⟨Nat.le_of_ble_eq_true rfl, Nat.le_of_ble_eq_true rfl⟩) (jp_V hKK hS hAb (va_recv hKK.k (jat hPe hS ap_hPe) (ci := 8) (q0 := 1) rfl rfl) (va_P.sub (jat hPe hS ap_hPe) [1, 2] rfl)) rfl rfl hl.1 rfl (lv_room (Nat.le_of_ble_eq_true rfl)) dX1_costByTails_54 ⟨Nat.le_of_ble_eq_true rfl, Nat.le_of_ble_eq_true rfl⟩) (fun z54 hz54 => ?_)
        subst hz54
        have tw := wk_b hw (kd (u.getD (j - 1) 0))
        refine jr_iast hx hb hKK.k hP hD hS 2 rfl (j - 1) (by omega) (by omega) (by omega) dX1_costByTails_57 (fun H locs hP hD hS => ?_)
        have hP : PP g [aI g r1 61 h1, aI g r2 61 g2, aI g ri 60 (ju h3 (j - 1) (wk w (kd (u.getD (j - 1) 0))))] H := hP
        have hD : va_D A [aI g r1 61 h1, aI g r2 61 g2, aI g ri 60 (ju h3 (j - 1) (wk w (kd (u.getD (j - 1) 0))))] := hD
        refine lv_aload_n hx hb dX1_costByTails_58 rfl (lv_at hl 3 rfl) ?_
        refine lv_iload hx hb dX1_costByTails_59 (lv_at hl 0 rfl) ?_
        refine lv_aload_n hx hb dX1_costByTails_61 rfl (lv_at hl 3 rfl) ?_
        refine lv_iload hx hb dX1_costByTails_62 (lv_at hl 0 rfl) ?_
        refine jr_iconst hx hb dX1_costByTails_64 ?_
        refine jr_iadd hx hb dX1_costByTails_65 ?_
        refine jr_iald hx hb hKK.k hP 0 rfl j (by omega) (by omega) (by omega) dX1_costByTails_66 ?_
        refine jr_nm (b := (ed w [] (u.drop j))) (hR.nil2 (Nat.le_refl _) (by omega)) ?_
        refine lv_aload_n hx hb dX1_costByTails_67 rfl (lv_at hl 4 rfl) ?_
        refine va_get (D := gD g) (ci := 1) (v := .ref ri) (C := RX1) (T := TX1) (N := 4) hx hb htl ck_X1 hown hKK.k (jat hPe hS ap_hPe) 0 rfl rfl 3 (by decide) (htl _ wd_3_17) (fun _ h9 => h9) rfl dX1_costByTails_68 ?_
        refine lv_iload hx hb dX1_costByTails_71 (lv_at hl 0 rfl) ?_
        refine jr_iald hx hb hKK.k hP 2 rfl (j - 1) (by omega) (by omega) (by omega) dX1_costByTails_73 ?_
        refine jr_nm (b := (wk w (kd (u.getD (j - 1) 0)))) (ju_s _ _ _) ?_
        refine jr_iadd hx hb dX1_costByTails_74 ?_
        refine jr_iast hx hb hKK.k hP hD hS 0 rfl (j - 1) (by omega) (by omega) (by omega) dX1_costByTails_75 (fun H locs hP hD hS => ?_)
        have hP : PP g [aI g r1 61 (ju h1 (j - 1) ((ed w [] (u.drop j)) + (wk w (kd (u.getD (j - 1) 0))))), aI g r2 61 g2, aI g ri 60 (ju h3 (j - 1) (wk w (kd (u.getD (j - 1) 0))))] H := hP
        have hD : va_D A [aI g r1 61 (ju h1 (j - 1) ((ed w [] (u.drop j)) + (wk w (kd (u.getD (j - 1) 0))))), aI g r2 61 g2, aI g ri 60 (ju h3 (j - 1) (wk w (kd (u.getD (j - 1) 0))))] := hD
        refine jr_iinc (lv' := [(6, vi (((j : Int) - 1) + (-1))), (5, vi (u.length : Int)), (4, .ref r2), (3, .ref r1), (0, .ref e0), (1, .ref a), (2, .ref b)]) hx hb dX1_costByTails_76 hl (k := 0) rfl rfl (by decide) rfl (fun ls hl => ?_)
        have hl : lv_has ls 12 [(6, vi (((j - 1 : Nat) : Int) - 1)), (5, vi (u.length : Int)), (4, .ref r2), (3, .ref r1), (0, .ref e0), (1, .ref a), (2, .ref b)] := (show ((((j : Int) - 1) + (-1)) : Int) = (((j - 1 : Nat) : Int) - 1) from by omega) ▸ hl
        refine lv_goto (tgt := 33) hx hb dX1_costByTails_79 (by decide) ?_
        exact ih33 (j - 1) _ _ (by omega) (SW.t0 (by omega) hj2 hR) (hI.t (by omega)) (by omega) _ _ hP hD hS ls (lv_sub hl [0, 1, 2, 3, 4, 5, 6] rfl)
  exact lp33 _ u.length (ju g1 u.length 0) g3 (Nat.le_refl _) (SW.z) (fun k h1 h2 => absurd h2 (by omega)) (Nat.lt_succ_self _) _ _ hP hD hS ls (lv_sub hl [0, 1, 2, 3, 4, 5, 6] rfl)
set_option maxHeartbeats 4000000 in
set_option maxRecDepth 100000 in
theorem m_X1_share (l : Launch) (g : GT) (e0 wt wa r1 r2 ri : Nat) (w : Nat → Int) (hw : WB w) (a c : Nat) (t : List Int) (f : Nat → Int) (hf : TT t f) (b d : Nat) (u : List Int) (f2 : Nat → Int) (hf2 : TT u f2) (pd : Int) (hpd : 0 ≤ pd ∧ pd ≤ 1000000) : Met l yX1_share (ws_ yX1_share cX1_share 5 (some .int)) (rmm 3 0 0) (jPc g [.ref e0, .ref a, .ref b, vi pd] (fun H => PP g [ob e0 1 [.ref wt, .ref r1, .ref r2, .ref ri], ob wt 8 [.ref wa], aI g wa 4 w] H ∧ PP g [ob a 6 [.ref c, vi (t.length : Int)], aI g c 60 f] H ∧ PP g [ob b 6 [.ref d, vi (u.length : Int)], aI g d 60 f2] H)) (jSi (fun z => z = lkf w t u pd)) 0 0 jN := by
  refine jb_M (by decide) (Nat.le_of_ble_eq_true rfl) ?_
  intro p e s m below meth cq hx hb hr hml hown htl hlk hnm hKK hpre ls hl
  have hown : s.vm.findClass RX1 = some m.cls := hown
  have hl : lv_has ls 5 [(0, .ref e0), (1, .ref a), (2, .ref b), (3, vi pd)] := hl
  obtain ⟨hPe, hPx, hPy⟩ := hpre
  have hL := hf.len
  have hL2 := hf2.len
  refine lv_aload_n hx hb dX1_share_0 rfl (lv_at hl 0 rfl) ?_
  refine va_get (D := gD g) (ci := 1) (v := .ref wt) (C := RX1) (T := TX1) (N := 4) hx hb htl ck_X1 hown hKK.k hPe 0 rfl rfl 0 (by decide) (htl _ wd_3_14) (fun _ h9 => h9) rfl dX1_share_1 ?_
  refine lv_aload_n hx hb dX1_share_4 rfl (lv_at hl 1 rfl) ?_
  refine jk_Si (va_runV (As := [.ref a]) (rest := []) ⟨hx, hb, hml, hown, htl⟩ (m_X9_ofText l g wt wa w hw a c t f hf ) (cwV 1 htl lk_X1_70 rfl rfl rfl cwV_X9_ofText ⟨Nat.le_of_ble_eq_true rfl, Nat.le_of_ble_eq_true rfl⟩) (jp_V hKK (va_S.rf (A := jN)) jNb (va_recv hKK.k hPe (ci := 8) (q0 := 1) rfl rfl) ⟨(va_P.sub hPe [1, 2] rfl), hPx⟩) rfl rfl hl.1 rfl (lv_room (Nat.le_of_ble_eq_true rfl)) dX1_share_5 ⟨Nat.le_of_ble_eq_true rfl, Nat.le_of_ble_eq_true rfl⟩) (fun z5 hz5 => ?_)
  subst hz5
  have tx := wtA_b hw t 0
  have tx1 := tx
  refine lv_aload_n hx hb dX1_share_8 rfl (lv_at hl 0 rfl) ?_
  refine va_get (D := gD g) (ci := 1) (v := .ref wt) (C := RX1) (T := TX1) (N := 4) hx hb htl ck_X1 hown hKK.k hPe 0 rfl rfl 0 (by decide) (htl _ wd_3_14) (fun _ h9 => h9) rfl dX1_share_9 ?_
  refine lv_aload_n hx hb dX1_share_12 rfl (lv_at hl 2 rfl) ?_
  refine jk_Si (va_runV (As := [.ref b]) (rest := [vi (wtA w t 0)]) ⟨hx, hb, hml, hown, htl⟩ (m_X9_ofText l g wt wa w hw b d u f2 hf2 ) (cwV 1 htl lk_X1_70 rfl rfl rfl cwV_X9_ofText ⟨Nat.le_of_ble_eq_true rfl, Nat.le_of_ble_eq_true rfl⟩) (jp_V hKK (va_S.rf (A := jN)) jNb (va_recv hKK.k hPe (ci := 8) (q0 := 1) rfl rfl) ⟨(va_P.sub hPe [1, 2] rfl), hPy⟩) rfl rfl hl.1 rfl (lv_room (Nat.le_of_ble_eq_true rfl)) dX1_share_13 ⟨Nat.le_of_ble_eq_true rfl, Nat.le_of_ble_eq_true rfl⟩) (fun z13 hz13 => ?_)
  subst hz13
  have tx := wtA_b hw u 0
  refine jr_mmax hx hb (by rw [hml]; exact hl.1.symm) hown (htl _ wd_21_21) (htl _ wd_15_8) (htl _ wd_15_9) (htl _ wd_15_10) (Nat.le_of_ble_eq_true rfl) (Nat.le_of_ble_eq_true rfl) (Nat.le_of_ble_eq_true rfl) (Nat.le_of_ble_eq_true rfl) ⟨by omega, by omega⟩ ⟨by omega, by omega⟩ dX1_share_16 ?_
  refine lv_istore (lv' := [(4, vi (max (wtA w t 0) (wtA w u 0))), (0, .ref e0), (1, .ref a), (2, .ref b), (3, vi pd)]) hx hb dX1_share_19 hl (by decide) rfl (fun ls hl => ?_)
  refine lv_iload hx hb dX1_share_21 (lv_at hl 0 rfl) ?_
  refine jr_ifle (tgt := 32) hx hb dX1_share_23 (by decide) ⟨by omega, by omega⟩ (fun c23 => ?_) (fun c23 => ?_)
  · refine jr_iconst hx hb dX1_share_32 ?_
    exact je_Si hx hb hr hlk rfl (by unfold lkf; first | rw [if_pos (by omega)] | rw [if_neg (by omega)]) dX1_share_33
  · refine lv_iload_n hx hb dX1_share_26 rfl (lv_at hl 4 rfl) ?_
    refine lv_iload hx hb dX1_share_27 (lv_at hl 0 rfl) ?_
    refine jr_lt (tgt := 34) hx hb dX1_share_29 (by decide) ⟨by omega, by omega⟩ ⟨by omega, by omega⟩ (fun c29 => ?_) (fun c29 => ?_)
    · refine jr_bipush hx hb dX1_share_34 (by decide) ?_
      refine lv_iload hx hb dX1_share_36 (lv_at hl 0 rfl) ?_
      refine lv_iload_n hx hb dX1_share_38 rfl (lv_at hl 4 rfl) ?_
      refine jr_isub hx hb dX1_share_39 ?_
      refine jr_imul hx hb dX1_share_40 ?_
      refine lv_iload hx hb dX1_share_41 (lv_at hl 0 rfl) ?_
      refine jr_idiv hx hb (by omega) (by omega) (by omega) (by omega) dX1_share_43 ?_
      exact je_Si hx hb hr hlk rfl (by unfold lkf; first | rw [if_pos (by omega)] | rw [if_neg (by omega)]) dX1_share_44
    · refine jr_iconst hx hb dX1_share_32 ?_
      exact je_Si hx hb hr hlk rfl (by unfold lkf; first | rw [if_pos (by omega)] | rw [if_neg (by omega)]) dX1_share_33
set_option maxHeartbeats 4000000 in
set_option maxRecDepth 100000 in
theorem m_X1_costAtLeast (l : Launch) (g : GT) (e0 wt wa r1 r2 ri : Nat) (w : Nat → Int) (hw : WB w) (a c : Nat) (t : List Int) (f : Nat → Int) (hf : TT t f) (b d : Nat) (u : List Int) (f2 : Nat → Int) (hf2 : TT u f2) : Met l yX1_costAtLeast (ws_ yX1_costAtLeast cX1_costAtLeast 6 (some .int)) (rmm 2 0 0) (jPc g [.ref e0, .ref a, .ref b] (fun H => PP g [ob e0 1 [.ref wt, .ref r1, .ref r2, .ref ri], ob wt 8 [.ref wa], aI g wa 4 w] H ∧ PP g [ob a 6 [.ref c, vi (t.length : Int)], aI g c 60 f] H ∧ PP g [ob b 6 [.ref d, vi (u.length : Int)], aI g d 60 f2] H)) (jSi (fun z => z = calA w t u 4)) 0 0 jN := by
  refine jb_M (by decide) (Nat.le_of_ble_eq_true rfl) ?_
  intro p e s m below meth cq hx hb hr hml hown htl hlk hnm hKK hpre ls hl
  have hown : s.vm.findClass RX1 = some m.cls := hown
  have hl : lv_has ls 6 [(0, .ref e0), (1, .ref a), (2, .ref b)] := hl
  obtain ⟨hPe, hPx, hPy⟩ := hpre
  have hL := hf.len
  have hL2 := hf2.len
  refine jr_iconst hx hb dX1_costAtLeast_0 ?_
  refine lv_istore_n (lv' := [(3, vi 0), (0, .ref e0), (1, .ref a), (2, .ref b)]) hx hb dX1_costAtLeast_1 rfl hl (by decide) rfl (fun ls hl => ?_)
  refine jr_iconst hx hb dX1_costAtLeast_2 ?_
  refine lv_istore (lv' := [(4, vi 0), (3, vi 0), (0, .ref e0), (1, .ref a), (2, .ref b)]) hx hb dX1_costAtLeast_3 hl (by decide) rfl (fun ls hl => ?_)
  have lp5 : ∀ (N : Nat) (k : Nat) (n : Int), (k ≤ 4) → (n = calA w t u k) → 4 - k < N → ∀ ls : Array Slot, lv_has ls 6 [(4, vi (k : Int)), (3, vi n), (0, .ref e0), (1, .ref a), (2, .ref b)] → W p l e (rmm 2 0 0) s m ([.ref e0, .ref a, .ref b] : List Value).toArray below meth cq s.heap [] 0 0 (MQ below (jSi (fun z => z = calA w t u 4)) ([.ref e0, .ref a, .ref b] : List Value).toArray s 0 0 jN) (F0 m 5 ls []) := by
    intro N
    induction N with
    | zero => intro k n hk hF hM; exact absurd hM (Nat.not_lt_zero _)
    | succ N ih5 =>
      intro k n hk hF hM ls hl
      refine lv_iload hx hb dX1_costAtLeast_5 (lv_at hl 0 rfl) ?_
      refine jr_iconst hx hb dX1_costAtLeast_7 ?_
      refine jr_ge (tgt := 50) hx hb dX1_costAtLeast_8 (by decide) ⟨by omega, by omega⟩ ⟨by omega, by omega⟩ (fun c8 => ?_) (fun c8 => ?_)
      · refine lv_iload_n hx hb dX1_costAtLeast_50 rfl (lv_at hl 1 rfl) ?_
        exact je_Si hx hb hr hlk rfl (by obtain rfl : k = 4 := (by omega); exact hF) dX1_costAtLeast_51
      · refine lv_aload_n hx hb dX1_costAtLeast_11 rfl (lv_at hl 3 rfl) ?_
        refine lv_iload hx hb dX1_costAtLeast_12 (lv_at hl 0 rfl) ?_
        refine jk_Si (va_runV (As := [vi (k : Int)]) (rest := []) ⟨hx, hb, hml, hown, htl⟩ (m_X6_countKind l g a c t f hf (k : Int) ⟨by omega, by omega⟩) (cwV 1 htl lk_X1_61 rfl rfl rfl cwV_X6_countKind ⟨Nat.le_of_ble_eq_true rfl, Nat.le_of_ble_eq_true rfl⟩) (jp_V hKK (va_S.rf (A := jN)) jNb (va_recv hKK.k hPx (ci := 6) (q0 := 0) rfl rfl) hPx) rfl rfl hl.1 rfl (lv_room (Nat.le_of_ble_eq_true rfl)) dX1_costAtLeast_14 ⟨Nat.le_of_ble_eq_true rfl, Nat.le_of_ble_eq_true rfl⟩) (fun z14 hz14 => ?_)
        subst hz14
        have tc := cntA_b t (k : Int) 0
        have tc1 := tc
        refine lv_aload_n hx hb dX1_costAtLeast_17 rfl (lv_at hl 4 rfl) ?_
        refine lv_iload hx hb dX1_costAtLeast_18 (lv_at hl 0 rfl) ?_
        refine jk_Si (va_runV (As := [vi (k : Int)]) (rest := [vi (cntA t (k : Int) 0)]) ⟨hx, hb, hml, hown, htl⟩ (m_X6_countKind l g b d u f2 hf2 (k : Int) ⟨by omega, by omega⟩) (cwV 1 htl lk_X1_61 rfl rfl rfl cwV_X6_countKind ⟨Nat.le_of_ble_eq_true rfl, Nat.le_of_ble_eq_true rfl⟩) (jp_V hKK (va_S.rf (A := jN)) jNb (va_recv hKK.k hPy (ci := 6) (q0 := 0) rfl rfl) hPy) rfl rfl hl.1 rfl (lv_room (Nat.le_of_ble_eq_true rfl)) dX1_costAtLeast_20 ⟨Nat.le_of_ble_eq_true rfl, Nat.le_of_ble_eq_true rfl⟩) (fun z20 hz20 => ?_)
        subst hz20
        have tc := cntA_b u (k : Int) 0
        refine jr_isub hx hb dX1_costAtLeast_23 ?_
        refine jr_mabs hx hb (by rw [hml]; exact hl.1.symm) hown (htl _ wd_21_8) (htl _ wd_21_9) (htl _ wd_15_9) (htl _ wd_21_10) (Nat.le_of_ble_eq_true rfl) (Nat.le_of_ble_eq_true rfl) (Nat.le_of_ble_eq_true rfl) (Nat.le_of_ble_eq_true rfl) ⟨by omega, by omega⟩ dX1_costAtLeast_24 ?_
        refine lv_istore (lv' := [(5, vi (if 0 ≤ ((cntA t (k : Int) 0) - (cntA u (k : Int) 0)) then ((cntA t (k : Int) 0) - (cntA u (k : Int) 0)) else 0 - ((cntA t (k : Int) 0) - (cntA u (k : Int) 0)))), (4, vi (k : Int)), (3, vi n), (0, .ref e0), (1, .ref a), (2, .ref b)]) hx hb dX1_costAtLeast_27 hl (by decide) rfl (fun ls hl => ?_)
        refine lv_iload_n hx hb dX1_costAtLeast_29 rfl (lv_at hl 2 rfl) ?_
        refine lv_iload hx hb dX1_costAtLeast_30 (lv_at hl 0 rfl) ?_
        refine lv_aload_n hx hb dX1_costAtLeast_32 rfl (lv_at hl 3 rfl) ?_
        refine va_get (D := gD g) (ci := 1) (v := .ref wt) (C := RX1) (T := TX1) (N := 4) hx hb htl ck_X1 hown hKK.k hPe 0 rfl rfl 0 (by decide) (htl _ wd_3_14) (fun _ h9 => h9) rfl dX1_costAtLeast_33 ?_
        refine lv_iload hx hb dX1_costAtLeast_36 (lv_at hl 1 rfl) ?_
        refine jk_Si (va_runV (As := [vi (k : Int)]) (rest := [vi (if 0 ≤ ((cntA t (k : Int) 0) - (cntA u (k : Int) 0)) then ((cntA t (k : Int) 0) - (cntA u (k : Int) 0)) else 0 - ((cntA t (k : Int) 0) - (cntA u (k : Int) 0))), vi n]) ⟨hx, hb, hml, hown, htl⟩ (m_X9_ofKind l g wt wa w (k : Int) ⟨by omega, by omega⟩) (cwV 1 htl lk_X1_67 rfl rfl rfl cwV_X9_ofKind ⟨Nat.le_of_ble_eq_true rfl, Nat.le_of_ble_eq_true rfl⟩) (jp_V hKK (va_S.rf (A := jN)) jNb (va_recv hKK.k hPe (ci := 8) (q0 := 1) rfl rfl) (va_P.sub hPe [1, 2] rfl)) rfl rfl hl.1 rfl (lv_room (Nat.le_of_ble_eq_true rfl)) dX1_costAtLeast_38 ⟨Nat.le_of_ble_eq_true rfl, Nat.le_of_ble_eq_true rfl⟩) (fun z38 hz38 => ?_)
        subst hz38
        have tw := wk_b hw (k : Int)
        refine jr_imul hx hb dX1_costAtLeast_41 ?_
        refine jr_iadd hx hb dX1_costAtLeast_42 ?_
        refine lv_istore_n (lv' := [(3, vi (n + ((if 0 ≤ ((cntA t (k : Int) 0) - (cntA u (k : Int) 0)) then ((cntA t (k : Int) 0) - (cntA u (k : Int) 0)) else 0 - ((cntA t (k : Int) 0) - (cntA u (k : Int) 0))) * (wk w (k : Int))))), (5, vi (if 0 ≤ ((cntA t (k : Int) 0) - (cntA u (k : Int) 0)) then ((cntA t (k : Int) 0) - (cntA u (k : Int) 0)) else 0 - ((cntA t (k : Int) 0) - (cntA u (k : Int) 0)))), (4, vi (k : Int)), (0, .ref e0), (1, .ref a), (2, .ref b)]) hx hb dX1_costAtLeast_43 rfl hl (by decide) rfl (fun ls hl => ?_)
        refine jr_iinc (lv' := [(4, vi ((k : Int) + 1)), (3, vi (n + ((if 0 ≤ ((cntA t (k : Int) 0) - (cntA u (k : Int) 0)) then ((cntA t (k : Int) 0) - (cntA u (k : Int) 0)) else 0 - ((cntA t (k : Int) 0) - (cntA u (k : Int) 0))) * (wk w (k : Int))))), (5, vi (if 0 ≤ ((cntA t (k : Int) 0) - (cntA u (k : Int) 0)) then ((cntA t (k : Int) 0) - (cntA u (k : Int) 0)) else 0 - ((cntA t (k : Int) 0) - (cntA u (k : Int) 0)))), (0, .ref e0), (1, .ref a), (2, .ref b)]) hx hb dX1_costAtLeast_44 hl (k := 2) rfl rfl (by decide) rfl (fun ls hl => ?_)
        refine lv_goto (tgt := 5) hx hb dX1_costAtLeast_47 (by decide) ?_
        exact ih5 (k + 1) _ (by omega) (by rw [calA, hF]) (by omega) ls (lv_sub hl [0, 1, 3, 4, 5] rfl)
  exact lp5 _ 0 0 (by omega) (rfl) (Nat.lt_succ_self _) ls (lv_sub hl [0, 1, 2, 3, 4] rfl)
set_option maxHeartbeats 4000000 in
set_option maxRecDepth 100000 in
theorem m_X1_compareAtMost (l : Launch) (g : GT) (e0 wt wa r1 r2 ri : Nat) (w : Nat → Int) (hw : WB w) (a c : Nat) (t : List Int) (f : Nat → Int) (hf : TT t f) (b d : Nat) (u : List Int) (f2 : Nat → Int) (hf2 : TT u f2) : Met l yX1_compareAtMost (ws_ yX1_compareAtMost cX1_compareAtMost 3 (some .int)) (rmm 4 0 0) (jPc g [.ref e0, .ref a, .ref b] (fun H => PP g [ob e0 1 [.ref wt, .ref r1, .ref r2, .ref ri], ob wt 8 [.ref wa], aI g wa 4 w] H ∧ PP g [ob a 6 [.ref c, vi (t.length : Int)], aI g c 60 f] H ∧ PP g [ob b 6 [.ref d, vi (u.length : Int)], aI g d 60 f2] H)) (jSi (fun z => z = lkf w t u (calA w t u 4))) 0 0 jN := by
  refine jb_M (by decide) (Nat.le_of_ble_eq_true rfl) ?_
  intro p e s m below meth cq hx hb hr hml hown htl hlk hnm hKK hpre ls hl
  have hown : s.vm.findClass RX1 = some m.cls := hown
  have hl : lv_has ls 3 [(0, .ref e0), (1, .ref a), (2, .ref b)] := hl
  obtain ⟨hPe, hPx, hPy⟩ := hpre
  have hL := hf.len
  have hL2 := hf2.len
  refine lv_aload_n hx hb dX1_compareAtMost_0 rfl (lv_at hl 0 rfl) ?_
  refine lv_aload_n hx hb dX1_compareAtMost_1 rfl (lv_at hl 1 rfl) ?_
  refine lv_aload_n hx hb dX1_compareAtMost_2 rfl (lv_at hl 2 rfl) ?_
  refine lv_aload_n hx hb dX1_compareAtMost_3 rfl (lv_at hl 0 rfl) ?_
  refine lv_aload_n hx hb dX1_compareAtMost_4 rfl (lv_at hl 1 rfl) ?_
  refine lv_aload_n hx hb dX1_compareAtMost_5 rfl (lv_at hl 2 rfl) ?_
  refine jk_Si (va_runV (As := [.ref a, .ref b]) (rest := [.ref b, .ref a, .ref e0]) ⟨hx, hb, hml, hown, htl⟩ (m_X1_costAtLeast l g e0 wt wa r1 r2 ri w hw a c t f hf b d u f2 hf2 ) (cwV 2 htl lk_X1_58 rfl rfl rfl cwV_X1_costAtLeast ⟨Nat.le_of_ble_eq_true rfl, Nat.le_of_ble_eq_true rfl⟩) (jp_V hKK (va_S.rf (A := jN)) jNb (va_recv hKK.k hPe (ci := 1) (q0 := 0) rfl rfl) ⟨hPe, hPx, hPy⟩) rfl rfl hl.1 rfl (lv_room (Nat.le_of_ble_eq_true rfl)) dX1_compareAtMost_6 ⟨Nat.le_of_ble_eq_true rfl, Nat.le_of_ble_eq_true rfl⟩) (fun z6 hz6 => ?_)
  subst hz6
  have tca := calA_b hw hf.len hf2.len 4
  refine jk_Si (va_runV (As := [.ref a, .ref b, vi (calA w t u 4)]) (rest := []) ⟨hx, hb, hml, hown, htl⟩ (m_X1_share l g e0 wt wa r1 r2 ri w hw a c t f hf b d u f2 hf2 (calA w t u 4) (by omega)) (cwV 3 htl lk_X1_54 rfl rfl rfl cwV_X1_share ⟨Nat.le_of_ble_eq_true rfl, Nat.le_of_ble_eq_true rfl⟩) (jp_V hKK (va_S.rf (A := jN)) jNb (va_recv hKK.k hPe (ci := 1) (q0 := 0) rfl rfl) ⟨hPe, hPx, hPy⟩) rfl rfl hl.1 rfl (lv_room (Nat.le_of_ble_eq_true rfl)) dX1_compareAtMost_9 ⟨Nat.le_of_ble_eq_true rfl, Nat.le_of_ble_eq_true rfl⟩) (fun z9 hz9 => ?_)
  subst hz9
  have tlk := lkf_b w t u (paid := (calA w t u 4)) (by omega)
  exact je_Si hx hb hr hlk rfl (rfl) dX1_compareAtMost_12
set_option maxHeartbeats 4000000 in
set_option maxRecDepth 100000 in
theorem m_X1_compare (l : Launch) (g : GT) (e0 wt wa r1 r2 ri : Nat) (w : Nat → Int) (hw : WB w) (g1 g2 g3 : Nat → Int) (a c : Nat) (t : List Int) (f : Nat → Int) (hf : TT t f) (b d : Nat) (u : List Int) (f2 : Nat → Int) (hf2 : TT u f2) (hne : ∀ x ∈ ([e0, wt, wa] : List Nat), x ∉ ([r1, r2, ri] : List Nat)) (hnx : ∀ x ∈ ([a, c] : List Nat), x ∉ ([r1, r2, ri] : List Nat)) (hny : ∀ x ∈ ([b, d] : List Nat), x ∉ ([r1, r2, ri] : List Nat)) : Met l yX1_compare (ws_ yX1_compare cX1_compare 3 (some .int)) (rmm 4 0 0) (jPc g [.ref e0, .ref a, .ref b] (fun H => PP g [aI g r1 61 g1, aI g r2 61 g2, aI g ri 60 g3] H ∧ va_D (fun q => gb g ≤ q) [aI g r1 61 g1, aI g r2 61 g2, aI g ri 60 g3] ∧ PP g [ob e0 1 [.ref wt, .ref r1, .ref r2, .ref ri], ob wt 8 [.ref wa], aI g wa 4 w] H ∧ PP g [ob a 6 [.ref c, vi (t.length : Int)], aI g c 60 f] H ∧ PP g [ob b 6 [.ref d, vi (u.length : Int)], aI g d 60 f2] H)) (jQi (fun z H1 => z = lk w t u ∧ ∃ g1 g2 g3 : Nat → Int, PP g [aI g r1 61 g1, aI g r2 61 g2, aI g ri 60 g3] H1) (jA [aI g r1 61 g1, aI g r2 61 g2, aI g ri 60 g3])) 0 0 (jA [aI g r1 61 g1, aI g r2 61 g2, aI g ri 60 g3]) := by
  refine jb_M (by decide) (Nat.le_of_ble_eq_true rfl) ?_
  intro p e s m below meth cq hx hb hr hml hown htl hlk hnm hKK hpre ls hl
  have hown : s.vm.findClass RX1 = some m.cls := hown
  have hl : lv_has ls 3 [(0, .ref e0), (1, .ref a), (2, .ref b)] := hl
  obtain ⟨hP, hD0, hPe, hPx, hPy⟩ := hpre
  have hL := hf.len
  have hL2 := hf2.len
  have ap_hPe : ∀ (k : Nat) (q : Nat × va_E), ([ob e0 1 [.ref wt, .ref r1, .ref r2, .ref ri], ob wt 8 [.ref wa], aI g wa 4 w] : va_W)[k]? = some q → ¬ (jA [aI g r1 61 g1, aI g r2 61 g2, aI g ri 60 g3]) q.1 := jap (hne)
  have ap_hPx : ∀ (k : Nat) (q : Nat × va_E), ([ob a 6 [.ref c, vi (t.length : Int)], aI g c 60 f] : va_W)[k]? = some q → ¬ (jA [aI g r1 61 g1, aI g r2 61 g2, aI g ri 60 g3]) q.1 := jap (hnx)
  have ap_hPy : ∀ (k : Nat) (q : Nat × va_E), ([ob b 6 [.ref d, vi (u.length : Int)], aI g d 60 f2] : va_W)[k]? = some q → ¬ (jA [aI g r1 61 g1, aI g r2 61 g2, aI g ri 60 g3]) q.1 := jap (hny)
  have hD : va_D (jA [aI g r1 61 g1, aI g r2 61 g2, aI g ri 60 g3]) [aI g r1 61 g1, aI g r2 61 g2, aI g ri 60 g3] := hD0.inD
  have hAb : ∀ q, (jA [aI g r1 61 g1, aI g r2 61 g2, aI g ri 60 g3]) q → gb g ≤ q := fun q h => hD0.inA h
  generalize hAe : jA [aI g r1 61 g1, aI g r2 61 g2, aI g ri 60 g3] = A at *
  have hS : va_S A s.heap s.heap [] := va_S.rf
  suffices K : ∀ (H : Heap) (locs : List Loc), PP g [aI g r1 61 g1, aI g r2 61 g2, aI g ri 60 g3] H → va_D A [aI g r1 61 g1, aI g r2 61 g2, aI g ri 60 g3] → va_S A s.heap H locs → ∀ ls : Array Slot, lv_has ls 3 [(0, .ref e0), (1, .ref a), (2, .ref b)] → W p l e (rmm 4 0 0) s m ([.ref e0, .ref a, .ref b] : List Value).toArray below meth cq H locs 0 0 (MQ below (jQi (fun z H1 => z = lk w t u ∧ ∃ g1 g2 g3 : Nat → Int, PP g [aI g r1 61 g1, aI g r2 61 g2, aI g ri 60 g3] H1) A) ([.ref e0, .ref a, .ref b] : List Value).toArray s 0 0 A) (F0 m 0 ls []) from K _ _ hP hD hS _ hl
  clear hl; intro H locs hP hD hS ls hl
  refine lv_aload_n hx hb dX1_compare_0 rfl (lv_at hl 0 rfl) ?_
  refine lv_aload_n hx hb dX1_compare_1 rfl (lv_at hl 1 rfl) ?_
  refine lv_aload_n hx hb dX1_compare_2 rfl (lv_at hl 2 rfl) ?_
  refine lv_aload_n hx hb dX1_compare_3 rfl (lv_at hl 0 rfl) ?_
  refine lv_aload_n hx hb dX1_compare_4 rfl (lv_at hl 1 rfl) ?_
  refine lv_aload_n hx hb dX1_compare_5 rfl (lv_at hl 2 rfl) ?_
  have hDc : va_D A [aI g r1 61 g1, aI g r2 61 g2, aI g ri 60 g3] := hD.sub [0, 1, 2] (by decide) rfl
  refine jk_Qi (va_runV (As := [.ref a, .ref b]) (rest := [.ref b, .ref a, .ref e0]) ⟨hx, hb, hml, hown, htl⟩ (m_X1_costByRows l g e0 wt wa r1 r2 ri w hw g1 g2 g3 a c t f hf b d u f2 hf2 (jdisR hD ap_hPe [0, 1, 2] [0, 1, 2] rfl rfl) (jdisR hD ap_hPx [0, 1] [0, 1, 2] rfl rfl) (jdisR hD ap_hPy [0, 1] [0, 1, 2] rfl rfl) ) (cwV 2 htl lk_X1_50 rfl rfl rfl cwV_X1_costByRows ⟨Nat.le_of_ble_eq_true rfl, Nat.le_of_ble_eq_true rfl⟩) (jp_V hKK hS hAb (va_recv hKK.k (jat hPe hS ap_hPe) (ci := 1) (q0 := 0) rfl rfl) ⟨hP, hDc.weaken (fun _ q _ h => hAb _ h), (jat hPe hS ap_hPe), (jat hPx hS ap_hPx), (jat hPy hS ap_hPy)⟩) rfl rfl hl.1 rfl (lv_room (Nat.le_of_ble_eq_true rfl)) dX1_compare_6 ⟨Nat.le_of_ble_eq_true rfl, Nat.le_of_ble_eq_true rfl⟩) hS (fun q _ h => hDc.inA h) (fun q h => hDc.inA h) (fun z6 H1 locs hz6 hzs hks hS => ?_)
  obtain ⟨hz6, gr1_6, gr2_6, gr3_6, hP1⟩ := hz6
  obtain ⟨hP, hD⟩ := jput (wc := [aI g r1 61 g1, aI g r2 61 g2, aI g ri 60 g3]) (w1 := [aI g r1 61 gr1_6, aI g r2 61 gr2_6, aI g ri 60 gr3_6]) hP hD [0, 1, 2] rfl rfl hks (fun q _ h => h) hP1
  clear hzs hks; generalize H1 = H at hP hD hS ⊢
  have hP : PP g [aI g r1 61 gr1_6, aI g r2 61 gr2_6, aI g ri 60 gr3_6] H := hP
  have hD : va_D A [aI g r1 61 gr1_6, aI g r2 61 gr2_6, aI g ri 60 gr3_6] := hD
  subst hz6
  have td := D_b hw t u t.length u.length
  refine jk_Si (va_runV (As := [.ref a, .ref b, vi (D w t u t.length u.length)]) (rest := []) ⟨hx, hb, hml, hown, htl⟩ (m_X1_share l g e0 wt wa r1 r2 ri w hw a c t f hf b d u f2 hf2 (D w t u t.length u.length) (by omega)) (cwV 3 htl lk_X1_54 rfl rfl rfl cwV_X1_share ⟨Nat.le_of_ble_eq_true rfl, Nat.le_of_ble_eq_true rfl⟩) (jp_V hKK hS hAb (va_recv hKK.k (jat hPe hS ap_hPe) (ci := 1) (q0 := 0) rfl rfl) ⟨(jat hPe hS ap_hPe), (jat hPx hS ap_hPx), (jat hPy hS ap_hPy)⟩) rfl rfl hl.1 rfl (lv_room (Nat.le_of_ble_eq_true rfl)) dX1_compare_9 ⟨Nat.le_of_ble_eq_true rfl, Nat.le_of_ble_eq_true rfl⟩) (fun z9 hz9 => ?_)
  subst hz9
  have tlk := lkf_b w t u (paid := (D w t u t.length u.length)) (by omega)
  exact je_Qi hx hb hr hlk rfl hS (⟨rfl, _, _, _, hP⟩) dX1_compare_12
