
theorem lk_X7_11 : GoodIn WSL (va_wsS RX7 11 yX7_kindIn (ws_ yX7_kindIn cX7_kindIn 1 (some .int))) := gd_app (List.forall_mem_cons.mpr ⟨wd_32_11, List.forall_mem_cons.mpr ⟨wd_8_8, List.forall_mem_cons.mpr ⟨wd_8_9, fun _ h => nomatch h⟩⟩⟩) (gd_ wd_8_10)
theorem lk_X3_37 : GoodIn WSL (wsV RX3 37 RX6 yX6_makeEmpty (ws_ yX6_makeEmpty cX6_makeEmpty 1 none)) := gd_app (List.forall_mem_cons.mpr ⟨wd_29_2, List.forall_mem_cons.mpr ⟨wd_13_2, List.forall_mem_cons.mpr ⟨wd_13_3, List.forall_mem_cons.mpr ⟨wd_1_13, fun _ h => nomatch h⟩⟩⟩⟩) (gd_ wd_13_4)
theorem lk_X3_25 : GoodIn WSL (wsV RX3 25 RX6 yX6_size (ws_ yX6_size cX6_size 1 (some .int))) := gd_app (List.forall_mem_cons.mpr ⟨wd_29_3, List.forall_mem_cons.mpr ⟨wd_8_3, List.forall_mem_cons.mpr ⟨wd_8_4, List.forall_mem_cons.mpr ⟨wd_1_13, fun _ h => nomatch h⟩⟩⟩⟩) (gd_ wd_8_5)
theorem lk_X3_29 : GoodIn WSL (wsV RX3 29 RX6 yX6_at (ws_ yX6_at cX6_at 2 (some .int))) := gd_app (List.forall_mem_cons.mpr ⟨wd_29_4, List.forall_mem_cons.mpr ⟨wd_7_7, List.forall_mem_cons.mpr ⟨wd_7_8, List.forall_mem_cons.mpr ⟨wd_1_13, fun _ h => nomatch h⟩⟩⟩⟩) (gd_ wd_7_9)
theorem lk_X3_40 : GoodIn WSL (va_wsS RX3 40 yX7_kindIn (ws_ yX7_kindIn cX7_kindIn 1 (some .int))) := gd_app (List.forall_mem_cons.mpr ⟨wd_29_5, List.forall_mem_cons.mpr ⟨wd_8_8, List.forall_mem_cons.mpr ⟨wd_8_9, fun _ h => nomatch h⟩⟩⟩) (gd_ wd_8_10)
theorem lk_X3_49 : GoodIn WSL (wsV RX3 49 RX6 yX6_put (ws_ yX6_put cX6_put 2 none)) := gd_app (List.forall_mem_cons.mpr ⟨wd_29_7, List.forall_mem_cons.mpr ⟨wd_9_23, List.forall_mem_cons.mpr ⟨wd_10_0, List.forall_mem_cons.mpr ⟨wd_1_13, fun _ h => nomatch h⟩⟩⟩⟩) (gd_ wd_10_1)
theorem lk_X3_45 : GoodIn WSL (va_wsS RX3 45 yX7_codeOf (ws_ yX7_codeOf cX7_codeOf 2 (some .int))) := gd_app (List.forall_mem_cons.mpr ⟨wd_29_6, List.forall_mem_cons.mpr ⟨wd_9_20, List.forall_mem_cons.mpr ⟨wd_8_9, fun _ h => nomatch h⟩⟩⟩) (gd_ wd_9_21)
theorem lk_X3_21 : GoodIn WSL (va_wsS RX3 21 yX3_copyPlain (ws_ yX3_copyPlain cX3_copyPlain 5 none)) := gd_app (List.forall_mem_cons.mpr ⟨wd_28_23, List.forall_mem_cons.mpr ⟨wd_29_0, List.forall_mem_cons.mpr ⟨wd_2_6, fun _ h => nomatch h⟩⟩⟩) (gd_ wd_29_1)
theorem cwS_X3_copyPlain : yX3_copyPlain.cls ≠ "java/lang/invoke/MethodHandle" ∧ yX3_copyPlain.cls ≠ "java/lang/invoke/VarHandle" ∧ (parseMethodDescriptor yX3_copyPlain.desc).map (fun d => d.parameters.length) = some 2 := by decide +kernel
theorem lk_X3_33 : GoodIn WSL (va_wsS RX3 33 yX3_hasPair (ws_ yX3_hasPair cX3_hasPair 5 (some .boolean))) := gd_app (List.forall_mem_cons.mpr ⟨wd_29_8, List.forall_mem_cons.mpr ⟨wd_29_9, List.forall_mem_cons.mpr ⟨wd_2_6, fun _ h => nomatch h⟩⟩⟩) (gd_ wd_29_10)
theorem cwS_X3_hasPair : yX3_hasPair.cls ≠ "java/lang/invoke/MethodHandle" ∧ yX3_hasPair.cls ≠ "java/lang/invoke/VarHandle" ∧ (parseMethodDescriptor yX3_hasPair.desc).map (fun d => d.parameters.length) = some 4 := by decide +kernel
set_option maxHeartbeats 4000000 in
set_option maxRecDepth 100000 in
theorem m_X7_letterOf (l : Launch) (g : GT) (c : Int) (hc : jR c) : Met l yX7_letterOf (ws_ yX7_letterOf cX7_letterOf 1 (some .char)) (rmm 1 0 0) (jPc g [vi c] (fun H => True)) (jSi (fun z => z = ltr c)) 0 0 jN := by
  refine jb_M (by decide) (Nat.le_of_ble_eq_true rfl) ?_
  intro p e s m below meth cq hx hb hr hml hown htl hlk hnm hKK hpre ls hl
  have hown : s.vm.findClass RX7 = some m.cls := hown
  have hl : lv_has ls 1 [(0, vi c)] := hl
  have tkr := kd_R hc
  refine lv_iload_n hx hb dX7_letterOf_0 rfl (lv_at hl 0 rfl) ?_
  refine jk_Si (va_runS (As := [vi c]) (rest := []) ⟨hx, hb, hml, hown, htl⟩ (m_X7_kindIn l g c hc) (va_cwS 1 htl lk_X7_11 rfl rfl rfl cwS_X7_kindIn ⟨Nat.le_of_ble_eq_true rfl, Nat.le_of_ble_eq_true rfl⟩) (jp_S hKK (va_S.rf (A := jN)) jNb trivial) rfl rfl hl.1 rfl (lv_room (Nat.le_of_ble_eq_true rfl)) dX7_letterOf_1 ⟨Nat.le_of_ble_eq_true rfl, Nat.le_of_ble_eq_true rfl⟩) (fun z1 hz1 => ?_)
  subst hz1
  by_cases k0 : (kd c) = 0
  · refine jr_tin hx hb 0 k0 ⟨by omega, by omega⟩ (tgt := 32) dX7_letterOf_4 (by decide) (by decide) rfl (by decide) ?_
    refine jr_bipush hx hb dX7_letterOf_32 (by decide) ?_
    exact je_Si hx hb hr hlk (nz_c (by omega) (by omega)).1 (by unfold ltr; (repeat' split) <;> first | rfl | omega) dX7_letterOf_34
  by_cases k1 : (kd c) = 1
  · refine jr_tin hx hb 1 k1 ⟨by omega, by omega⟩ (tgt := 35) dX7_letterOf_4 (by decide) (by decide) rfl (by decide) ?_
    refine jr_bipush hx hb dX7_letterOf_35 (by decide) ?_
    exact je_Si hx hb hr hlk (nz_c (by omega) (by omega)).1 (by unfold ltr; (repeat' split) <;> first | rfl | omega) dX7_letterOf_37
  by_cases k2 : (kd c) = 2
  · refine jr_tin hx hb 2 k2 ⟨by omega, by omega⟩ (tgt := 38) dX7_letterOf_4 (by decide) (by decide) rfl (by decide) ?_
    refine jr_bipush hx hb dX7_letterOf_38 (by decide) ?_
    exact je_Si hx hb hr hlk (nz_c (by omega) (by omega)).1 (by unfold ltr; (repeat' split) <;> first | rfl | omega) dX7_letterOf_40
  refine jr_tout hx hb ⟨by omega, by omega⟩ (tgt := 41) dX7_letterOf_4 (by omega) (by decide) ?_
  refine jr_bipush hx hb dX7_letterOf_41 (by decide) ?_
  exact je_Si hx hb hr hlk (nz_c (by omega) (by omega)).1 (by unfold ltr; (repeat' split) <;> first | rfl | omega) dX7_letterOf_43
set_option maxHeartbeats 4000000 in
set_option maxRecDepth 100000 in
theorem m_X3_copyPlain (l : Launch) (g : GT) (a c : Nat) (t : List Int) (f : Nat → Int) (hf : TT t f) (b d : Nat) (u : List Int) (f2 : Nat → Int) (hf2 : TT u f2) (hne : ∀ x ∈ ([a, c] : List Nat), x ∉ ([b, d] : List Nat)) : Met l yX3_copyPlain (ws_ yX3_copyPlain cX3_copyPlain 5 none) (rmm 1 0 0) (jPc g [.ref a, .ref b] (fun H => PP g [ob a 6 [.ref c, vi (t.length : Int)], aI g c 60 f] H ∧ PP g [ob b 6 [.ref d, vi (u.length : Int)], aI g d 60 f2] H ∧ va_D (fun q => gb g ≤ q) [ob b 6 [.ref d, vi (u.length : Int)], aI g d 60 f2])) (jQv (fun H1 => ∃ f1 : Nat → Int, TT (pl t) f1 ∧ PP g [ob b 6 [.ref d, vi ((pl t).length : Int)], aI g d 60 f1] H1) (jA [ob b 6 [.ref d, vi (u.length : Int)], aI g d 60 f2])) 0 0 (jA [ob b 6 [.ref d, vi (u.length : Int)], aI g d 60 f2]) := by
  refine jb_M (by decide) (Nat.le_of_ble_eq_true rfl) ?_
  intro p e s m below meth cq hx hb hr hml hown htl hlk hnm hKK hpre ls hl
  have hown : s.vm.findClass RX3 = some m.cls := hown
  have hl : lv_has ls 5 [(0, .ref a), (1, .ref b)] := hl
  obtain ⟨hPt, hP, hD0⟩ := hpre
  have hL := hf.len
  have ap_hPt : ∀ (k : Nat) (q : Nat × va_E), ([ob a 6 [.ref c, vi (t.length : Int)], aI g c 60 f] : va_W)[k]? = some q → ¬ (jA [ob b 6 [.ref d, vi (u.length : Int)], aI g d 60 f2]) q.1 := jap (hne)
  have hD : va_D (jA [ob b 6 [.ref d, vi (u.length : Int)], aI g d 60 f2]) [ob b 6 [.ref d, vi (u.length : Int)], aI g d 60 f2] := hD0.inD
  have hAb : ∀ q, (jA [ob b 6 [.ref d, vi (u.length : Int)], aI g d 60 f2]) q → gb g ≤ q := fun q h => hD0.inA h
  generalize hAe : jA [ob b 6 [.ref d, vi (u.length : Int)], aI g d 60 f2] = A at *
  have hS : va_S A s.heap s.heap [] := va_S.rf
  suffices K : ∀ (H : Heap) (locs : List Loc), PP g [ob b 6 [.ref d, vi (u.length : Int)], aI g d 60 f2] H → va_D A [ob b 6 [.ref d, vi (u.length : Int)], aI g d 60 f2] → va_S A s.heap H locs → ∀ ls : Array Slot, lv_has ls 5 [(0, .ref a), (1, .ref b)] → W p l e (rmm 1 0 0) s m ([.ref a, .ref b] : List Value).toArray below meth cq H locs 0 0 (MQ below (jQv (fun H1 => ∃ f1 : Nat → Int, TT (pl t) f1 ∧ PP g [ob b 6 [.ref d, vi ((pl t).length : Int)], aI g d 60 f1] H1) A) ([.ref a, .ref b] : List Value).toArray s 0 0 A) (F0 m 0 ls []) from K _ _ hP hD hS _ hl
  clear hl; intro H locs hP hD hS ls hl
  refine lv_aload_n hx hb dX3_copyPlain_0 rfl (lv_at hl 1 rfl) ?_
  have hDc : va_D A [ob b 6 [.ref d, vi (u.length : Int)], aI g d 60 f2] := hD.sub [0, 1] (by decide) rfl
  refine jk_Qv (va_runV (As := []) (rest := []) ⟨hx, hb, hml, hown, htl⟩ (m_X6_makeEmpty l g b d u f2 hf2  ) (cwV 0 htl lk_X3_37 rfl rfl rfl cwV_X6_makeEmpty ⟨Nat.le_of_ble_eq_true rfl, Nat.le_of_ble_eq_true rfl⟩) (jp_V hKK hS hAb (va_recv hKK.k hP (ci := 6) (q0 := 0) rfl rfl) ⟨hP, hDc.weaken (fun _ q _ h => hAb _ h)⟩) rfl rfl hl.1 rfl (lv_room (Nat.le_of_ble_eq_true rfl)) dX3_copyPlain_1 ⟨Nat.le_of_ble_eq_true rfl, Nat.le_of_ble_eq_true rfl⟩) hS (fun q _ h => hDc.inA h) (fun q h => hDc.inA h) (fun H1 locs hz1 hzs hks hS => ?_)
  obtain ⟨fn1, hfn1, hP1⟩ := hz1
  obtain ⟨hP, hD⟩ := jput (wc := [ob b 6 [.ref d, vi (u.length : Int)], aI g d 60 f2]) (w1 := [ob b 6 [.ref d, vi (([] : List Int).length : Int)], aI g d 60 fn1]) hP hD [0, 1] rfl rfl hks (fun q _ h => h) hP1
  clear hzs hks; generalize H1 = H at hP hD hS ⊢
  have hP : PP g [ob b 6 [.ref d, vi (([] : List Int).length : Int)], aI g d 60 fn1] H := hP
  have hD : va_D A [ob b 6 [.ref d, vi (([] : List Int).length : Int)], aI g d 60 fn1] := hD
  refine jr_iconst hx hb dX3_copyPlain_4 ?_
  refine lv_istore_n (lv' := [(2, vi 0), (0, .ref a), (1, .ref b)]) hx hb dX3_copyPlain_5 rfl hl (by decide) rfl (fun ls hl => ?_)
  have lp6 : ∀ (N : Nat) (i : Nat) (v : List Int) (f3 : Nat → Int), (i ≤ t.length) → (v.length ≤ i) → (v ++ pl (t.drop i) = pl t) → (TT v f3) → t.length - i < N → ∀ (H : Heap) (locs : List Loc), PP g [ob b 6 [.ref d, vi (v.length : Int)], aI g d 60 f3] H → va_D A [ob b 6 [.ref d, vi (v.length : Int)], aI g d 60 f3] → va_S A s.heap H locs → ∀ ls : Array Slot, lv_has ls 5 [(2, vi (i : Int)), (0, .ref a), (1, .ref b)] → W p l e (rmm 1 0 0) s m ([.ref a, .ref b] : List Value).toArray below meth cq H locs 0 0 (MQ below (jQv (fun H1 => ∃ f1 : Nat → Int, TT (pl t) f1 ∧ PP g [ob b 6 [.ref d, vi ((pl t).length : Int)], aI g d 60 f1] H1) A) ([.ref a, .ref b] : List Value).toArray s 0 0 A) (F0 m 6 ls []) := by
    intro N
    induction N with
    | zero => intro i v f3 hi hvl hv hf3 hM; exact absurd hM (Nat.not_lt_zero _)
    | succ N ih6 =>
      intro i v f3 hi hvl hv hf3 hM H locs hP hD hS ls hl
      refine lv_iload_n hx hb dX3_copyPlain_6 rfl (lv_at hl 0 rfl) ?_
      refine lv_aload_n hx hb dX3_copyPlain_7 rfl (lv_at hl 1 rfl) ?_
      refine jk_Si (va_runV (As := []) (rest := [vi (i : Int)]) ⟨hx, hb, hml, hown, htl⟩ (m_X6_size l g a c t f hf  ) (cwV 0 htl lk_X3_25 rfl rfl rfl cwV_X6_size ⟨Nat.le_of_ble_eq_true rfl, Nat.le_of_ble_eq_true rfl⟩) (jp_V hKK hS hAb (va_recv hKK.k (jat hPt hS ap_hPt) (ci := 6) (q0 := 0) rfl rfl) (jat hPt hS ap_hPt)) rfl rfl hl.1 rfl (lv_room (Nat.le_of_ble_eq_true rfl)) dX3_copyPlain_8 ⟨Nat.le_of_ble_eq_true rfl, Nat.le_of_ble_eq_true rfl⟩) (fun z8 hz8 => ?_)
      subst hz8
      refine jr_ge (tgt := 57) hx hb dX3_copyPlain_11 (by decide) ⟨by omega, by omega⟩ ⟨by omega, by omega⟩ (fun c11 => ?_) (fun c11 => ?_)
      · exact je_Qv hx hb hr hlk hS (by obtain rfl : i = t.length := (by omega); rw [dr_e (Nat.le_refl _), pl, List.append_nil] at hv; rw [← hv]; exact ⟨f3, hf3, hP⟩) dX3_copyPlain_57
      · refine lv_aload_n hx hb dX3_copyPlain_14 rfl (lv_at hl 1 rfl) ?_
        refine lv_iload_n hx hb dX3_copyPlain_15 rfl (lv_at hl 0 rfl) ?_
        refine jk_Si (va_runV (As := [vi (i : Int)]) (rest := []) ⟨hx, hb, hml, hown, htl⟩ (m_X6_at l g a c t f hf (i : Int) ⟨by omega, by omega⟩) (cwV 1 htl lk_X3_29 rfl rfl rfl cwV_X6_at ⟨Nat.le_of_ble_eq_true rfl, Nat.le_of_ble_eq_true rfl⟩) (jp_V hKK hS hAb (va_recv hKK.k (jat hPt hS ap_hPt) (ci := 6) (q0 := 0) rfl rfl) (jat hPt hS ap_hPt)) rfl rfl hl.1 rfl (lv_room (Nat.le_of_ble_eq_true rfl)) dX3_copyPlain_16 ⟨Nat.le_of_ble_eq_true rfl, Nat.le_of_ble_eq_true rfl⟩) (fun z16 hz16 => ?_)
        subst hz16
        have ta := TT.tAt_b hf (i : Int)
        have tb := hf.b (j := i) (by omega)
        rw [tAt_in (t := t) (j := i) (by omega)] at ta ⊢
        refine lv_istore_n (lv' := [(3, vi (t.getD i 0)), (2, vi (i : Int)), (0, .ref a), (1, .ref b)]) hx hb dX3_copyPlain_19 rfl hl (by decide) rfl (fun ls hl => ?_)
        refine lv_iload_n hx hb dX3_copyPlain_20 rfl (lv_at hl 0 rfl) ?_
        refine jk_Si (va_runS (As := [vi (t.getD i 0)]) (rest := []) ⟨hx, hb, hml, hown, htl⟩ (m_X7_kindIn l g (t.getD i 0) ⟨by omega, by omega⟩) (va_cwS 1 htl lk_X3_40 rfl rfl rfl cwS_X7_kindIn ⟨Nat.le_of_ble_eq_true rfl, Nat.le_of_ble_eq_true rfl⟩) (jp_S hKK hS hAb trivial) rfl rfl hl.1 rfl (lv_room (Nat.le_of_ble_eq_true rfl)) dX3_copyPlain_21 ⟨Nat.le_of_ble_eq_true rfl, Nat.le_of_ble_eq_true rfl⟩) (fun z21 hz21 => ?_)
        subst hz21
        have tk := kd_b (c := t.getD i 0) ⟨by omega, by omega⟩
        refine lv_istore (lv' := [(4, vi (kd (t.getD i 0))), (3, vi (t.getD i 0)), (2, vi (i : Int)), (0, .ref a), (1, .ref b)]) hx hb dX3_copyPlain_24 hl (by decide) rfl (fun ls hl => ?_)
        refine lv_iload hx hb dX3_copyPlain_26 (lv_at hl 0 rfl) ?_
        refine jr_iconst hx hb dX3_copyPlain_28 ?_
        refine jr_eq (tgt := 51) hx hb dX3_copyPlain_29 (by decide) ⟨by omega, by omega⟩ ⟨by omega, by omega⟩ (fun c29 => ?_) (fun c29 => ?_)
        · refine jr_iinc (lv' := [(2, vi ((i : Int) + 1)), (4, vi (kd (t.getD i 0))), (3, vi (t.getD i 0)), (0, .ref a), (1, .ref b)]) hx hb dX3_copyPlain_51 hl (k := 2) rfl rfl (by decide) rfl (fun ls hl => ?_)
          refine lv_goto (tgt := 6) hx hb dX3_copyPlain_54 (by decide) ?_
          exact ih6 (i + 1) v f3 (by omega) (by omega) (pl_2 (by rw [← dr_c (t := t) (i := i) (by omega)]; exact hv) c29) (hf3) (by omega) _ _ hP hD hS ls (lv_sub hl [0, 3, 4] rfl)
        · refine lv_aload_n hx hb dX3_copyPlain_32 rfl (lv_at hl 4 rfl) ?_
          refine lv_iload hx hb dX3_copyPlain_33 (lv_at hl 0 rfl) ?_
          refine jr_iconst hx hb dX3_copyPlain_35 ?_
          refine jr_ne (tgt := 47) hx hb dX3_copyPlain_36 (by decide) ⟨by omega, by omega⟩ ⟨by omega, by omega⟩ (fun c36 => ?_) (fun c36 => ?_)
          · refine lv_iload_n hx hb dX3_copyPlain_47 rfl (lv_at hl 1 rfl) ?_
            have hDc : va_D A [ob b 6 [.ref d, vi (v.length : Int)], aI g d 60 f3] := hD.sub [0, 1] (by decide) rfl
            refine jk_Qv (va_runV (As := [vi (t.getD i 0)]) (rest := []) ⟨hx, hb, hml, hown, htl⟩ (m_X6_put l g b d v f3 hf3 (t.getD i 0) (by omega) (by omega)) (cwV 1 htl lk_X3_49 rfl rfl rfl cwV_X6_put ⟨Nat.le_of_ble_eq_true rfl, Nat.le_of_ble_eq_true rfl⟩) (jp_V hKK hS hAb (va_recv hKK.k hP (ci := 6) (q0 := 0) rfl rfl) ⟨hP, hDc.weaken (fun _ q _ h => hAb _ h)⟩) rfl rfl hl.1 rfl (lv_room (Nat.le_of_ble_eq_true rfl)) dX3_copyPlain_48 ⟨Nat.le_of_ble_eq_true rfl, Nat.le_of_ble_eq_true rfl⟩) hS (fun q _ h => hDc.inA h) (fun q h => hDc.inA h) (fun H1 locs hz48 hzs hks hS => ?_)
            obtain ⟨fn48, hfn48, hP1⟩ := hz48
            obtain ⟨hP, hD⟩ := jput (wc := [ob b 6 [.ref d, vi (v.length : Int)], aI g d 60 f3]) (w1 := [ob b 6 [.ref d, vi ((v ++ [(t.getD i 0)]).length : Int)], aI g d 60 fn48]) hP hD [0, 1] rfl rfl hks (fun q _ h => h) hP1
            clear hzs hks; generalize H1 = H at hP hD hS ⊢
            have hP : PP g [ob b 6 [.ref d, vi ((v ++ [(t.getD i 0)]).length : Int)], aI g d 60 fn48] H := hP
            have hD : va_D A [ob b 6 [.ref d, vi ((v ++ [(t.getD i 0)]).length : Int)], aI g d 60 fn48] := hD
            refine jr_iinc (lv' := [(2, vi ((i : Int) + 1)), (4, vi (kd (t.getD i 0))), (3, vi (t.getD i 0)), (0, .ref a), (1, .ref b)]) hx hb dX3_copyPlain_51 hl (k := 2) rfl rfl (by decide) rfl (fun ls hl => ?_)
            refine lv_goto (tgt := 6) hx hb dX3_copyPlain_54 (by decide) ?_
            exact ih6 (i + 1) _ fn48 (by omega) (by rw [List.length_append, List.length_singleton]; omega) (pl_0 (by rw [← dr_c (t := t) (i := i) (by omega)]; exact hv) c29 c36) (hfn48) (by omega) _ _ hP hD hS ls (lv_sub hl [0, 3, 4] rfl)
          · refine jr_iconst hx hb dX3_copyPlain_39 ?_
            refine jr_iconst hx hb dX3_copyPlain_40 ?_
            refine jk_Si (va_runS (As := [vi 1, vi 0]) (rest := [.ref b]) ⟨hx, hb, hml, hown, htl⟩ (m_X7_codeOf l g 1 0) (va_cwS 2 htl lk_X3_45 rfl rfl rfl cwS_X7_codeOf ⟨Nat.le_of_ble_eq_true rfl, Nat.le_of_ble_eq_true rfl⟩) (jp_S hKK hS hAb trivial) rfl rfl hl.1 rfl (lv_room (Nat.le_of_ble_eq_true rfl)) dX3_copyPlain_41 ⟨Nat.le_of_ble_eq_true rfl, Nat.le_of_ble_eq_true rfl⟩) (fun z41 hz41 => ?_)
            subst hz41
            refine jr_nm (b := 10000) (by omega) ?_
            refine lv_goto (tgt := 48) hx hb dX3_copyPlain_44 (by decide) ?_
            have hDc : va_D A [ob b 6 [.ref d, vi (v.length : Int)], aI g d 60 f3] := hD.sub [0, 1] (by decide) rfl
            refine jk_Qv (va_runV (As := [vi 10000]) (rest := []) ⟨hx, hb, hml, hown, htl⟩ (m_X6_put l g b d v f3 hf3 10000 (by omega) (by omega)) (cwV 1 htl lk_X3_49 rfl rfl rfl cwV_X6_put ⟨Nat.le_of_ble_eq_true rfl, Nat.le_of_ble_eq_true rfl⟩) (jp_V hKK hS hAb (va_recv hKK.k hP (ci := 6) (q0 := 0) rfl rfl) ⟨hP, hDc.weaken (fun _ q _ h => hAb _ h)⟩) rfl rfl hl.1 rfl (lv_room (Nat.le_of_ble_eq_true rfl)) dX3_copyPlain_48 ⟨Nat.le_of_ble_eq_true rfl, Nat.le_of_ble_eq_true rfl⟩) hS (fun q _ h => hDc.inA h) (fun q h => hDc.inA h) (fun H1 locs hz48 hzs hks hS => ?_)
            obtain ⟨fn48, hfn48, hP1⟩ := hz48
            obtain ⟨hP, hD⟩ := jput (wc := [ob b 6 [.ref d, vi (v.length : Int)], aI g d 60 f3]) (w1 := [ob b 6 [.ref d, vi ((v ++ [10000]).length : Int)], aI g d 60 fn48]) hP hD [0, 1] rfl rfl hks (fun q _ h => h) hP1
            clear hzs hks; generalize H1 = H at hP hD hS ⊢
            have hP : PP g [ob b 6 [.ref d, vi ((v ++ [10000]).length : Int)], aI g d 60 fn48] H := hP
            have hD : va_D A [ob b 6 [.ref d, vi ((v ++ [10000]).length : Int)], aI g d 60 fn48] := hD
            refine jr_iinc (lv' := [(2, vi ((i : Int) + 1)), (4, vi (kd (t.getD i 0))), (3, vi (t.getD i 0)), (0, .ref a), (1, .ref b)]) hx hb dX3_copyPlain_51 hl (k := 2) rfl rfl (by decide) rfl (fun ls hl => ?_)
            refine lv_goto (tgt := 6) hx hb dX3_copyPlain_54 (by decide) ?_
            exact ih6 (i + 1) _ fn48 (by omega) (by rw [List.length_append, List.length_singleton]; omega) (pl_1 (by rw [← dr_c (t := t) (i := i) (by omega)]; exact hv) c36) (hfn48) (by omega) _ _ hP hD hS ls (lv_sub hl [0, 3, 4] rfl)
  exact lp6 _ 0 [] fn1 (Nat.zero_le _) (Nat.le_refl _) (rfl) (hfn1) (Nat.lt_succ_self _) _ _ hP hD hS ls (lv_sub hl [0, 1, 2] rfl)
set_option maxHeartbeats 4000000 in
set_option maxRecDepth 100000 in
theorem m_X3_hasPair (l : Launch) (g : GT) (a c : Nat) (t : List Int) (f : Nat → Int) (hf : TT t f) (n x y : Int) (hn : -2 < n ∧ n < 61) (hx0 : jR x) (hy0 : jR y) : Met l yX3_hasPair (ws_ yX3_hasPair cX3_hasPair 5 (some .boolean)) (rmm 1 0 0) (jPc g [.ref a, vi n, vi x, vi y] (fun H => PP g [ob a 6 [.ref c, vi (t.length : Int)], aI g c 60 f] H)) (jSi (fun z => z = i01 (hpr t n x y = true))) 0 0 jN := by
  refine jb_M (by decide) (Nat.le_of_ble_eq_true rfl) ?_
  intro p e s m below meth cq hx hb hr hml hown htl hlk hnm hKK hpre ls hl
  have hown : s.vm.findClass RX3 = some m.cls := hown
  have hl : lv_has ls 5 [(0, .ref a), (1, vi n), (2, vi x), (3, vi y)] := hl
  have hP : PP g [ob a 6 [.ref c, vi (t.length : Int)], aI g c 60 f] s.heap := hpre
  have hL := hf.len
  refine jr_iconst hx hb dX3_hasPair_0 ?_
  refine lv_istore (lv' := [(4, vi 0), (0, .ref a), (1, vi n), (2, vi x), (3, vi y)]) hx hb dX3_hasPair_1 hl (by decide) rfl (fun ls hl => ?_)
  have lp3 : ∀ (N : Nat) (i : Nat), (i < 62) → ((i : Int) ≤ n ∨ i = 0) → (∀ j : Nat, j < i → ¬ (tAt t (j : Int) = x ∧ tAt t ((j : Int) + 1) = y)) → 62 - i < N → ∀ ls : Array Slot, lv_has ls 5 [(4, vi (i : Int)), (0, .ref a), (1, vi n), (2, vi x), (3, vi y)] → W p l e (rmm 1 0 0) s m ([.ref a, vi n, vi x, vi y] : List Value).toArray below meth cq s.heap [] 0 0 (MQ below (jSi (fun z => z = i01 (hpr t n x y = true))) ([.ref a, vi n, vi x, vi y] : List Value).toArray s 0 0 jN) (F0 m 3 ls []) := by
    intro N
    induction N with
    | zero => intro i hi hi2 hF hM; exact absurd hM (Nat.not_lt_zero _)
    | succ N ih3 =>
      intro i hi hi2 hF hM ls hl
      refine lv_iload hx hb dX3_hasPair_3 (lv_at hl 0 rfl) ?_
      refine lv_iload_n hx hb dX3_hasPair_5 rfl (lv_at hl 2 rfl) ?_
      refine jr_ge (tgt := 39) hx hb dX3_hasPair_6 (by decide) ⟨by omega, by omega⟩ ⟨by omega, by omega⟩ (fun c6 => ?_) (fun c6 => ?_)
      · refine jr_iconst hx hb dX3_hasPair_39 ?_
        exact je_Si hx hb hr hlk (nz_b (by omega)).1 ((if_neg (fun q => by obtain ⟨j, h1, h2⟩ := hpr_iff.mp q; exact hF j (by omega) h2)).symm) dX3_hasPair_40
      · refine lv_aload_n hx hb dX3_hasPair_9 rfl (lv_at hl 1 rfl) ?_
        refine lv_iload hx hb dX3_hasPair_10 (lv_at hl 0 rfl) ?_
        refine jk_Si (va_runV (As := [vi (i : Int)]) (rest := []) ⟨hx, hb, hml, hown, htl⟩ (m_X6_at l g a c t f hf (i : Int) ⟨by omega, by omega⟩) (cwV 1 htl lk_X3_29 rfl rfl rfl cwV_X6_at ⟨Nat.le_of_ble_eq_true rfl, Nat.le_of_ble_eq_true rfl⟩) (jp_V hKK (va_S.rf (A := jN)) jNb (va_recv hKK.k hP (ci := 6) (q0 := 0) rfl rfl) hP) rfl rfl hl.1 rfl (lv_room (Nat.le_of_ble_eq_true rfl)) dX3_hasPair_12 ⟨Nat.le_of_ble_eq_true rfl, Nat.le_of_ble_eq_true rfl⟩) (fun z12 hz12 => ?_)
        subst hz12
        have ta := TT.tAt_b hf (i : Int)
        have ta1 := ta
        refine lv_iload_n hx hb dX3_hasPair_15 rfl (lv_at hl 3 rfl) ?_
        refine jr_ne (tgt := 33) hx hb dX3_hasPair_16 (by decide) ⟨by omega, by omega⟩ ⟨by omega, by omega⟩ (fun c16 => ?_) (fun c16 => ?_)
        · refine jr_iinc (lv' := [(4, vi ((i : Int) + 1)), (0, .ref a), (1, vi n), (2, vi x), (3, vi y)]) hx hb dX3_hasPair_33 hl (k := 0) rfl rfl (by decide) rfl (fun ls hl => ?_)
          refine lv_goto (tgt := 3) hx hb dX3_hasPair_36 (by decide) ?_
          exact ih3 (i + 1) (by omega) (by omega) (fun j hj => by rcases Nat.lt_or_ge j i with q | q; exact hF j q; obtain rfl : j = i := (by omega); exact fun z => by first | exact c16 z.1 | exact c28 z.2) (by omega) ls (lv_sub hl [0, 1, 2, 3, 4] rfl)
        · refine lv_aload_n hx hb dX3_hasPair_19 rfl (lv_at hl 1 rfl) ?_
          refine lv_iload hx hb dX3_hasPair_20 (lv_at hl 0 rfl) ?_
          refine jr_iconst hx hb dX3_hasPair_22 ?_
          refine jr_iadd hx hb dX3_hasPair_23 ?_
          refine jk_Si (va_runV (As := [vi ((i : Int) + 1)]) (rest := []) ⟨hx, hb, hml, hown, htl⟩ (m_X6_at l g a c t f hf ((i : Int) + 1) ⟨by omega, by omega⟩) (cwV 1 htl lk_X3_29 rfl rfl rfl cwV_X6_at ⟨Nat.le_of_ble_eq_true rfl, Nat.le_of_ble_eq_true rfl⟩) (jp_V hKK (va_S.rf (A := jN)) jNb (va_recv hKK.k hP (ci := 6) (q0 := 0) rfl rfl) hP) rfl rfl hl.1 rfl (lv_room (Nat.le_of_ble_eq_true rfl)) dX3_hasPair_24 ⟨Nat.le_of_ble_eq_true rfl, Nat.le_of_ble_eq_true rfl⟩) (fun z24 hz24 => ?_)
          subst hz24
          have ta := TT.tAt_b hf ((i : Int) + 1)
          refine lv_iload_n hx hb dX3_hasPair_27 rfl (lv_at hl 4 rfl) ?_
          refine jr_ne (tgt := 33) hx hb dX3_hasPair_28 (by decide) ⟨by omega, by omega⟩ ⟨by omega, by omega⟩ (fun c28 => ?_) (fun c28 => ?_)
          · refine jr_iinc (lv' := [(4, vi ((i : Int) + 1)), (0, .ref a), (1, vi n), (2, vi x), (3, vi y)]) hx hb dX3_hasPair_33 hl (k := 0) rfl rfl (by decide) rfl (fun ls hl => ?_)
            refine lv_goto (tgt := 3) hx hb dX3_hasPair_36 (by decide) ?_
            exact ih3 (i + 1) (by omega) (by omega) (fun j hj => by rcases Nat.lt_or_ge j i with q | q; exact hF j q; obtain rfl : j = i := (by omega); exact fun z => by first | exact c16 z.1 | exact c28 z.2) (by omega) ls (lv_sub hl [0, 1, 2, 3, 4] rfl)
          · refine jr_iconst hx hb dX3_hasPair_31 ?_
            exact je_Si hx hb hr hlk (nz_b (by omega)).1 ((if_pos (hpr_iff.mpr ⟨i, by omega, c16, c28⟩)).symm) dX3_hasPair_32
  exact lp3 _ 0 (by omega) (Or.inr rfl) (fun j hj => absurd hj (Nat.not_lt_zero _)) (Nat.lt_succ_self _) ls (lv_sub hl [0, 1, 2, 3, 4] rfl)
set_option maxHeartbeats 4000000 in
set_option maxRecDepth 100000 in
theorem m_X3_countShared (l : Launch) (g : GT) (o b1 d1 : Nat) (p1 : List Int) (k1 : Nat → Int) (hk1 : TT p1 k1) (b2 d2 : Nat) (p2 : List Int) (k2 : Nat → Int) (hk2 : TT p2 k2) (a c : Nat) (t : List Int) (f : Nat → Int) (hf : TT t f) (b d : Nat) (u : List Int) (f2 : Nat → Int) (hf2 : TT u f2) (hno : ∀ x ∈ ([o] : List Nat), x ∉ ([b1, d1, b2, d2] : List Nat)) (hnx : ∀ x ∈ ([a, c] : List Nat), x ∉ ([b1, d1, b2, d2] : List Nat)) (hny : ∀ x ∈ ([b, d] : List Nat), x ∉ ([b1, d1, b2, d2] : List Nat)) : Met l yX3_countShared (ws_ yX3_countShared cX3_countShared 7 (some .int)) (rmm 2 0 0) (jPc g [.ref o, .ref a, .ref b] (fun H => PP g [ob b1 6 [.ref d1, vi (p1.length : Int)], aI g d1 60 k1, ob b2 6 [.ref d2, vi (p2.length : Int)], aI g d2 60 k2] H ∧ va_D (fun q => gb g ≤ q) [ob b1 6 [.ref d1, vi (p1.length : Int)], aI g d1 60 k1, ob b2 6 [.ref d2, vi (p2.length : Int)], aI g d2 60 k2] ∧ PP g [ob o 3 [.ref b1, .ref b2]] H ∧ PP g [ob a 6 [.ref c, vi (t.length : Int)], aI g c 60 f] H ∧ PP g [ob b 6 [.ref d, vi (u.length : Int)], aI g d 60 f2] H)) (jQi (fun z H1 => z = shA (pl t) (pl u) ((pl t).length - 1) ∧ ∃ f3 f4 : Nat → Int, TT (pl t) f3 ∧ TT (pl u) f4 ∧ PP g [ob b1 6 [.ref d1, vi ((pl t).length : Int)], aI g d1 60 f3, ob b2 6 [.ref d2, vi ((pl u).length : Int)], aI g d2 60 f4] H1) (jA [ob b1 6 [.ref d1, vi (p1.length : Int)], aI g d1 60 k1, ob b2 6 [.ref d2, vi (p2.length : Int)], aI g d2 60 k2])) 0 0 (jA [ob b1 6 [.ref d1, vi (p1.length : Int)], aI g d1 60 k1, ob b2 6 [.ref d2, vi (p2.length : Int)], aI g d2 60 k2]) := by
  refine jb_M (by decide) (Nat.le_of_ble_eq_true rfl) ?_
  intro p e s m below meth cq hx hb hr hml hown htl hlk hnm hKK hpre ls hl
  have hown : s.vm.findClass RX3 = some m.cls := hown
  have hl : lv_has ls 7 [(0, .ref o), (1, .ref a), (2, .ref b)] := hl
  obtain ⟨hP, hD0, hPo, hPx, hPy⟩ := hpre
  have ap_hPo : ∀ (k : Nat) (q : Nat × va_E), ([ob o 3 [.ref b1, .ref b2]] : va_W)[k]? = some q → ¬ (jA [ob b1 6 [.ref d1, vi (p1.length : Int)], aI g d1 60 k1, ob b2 6 [.ref d2, vi (p2.length : Int)], aI g d2 60 k2]) q.1 := jap (hno)
  have ap_hPx : ∀ (k : Nat) (q : Nat × va_E), ([ob a 6 [.ref c, vi (t.length : Int)], aI g c 60 f] : va_W)[k]? = some q → ¬ (jA [ob b1 6 [.ref d1, vi (p1.length : Int)], aI g d1 60 k1, ob b2 6 [.ref d2, vi (p2.length : Int)], aI g d2 60 k2]) q.1 := jap (hnx)
  have ap_hPy : ∀ (k : Nat) (q : Nat × va_E), ([ob b 6 [.ref d, vi (u.length : Int)], aI g d 60 f2] : va_W)[k]? = some q → ¬ (jA [ob b1 6 [.ref d1, vi (p1.length : Int)], aI g d1 60 k1, ob b2 6 [.ref d2, vi (p2.length : Int)], aI g d2 60 k2]) q.1 := jap (hny)
  have hD : va_D (jA [ob b1 6 [.ref d1, vi (p1.length : Int)], aI g d1 60 k1, ob b2 6 [.ref d2, vi (p2.length : Int)], aI g d2 60 k2]) [ob b1 6 [.ref d1, vi (p1.length : Int)], aI g d1 60 k1, ob b2 6 [.ref d2, vi (p2.length : Int)], aI g d2 60 k2] := hD0.inD
  have hAb : ∀ q, (jA [ob b1 6 [.ref d1, vi (p1.length : Int)], aI g d1 60 k1, ob b2 6 [.ref d2, vi (p2.length : Int)], aI g d2 60 k2]) q → gb g ≤ q := fun q h => hD0.inA h
  generalize hAe : jA [ob b1 6 [.ref d1, vi (p1.length : Int)], aI g d1 60 k1, ob b2 6 [.ref d2, vi (p2.length : Int)], aI g d2 60 k2] = A at *
  have hS : va_S A s.heap s.heap [] := va_S.rf
  suffices K : ∀ (H : Heap) (locs : List Loc), PP g [ob b1 6 [.ref d1, vi (p1.length : Int)], aI g d1 60 k1, ob b2 6 [.ref d2, vi (p2.length : Int)], aI g d2 60 k2] H → va_D A [ob b1 6 [.ref d1, vi (p1.length : Int)], aI g d1 60 k1, ob b2 6 [.ref d2, vi (p2.length : Int)], aI g d2 60 k2] → va_S A s.heap H locs → ∀ ls : Array Slot, lv_has ls 7 [(0, .ref o), (1, .ref a), (2, .ref b)] → W p l e (rmm 2 0 0) s m ([.ref o, .ref a, .ref b] : List Value).toArray below meth cq H locs 0 0 (MQ below (jQi (fun z H1 => z = shA (pl t) (pl u) ((pl t).length - 1) ∧ ∃ f3 f4 : Nat → Int, TT (pl t) f3 ∧ TT (pl u) f4 ∧ PP g [ob b1 6 [.ref d1, vi ((pl t).length : Int)], aI g d1 60 f3, ob b2 6 [.ref d2, vi ((pl u).length : Int)], aI g d2 60 f4] H1) A) ([.ref o, .ref a, .ref b] : List Value).toArray s 0 0 A) (F0 m 0 ls []) from K _ _ hP hD hS _ hl
  clear hl; intro H locs hP hD hS ls hl
  refine lv_aload_n hx hb dX3_countShared_0 rfl (lv_at hl 1 rfl) ?_
  refine lv_aload_n hx hb dX3_countShared_1 rfl (lv_at hl 0 rfl) ?_
  refine va_get (D := gD g) (ci := 3) (v := .ref b1) (C := RX3) (T := TX3) (N := 2) hx hb htl ck_X3 hown hKK.k (jat hPo hS ap_hPo) 0 rfl rfl 0 (by decide) (htl _ wd_4_23) (fun _ h9 => h9) rfl dX3_countShared_2 ?_
  have hDc : va_D A [ob b1 6 [.ref d1, vi (p1.length : Int)], aI g d1 60 k1] := hD.sub [0, 1] (by decide) rfl
  refine jk_Qv (va_runS (As := [.ref a, .ref b1]) (rest := []) ⟨hx, hb, hml, hown, htl⟩ (m_X3_copyPlain l g a c t f hf b1 d1 p1 k1 hk1 (jdisR hD ap_hPx [0, 1] [0, 1] rfl rfl)) (va_cwS 2 htl lk_X3_21 rfl rfl rfl cwS_X3_copyPlain ⟨Nat.le_of_ble_eq_true rfl, Nat.le_of_ble_eq_true rfl⟩) (jp_S hKK hS hAb ⟨(jat hPx hS ap_hPx), (va_P.sub hP [0, 1] rfl), hDc.weaken (fun _ q _ h => hAb _ h)⟩) rfl rfl hl.1 rfl (lv_room (Nat.le_of_ble_eq_true rfl)) dX3_countShared_5 ⟨Nat.le_of_ble_eq_true rfl, Nat.le_of_ble_eq_true rfl⟩) hS (fun q _ h => hDc.inA h) (fun q h => hDc.inA h) (fun H1 locs hz5 hzs hks hS => ?_)
  obtain ⟨fn5, hfn5, hP1⟩ := hz5
  obtain ⟨hP, hD⟩ := jput (wc := [ob b1 6 [.ref d1, vi (p1.length : Int)], aI g d1 60 k1]) (w1 := [ob b1 6 [.ref d1, vi ((pl t).length : Int)], aI g d1 60 fn5]) hP hD [0, 1] rfl rfl hks (fun q _ h => h) hP1
  clear hzs hks; generalize H1 = H at hP hD hS ⊢
  have hP : PP g [ob b1 6 [.ref d1, vi ((pl t).length : Int)], aI g d1 60 fn5, ob b2 6 [.ref d2, vi (p2.length : Int)], aI g d2 60 k2] H := hP
  have hD : va_D A [ob b1 6 [.ref d1, vi ((pl t).length : Int)], aI g d1 60 fn5, ob b2 6 [.ref d2, vi (p2.length : Int)], aI g d2 60 k2] := hD
  refine lv_aload_n hx hb dX3_countShared_8 rfl (lv_at hl 2 rfl) ?_
  refine lv_aload_n hx hb dX3_countShared_9 rfl (lv_at hl 0 rfl) ?_
  refine va_get (D := gD g) (ci := 3) (v := .ref b2) (C := RX3) (T := TX3) (N := 2) hx hb htl ck_X3 hown hKK.k (jat hPo hS ap_hPo) 0 rfl rfl 1 (by decide) (htl _ wd_5_0) (fun _ h9 => h9) rfl dX3_countShared_10 ?_
  have hDc : va_D A [ob b2 6 [.ref d2, vi (p2.length : Int)], aI g d2 60 k2] := hD.sub [2, 3] (by decide) rfl
  refine jk_Qv (va_runS (As := [.ref b, .ref b2]) (rest := []) ⟨hx, hb, hml, hown, htl⟩ (m_X3_copyPlain l g b d u f2 hf2 b2 d2 p2 k2 hk2 (jdisR hD ap_hPy [0, 1] [2, 3] rfl rfl)) (va_cwS 2 htl lk_X3_21 rfl rfl rfl cwS_X3_copyPlain ⟨Nat.le_of_ble_eq_true rfl, Nat.le_of_ble_eq_true rfl⟩) (jp_S hKK hS hAb ⟨(jat hPy hS ap_hPy), (va_P.sub hP [2, 3] rfl), hDc.weaken (fun _ q _ h => hAb _ h)⟩) rfl rfl hl.1 rfl (lv_room (Nat.le_of_ble_eq_true rfl)) dX3_countShared_13 ⟨Nat.le_of_ble_eq_true rfl, Nat.le_of_ble_eq_true rfl⟩) hS (fun q _ h => hDc.inA h) (fun q h => hDc.inA h) (fun H1 locs hz13 hzs hks hS => ?_)
  obtain ⟨fn13, hfn13, hP1⟩ := hz13
  obtain ⟨hP, hD⟩ := jput (wc := [ob b2 6 [.ref d2, vi (p2.length : Int)], aI g d2 60 k2]) (w1 := [ob b2 6 [.ref d2, vi ((pl u).length : Int)], aI g d2 60 fn13]) hP hD [2, 3] rfl rfl hks (fun q _ h => h) hP1
  clear hzs hks; generalize H1 = H at hP hD hS ⊢
  have hP : PP g [ob b1 6 [.ref d1, vi ((pl t).length : Int)], aI g d1 60 fn5, ob b2 6 [.ref d2, vi ((pl u).length : Int)], aI g d2 60 fn13] H := hP
  have hD : va_D A [ob b1 6 [.ref d1, vi ((pl t).length : Int)], aI g d1 60 fn5, ob b2 6 [.ref d2, vi ((pl u).length : Int)], aI g d2 60 fn13] := hD
  refine jr_iconst hx hb dX3_countShared_16 ?_
  refine lv_istore_n (lv' := [(3, vi 0), (0, .ref o), (1, .ref a), (2, .ref b)]) hx hb dX3_countShared_17 rfl hl (by decide) rfl (fun ls hl => ?_)
  refine jr_iconst hx hb dX3_countShared_18 ?_
  refine lv_istore (lv' := [(4, vi 0), (3, vi 0), (0, .ref o), (1, .ref a), (2, .ref b)]) hx hb dX3_countShared_19 hl (by decide) rfl (fun ls hl => ?_)
  have lp21 : ∀ (N : Nat) (i : Nat) (n : Int), (i ≤ (pl t).length - 1) → (n = shA (pl t) (pl u) i) → (pl t).length - i < N → ∀ (H : Heap) (locs : List Loc), PP g [ob b1 6 [.ref d1, vi ((pl t).length : Int)], aI g d1 60 fn5, ob b2 6 [.ref d2, vi ((pl u).length : Int)], aI g d2 60 fn13] H → va_D A [ob b1 6 [.ref d1, vi ((pl t).length : Int)], aI g d1 60 fn5, ob b2 6 [.ref d2, vi ((pl u).length : Int)], aI g d2 60 fn13] → va_S A s.heap H locs → ∀ ls : Array Slot, lv_has ls 7 [(4, vi (i : Int)), (3, vi n), (0, .ref o), (1, .ref a), (2, .ref b)] → W p l e (rmm 2 0 0) s m ([.ref o, .ref a, .ref b] : List Value).toArray below meth cq H locs 0 0 (MQ below (jQi (fun z H1 => z = shA (pl t) (pl u) ((pl t).length - 1) ∧ ∃ f3 f4 : Nat → Int, TT (pl t) f3 ∧ TT (pl u) f4 ∧ PP g [ob b1 6 [.ref d1, vi ((pl t).length : Int)], aI g d1 60 f3, ob b2 6 [.ref d2, vi ((pl u).length : Int)], aI g d2 60 f4] H1) A) ([.ref o, .ref a, .ref b] : List Value).toArray s 0 0 A) (F0 m 21 ls []) := by
    intro N
    induction N with
    | zero => intro i n hi hF hM; exact absurd hM (Nat.not_lt_zero _)
    | succ N ih21 =>
      intro i n hi hF hM H locs hP hD hS ls hl
      have hL := hfn5.len
      have hL2 := hfn13.len
      have hsb := shA_b (pl t) (pl u) i
      refine lv_iload hx hb dX3_countShared_21 (lv_at hl 0 rfl) ?_
      refine jr_iconst hx hb dX3_countShared_23 ?_
      refine jr_iadd hx hb dX3_countShared_24 ?_
      refine lv_aload_n hx hb dX3_countShared_25 rfl (lv_at hl 2 rfl) ?_
      refine va_get (D := gD g) (ci := 3) (v := .ref b1) (C := RX3) (T := TX3) (N := 2) hx hb htl ck_X3 hown hKK.k (jat hPo hS ap_hPo) 0 rfl rfl 0 (by decide) (htl _ wd_4_23) (fun _ h9 => h9) rfl dX3_countShared_26 ?_
      refine jk_Si (va_runV (As := []) (rest := [vi ((i : Int) + 1)]) ⟨hx, hb, hml, hown, htl⟩ (m_X6_size l g b1 d1 (pl t) fn5 hfn5  ) (cwV 0 htl lk_X3_25 rfl rfl rfl cwV_X6_size ⟨Nat.le_of_ble_eq_true rfl, Nat.le_of_ble_eq_true rfl⟩) (jp_V hKK hS hAb (va_recv hKK.k hP (ci := 6) (q0 := 0) rfl rfl) (va_P.sub hP [0, 1] rfl)) rfl rfl hl.1 rfl (lv_room (Nat.le_of_ble_eq_true rfl)) dX3_countShared_29 ⟨Nat.le_of_ble_eq_true rfl, Nat.le_of_ble_eq_true rfl⟩) (fun z29 hz29 => ?_)
      subst hz29
      refine jr_ge (tgt := 107) hx hb dX3_countShared_32 (by decide) ⟨by omega, by omega⟩ ⟨by omega, by omega⟩ (fun c32 => ?_) (fun c32 => ?_)
      · refine lv_iload_n hx hb dX3_countShared_107 rfl (lv_at hl 1 rfl) ?_
        exact je_Qi hx hb hr hlk rfl hS (⟨by rw [hF]; congr 1; omega, fn5, fn13, hfn5, hfn13, hP⟩) dX3_countShared_108
      · refine lv_aload_n hx hb dX3_countShared_35 rfl (lv_at hl 2 rfl) ?_
        refine va_get (D := gD g) (ci := 3) (v := .ref b1) (C := RX3) (T := TX3) (N := 2) hx hb htl ck_X3 hown hKK.k (jat hPo hS ap_hPo) 0 rfl rfl 0 (by decide) (htl _ wd_4_23) (fun _ h9 => h9) rfl dX3_countShared_36 ?_
        refine lv_iload hx hb dX3_countShared_39 (lv_at hl 0 rfl) ?_
        refine jk_Si (va_runV (As := [vi (i : Int)]) (rest := []) ⟨hx, hb, hml, hown, htl⟩ (m_X6_at l g b1 d1 (pl t) fn5 hfn5 (i : Int) ⟨by omega, by omega⟩) (cwV 1 htl lk_X3_29 rfl rfl rfl cwV_X6_at ⟨Nat.le_of_ble_eq_true rfl, Nat.le_of_ble_eq_true rfl⟩) (jp_V hKK hS hAb (va_recv hKK.k hP (ci := 6) (q0 := 0) rfl rfl) (va_P.sub hP [0, 1] rfl)) rfl rfl hl.1 rfl (lv_room (Nat.le_of_ble_eq_true rfl)) dX3_countShared_41 ⟨Nat.le_of_ble_eq_true rfl, Nat.le_of_ble_eq_true rfl⟩) (fun z41 hz41 => ?_)
        subst hz41
        have ta := TT.tAt_b hfn5 (i : Int)
        have ta1 := ta
        refine lv_istore (lv' := [(5, vi (tAt (pl t) (i : Int))), (4, vi (i : Int)), (3, vi n), (0, .ref o), (1, .ref a), (2, .ref b)]) hx hb dX3_countShared_44 hl (by decide) rfl (fun ls hl => ?_)
        refine lv_aload_n hx hb dX3_countShared_46 rfl (lv_at hl 3 rfl) ?_
        refine va_get (D := gD g) (ci := 3) (v := .ref b1) (C := RX3) (T := TX3) (N := 2) hx hb htl ck_X3 hown hKK.k (jat hPo hS ap_hPo) 0 rfl rfl 0 (by decide) (htl _ wd_4_23) (fun _ h9 => h9) rfl dX3_countShared_47 ?_
        refine lv_iload hx hb dX3_countShared_50 (lv_at hl 1 rfl) ?_
        refine jr_iconst hx hb dX3_countShared_52 ?_
        refine jr_iadd hx hb dX3_countShared_53 ?_
        refine jk_Si (va_runV (As := [vi ((i : Int) + 1)]) (rest := []) ⟨hx, hb, hml, hown, htl⟩ (m_X6_at l g b1 d1 (pl t) fn5 hfn5 ((i : Int) + 1) ⟨by omega, by omega⟩) (cwV 1 htl lk_X3_29 rfl rfl rfl cwV_X6_at ⟨Nat.le_of_ble_eq_true rfl, Nat.le_of_ble_eq_true rfl⟩) (jp_V hKK hS hAb (va_recv hKK.k hP (ci := 6) (q0 := 0) rfl rfl) (va_P.sub hP [0, 1] rfl)) rfl rfl hl.1 rfl (lv_room (Nat.le_of_ble_eq_true rfl)) dX3_countShared_54 ⟨Nat.le_of_ble_eq_true rfl, Nat.le_of_ble_eq_true rfl⟩) (fun z54 hz54 => ?_)
        subst hz54
        have ta := TT.tAt_b hfn5 ((i : Int) + 1)
        have ta2 := ta
        refine lv_istore (lv' := [(6, vi (tAt (pl t) ((i : Int) + 1))), (5, vi (tAt (pl t) (i : Int))), (4, vi (i : Int)), (3, vi n), (0, .ref o), (1, .ref a), (2, .ref b)]) hx hb dX3_countShared_57 hl (by decide) rfl (fun ls hl => ?_)
        refine lv_aload_n hx hb dX3_countShared_59 rfl (lv_at hl 4 rfl) ?_
        refine va_get (D := gD g) (ci := 3) (v := .ref b1) (C := RX3) (T := TX3) (N := 2) hx hb htl ck_X3 hown hKK.k (jat hPo hS ap_hPo) 0 rfl rfl 0 (by decide) (htl _ wd_4_23) (fun _ h9 => h9) rfl dX3_countShared_60 ?_
        refine lv_iload hx hb dX3_countShared_63 (lv_at hl 2 rfl) ?_
        refine lv_iload hx hb dX3_countShared_65 (lv_at hl 1 rfl) ?_
        refine lv_iload hx hb dX3_countShared_67 (lv_at hl 0 rfl) ?_
        refine jk_Si (va_runS (As := [.ref b1, vi (i : Int), vi (tAt (pl t) (i : Int)), vi (tAt (pl t) ((i : Int) + 1))]) (rest := []) ⟨hx, hb, hml, hown, htl⟩ (m_X3_hasPair l g b1 d1 (pl t) fn5 hfn5 (i : Int) (tAt (pl t) (i : Int)) (tAt (pl t) ((i : Int) + 1)) (by omega) (by omega) (by omega)) (va_cwS 4 htl lk_X3_33 rfl rfl rfl cwS_X3_hasPair ⟨Nat.le_of_ble_eq_true rfl, Nat.le_of_ble_eq_true rfl⟩) (jp_S hKK hS hAb (va_P.sub hP [0, 1] rfl)) rfl rfl hl.1 rfl (lv_room (Nat.le_of_ble_eq_true rfl)) dX3_countShared_69 ⟨Nat.le_of_ble_eq_true rfl, Nat.le_of_ble_eq_true rfl⟩) (fun z69 hz69 => ?_)
        subst hz69
        refine jr_ifne (tgt := 101) hx hb dX3_countShared_72 (by decide) (i01R _) (fun c72 => ?_) (fun c72 => ?_)
        · have c72 := i01t c72
          refine jr_iinc (lv' := [(4, vi ((i : Int) + 1)), (6, vi (tAt (pl t) ((i : Int) + 1))), (5, vi (tAt (pl t) (i : Int))), (3, vi n), (0, .ref o), (1, .ref a), (2, .ref b)]) hx hb dX3_countShared_101 hl (k := 2) rfl rfl (by decide) rfl (fun ls hl => ?_)
          refine lv_goto (tgt := 21) hx hb dX3_countShared_104 (by decide) ?_
          exact ih21 (i + 1) _ (by omega) (by rw [shA, hF]; rw [if_neg (fun q => q.1 c72), Int.add_zero]) (by omega) _ _ hP hD hS ls (lv_sub hl [0, 3, 4, 5, 6] rfl)
        · have c72 := i01f c72
          refine lv_aload_n hx hb dX3_countShared_75 rfl (lv_at hl 4 rfl) ?_
          refine va_get (D := gD g) (ci := 3) (v := .ref b2) (C := RX3) (T := TX3) (N := 2) hx hb htl ck_X3 hown hKK.k (jat hPo hS ap_hPo) 0 rfl rfl 1 (by decide) (htl _ wd_5_0) (fun _ h9 => h9) rfl dX3_countShared_76 ?_
          refine lv_aload_n hx hb dX3_countShared_79 rfl (lv_at hl 4 rfl) ?_
          refine va_get (D := gD g) (ci := 3) (v := .ref b2) (C := RX3) (T := TX3) (N := 2) hx hb htl ck_X3 hown hKK.k (jat hPo hS ap_hPo) 0 rfl rfl 1 (by decide) (htl _ wd_5_0) (fun _ h9 => h9) rfl dX3_countShared_80 ?_
          refine jk_Si (va_runV (As := []) (rest := [.ref b2]) ⟨hx, hb, hml, hown, htl⟩ (m_X6_size l g b2 d2 (pl u) fn13 hfn13  ) (cwV 0 htl lk_X3_25 rfl rfl rfl cwV_X6_size ⟨Nat.le_of_ble_eq_true rfl, Nat.le_of_ble_eq_true rfl⟩) (jp_V hKK hS hAb (va_recv hKK.k hP (ci := 6) (q0 := 2) rfl rfl) (va_P.sub hP [2, 3] rfl)) rfl rfl hl.1 rfl (lv_room (Nat.le_of_ble_eq_true rfl)) dX3_countShared_83 ⟨Nat.le_of_ble_eq_true rfl, Nat.le_of_ble_eq_true rfl⟩) (fun z83 hz83 => ?_)
          subst hz83
          refine jr_iconst hx hb dX3_countShared_86 ?_
          refine jr_isub hx hb dX3_countShared_87 ?_
          refine lv_iload hx hb dX3_countShared_88 (lv_at hl 1 rfl) ?_
          refine lv_iload hx hb dX3_countShared_90 (lv_at hl 0 rfl) ?_
          refine jk_Si (va_runS (As := [.ref b2, vi (((pl u).length : Int) - 1), vi (tAt (pl t) (i : Int)), vi (tAt (pl t) ((i : Int) + 1))]) (rest := []) ⟨hx, hb, hml, hown, htl⟩ (m_X3_hasPair l g b2 d2 (pl u) fn13 hfn13 (((pl u).length : Int) - 1) (tAt (pl t) (i : Int)) (tAt (pl t) ((i : Int) + 1)) (by omega) (by omega) (by omega)) (va_cwS 4 htl lk_X3_33 rfl rfl rfl cwS_X3_hasPair ⟨Nat.le_of_ble_eq_true rfl, Nat.le_of_ble_eq_true rfl⟩) (jp_S hKK hS hAb (va_P.sub hP [2, 3] rfl)) rfl rfl hl.1 rfl (lv_room (Nat.le_of_ble_eq_true rfl)) dX3_countShared_92 ⟨Nat.le_of_ble_eq_true rfl, Nat.le_of_ble_eq_true rfl⟩) (fun z92 hz92 => ?_)
          subst hz92
          refine jr_ifeq (tgt := 101) hx hb dX3_countShared_95 (by decide) (i01R _) (fun c95 => ?_) (fun c95 => ?_)
          · have c95 := i01f c95
            refine jr_iinc (lv' := [(4, vi ((i : Int) + 1)), (6, vi (tAt (pl t) ((i : Int) + 1))), (5, vi (tAt (pl t) (i : Int))), (3, vi n), (0, .ref o), (1, .ref a), (2, .ref b)]) hx hb dX3_countShared_101 hl (k := 2) rfl rfl (by decide) rfl (fun ls hl => ?_)
            refine lv_goto (tgt := 21) hx hb dX3_countShared_104 (by decide) ?_
            exact ih21 (i + 1) _ (by omega) (by rw [shA, hF]; rw [if_neg (fun q => c95 q.2), Int.add_zero]) (by omega) _ _ hP hD hS ls (lv_sub hl [0, 3, 4, 5, 6] rfl)
          · have c95 := i01t c95
            refine jr_iinc (lv' := [(3, vi (n + 1)), (6, vi (tAt (pl t) ((i : Int) + 1))), (5, vi (tAt (pl t) (i : Int))), (4, vi (i : Int)), (0, .ref o), (1, .ref a), (2, .ref b)]) hx hb dX3_countShared_98 hl (k := 3) rfl rfl (by decide) rfl (fun ls hl => ?_)
            refine jr_iinc (lv' := [(4, vi ((i : Int) + 1)), (3, vi (n + 1)), (6, vi (tAt (pl t) ((i : Int) + 1))), (5, vi (tAt (pl t) (i : Int))), (0, .ref o), (1, .ref a), (2, .ref b)]) hx hb dX3_countShared_101 hl (k := 3) rfl rfl (by decide) rfl (fun ls hl => ?_)
            refine lv_goto (tgt := 21) hx hb dX3_countShared_104 (by decide) ?_
            exact ih21 (i + 1) _ (by omega) (by rw [shA, hF]; rw [if_pos ⟨c72, c95⟩]) (by omega) _ _ hP hD hS ls (lv_sub hl [0, 1, 4, 5, 6] rfl)
  exact lp21 _ 0 0 (Nat.zero_le _) (rfl) (Nat.lt_succ_self _) _ _ hP hD hS ls (lv_sub hl [0, 1, 2, 3, 4] rfl)
