
theorem lkF_X2_32 : GoodIn WSL (va_wsF RX2 32 RJx4a65c ⟨"java/util/List", "size", "()I"⟩ yJx4a65c_size_8abf5 (ws_ yJx4a65c_size_8abf5 cJx4a65c_size_8abf5 1 (some .int))) := gd_app (List.forall_mem_cons.mpr ⟨wd_13_19, List.forall_mem_cons.mpr ⟨wd_5_16, List.forall_mem_cons.mpr ⟨wd_5_17, List.forall_mem_cons.mpr ⟨wd_3_6, fun _ h => nomatch h⟩⟩⟩⟩) (gd_ wd_5_18)
theorem cwF_0 : (⟨"java/util/List", "size", "()I"⟩ : MethodName).cls ≠ "java/lang/invoke/MethodHandle" ∧ (⟨"java/util/List", "size", "()I"⟩ : MethodName).cls ≠ "java/lang/invoke/VarHandle" ∧ (parseMethodDescriptor (⟨"java/util/List", "size", "()I"⟩ : MethodName).desc).map (fun d => d.parameters.length) = some 0 := by decide +kernel
theorem lkF_X2_38 : GoodIn WSL (va_wsF RX2 38 RJx4a65c ⟨"java/util/List", "get", "(I)Ljava/lang/Object;"⟩ yJx4a65c_get_915e3 (ws_ yJx4a65c_get_915e3 cJx4a65c_get_915e3 2 (some (.object "java/lang/Object")))) := gd_app (List.forall_mem_cons.mpr ⟨wd_17_13, List.forall_mem_cons.mpr ⟨wd_6_11, List.forall_mem_cons.mpr ⟨wd_6_12, List.forall_mem_cons.mpr ⟨wd_3_6, fun _ h => nomatch h⟩⟩⟩⟩) (gd_ wd_6_13)
theorem cwF_1 : (⟨"java/util/List", "get", "(I)Ljava/lang/Object;"⟩ : MethodName).cls ≠ "java/lang/invoke/MethodHandle" ∧ (⟨"java/util/List", "get", "(I)Ljava/lang/Object;"⟩ : MethodName).cls ≠ "java/lang/invoke/VarHandle" ∧ (parseMethodDescriptor (⟨"java/util/List", "get", "(I)Ljava/lang/Object;"⟩ : MethodName).desc).map (fun d => d.parameters.length) = some 1 := by decide +kernel
theorem lk_X2_66 : GoodIn WSL (wsV RX2 66 RX1 yX1_compare (ws_ yX1_compare cX1_compare 3 (some .int))) := gd_app (List.forall_mem_cons.mpr ⟨wd_22_6, List.forall_mem_cons.mpr ⟨wd_22_7, List.forall_mem_cons.mpr ⟨wd_22_8, List.forall_mem_cons.mpr ⟨wd_2_22, fun _ h => nomatch h⟩⟩⟩⟩) (gd_ wd_22_9)
theorem cwV_X1_compare : yX1_compare.cls = RX1 ∧ yX1_compare.cls ≠ "java/lang/invoke/MethodHandle" ∧ yX1_compare.cls ≠ "java/lang/invoke/VarHandle" ∧ (parseMethodDescriptor yX1_compare.desc).map (fun d => d.parameters.length) = some 2 := by decide +kernel
theorem lk_X2_70 : GoodIn WSL (wsV RX2 70 RX5 yX5_countMissed (ws_ yX5_countMissed cX5_countMissed 5 (some .int))) := gd_app (List.forall_mem_cons.mpr ⟨wd_20_15, List.forall_mem_cons.mpr ⟨wd_20_16, List.forall_mem_cons.mpr ⟨wd_20_17, List.forall_mem_cons.mpr ⟨wd_3_2, fun _ h => nomatch h⟩⟩⟩⟩) (gd_ wd_20_18)
theorem cwV_X5_countMissed : yX5_countMissed.cls = RX5 ∧ yX5_countMissed.cls ≠ "java/lang/invoke/MethodHandle" ∧ yX5_countMissed.cls ≠ "java/lang/invoke/VarHandle" ∧ (parseMethodDescriptor yX5_countMissed.desc).map (fun d => d.parameters.length) = some 2 := by decide +kernel
theorem lk_X2_73 : GoodIn WSL (va_wsS RX2 73 yX2_lessMissed (ws_ yX2_lessMissed cX2_lessMissed 2 (some .int))) := gd_app (List.forall_mem_cons.mpr ⟨wd_21_23, List.forall_mem_cons.mpr ⟨wd_22_0, List.forall_mem_cons.mpr ⟨wd_1_20, fun _ h => nomatch h⟩⟩⟩) (gd_ wd_22_1)
theorem cwS_X2_lessMissed : yX2_lessMissed.cls ≠ "java/lang/invoke/MethodHandle" ∧ yX2_lessMissed.cls ≠ "java/lang/invoke/VarHandle" ∧ (parseMethodDescriptor yX2_lessMissed.desc).map (fun d => d.parameters.length) = some 2 := by decide +kernel
theorem lk_X2_80 : GoodIn WSL (va_wsS RX2 80 yX2_isBetter (ws_ yX2_isBetter cX2_isBetter 4 (some .boolean))) := gd_app (List.forall_mem_cons.mpr ⟨wd_22_3, List.forall_mem_cons.mpr ⟨wd_22_4, List.forall_mem_cons.mpr ⟨wd_1_20, fun _ h => nomatch h⟩⟩⟩) (gd_ wd_22_5)
theorem cwS_X2_isBetter : yX2_isBetter.cls ≠ "java/lang/invoke/MethodHandle" ∧ yX2_isBetter.cls ≠ "java/lang/invoke/VarHandle" ∧ (parseMethodDescriptor yX2_isBetter.desc).map (fun d => d.parameters.length) = some 4 := by decide +kernel
theorem lk_X2_77 : GoodIn WSL (wsV RX2 77 RX1 yX1_compareAtMost (ws_ yX1_compareAtMost cX1_compareAtMost 3 (some .int))) := gd_app (List.forall_mem_cons.mpr ⟨wd_21_0, List.forall_mem_cons.mpr ⟨wd_21_1, List.forall_mem_cons.mpr ⟨wd_21_2, List.forall_mem_cons.mpr ⟨wd_2_22, fun _ h => nomatch h⟩⟩⟩⟩) (gd_ wd_21_3)
theorem cwV_X1_compareAtMost : yX1_compareAtMost.cls = RX1 ∧ yX1_compareAtMost.cls ≠ "java/lang/invoke/MethodHandle" ∧ yX1_compareAtMost.cls ≠ "java/lang/invoke/VarHandle" ∧ (parseMethodDescriptor yX1_compareAtMost.desc).map (fun d => d.parameters.length) = some 2 := by decide +kernel
set_option maxHeartbeats 4000000 in
set_option maxRecDepth 100000 in
theorem m_X2_lessMissed (l : Launch) (g : GT) (a n : Int) (ha : 0 ≤ a ∧ a ≤ 100) (hm : 0 ≤ n ∧ n ≤ 1000) : Met l yX2_lessMissed (ws_ yX2_lessMissed cX2_lessMissed 2 (some .int)) (rmm 0 0 0) (jPc g [vi a, vi n] (fun H => True)) (jSi (fun z => z = lm a n)) 0 0 jN := by
  refine jb_M (by decide) (Nat.le_of_ble_eq_true rfl) ?_
  intro p e s m below meth cq hx hb hr hml hown htl hlk hnm hKK hpre ls hl
  have hown : s.vm.findClass RX2 = some m.cls := hown
  have hl : lv_has ls 2 [(0, vi a), (1, vi n)] := hl
  refine jr_iconst hx hb dX2_lessMissed_0 ?_
  refine lv_iload_n hx hb dX2_lessMissed_1 rfl (lv_at hl 0 rfl) ?_
  refine jr_bipush hx hb dX2_lessMissed_2 (by decide) ?_
  refine lv_iload_n hx hb dX2_lessMissed_4 rfl (lv_at hl 1 rfl) ?_
  refine jr_imul hx hb dX2_lessMissed_5 ?_
  refine jr_isub hx hb dX2_lessMissed_6 ?_
  refine jr_mmax hx hb (by rw [hml]; exact hl.1.symm) hown (htl _ wd_22_2) (htl _ wd_15_8) (htl _ wd_15_9) (htl _ wd_15_10) (Nat.le_of_ble_eq_true rfl) (Nat.le_of_ble_eq_true rfl) (Nat.le_of_ble_eq_true rfl) (Nat.le_of_ble_eq_true rfl) ⟨by omega, by omega⟩ ⟨by omega, by omega⟩ dX2_lessMissed_7 ?_
  exact je_Si hx hb hr hlk rfl (by unfold lm; rfl) dX2_lessMissed_10
set_option maxHeartbeats 4000000 in
set_option maxRecDepth 100000 in
theorem m_X2_isBetter (l : Launch) (g : GT) (r a r2 a2 : Int) (h1 : jR r) (h2 : jR a) (h3 : jR r2) (h4 : jR a2) : Met l yX2_isBetter (ws_ yX2_isBetter cX2_isBetter 4 (some .boolean)) (rmm 0 0 0) (jPc g [vi r, vi a, vi r2, vi a2] (fun H => True)) (jSi (fun z => z = i01 (bt r a r2 a2))) 0 0 jN := by
  refine jb_M (by decide) (Nat.le_of_ble_eq_true rfl) ?_
  intro p e s m below meth cq hx hb hr hml hown htl hlk hnm hKK hpre ls hl
  have hown : s.vm.findClass RX2 = some m.cls := hown
  have hl : lv_has ls 4 [(0, vi r), (1, vi a), (2, vi r2), (3, vi a2)] := hl
  refine lv_iload_n hx hb dX2_isBetter_0 rfl (lv_at hl 0 rfl) ?_
  refine lv_iload_n hx hb dX2_isBetter_1 rfl (lv_at hl 2 rfl) ?_
  refine jr_gt (tgt := 15) hx hb dX2_isBetter_2 (by decide) ⟨by omega, by omega⟩ ⟨by omega, by omega⟩ (fun c2 => ?_) (fun c2 => ?_)
  · refine jr_iconst hx hb dX2_isBetter_15 ?_
    refine lv_goto (tgt := 20) hx hb dX2_isBetter_16 (by decide) ?_
    exact je_Si hx hb hr hlk (nz_b (by omega)).1 ((if_pos (by omega)).symm) dX2_isBetter_20
  · refine lv_iload_n hx hb dX2_isBetter_5 rfl (lv_at hl 0 rfl) ?_
    refine lv_iload_n hx hb dX2_isBetter_6 rfl (lv_at hl 2 rfl) ?_
    refine jr_ne (tgt := 19) hx hb dX2_isBetter_7 (by decide) ⟨by omega, by omega⟩ ⟨by omega, by omega⟩ (fun c7 => ?_) (fun c7 => ?_)
    · refine jr_iconst hx hb dX2_isBetter_19 ?_
      exact je_Si hx hb hr hlk (nz_b (by omega)).1 ((if_neg (by omega)).symm) dX2_isBetter_20
    · refine lv_iload_n hx hb dX2_isBetter_10 rfl (lv_at hl 1 rfl) ?_
      refine lv_iload_n hx hb dX2_isBetter_11 rfl (lv_at hl 3 rfl) ?_
      refine jr_le (tgt := 19) hx hb dX2_isBetter_12 (by decide) ⟨by omega, by omega⟩ ⟨by omega, by omega⟩ (fun c12 => ?_) (fun c12 => ?_)
      · refine jr_iconst hx hb dX2_isBetter_19 ?_
        exact je_Si hx hb hr hlk (nz_b (by omega)).1 ((if_neg (by omega)).symm) dX2_isBetter_20
      · refine jr_iconst hx hb dX2_isBetter_15 ?_
        refine lv_goto (tgt := 20) hx hb dX2_isBetter_16 (by decide) ?_
        exact je_Si hx hb hr hlk (nz_b (by omega)).1 ((if_pos (by omega)).symm) dX2_isBetter_20
set_option maxHeartbeats 4000000 in
set_option maxRecDepth 100000 in
theorem m_X2_size (l : Launch) (g : GT) (me e9 t9 rows : Nat) (us : List UR) (lw : va_W) (hL : LW g rows (us.map uA) lw) (hUO : ∀ u ∈ us, UOK u) (h60 : us.length ≤ 60) : Met l yX2_size (ws_ yX2_size cX2_size 1 (some .int)) (rmm 1 0 0) (jPc g [.ref me] (fun H => PP g [ob me 2 [.ref e9, .ref t9, .ref rows]] H ∧ PP g (MR g us lw) H)) (jSi (fun z => z = (us.length : Int))) 0 0 jN := by
  refine jb_M (by decide) (Nat.le_of_ble_eq_true rfl) ?_
  intro p e s m below meth cq hx hb hr hml hown htl hlk hnm hKK hpre ls hl
  have hown : s.vm.findClass RX2 = some m.cls := hown
  have hl : lv_has ls 1 [(0, .ref me)] := hl
  obtain ⟨hPm, hPr⟩ := hpre
  refine lv_aload_n hx hb dX2_size_0 rfl (lv_at hl 0 rfl) ?_
  refine va_get (D := gD g) (ci := 2) (v := .ref rows) (C := RX2) (T := TX2) (N := 3) hx hb htl ck_X2 hown hKK.k hPm 0 rfl rfl 2 (by decide) (htl _ wd_3_7) (fun _ h9 => h9) rfl dX2_size_1 ?_
  refine jk5_Si (va_runF (As := []) (rest := []) (hKK.k.1 11 _ rfl).2 ⟨hx, hb, hml, hown, htl⟩ (m_Lsize l g rows (us.map uA) lw hL) (va_cwF 0 htl lkF_X2_32 rfl rfl rfl (fw_0 hKK) cwF_0 ⟨Nat.le_of_ble_eq_true rfl, Nat.le_of_ble_eq_true rfl⟩) (jp_V hKK (va_S.rf (A := jN)) jNb (LW.recv hKK hL (hPr.mem MR.l)) (hPr.mem MR.l)) rfl rfl hl.1 rfl (lv_room (Nat.le_of_ble_eq_true rfl)) dX2_size_4 ⟨Nat.le_of_ble_eq_true rfl, Nat.le_of_ble_eq_true rfl⟩) (fun z4 hz4 => ?_)
  rw [List.length_map] at hz4; subst hz4
  exact je_Si hx hb hr hlk rfl (rfl) dX2_size_9
set_option maxHeartbeats 4000000 in
set_option maxRecDepth 100000 in
theorem m_X2_at (l : Launch) (g : GT) (me e9 t9 rows : Nat) (us : List UR) (lw : va_W) (hL : LW g rows (us.map uA) lw) (hUO : ∀ u ∈ us, UOK u) (h60 : us.length ≤ 60) (i : Nat) (hi : i < us.length) : Met l yX2_at (ws_ yX2_at cX2_at 2 (some (.object "Fuzzyseg$Unit"))) (rmm 3 0 0) (jPc g [.ref me, vi (i : Int)] (fun H => PP g [ob me 2 [.ref e9, .ref t9, .ref rows]] H ∧ PP g (MR g us lw) H)) (jSr (fun z => z = (us.map uA).getD i 0)) 0 0 jN := by
  refine jb_M (by decide) (Nat.le_of_ble_eq_true rfl) ?_
  intro p e s m below meth cq hx hb hr hml hown htl hlk hnm hKK hpre ls hl
  have hown : s.vm.findClass RX2 = some m.cls := hown
  have hl : lv_has ls 2 [(0, .ref me), (1, vi (i : Int))] := hl
  obtain ⟨hPm, hPr⟩ := hpre
  refine lv_aload_n hx hb dX2_at_0 rfl (lv_at hl 0 rfl) ?_
  refine va_get (D := gD g) (ci := 2) (v := .ref rows) (C := RX2) (T := TX2) (N := 3) hx hb htl ck_X2 hown hKK.k hPm 0 rfl rfl 2 (by decide) (htl _ wd_3_7) (fun _ h9 => h9) rfl dX2_at_1 ?_
  refine lv_iload_n hx hb dX2_at_4 rfl (lv_at hl 1 rfl) ?_
  refine jk5_Sr (va_runF (As := [vi (i : Int)]) (rest := []) (hKK.k.1 11 _ rfl).2 ⟨hx, hb, hml, hown, htl⟩ (m_Lget l g rows (us.map uA) lw hL i (by rw [List.length_map]; omega)) (va_cwF 1 htl lkF_X2_38 rfl rfl rfl (fw_1 hKK) cwF_1 ⟨Nat.le_of_ble_eq_true rfl, Nat.le_of_ble_eq_true rfl⟩) (jp_V hKK (va_S.rf (A := jN)) jNb (LW.recv hKK hL (hPr.mem MR.l)) (hPr.mem MR.l)) rfl rfl hl.1 rfl (lv_room (Nat.le_of_ble_eq_true rfl)) dX2_at_5 ⟨Nat.le_of_ble_eq_true rfl, Nat.le_of_ble_eq_true rfl⟩) (fun z5 hz5 => ?_)
  obtain ⟨u, hu⟩ : ∃ u, us[i]? = some u := ⟨_, List.getElem?_eq_getElem (show i < us.length by omega)⟩
  rw [uA_get hu] at hz5
  obtain ⟨ua, us1, usc, ut, utc, s0, fs0, t0, ft0, lv⟩ := u
  obtain ⟨hs0, ht0, hlv⟩ : TT s0 fs0 ∧ TT t0 ft0 ∧ (lv = 0 ∨ lv = 1) := hUO _ (List.mem_of_getElem? hu)
  have huv : uv us (i) = (s0, t0, lv) := uv_get hu
  have hPu : PP g [ob ua 7 [.ref us1, .ref ut, vi lv], ob us1 6 [.ref usc, vi (s0.length : Int)], aI g usc 60 fs0, ob ut 6 [.ref utc, vi (t0.length : Int)], aI g utc 60 ft0] s.heap := hPr.mem (MR.u hu)
  have hz5 : z5 = ua := hz5
  rw [hz5]
  refine va_castS hx hb hown (htl _ wd_17_12) (hKK.k.1 7 _ rfl).2 (va_recv hKK.k hPu (ci := 7) (q0 := 0) rfl rfl) dX2_at_10 ?_
  exact je_Sr hx hb hr hlk ((uA_get hu).symm) dX2_at_13
set_option maxHeartbeats 4000000 in
set_option maxRecDepth 100000 in
theorem m_X2_countLive (l : Launch) (g : GT) (me e9 t9 rows : Nat) (us : List UR) (lw : va_W) (hL : LW g rows (us.map uA) lw) (hUO : ∀ u ∈ us, UOK u) (h60 : us.length ≤ 60) : Met l yX2_countLive (ws_ yX2_countLive cX2_countLive 3 (some .int)) (rmm 3 0 0) (jPc g [.ref me] (fun H => PP g [ob me 2 [.ref e9, .ref t9, .ref rows]] H ∧ PP g (MR g us lw) H)) (jSi (fun z => z = clv (uv us) us.length)) 0 0 jN := by
  refine jb_M (by decide) (Nat.le_of_ble_eq_true rfl) ?_
  intro p e s m below meth cq hx hb hr hml hown htl hlk hnm hKK hpre ls hl
  have hown : s.vm.findClass RX2 = some m.cls := hown
  have hl : lv_has ls 3 [(0, .ref me)] := hl
  obtain ⟨hPm, hPr⟩ := hpre
  refine jr_iconst hx hb dX2_countLive_0 ?_
  refine lv_istore_n (lv' := [(1, vi 0), (0, .ref me)]) hx hb dX2_countLive_1 rfl hl (by decide) rfl (fun ls hl => ?_)
  refine jr_iconst hx hb dX2_countLive_2 ?_
  refine lv_istore_n (lv' := [(2, vi 0), (1, vi 0), (0, .ref me)]) hx hb dX2_countLive_3 rfl hl (by decide) rfl (fun ls hl => ?_)
  have lp4 : ∀ (N : Nat) (i : Nat) (n : Int), (i ≤ us.length) → (n = clv (uv us) i) → us.length - i < N → ∀ ls : Array Slot, lv_has ls 3 [(2, vi (i : Int)), (1, vi n), (0, .ref me)] → W p l e (rmm 3 0 0) s m ([.ref me] : List Value).toArray below meth cq s.heap [] 0 0 (MQ below (jSi (fun z => z = clv (uv us) us.length)) ([.ref me] : List Value).toArray s 0 0 jN) (F0 m 4 ls []) := by
    intro N
    induction N with
    | zero => intro i n hi hF hM; exact absurd hM (Nat.not_lt_zero _)
    | succ N ih4 =>
      intro i n hi hF hM ls hl
      have hcb := clv_b (uv us) i
      refine lv_iload_n hx hb dX2_countLive_4 rfl (lv_at hl 0 rfl) ?_
      refine lv_aload_n hx hb dX2_countLive_5 rfl (lv_at hl 2 rfl) ?_
      refine va_get (D := gD g) (ci := 2) (v := .ref rows) (C := RX2) (T := TX2) (N := 3) hx hb htl ck_X2 hown hKK.k hPm 0 rfl rfl 2 (by decide) (htl _ wd_3_7) (fun _ h9 => h9) rfl dX2_countLive_6 ?_
      refine jk5_Si (va_runF (As := []) (rest := [vi (i : Int)]) (hKK.k.1 11 _ rfl).2 ⟨hx, hb, hml, hown, htl⟩ (m_Lsize l g rows (us.map uA) lw hL) (va_cwF 0 htl lkF_X2_32 rfl rfl rfl (fw_0 hKK) cwF_0 ⟨Nat.le_of_ble_eq_true rfl, Nat.le_of_ble_eq_true rfl⟩) (jp_V hKK (va_S.rf (A := jN)) jNb (LW.recv hKK hL (hPr.mem MR.l)) (hPr.mem MR.l)) rfl rfl hl.1 rfl (lv_room (Nat.le_of_ble_eq_true rfl)) dX2_countLive_9 ⟨Nat.le_of_ble_eq_true rfl, Nat.le_of_ble_eq_true rfl⟩) (fun z9 hz9 => ?_)
      rw [List.length_map] at hz9; subst hz9
      refine jr_ge (tgt := 45) hx hb dX2_countLive_14 (by decide) ⟨by omega, by omega⟩ ⟨by omega, by omega⟩ (fun c14 => ?_) (fun c14 => ?_)
      · refine lv_iload_n hx hb dX2_countLive_45 rfl (lv_at hl 1 rfl) ?_
        exact je_Si hx hb hr hlk rfl (by obtain rfl : i = us.length := (by omega); exact hF) dX2_countLive_46
      · refine lv_aload_n hx hb dX2_countLive_17 rfl (lv_at hl 2 rfl) ?_
        refine va_get (D := gD g) (ci := 2) (v := .ref rows) (C := RX2) (T := TX2) (N := 3) hx hb htl ck_X2 hown hKK.k hPm 0 rfl rfl 2 (by decide) (htl _ wd_3_7) (fun _ h9 => h9) rfl dX2_countLive_18 ?_
        refine lv_iload_n hx hb dX2_countLive_21 rfl (lv_at hl 0 rfl) ?_
        refine jk5_Sr (va_runF (As := [vi (i : Int)]) (rest := []) (hKK.k.1 11 _ rfl).2 ⟨hx, hb, hml, hown, htl⟩ (m_Lget l g rows (us.map uA) lw hL i (by rw [List.length_map]; omega)) (va_cwF 1 htl lkF_X2_38 rfl rfl rfl (fw_1 hKK) cwF_1 ⟨Nat.le_of_ble_eq_true rfl, Nat.le_of_ble_eq_true rfl⟩) (jp_V hKK (va_S.rf (A := jN)) jNb (LW.recv hKK hL (hPr.mem MR.l)) (hPr.mem MR.l)) rfl rfl hl.1 rfl (lv_room (Nat.le_of_ble_eq_true rfl)) dX2_countLive_22 ⟨Nat.le_of_ble_eq_true rfl, Nat.le_of_ble_eq_true rfl⟩) (fun z22 hz22 => ?_)
        obtain ⟨u, hu⟩ : ∃ u, us[i]? = some u := ⟨_, List.getElem?_eq_getElem (show i < us.length by omega)⟩
        rw [uA_get hu] at hz22
        obtain ⟨ua, us1, usc, ut, utc, s0, fs0, t0, ft0, lv⟩ := u
        obtain ⟨hs0, ht0, hlv⟩ : TT s0 fs0 ∧ TT t0 ft0 ∧ (lv = 0 ∨ lv = 1) := hUO _ (List.mem_of_getElem? hu)
        have huv : uv us (i) = (s0, t0, lv) := uv_get hu
        have hPu : PP g [ob ua 7 [.ref us1, .ref ut, vi lv], ob us1 6 [.ref usc, vi (s0.length : Int)], aI g usc 60 fs0, ob ut 6 [.ref utc, vi (t0.length : Int)], aI g utc 60 ft0] s.heap := hPr.mem (MR.u hu)
        have hz22 : z22 = ua := hz22
        rw [hz22]
        refine va_castS hx hb hown (htl _ wd_17_12) (hKK.k.1 7 _ rfl).2 (va_recv hKK.k hPu (ci := 7) (q0 := 0) rfl rfl) dX2_countLive_27 ?_
        refine va_get (D := gD g) (ci := 7) (v := vi lv) (C := RX8) (T := TX8) (N := 3) hx hb htl ck_X8 hown hKK.k hPu 0 rfl rfl 2 (by decide) (htl _ wd_17_22) (fun _ h9 => h9) rfl dX2_countLive_30 ?_
        refine jr_ifeq (tgt := 39) hx hb dX2_countLive_33 (by decide) ⟨by omega, by omega⟩ (fun c33 => ?_) (fun c33 => ?_)
        · refine jr_iinc (lv' := [(2, vi ((i : Int) + 1)), (1, vi n), (0, .ref me)]) hx hb dX2_countLive_39 hl (k := 0) rfl rfl (by decide) rfl (fun ls hl => ?_)
          refine lv_goto (tgt := 4) hx hb dX2_countLive_42 (by decide) ?_
          exact ih4 (i + 1) _ (by omega) (by rw [clv, hF, huv]; rw [if_pos c33, Int.add_zero]) (by omega) ls (lv_sub hl [0, 1, 2] rfl)
        · refine jr_iinc (lv' := [(1, vi (n + 1)), (2, vi (i : Int)), (0, .ref me)]) hx hb dX2_countLive_36 hl (k := 1) rfl rfl (by decide) rfl (fun ls hl => ?_)
          refine jr_iinc (lv' := [(2, vi ((i : Int) + 1)), (1, vi (n + 1)), (0, .ref me)]) hx hb dX2_countLive_39 hl (k := 1) rfl rfl (by decide) rfl (fun ls hl => ?_)
          refine lv_goto (tgt := 4) hx hb dX2_countLive_42 (by decide) ?_
          exact ih4 (i + 1) _ (by omega) (by rw [clv, hF, huv]; rw [if_neg c33]) (by omega) ls (lv_sub hl [0, 1, 2] rfl)
  exact lp4 _ 0 0 (Nat.zero_le _) (rfl) (Nat.lt_succ_self _) ls (lv_sub hl [0, 1, 2] rfl)
set_option maxHeartbeats 4000000 in
set_option maxRecDepth 100000 in
theorem m_X2_findAmongAll (l : Launch) (g : GT) (me t9 rows : Nat) (us : List UR) (lw : va_W) (hL : LW g rows (us.map uA) lw) (hUO : ∀ u ∈ us, UOK u) (h60 : us.length ≤ 60) (e0 wt wa r1 r2 ri : Nat) (w : Nat → Int) (hw : WB w) (g1 g2 g3 : Nat → Int) (b9 c9 n : Nat) (fs ft : Nat → Int) (ht : TB n fs ft) (a c : Nat) (t : List Int) (f : Nat → Int) (hf : TT t f) (hnq : ∀ x ∈ ([me] : List Nat), x ∉ ([r1, r2, ri] : List Nat)) (hnr : ∀ x ∈ (MR g us lw).map (·.1), x ∉ ([r1, r2, ri] : List Nat)) (hne : ∀ x ∈ ([e0, wt, wa] : List Nat), x ∉ ([r1, r2, ri] : List Nat)) (hnt : ∀ x ∈ ([t9, b9, c9] : List Nat), x ∉ ([r1, r2, ri] : List Nat)) (hnx : ∀ x ∈ ([a, c] : List Nat), x ∉ ([r1, r2, ri] : List Nat)) : Met l yX2_findAmongAll (ws_ yX2_findAmongAll cX2_findAmongAll 10 (some .int)) (rmm 6 0 0) (jPc g [.ref me, .ref a] (fun H => PP g [aI g r1 61 g1, aI g r2 61 g2, aI g ri 60 g3] H ∧ va_D (fun q => gb g ≤ q) [aI g r1 61 g1, aI g r2 61 g2, aI g ri 60 g3] ∧ PP g [ob me 2 [.ref e0, .ref t9, .ref rows]] H ∧ PP g (MR g us lw) H ∧ PP g [ob e0 1 [.ref wt, .ref r1, .ref r2, .ref ri], ob wt 8 [.ref wa], aI g wa 4 w] H ∧ PP g [ob t9 5 [.ref b9, .ref c9, vi (n : Int)], aI g b9 20 fs, aI g c9 20 ft] H ∧ PP g [ob a 6 [.ref c, vi (t.length : Int)], aI g c 60 f] H)) (jQi (fun z H1 => z = (fa w (n, fs, ft) t (uv us) us.length).1 ∧ ∃ g1 g2 g3 : Nat → Int, PP g [aI g r1 61 g1, aI g r2 61 g2, aI g ri 60 g3] H1) (jA [aI g r1 61 g1, aI g r2 61 g2, aI g ri 60 g3])) 0 0 (jA [aI g r1 61 g1, aI g r2 61 g2, aI g ri 60 g3]) := by
  refine jb_M (by decide) (Nat.le_of_ble_eq_true rfl) ?_
  intro p e s m below meth cq hx hb hr hml hown htl hlk hnm hKK hpre ls hl
  have hown : s.vm.findClass RX2 = some m.cls := hown
  have hl : lv_has ls 10 [(0, .ref me), (1, .ref a)] := hl
  obtain ⟨hP, hD0, hPm, hPr, hPe, hPt, hPx⟩ := hpre
  have hLx := hf.len
  have hn20 := ht.1
  have ap_hPm : ∀ (k : Nat) (q : Nat × va_E), ([ob me 2 [.ref e0, .ref t9, .ref rows]] : va_W)[k]? = some q → ¬ (jA [aI g r1 61 g1, aI g r2 61 g2, aI g ri 60 g3]) q.1 := jap (hnq)
  have ap_hPr : ∀ (k : Nat) (q : Nat × va_E), ((MR g us lw) : va_W)[k]? = some q → ¬ (jA [aI g r1 61 g1, aI g r2 61 g2, aI g ri 60 g3]) q.1 := jap (hnr)
  have ap_hPe : ∀ (k : Nat) (q : Nat × va_E), ([ob e0 1 [.ref wt, .ref r1, .ref r2, .ref ri], ob wt 8 [.ref wa], aI g wa 4 w] : va_W)[k]? = some q → ¬ (jA [aI g r1 61 g1, aI g r2 61 g2, aI g ri 60 g3]) q.1 := jap (hne)
  have ap_hPt : ∀ (k : Nat) (q : Nat × va_E), ([ob t9 5 [.ref b9, .ref c9, vi (n : Int)], aI g b9 20 fs, aI g c9 20 ft] : va_W)[k]? = some q → ¬ (jA [aI g r1 61 g1, aI g r2 61 g2, aI g ri 60 g3]) q.1 := jap (hnt)
  have ap_hPx : ∀ (k : Nat) (q : Nat × va_E), ([ob a 6 [.ref c, vi (t.length : Int)], aI g c 60 f] : va_W)[k]? = some q → ¬ (jA [aI g r1 61 g1, aI g r2 61 g2, aI g ri 60 g3]) q.1 := jap (hnx)
  have hD : va_D (jA [aI g r1 61 g1, aI g r2 61 g2, aI g ri 60 g3]) [aI g r1 61 g1, aI g r2 61 g2, aI g ri 60 g3] := hD0.inD
  have hAb : ∀ q, (jA [aI g r1 61 g1, aI g r2 61 g2, aI g ri 60 g3]) q → gb g ≤ q := fun q h => hD0.inA h
  generalize hAe : jA [aI g r1 61 g1, aI g r2 61 g2, aI g ri 60 g3] = A at *
  have hS : va_S A s.heap s.heap [] := va_S.rf
  suffices K : ∀ (H : Heap) (locs : List Loc), PP g [aI g r1 61 g1, aI g r2 61 g2, aI g ri 60 g3] H → va_D A [aI g r1 61 g1, aI g r2 61 g2, aI g ri 60 g3] → va_S A s.heap H locs → ∀ ls : Array Slot, lv_has ls 10 [(0, .ref me), (1, .ref a)] → W p l e (rmm 6 0 0) s m ([.ref me, .ref a] : List Value).toArray below meth cq H locs 0 0 (MQ below (jQi (fun z H1 => z = (fa w (n, fs, ft) t (uv us) us.length).1 ∧ ∃ g1 g2 g3 : Nat → Int, PP g [aI g r1 61 g1, aI g r2 61 g2, aI g ri 60 g3] H1) A) ([.ref me, .ref a] : List Value).toArray s 0 0 A) (F0 m 0 ls []) from K _ _ hP hD hS _ hl
  clear hl; intro H locs hP hD hS ls hl
  refine jr_iconst hx hb dX2_findAmongAll_0 ?_
  refine lv_istore_n (lv' := [(2, vi (-1)), (0, .ref me), (1, .ref a)]) hx hb dX2_findAmongAll_1 rfl hl (by decide) rfl (fun ls hl => ?_)
  refine jr_iconst hx hb dX2_findAmongAll_2 ?_
  refine lv_istore_n (lv' := [(3, vi 0), (2, vi (-1)), (0, .ref me), (1, .ref a)]) hx hb dX2_findAmongAll_3 rfl hl (by decide) rfl (fun ls hl => ?_)
  refine jr_iconst hx hb dX2_findAmongAll_4 ?_
  refine lv_istore (lv' := [(4, vi 0), (3, vi 0), (2, vi (-1)), (0, .ref me), (1, .ref a)]) hx hb dX2_findAmongAll_5 hl (by decide) rfl (fun ls hl => ?_)
  refine jr_iconst hx hb dX2_findAmongAll_7 ?_
  refine lv_istore (lv' := [(5, vi 0), (4, vi 0), (3, vi 0), (2, vi (-1)), (0, .ref me), (1, .ref a)]) hx hb dX2_findAmongAll_8 hl (by decide) rfl (fun ls hl => ?_)
  have lp10 : ∀ (N : Nat) (i : Nat) (x : F3) (h1 h2 h3 : Nat → Int), (i ≤ us.length) → (x = fa w (n, fs, ft) t (uv us) i) → us.length - i < N → ∀ (H : Heap) (locs : List Loc), PP g [aI g r1 61 h1, aI g r2 61 h2, aI g ri 60 h3] H → va_D A [aI g r1 61 h1, aI g r2 61 h2, aI g ri 60 h3] → va_S A s.heap H locs → ∀ ls : Array Slot, lv_has ls 10 [(5, vi (i : Int)), (4, vi x.2.2), (3, vi x.2.1), (2, vi x.1), (0, .ref me), (1, .ref a)] → W p l e (rmm 6 0 0) s m ([.ref me, .ref a] : List Value).toArray below meth cq H locs 0 0 (MQ below (jQi (fun z H1 => z = (fa w (n, fs, ft) t (uv us) us.length).1 ∧ ∃ g1 g2 g3 : Nat → Int, PP g [aI g r1 61 g1, aI g r2 61 g2, aI g ri 60 g3] H1) A) ([.ref me, .ref a] : List Value).toArray s 0 0 A) (F0 m 10 ls []) := by
    intro N
    induction N with
    | zero => intro i x h1 h2 h3 hi hF hM; exact absurd hM (Nat.not_lt_zero _)
    | succ N ih10 =>
      intro i x h1 h2 h3 hi hF hM H locs hP hD hS ls hl
      have hq := fa_b hw (n, fs, ft) t (uv us) i
      rw [← hF] at hq
      obtain ⟨hq1, hq2, hq3⟩ := hq
      refine lv_iload hx hb dX2_findAmongAll_10 (lv_at hl 0 rfl) ?_
      refine lv_aload_n hx hb dX2_findAmongAll_12 rfl (lv_at hl 4 rfl) ?_
      refine va_get (D := gD g) (ci := 2) (v := .ref rows) (C := RX2) (T := TX2) (N := 3) hx hb htl ck_X2 hown hKK.k (jat hPm hS ap_hPm) 0 rfl rfl 2 (by decide) (htl _ wd_3_7) (fun _ h9 => h9) rfl dX2_findAmongAll_13 ?_
      refine jk5_Si (va_runF (As := []) (rest := [vi (i : Int)]) (hKK.k.1 11 _ rfl).2 ⟨hx, hb, hml, hown, htl⟩ (m_Lsize l g rows (us.map uA) lw hL) (va_cwF 0 htl lkF_X2_32 rfl rfl rfl (fw_0 hKK) cwF_0 ⟨Nat.le_of_ble_eq_true rfl, Nat.le_of_ble_eq_true rfl⟩) (jp_V hKK hS hAb (LW.recv hKK hL ((jat hPr hS ap_hPr).mem MR.l)) ((jat hPr hS ap_hPr).mem MR.l)) rfl rfl hl.1 rfl (lv_room (Nat.le_of_ble_eq_true rfl)) dX2_findAmongAll_16 ⟨Nat.le_of_ble_eq_true rfl, Nat.le_of_ble_eq_true rfl⟩) (fun z16 hz16 => ?_)
      rw [List.length_map] at hz16; subst hz16
      refine jr_ge (tgt := 130) hx hb dX2_findAmongAll_21 (by decide) ⟨by omega, by omega⟩ ⟨by omega, by omega⟩ (fun c21 => ?_) (fun c21 => ?_)
      · refine lv_iload_n hx hb dX2_findAmongAll_130 rfl (lv_at hl 3 rfl) ?_
        exact je_Qi hx hb hr hlk rfl hS (⟨by obtain rfl : i = us.length := (by omega); rw [← hF], h1, h2, h3, hP⟩) dX2_findAmongAll_131
      · refine lv_aload_n hx hb dX2_findAmongAll_24 rfl (lv_at hl 4 rfl) ?_
        refine va_get (D := gD g) (ci := 2) (v := .ref rows) (C := RX2) (T := TX2) (N := 3) hx hb htl ck_X2 hown hKK.k (jat hPm hS ap_hPm) 0 rfl rfl 2 (by decide) (htl _ wd_3_7) (fun _ h9 => h9) rfl dX2_findAmongAll_25 ?_
        refine lv_iload hx hb dX2_findAmongAll_28 (lv_at hl 0 rfl) ?_
        refine jk5_Sr (va_runF (As := [vi (i : Int)]) (rest := []) (hKK.k.1 11 _ rfl).2 ⟨hx, hb, hml, hown, htl⟩ (m_Lget l g rows (us.map uA) lw hL i (by rw [List.length_map]; omega)) (va_cwF 1 htl lkF_X2_38 rfl rfl rfl (fw_1 hKK) cwF_1 ⟨Nat.le_of_ble_eq_true rfl, Nat.le_of_ble_eq_true rfl⟩) (jp_V hKK hS hAb (LW.recv hKK hL ((jat hPr hS ap_hPr).mem MR.l)) ((jat hPr hS ap_hPr).mem MR.l)) rfl rfl hl.1 rfl (lv_room (Nat.le_of_ble_eq_true rfl)) dX2_findAmongAll_30 ⟨Nat.le_of_ble_eq_true rfl, Nat.le_of_ble_eq_true rfl⟩) (fun z30 hz30 => ?_)
        obtain ⟨u, hu⟩ : ∃ u, us[i]? = some u := ⟨_, List.getElem?_eq_getElem (show i < us.length by omega)⟩
        rw [uA_get hu] at hz30
        obtain ⟨ua, us1, usc, ut, utc, s0, fs0, t0, ft0, lv⟩ := u
        obtain ⟨hs0, ht0, hlv⟩ : TT s0 fs0 ∧ TT t0 ft0 ∧ (lv = 0 ∨ lv = 1) := hUO _ (List.mem_of_getElem? hu)
        have huv : uv us (i) = (s0, t0, lv) := uv_get hu
        have hPu : PP g [ob ua 7 [.ref us1, .ref ut, vi lv], ob us1 6 [.ref usc, vi (s0.length : Int)], aI g usc 60 fs0, ob ut 6 [.ref utc, vi (t0.length : Int)], aI g utc 60 ft0] s.heap := hPr.mem (MR.u hu)
        have ap_hPu : ∀ (k : Nat) (q : Nat × va_E), ([ob ua 7 [.ref us1, .ref ut, vi lv], ob us1 6 [.ref usc, vi (s0.length : Int)], aI g usc 60 fs0, ob ut 6 [.ref utc, vi (t0.length : Int)], aI g utc 60 ft0] : va_W)[k]? = some q → ¬ A q.1 := ap_mem ap_hPr (MR.u hu)
        have hz30 : z30 = ua := hz30
        rw [hz30]
        refine va_castS hx hb hown (htl _ wd_17_12) (hKK.k.1 7 _ rfl).2 (va_recv hKK.k (jat hPu hS ap_hPu) (ci := 7) (q0 := 0) rfl rfl) dX2_findAmongAll_35 ?_
        refine lv_astore (lv' := [(6, .ref ua), (5, vi (i : Int)), (4, vi x.2.2), (3, vi x.2.1), (2, vi x.1), (0, .ref me), (1, .ref a)]) hx hb dX2_findAmongAll_38 hl (by decide) rfl (fun ls hl => ?_)
        refine lv_aload_n hx hb dX2_findAmongAll_40 rfl (lv_at hl 5 rfl) ?_
        refine va_get (D := gD g) (ci := 2) (v := .ref e0) (C := RX2) (T := TX2) (N := 3) hx hb htl ck_X2 hown hKK.k (jat hPm hS ap_hPm) 0 rfl rfl 0 (by decide) (htl _ wd_2_23) (fun _ h9 => h9) rfl dX2_findAmongAll_41 ?_
        refine lv_aload_n hx hb dX2_findAmongAll_44 rfl (lv_at hl 6 rfl) ?_
        refine lv_aload hx hb dX2_findAmongAll_45 (lv_at hl 0 rfl) ?_
        refine va_get (D := gD g) (ci := 7) (v := .ref us1) (C := RX8) (T := TX8) (N := 3) hx hb htl ck_X8 hown hKK.k (jat hPu hS ap_hPu) 0 rfl rfl 0 (by decide) (htl _ wd_14_3) (fun _ h9 => h9) rfl dX2_findAmongAll_47 ?_
        have hDc : va_D A [aI g r1 61 h1, aI g r2 61 h2, aI g ri 60 h3] := hD.sub [0, 1, 2] (by decide) rfl
        refine jk_Qi (va_runV (As := [.ref a, .ref us1]) (rest := []) ⟨hx, hb, hml, hown, htl⟩ (m_X1_compare l g e0 wt wa r1 r2 ri w hw h1 h2 h3 a c t f hf us1 usc s0 fs0 hs0 (jdisR hD ap_hPe [0, 1, 2] [0, 1, 2] rfl rfl) (jdisR hD ap_hPx [0, 1] [0, 1, 2] rfl rfl) (jdisR hD ap_hPu [1, 2] [0, 1, 2] rfl rfl) ) (cwV 2 htl lk_X2_66 rfl rfl rfl cwV_X1_compare ⟨Nat.le_of_ble_eq_true rfl, Nat.le_of_ble_eq_true rfl⟩) (jp_V hKK hS hAb (va_recv hKK.k (jat hPe hS ap_hPe) (ci := 1) (q0 := 0) rfl rfl) ⟨hP, hDc.weaken (fun _ q _ h => hAb _ h), (jat hPe hS ap_hPe), (jat hPx hS ap_hPx), (va_P.sub (jat hPu hS ap_hPu) [1, 2] rfl)⟩) rfl rfl hl.1 rfl (lv_room (Nat.le_of_ble_eq_true rfl)) dX2_findAmongAll_50 ⟨Nat.le_of_ble_eq_true rfl, Nat.le_of_ble_eq_true rfl⟩) hS (fun q _ h => hDc.inA h) (fun q h => hDc.inA h) (fun z50 H1 locs hz50 hzs hks hS => ?_)
        obtain ⟨hz50, gr1_50, gr2_50, gr3_50, hP1⟩ := hz50
        obtain ⟨hP, hD⟩ := jput (wc := [aI g r1 61 h1, aI g r2 61 h2, aI g ri 60 h3]) (w1 := [aI g r1 61 gr1_50, aI g r2 61 gr2_50, aI g ri 60 gr3_50]) hP hD [0, 1, 2] rfl rfl hks (fun q _ h => h) hP1
        clear hzs hks; generalize H1 = H at hP hD hS ⊢
        have hP : PP g [aI g r1 61 gr1_50, aI g r2 61 gr2_50, aI g ri 60 gr3_50] H := hP
        have hD : va_D A [aI g r1 61 gr1_50, aI g r2 61 gr2_50, aI g ri 60 gr3_50] := hD
        subst hz50
        have tl := lk_b hw t s0
        refine lv_istore (lv' := [(7, vi (lk w t s0)), (6, .ref ua), (5, vi (i : Int)), (4, vi x.2.2), (3, vi x.2.1), (2, vi x.1), (0, .ref me), (1, .ref a)]) hx hb dX2_findAmongAll_53 hl (by decide) rfl (fun ls hl => ?_)
        refine lv_iload hx hb dX2_findAmongAll_55 (lv_at hl 0 rfl) ?_
        refine lv_aload_n hx hb dX2_findAmongAll_57 rfl (lv_at hl 6 rfl) ?_
        refine va_get (D := gD g) (ci := 2) (v := .ref t9) (C := RX2) (T := TX2) (N := 3) hx hb htl ck_X2 hown hKK.k (jat hPm hS ap_hPm) 0 rfl rfl 1 (by decide) (htl _ wd_3_3) (fun _ h9 => h9) rfl dX2_findAmongAll_58 ?_
        refine lv_aload_n hx hb dX2_findAmongAll_61 rfl (lv_at hl 7 rfl) ?_
        refine lv_aload hx hb dX2_findAmongAll_62 (lv_at hl 1 rfl) ?_
        refine va_get (D := gD g) (ci := 7) (v := .ref ut) (C := RX8) (T := TX8) (N := 3) hx hb htl ck_X8 hown hKK.k (jat hPu hS ap_hPu) 0 rfl rfl 1 (by decide) (htl _ wd_14_4) (fun _ h9 => h9) rfl dX2_findAmongAll_64 ?_
        refine jk_Si (va_runV (As := [.ref a, .ref ut]) (rest := [vi (lk w t s0)]) ⟨hx, hb, hml, hown, htl⟩ (m_X5_countMissed l g t9 b9 c9 n fs ft ht a c t f hf ut utc t0 ft0 ht0 ) (cwV 2 htl lk_X2_70 rfl rfl rfl cwV_X5_countMissed ⟨Nat.le_of_ble_eq_true rfl, Nat.le_of_ble_eq_true rfl⟩) (jp_V hKK hS hAb (va_recv hKK.k (jat hPt hS ap_hPt) (ci := 5) (q0 := 0) rfl rfl) ⟨(jat hPt hS ap_hPt), (jat hPx hS ap_hPx), (va_P.sub (jat hPu hS ap_hPu) [3, 4] rfl)⟩) rfl rfl hl.1 rfl (lv_room (Nat.le_of_ble_eq_true rfl)) dX2_findAmongAll_67 ⟨Nat.le_of_ble_eq_true rfl, Nat.le_of_ble_eq_true rfl⟩) (fun z67 hz67 => ?_)
        subst hz67
        have tc := cm_b fs ft t t0 n
        have tcn := ht.1
        refine jk_Si (va_runS (As := [vi (lk w t s0), vi (cm fs ft t t0 n)]) (rest := []) ⟨hx, hb, hml, hown, htl⟩ (m_X2_lessMissed l g (lk w t s0) (cm fs ft t t0 n) (by omega) (by omega)) (va_cwS 2 htl lk_X2_73 rfl rfl rfl cwS_X2_lessMissed ⟨Nat.le_of_ble_eq_true rfl, Nat.le_of_ble_eq_true rfl⟩) (jp_S hKK hS hAb trivial) rfl rfl hl.1 rfl (lv_room (Nat.le_of_ble_eq_true rfl)) dX2_findAmongAll_70 ⟨Nat.le_of_ble_eq_true rfl, Nat.le_of_ble_eq_true rfl⟩) (fun z70 hz70 => ?_)
        subst hz70
        have tlm := lm_b (a := (lk w t s0)) (m := (cm fs ft t t0 n)) (by omega) (by omega)
        refine lv_istore (lv' := [(8, vi (lm (lk w t s0) (cm fs ft t t0 n))), (7, vi (lk w t s0)), (6, .ref ua), (5, vi (i : Int)), (4, vi x.2.2), (3, vi x.2.1), (2, vi x.1), (0, .ref me), (1, .ref a)]) hx hb dX2_findAmongAll_73 hl (by decide) rfl (fun ls hl => ?_)
        refine lv_aload hx hb dX2_findAmongAll_75 (lv_at hl 2 rfl) ?_
        refine va_get (D := gD g) (ci := 7) (v := vi lv) (C := RX8) (T := TX8) (N := 3) hx hb htl ck_X8 hown hKK.k (jat hPu hS ap_hPu) 0 rfl rfl 2 (by decide) (htl _ wd_17_22) (fun _ h9 => h9) rfl dX2_findAmongAll_77 ?_
        refine jr_ifeq (tgt := 93) hx hb dX2_findAmongAll_80 (by decide) ⟨by omega, by omega⟩ (fun c80 => ?_) (fun c80 => ?_)
        · refine jr_iconst hx hb dX2_findAmongAll_93 ?_
          refine lv_istore (lv' := [(9, vi 0), (8, vi (lm (lk w t s0) (cm fs ft t t0 n))), (7, vi (lk w t s0)), (6, .ref ua), (5, vi (i : Int)), (4, vi x.2.2), (3, vi x.2.1), (2, vi x.1), (0, .ref me), (1, .ref a)]) hx hb dX2_findAmongAll_94 hl (by decide) rfl (fun ls hl => ?_)
          refine lv_iload hx hb dX2_findAmongAll_96 (lv_at hl 0 rfl) ?_
          refine jr_ifeq (tgt := 124) hx hb dX2_findAmongAll_98 (by decide) ⟨by omega, by omega⟩ (fun c98 => ?_) (fun c98 => absurd c98 (by omega))
          refine jr_iinc (lv' := [(5, vi ((i : Int) + 1)), (9, vi 0), (8, vi (lm (lk w t s0) (cm fs ft t t0 n))), (7, vi (lk w t s0)), (6, .ref ua), (4, vi x.2.2), (3, vi x.2.1), (2, vi x.1), (0, .ref me), (1, .ref a)]) hx hb dX2_findAmongAll_124 hl (k := 4) rfl rfl (by decide) rfl (fun ls hl => ?_)
          refine lv_goto (tgt := 10) hx hb dX2_findAmongAll_127 (by decide) ?_
          exact ih10 (i + 1) x _ _ _ (by omega) (by rw [fa, ← hF, huv]; exact faS_0 (Or.inl c80)) (by omega) _ _ hP hD hS ls (lv_sub hl [0, 5, 6, 7, 8, 9] rfl)
        · refine lv_iload hx hb dX2_findAmongAll_83 (lv_at hl 0 rfl) ?_
          refine jr_iconst hx hb dX2_findAmongAll_85 ?_
          refine jr_lt (tgt := 93) hx hb dX2_findAmongAll_86 (by decide) ⟨by omega, by omega⟩ ⟨by omega, by omega⟩ (fun c86 => ?_) (fun c86 => ?_)
          · refine jr_iconst hx hb dX2_findAmongAll_93 ?_
            refine lv_istore (lv' := [(9, vi 0), (8, vi (lm (lk w t s0) (cm fs ft t t0 n))), (7, vi (lk w t s0)), (6, .ref ua), (5, vi (i : Int)), (4, vi x.2.2), (3, vi x.2.1), (2, vi x.1), (0, .ref me), (1, .ref a)]) hx hb dX2_findAmongAll_94 hl (by decide) rfl (fun ls hl => ?_)
            refine lv_iload hx hb dX2_findAmongAll_96 (lv_at hl 0 rfl) ?_
            refine jr_ifeq (tgt := 124) hx hb dX2_findAmongAll_98 (by decide) ⟨by omega, by omega⟩ (fun c98 => ?_) (fun c98 => absurd c98 (by omega))
            refine jr_iinc (lv' := [(5, vi ((i : Int) + 1)), (9, vi 0), (8, vi (lm (lk w t s0) (cm fs ft t t0 n))), (7, vi (lk w t s0)), (6, .ref ua), (4, vi x.2.2), (3, vi x.2.1), (2, vi x.1), (0, .ref me), (1, .ref a)]) hx hb dX2_findAmongAll_124 hl (k := 4) rfl rfl (by decide) rfl (fun ls hl => ?_)
            refine lv_goto (tgt := 10) hx hb dX2_findAmongAll_127 (by decide) ?_
            exact ih10 (i + 1) x _ _ _ (by omega) (by rw [fa, ← hF, huv]; exact faS_0 (Or.inr (Or.inl c86))) (by omega) _ _ hP hD hS ls (lv_sub hl [0, 5, 6, 7, 8, 9] rfl)
          · refine jr_iconst hx hb dX2_findAmongAll_89 ?_
            refine lv_goto (tgt := 94) hx hb dX2_findAmongAll_90 (by decide) ?_
            refine lv_istore (lv' := [(9, vi 1), (8, vi (lm (lk w t s0) (cm fs ft t t0 n))), (7, vi (lk w t s0)), (6, .ref ua), (5, vi (i : Int)), (4, vi x.2.2), (3, vi x.2.1), (2, vi x.1), (0, .ref me), (1, .ref a)]) hx hb dX2_findAmongAll_94 hl (by decide) rfl (fun ls hl => ?_)
            refine lv_iload hx hb dX2_findAmongAll_96 (lv_at hl 0 rfl) ?_
            refine jr_ifeq (tgt := 124) hx hb dX2_findAmongAll_98 (by decide) ⟨by omega, by omega⟩ (fun c98 => absurd c98 (by omega)) (fun c98 => ?_)
            refine lv_iload_n hx hb dX2_findAmongAll_101 rfl (lv_at hl 6 rfl) ?_
            refine lv_iload hx hb dX2_findAmongAll_102 (lv_at hl 5 rfl) ?_
            refine lv_iload hx hb dX2_findAmongAll_104 (lv_at hl 1 rfl) ?_
            refine lv_iload hx hb dX2_findAmongAll_106 (lv_at hl 2 rfl) ?_
            refine jk_Si (va_runS (As := [vi x.2.1, vi x.2.2, vi (lm (lk w t s0) (cm fs ft t t0 n)), vi (lk w t s0)]) (rest := []) ⟨hx, hb, hml, hown, htl⟩ (m_X2_isBetter l g x.2.1 x.2.2 (lm (lk w t s0) (cm fs ft t t0 n)) (lk w t s0) ⟨by omega, by omega⟩ ⟨by omega, by omega⟩ ⟨by omega, by omega⟩ ⟨by omega, by omega⟩) (va_cwS 4 htl lk_X2_80 rfl rfl rfl cwS_X2_isBetter ⟨Nat.le_of_ble_eq_true rfl, Nat.le_of_ble_eq_true rfl⟩) (jp_S hKK hS hAb trivial) rfl rfl hl.1 rfl (lv_room (Nat.le_of_ble_eq_true rfl)) dX2_findAmongAll_108 ⟨Nat.le_of_ble_eq_true rfl, Nat.le_of_ble_eq_true rfl⟩) (fun z108 hz108 => ?_)
            subst hz108
            refine jr_ifne (tgt := 124) hx hb dX2_findAmongAll_111 (by decide) (i01R _) (fun c111 => ?_) (fun c111 => ?_)
            · have c111 := i01t c111
              refine jr_iinc (lv' := [(5, vi ((i : Int) + 1)), (9, vi 1), (8, vi (lm (lk w t s0) (cm fs ft t t0 n))), (7, vi (lk w t s0)), (6, .ref ua), (4, vi x.2.2), (3, vi x.2.1), (2, vi x.1), (0, .ref me), (1, .ref a)]) hx hb dX2_findAmongAll_124 hl (k := 4) rfl rfl (by decide) rfl (fun ls hl => ?_)
              refine lv_goto (tgt := 10) hx hb dX2_findAmongAll_127 (by decide) ?_
              exact ih10 (i + 1) x _ _ _ (by omega) (by rw [fa, ← hF, huv]; exact faS_0 (Or.inr (Or.inr c111))) (by omega) _ _ hP hD hS ls (lv_sub hl [0, 5, 6, 7, 8, 9] rfl)
            · have c111 := i01f c111
              refine lv_iload hx hb dX2_findAmongAll_114 (lv_at hl 4 rfl) ?_
              refine lv_istore_n (lv' := [(2, vi (i : Int)), (9, vi 1), (8, vi (lm (lk w t s0) (cm fs ft t t0 n))), (7, vi (lk w t s0)), (6, .ref ua), (5, vi (i : Int)), (4, vi x.2.2), (3, vi x.2.1), (0, .ref me), (1, .ref a)]) hx hb dX2_findAmongAll_116 rfl hl (by decide) rfl (fun ls hl => ?_)
              refine lv_iload hx hb dX2_findAmongAll_117 (lv_at hl 2 rfl) ?_
              refine lv_istore_n (lv' := [(3, vi (lm (lk w t s0) (cm fs ft t t0 n))), (2, vi (i : Int)), (9, vi 1), (8, vi (lm (lk w t s0) (cm fs ft t t0 n))), (7, vi (lk w t s0)), (6, .ref ua), (5, vi (i : Int)), (4, vi x.2.2), (0, .ref me), (1, .ref a)]) hx hb dX2_findAmongAll_119 rfl hl (by decide) rfl (fun ls hl => ?_)
              refine lv_iload hx hb dX2_findAmongAll_120 (lv_at hl 4 rfl) ?_
              refine lv_istore (lv' := [(4, vi (lk w t s0)), (3, vi (lm (lk w t s0) (cm fs ft t t0 n))), (2, vi (i : Int)), (9, vi 1), (8, vi (lm (lk w t s0) (cm fs ft t t0 n))), (7, vi (lk w t s0)), (6, .ref ua), (5, vi (i : Int)), (0, .ref me), (1, .ref a)]) hx hb dX2_findAmongAll_122 hl (by decide) rfl (fun ls hl => ?_)
              refine jr_iinc (lv' := [(5, vi ((i : Int) + 1)), (4, vi (lk w t s0)), (3, vi (lm (lk w t s0) (cm fs ft t t0 n))), (2, vi (i : Int)), (9, vi 1), (8, vi (lm (lk w t s0) (cm fs ft t t0 n))), (7, vi (lk w t s0)), (6, .ref ua), (0, .ref me), (1, .ref a)]) hx hb dX2_findAmongAll_124 hl (k := 7) rfl rfl (by decide) rfl (fun ls hl => ?_)
              refine lv_goto (tgt := 10) hx hb dX2_findAmongAll_127 (by decide) ?_
              exact ih10 (i + 1) ((i : Int), lm (lk w t s0) (cm fs ft t t0 n), lk w t s0) _ _ _ (by omega) (by rw [fa, ← hF, huv]; exact faS_1 (tm := (n, fs, ft)) (t0 := t0) c80 c86 c111) (by omega) _ _ hP hD hS ls (lv_sub hl [0, 1, 2, 3, 8, 9] rfl)
  exact lp10 _ 0 (-1, 0, 0) g1 g2 g3 (Nat.zero_le _) (by rw [fa]) (Nat.lt_succ_self _) _ _ hP hD hS ls (lv_sub hl [0, 1, 2, 3, 4, 5] rfl)
set_option maxHeartbeats 4000000 in
set_option maxRecDepth 100000 in
theorem m_X2_findByBounds (l : Launch) (g : GT) (me t9 rows : Nat) (us : List UR) (lw : va_W) (hL : LW g rows (us.map uA) lw) (hUO : ∀ u ∈ us, UOK u) (h60 : us.length ≤ 60) (e0 wt wa r1 r2 ri : Nat) (w : Nat → Int) (hw : WB w) (g1 g2 g3 : Nat → Int) (b9 c9 n : Nat) (fs ft : Nat → Int) (ht : TB n fs ft) (a c : Nat) (t : List Int) (f : Nat → Int) (hf : TT t f) (hnq : ∀ x ∈ ([me] : List Nat), x ∉ ([r1, r2, ri] : List Nat)) (hnr : ∀ x ∈ (MR g us lw).map (·.1), x ∉ ([r1, r2, ri] : List Nat)) (hne : ∀ x ∈ ([e0, wt, wa] : List Nat), x ∉ ([r1, r2, ri] : List Nat)) (hnt : ∀ x ∈ ([t9, b9, c9] : List Nat), x ∉ ([r1, r2, ri] : List Nat)) (hnx : ∀ x ∈ ([a, c] : List Nat), x ∉ ([r1, r2, ri] : List Nat)) : Met l yX2_findByBounds (ws_ yX2_findByBounds cX2_findByBounds 11 (some .int)) (rmm 6 0 0) (jPc g [.ref me, .ref a] (fun H => PP g [aI g r1 61 g1, aI g r2 61 g2, aI g ri 60 g3] H ∧ va_D (fun q => gb g ≤ q) [aI g r1 61 g1, aI g r2 61 g2, aI g ri 60 g3] ∧ PP g [ob me 2 [.ref e0, .ref t9, .ref rows]] H ∧ PP g (MR g us lw) H ∧ PP g [ob e0 1 [.ref wt, .ref r1, .ref r2, .ref ri], ob wt 8 [.ref wa], aI g wa 4 w] H ∧ PP g [ob t9 5 [.ref b9, .ref c9, vi (n : Int)], aI g b9 20 fs, aI g c9 20 ft] H ∧ PP g [ob a 6 [.ref c, vi (t.length : Int)], aI g c 60 f] H)) (jQi (fun z H1 => z = (fb w (n, fs, ft) t (uv us) us.length us.length).1 ∧ ∃ g1 g2 g3 : Nat → Int, PP g [aI g r1 61 g1, aI g r2 61 g2, aI g ri 60 g3] H1) (jA [aI g r1 61 g1, aI g r2 61 g2, aI g ri 60 g3])) 0 0 (jA [aI g r1 61 g1, aI g r2 61 g2, aI g ri 60 g3]) := by
  refine jb_M (by decide) (Nat.le_of_ble_eq_true rfl) ?_
  intro p e s m below meth cq hx hb hr hml hown htl hlk hnm hKK hpre ls hl
  have hown : s.vm.findClass RX2 = some m.cls := hown
  have hl : lv_has ls 11 [(0, .ref me), (1, .ref a)] := hl
  obtain ⟨hP, hD0, hPm, hPr, hPe, hPt, hPx⟩ := hpre
  have hLx := hf.len
  have hn20 := ht.1
  have ap_hPm : ∀ (k : Nat) (q : Nat × va_E), ([ob me 2 [.ref e0, .ref t9, .ref rows]] : va_W)[k]? = some q → ¬ (jA [aI g r1 61 g1, aI g r2 61 g2, aI g ri 60 g3]) q.1 := jap (hnq)
  have ap_hPr : ∀ (k : Nat) (q : Nat × va_E), ((MR g us lw) : va_W)[k]? = some q → ¬ (jA [aI g r1 61 g1, aI g r2 61 g2, aI g ri 60 g3]) q.1 := jap (hnr)
  have ap_hPe : ∀ (k : Nat) (q : Nat × va_E), ([ob e0 1 [.ref wt, .ref r1, .ref r2, .ref ri], ob wt 8 [.ref wa], aI g wa 4 w] : va_W)[k]? = some q → ¬ (jA [aI g r1 61 g1, aI g r2 61 g2, aI g ri 60 g3]) q.1 := jap (hne)
  have ap_hPt : ∀ (k : Nat) (q : Nat × va_E), ([ob t9 5 [.ref b9, .ref c9, vi (n : Int)], aI g b9 20 fs, aI g c9 20 ft] : va_W)[k]? = some q → ¬ (jA [aI g r1 61 g1, aI g r2 61 g2, aI g ri 60 g3]) q.1 := jap (hnt)
  have ap_hPx : ∀ (k : Nat) (q : Nat × va_E), ([ob a 6 [.ref c, vi (t.length : Int)], aI g c 60 f] : va_W)[k]? = some q → ¬ (jA [aI g r1 61 g1, aI g r2 61 g2, aI g ri 60 g3]) q.1 := jap (hnx)
  have hD : va_D (jA [aI g r1 61 g1, aI g r2 61 g2, aI g ri 60 g3]) [aI g r1 61 g1, aI g r2 61 g2, aI g ri 60 g3] := hD0.inD
  have hAb : ∀ q, (jA [aI g r1 61 g1, aI g r2 61 g2, aI g ri 60 g3]) q → gb g ≤ q := fun q h => hD0.inA h
  generalize hAe : jA [aI g r1 61 g1, aI g r2 61 g2, aI g ri 60 g3] = A at *
  have hS : va_S A s.heap s.heap [] := va_S.rf
  suffices K : ∀ (H : Heap) (locs : List Loc), PP g [aI g r1 61 g1, aI g r2 61 g2, aI g ri 60 g3] H → va_D A [aI g r1 61 g1, aI g r2 61 g2, aI g ri 60 g3] → va_S A s.heap H locs → ∀ ls : Array Slot, lv_has ls 11 [(0, .ref me), (1, .ref a)] → W p l e (rmm 6 0 0) s m ([.ref me, .ref a] : List Value).toArray below meth cq H locs 0 0 (MQ below (jQi (fun z H1 => z = (fb w (n, fs, ft) t (uv us) us.length us.length).1 ∧ ∃ g1 g2 g3 : Nat → Int, PP g [aI g r1 61 g1, aI g r2 61 g2, aI g ri 60 g3] H1) A) ([.ref me, .ref a] : List Value).toArray s 0 0 A) (F0 m 0 ls []) from K _ _ hP hD hS _ hl
  clear hl; intro H locs hP hD hS ls hl
  refine jr_iconst hx hb dX2_findByBounds_0 ?_
  refine lv_istore_n (lv' := [(2, vi (-1)), (0, .ref me), (1, .ref a)]) hx hb dX2_findByBounds_1 rfl hl (by decide) rfl (fun ls hl => ?_)
  refine jr_iconst hx hb dX2_findByBounds_2 ?_
  refine lv_istore_n (lv' := [(3, vi 0), (2, vi (-1)), (0, .ref me), (1, .ref a)]) hx hb dX2_findByBounds_3 rfl hl (by decide) rfl (fun ls hl => ?_)
  refine jr_bipush hx hb dX2_findByBounds_4 (by decide) ?_
  refine lv_istore (lv' := [(4, vi 100), (3, vi 0), (2, vi (-1)), (0, .ref me), (1, .ref a)]) hx hb dX2_findByBounds_6 hl (by decide) rfl (fun ls hl => ?_)
  refine lv_aload_n hx hb dX2_findByBounds_8 rfl (lv_at hl 3 rfl) ?_
  refine va_get (D := gD g) (ci := 2) (v := .ref rows) (C := RX2) (T := TX2) (N := 3) hx hb htl ck_X2 hown hKK.k (jat hPm hS ap_hPm) 0 rfl rfl 2 (by decide) (htl _ wd_3_7) (fun _ h9 => h9) rfl dX2_findByBounds_9 ?_
  refine jk5_Si (va_runF (As := []) (rest := []) (hKK.k.1 11 _ rfl).2 ⟨hx, hb, hml, hown, htl⟩ (m_Lsize l g rows (us.map uA) lw hL) (va_cwF 0 htl lkF_X2_32 rfl rfl rfl (fw_0 hKK) cwF_0 ⟨Nat.le_of_ble_eq_true rfl, Nat.le_of_ble_eq_true rfl⟩) (jp_V hKK hS hAb (LW.recv hKK hL ((jat hPr hS ap_hPr).mem MR.l)) ((jat hPr hS ap_hPr).mem MR.l)) rfl rfl hl.1 rfl (lv_room (Nat.le_of_ble_eq_true rfl)) dX2_findByBounds_12 ⟨Nat.le_of_ble_eq_true rfl, Nat.le_of_ble_eq_true rfl⟩) (fun z12 hz12 => ?_)
  rw [List.length_map] at hz12; subst hz12
  refine jr_iconst hx hb dX2_findByBounds_17 ?_
  refine jr_isub hx hb dX2_findByBounds_18 ?_
  refine jr_nm (b := ((us.length : Int) - 1 - ((0 : Nat) : Int))) (by omega) ?_
  refine lv_istore (lv' := [(5, vi ((us.length : Int) - 1 - ((0 : Nat) : Int))), (4, vi 100), (3, vi 0), (2, vi (-1)), (0, .ref me), (1, .ref a)]) hx hb dX2_findByBounds_19 hl (by decide) rfl (fun ls hl => ?_)
  have lp21 : ∀ (N : Nat) (j : Nat) (x : F3) (h1 h2 h3 : Nat → Int), (j ≤ us.length) → (x = fb w (n, fs, ft) t (uv us) us.length j) → us.length - j < N → ∀ (H : Heap) (locs : List Loc), PP g [aI g r1 61 h1, aI g r2 61 h2, aI g ri 60 h3] H → va_D A [aI g r1 61 h1, aI g r2 61 h2, aI g ri 60 h3] → va_S A s.heap H locs → ∀ ls : Array Slot, lv_has ls 11 [(5, vi ((us.length : Int) - 1 - (j : Int))), (4, vi x.2.2), (3, vi x.2.1), (2, vi x.1), (0, .ref me), (1, .ref a)] → W p l e (rmm 6 0 0) s m ([.ref me, .ref a] : List Value).toArray below meth cq H locs 0 0 (MQ below (jQi (fun z H1 => z = (fb w (n, fs, ft) t (uv us) us.length us.length).1 ∧ ∃ g1 g2 g3 : Nat → Int, PP g [aI g r1 61 g1, aI g r2 61 g2, aI g ri 60 g3] H1) A) ([.ref me, .ref a] : List Value).toArray s 0 0 A) (F0 m 21 ls []) := by
    intro N
    induction N with
    | zero => intro j x h1 h2 h3 hi hF hM; exact absurd hM (Nat.not_lt_zero _)
    | succ N ih21 =>
      intro j x h1 h2 h3 hi hF hM H locs hP hD hS ls hl
      have hq := fb_b hw (n, fs, ft) t (uv us) us.length j hi
      rw [← hF] at hq
      obtain ⟨hq1, hq2, hq3⟩ := hq
      refine lv_iload hx hb dX2_findByBounds_21 (lv_at hl 0 rfl) ?_
      refine jr_iflt (tgt := 157) hx hb dX2_findByBounds_23 (by decide) ⟨by omega, by omega⟩ (fun c23 => ?_) (fun c23 => ?_)
      · refine lv_iload_n hx hb dX2_findByBounds_157 rfl (lv_at hl 3 rfl) ?_
        exact je_Qi hx hb hr hlk rfl hS (⟨by obtain rfl : j = us.length := (by omega); rw [← hF], h1, h2, h3, hP⟩) dX2_findByBounds_158
      · have hl : lv_has ls 11 [(5, vi ((us.length - 1 - j : Nat) : Int)), (4, vi x.2.2), (3, vi x.2.1), (2, vi x.1), (0, .ref me), (1, .ref a)] := (show (((us.length : Int) - 1 - (j : Int)) : Int) = ((us.length - 1 - j : Nat) : Int) from by omega) ▸ hl
        refine lv_aload_n hx hb dX2_findByBounds_26 rfl (lv_at hl 4 rfl) ?_
        refine va_get (D := gD g) (ci := 2) (v := .ref rows) (C := RX2) (T := TX2) (N := 3) hx hb htl ck_X2 hown hKK.k (jat hPm hS ap_hPm) 0 rfl rfl 2 (by decide) (htl _ wd_3_7) (fun _ h9 => h9) rfl dX2_findByBounds_27 ?_
        refine lv_iload hx hb dX2_findByBounds_30 (lv_at hl 0 rfl) ?_
        refine jk5_Sr (va_runF (As := [vi ((us.length - 1 - j : Nat) : Int)]) (rest := []) (hKK.k.1 11 _ rfl).2 ⟨hx, hb, hml, hown, htl⟩ (m_Lget l g rows (us.map uA) lw hL (us.length - 1 - j) (by rw [List.length_map]; omega)) (va_cwF 1 htl lkF_X2_38 rfl rfl rfl (fw_1 hKK) cwF_1 ⟨Nat.le_of_ble_eq_true rfl, Nat.le_of_ble_eq_true rfl⟩) (jp_V hKK hS hAb (LW.recv hKK hL ((jat hPr hS ap_hPr).mem MR.l)) ((jat hPr hS ap_hPr).mem MR.l)) rfl rfl hl.1 rfl (lv_room (Nat.le_of_ble_eq_true rfl)) dX2_findByBounds_32 ⟨Nat.le_of_ble_eq_true rfl, Nat.le_of_ble_eq_true rfl⟩) (fun z32 hz32 => ?_)
        obtain ⟨u, hu⟩ : ∃ u, us[us.length - 1 - j]? = some u := ⟨_, List.getElem?_eq_getElem (show us.length - 1 - j < us.length by omega)⟩
        rw [uA_get hu] at hz32
        obtain ⟨ua, us1, usc, ut, utc, s0, fs0, t0, ft0, lv⟩ := u
        obtain ⟨hs0, ht0, hlv⟩ : TT s0 fs0 ∧ TT t0 ft0 ∧ (lv = 0 ∨ lv = 1) := hUO _ (List.mem_of_getElem? hu)
        have huv : uv us (us.length - 1 - j) = (s0, t0, lv) := uv_get hu
        have hPu : PP g [ob ua 7 [.ref us1, .ref ut, vi lv], ob us1 6 [.ref usc, vi (s0.length : Int)], aI g usc 60 fs0, ob ut 6 [.ref utc, vi (t0.length : Int)], aI g utc 60 ft0] s.heap := hPr.mem (MR.u hu)
        have ap_hPu : ∀ (k : Nat) (q : Nat × va_E), ([ob ua 7 [.ref us1, .ref ut, vi lv], ob us1 6 [.ref usc, vi (s0.length : Int)], aI g usc 60 fs0, ob ut 6 [.ref utc, vi (t0.length : Int)], aI g utc 60 ft0] : va_W)[k]? = some q → ¬ A q.1 := ap_mem ap_hPr (MR.u hu)
        have hz32 : z32 = ua := hz32
        rw [hz32]
        refine va_castS hx hb hown (htl _ wd_17_12) (hKK.k.1 7 _ rfl).2 (va_recv hKK.k (jat hPu hS ap_hPu) (ci := 7) (q0 := 0) rfl rfl) dX2_findByBounds_37 ?_
        refine lv_astore (lv' := [(6, .ref ua), (5, vi ((us.length - 1 - j : Nat) : Int)), (4, vi x.2.2), (3, vi x.2.1), (2, vi x.1), (0, .ref me), (1, .ref a)]) hx hb dX2_findByBounds_40 hl (by decide) rfl (fun ls hl => ?_)
        refine lv_aload hx hb dX2_findByBounds_42 (lv_at hl 0 rfl) ?_
        refine va_get (D := gD g) (ci := 7) (v := vi lv) (C := RX8) (T := TX8) (N := 3) hx hb htl ck_X8 hown hKK.k (jat hPu hS ap_hPu) 0 rfl rfl 2 (by decide) (htl _ wd_17_22) (fun _ h9 => h9) rfl dX2_findByBounds_44 ?_
        refine jr_ifne (tgt := 53) hx hb dX2_findByBounds_47 (by decide) ⟨by omega, by omega⟩ (fun c47 => ?_) (fun c47 => ?_)
        · refine lv_aload_n hx hb dX2_findByBounds_53 rfl (lv_at hl 5 rfl) ?_
          refine va_get (D := gD g) (ci := 2) (v := .ref t9) (C := RX2) (T := TX2) (N := 3) hx hb htl ck_X2 hown hKK.k (jat hPm hS ap_hPm) 0 rfl rfl 1 (by decide) (htl _ wd_3_3) (fun _ h9 => h9) rfl dX2_findByBounds_54 ?_
          refine lv_aload_n hx hb dX2_findByBounds_57 rfl (lv_at hl 6 rfl) ?_
          refine lv_aload hx hb dX2_findByBounds_58 (lv_at hl 0 rfl) ?_
          refine va_get (D := gD g) (ci := 7) (v := .ref ut) (C := RX8) (T := TX8) (N := 3) hx hb htl ck_X8 hown hKK.k (jat hPu hS ap_hPu) 0 rfl rfl 1 (by decide) (htl _ wd_14_4) (fun _ h9 => h9) rfl dX2_findByBounds_60 ?_
          refine jk_Si (va_runV (As := [.ref a, .ref ut]) (rest := []) ⟨hx, hb, hml, hown, htl⟩ (m_X5_countMissed l g t9 b9 c9 n fs ft ht a c t f hf ut utc t0 ft0 ht0 ) (cwV 2 htl lk_X2_70 rfl rfl rfl cwV_X5_countMissed ⟨Nat.le_of_ble_eq_true rfl, Nat.le_of_ble_eq_true rfl⟩) (jp_V hKK hS hAb (va_recv hKK.k (jat hPt hS ap_hPt) (ci := 5) (q0 := 0) rfl rfl) ⟨(jat hPt hS ap_hPt), (jat hPx hS ap_hPx), (va_P.sub (jat hPu hS ap_hPu) [3, 4] rfl)⟩) rfl rfl hl.1 rfl (lv_room (Nat.le_of_ble_eq_true rfl)) dX2_findByBounds_63 ⟨Nat.le_of_ble_eq_true rfl, Nat.le_of_ble_eq_true rfl⟩) (fun z63 hz63 => ?_)
          subst hz63
          have tc := cm_b fs ft t t0 n
          have tcn := ht.1
          refine lv_istore (lv' := [(7, vi (cm fs ft t t0 n)), (6, .ref ua), (5, vi ((us.length - 1 - j : Nat) : Int)), (4, vi x.2.2), (3, vi x.2.1), (2, vi x.1), (0, .ref me), (1, .ref a)]) hx hb dX2_findByBounds_66 hl (by decide) rfl (fun ls hl => ?_)
          refine lv_aload_n hx hb dX2_findByBounds_68 rfl (lv_at hl 6 rfl) ?_
          refine va_get (D := gD g) (ci := 2) (v := .ref e0) (C := RX2) (T := TX2) (N := 3) hx hb htl ck_X2 hown hKK.k (jat hPm hS ap_hPm) 0 rfl rfl 0 (by decide) (htl _ wd_2_23) (fun _ h9 => h9) rfl dX2_findByBounds_69 ?_
          refine lv_aload_n hx hb dX2_findByBounds_72 rfl (lv_at hl 7 rfl) ?_
          refine lv_aload hx hb dX2_findByBounds_73 (lv_at hl 1 rfl) ?_
          refine va_get (D := gD g) (ci := 7) (v := .ref us1) (C := RX8) (T := TX8) (N := 3) hx hb htl ck_X8 hown hKK.k (jat hPu hS ap_hPu) 0 rfl rfl 0 (by decide) (htl _ wd_14_3) (fun _ h9 => h9) rfl dX2_findByBounds_75 ?_
          refine jk_Si (va_runV (As := [.ref a, .ref us1]) (rest := []) ⟨hx, hb, hml, hown, htl⟩ (m_X1_compareAtMost l g e0 wt wa r1 r2 ri w hw a c t f hf us1 usc s0 fs0 hs0 ) (cwV 2 htl lk_X2_77 rfl rfl rfl cwV_X1_compareAtMost ⟨Nat.le_of_ble_eq_true rfl, Nat.le_of_ble_eq_true rfl⟩) (jp_V hKK hS hAb (va_recv hKK.k (jat hPe hS ap_hPe) (ci := 1) (q0 := 0) rfl rfl) ⟨(jat hPe hS ap_hPe), (jat hPx hS ap_hPx), (va_P.sub (jat hPu hS ap_hPu) [1, 2] rfl)⟩) rfl rfl hl.1 rfl (lv_room (Nat.le_of_ble_eq_true rfl)) dX2_findByBounds_78 ⟨Nat.le_of_ble_eq_true rfl, Nat.le_of_ble_eq_true rfl⟩) (fun z78 hz78 => ?_)
          subst hz78
          have tca := calA_b hw hf.len hs0.len 4
          have tlk := lkf_b w t s0 (paid := calA w t s0 4) (by omega)
          refine lv_istore (lv' := [(8, vi (lkf w t s0 (calA w t s0 4))), (7, vi (cm fs ft t t0 n)), (6, .ref ua), (5, vi ((us.length - 1 - j : Nat) : Int)), (4, vi x.2.2), (3, vi x.2.1), (2, vi x.1), (0, .ref me), (1, .ref a)]) hx hb dX2_findByBounds_81 hl (by decide) rfl (fun ls hl => ?_)
          refine lv_iload hx hb dX2_findByBounds_83 (lv_at hl 0 rfl) ?_
          refine lv_iload hx hb dX2_findByBounds_85 (lv_at hl 1 rfl) ?_
          refine jk_Si (va_runS (As := [vi (lkf w t s0 (calA w t s0 4)), vi (cm fs ft t t0 n)]) (rest := []) ⟨hx, hb, hml, hown, htl⟩ (m_X2_lessMissed l g (lkf w t s0 (calA w t s0 4)) (cm fs ft t t0 n) (by omega) (by omega)) (va_cwS 2 htl lk_X2_73 rfl rfl rfl cwS_X2_lessMissed ⟨Nat.le_of_ble_eq_true rfl, Nat.le_of_ble_eq_true rfl⟩) (jp_S hKK hS hAb trivial) rfl rfl hl.1 rfl (lv_room (Nat.le_of_ble_eq_true rfl)) dX2_findByBounds_87 ⟨Nat.le_of_ble_eq_true rfl, Nat.le_of_ble_eq_true rfl⟩) (fun z87 hz87 => ?_)
          subst hz87
          have tlm := lm_b (a := (lkf w t s0 (calA w t s0 4))) (m := (cm fs ft t t0 n)) (by omega) (by omega)
          refine lv_iload hx hb dX2_findByBounds_90 (lv_at hl 0 rfl) ?_
          refine lv_iload_n hx hb dX2_findByBounds_92 rfl (lv_at hl 5 rfl) ?_
          refine lv_iload hx hb dX2_findByBounds_93 (lv_at hl 4 rfl) ?_
          refine jk_Si (va_runS (As := [vi (lm (lkf w t s0 (calA w t s0 4)) (cm fs ft t t0 n)), vi (lkf w t s0 (calA w t s0 4)), vi x.2.1, vi x.2.2]) (rest := []) ⟨hx, hb, hml, hown, htl⟩ (m_X2_isBetter l g (lm (lkf w t s0 (calA w t s0 4)) (cm fs ft t t0 n)) (lkf w t s0 (calA w t s0 4)) x.2.1 x.2.2 ⟨by omega, by omega⟩ ⟨by omega, by omega⟩ ⟨by omega, by omega⟩ ⟨by omega, by omega⟩) (va_cwS 4 htl lk_X2_80 rfl rfl rfl cwS_X2_isBetter ⟨Nat.le_of_ble_eq_true rfl, Nat.le_of_ble_eq_true rfl⟩) (jp_S hKK hS hAb trivial) rfl rfl hl.1 rfl (lv_room (Nat.le_of_ble_eq_true rfl)) dX2_findByBounds_95 ⟨Nat.le_of_ble_eq_true rfl, Nat.le_of_ble_eq_true rfl⟩) (fun z95 hz95 => ?_)
          subst hz95
          refine jr_ifne (tgt := 104) hx hb dX2_findByBounds_98 (by decide) (i01R _) (fun c98 => ?_) (fun c98 => ?_)
          · have c98 := i01t c98
            refine lv_aload_n hx hb dX2_findByBounds_104 rfl (lv_at hl 7 rfl) ?_
            refine va_get (D := gD g) (ci := 2) (v := .ref e0) (C := RX2) (T := TX2) (N := 3) hx hb htl ck_X2 hown hKK.k (jat hPm hS ap_hPm) 0 rfl rfl 0 (by decide) (htl _ wd_2_23) (fun _ h9 => h9) rfl dX2_findByBounds_105 ?_
            refine lv_aload_n hx hb dX2_findByBounds_108 rfl (lv_at hl 8 rfl) ?_
            refine lv_aload hx hb dX2_findByBounds_109 (lv_at hl 2 rfl) ?_
            refine va_get (D := gD g) (ci := 7) (v := .ref us1) (C := RX8) (T := TX8) (N := 3) hx hb htl ck_X8 hown hKK.k (jat hPu hS ap_hPu) 0 rfl rfl 0 (by decide) (htl _ wd_14_3) (fun _ h9 => h9) rfl dX2_findByBounds_111 ?_
            have hDc : va_D A [aI g r1 61 h1, aI g r2 61 h2, aI g ri 60 h3] := hD.sub [0, 1, 2] (by decide) rfl
            refine jk_Qi (va_runV (As := [.ref a, .ref us1]) (rest := []) ⟨hx, hb, hml, hown, htl⟩ (m_X1_compare l g e0 wt wa r1 r2 ri w hw h1 h2 h3 a c t f hf us1 usc s0 fs0 hs0 (jdisR hD ap_hPe [0, 1, 2] [0, 1, 2] rfl rfl) (jdisR hD ap_hPx [0, 1] [0, 1, 2] rfl rfl) (jdisR hD ap_hPu [1, 2] [0, 1, 2] rfl rfl) ) (cwV 2 htl lk_X2_66 rfl rfl rfl cwV_X1_compare ⟨Nat.le_of_ble_eq_true rfl, Nat.le_of_ble_eq_true rfl⟩) (jp_V hKK hS hAb (va_recv hKK.k (jat hPe hS ap_hPe) (ci := 1) (q0 := 0) rfl rfl) ⟨hP, hDc.weaken (fun _ q _ h => hAb _ h), (jat hPe hS ap_hPe), (jat hPx hS ap_hPx), (va_P.sub (jat hPu hS ap_hPu) [1, 2] rfl)⟩) rfl rfl hl.1 rfl (lv_room (Nat.le_of_ble_eq_true rfl)) dX2_findByBounds_114 ⟨Nat.le_of_ble_eq_true rfl, Nat.le_of_ble_eq_true rfl⟩) hS (fun q _ h => hDc.inA h) (fun q h => hDc.inA h) (fun z114 H1 locs hz114 hzs hks hS => ?_)
            obtain ⟨hz114, gr1_114, gr2_114, gr3_114, hP1⟩ := hz114
            obtain ⟨hP, hD⟩ := jput (wc := [aI g r1 61 h1, aI g r2 61 h2, aI g ri 60 h3]) (w1 := [aI g r1 61 gr1_114, aI g r2 61 gr2_114, aI g ri 60 gr3_114]) hP hD [0, 1, 2] rfl rfl hks (fun q _ h => h) hP1
            clear hzs hks; generalize H1 = H at hP hD hS ⊢
            have hP : PP g [aI g r1 61 gr1_114, aI g r2 61 gr2_114, aI g ri 60 gr3_114] H := hP
            have hD : va_D A [aI g r1 61 gr1_114, aI g r2 61 gr2_114, aI g ri 60 gr3_114] := hD
            subst hz114
            have tl := lk_b hw t s0
            refine lv_istore (lv' := [(9, vi (lk w t s0)), (8, vi (lkf w t s0 (calA w t s0 4))), (7, vi (cm fs ft t t0 n)), (6, .ref ua), (5, vi ((us.length - 1 - j : Nat) : Int)), (4, vi x.2.2), (3, vi x.2.1), (2, vi x.1), (0, .ref me), (1, .ref a)]) hx hb dX2_findByBounds_117 hl (by decide) rfl (fun ls hl => ?_)
            refine lv_iload hx hb dX2_findByBounds_119 (lv_at hl 0 rfl) ?_
            refine lv_iload hx hb dX2_findByBounds_121 (lv_at hl 2 rfl) ?_
            refine jk_Si (va_runS (As := [vi (lk w t s0), vi (cm fs ft t t0 n)]) (rest := []) ⟨hx, hb, hml, hown, htl⟩ (m_X2_lessMissed l g (lk w t s0) (cm fs ft t t0 n) (by omega) (by omega)) (va_cwS 2 htl lk_X2_73 rfl rfl rfl cwS_X2_lessMissed ⟨Nat.le_of_ble_eq_true rfl, Nat.le_of_ble_eq_true rfl⟩) (jp_S hKK hS hAb trivial) rfl rfl hl.1 rfl (lv_room (Nat.le_of_ble_eq_true rfl)) dX2_findByBounds_123 ⟨Nat.le_of_ble_eq_true rfl, Nat.le_of_ble_eq_true rfl⟩) (fun z123 hz123 => ?_)
            subst hz123
            have tlm := lm_b (a := (lk w t s0)) (m := (cm fs ft t t0 n)) (by omega) (by omega)
            refine lv_istore (lv' := [(10, vi (lm (lk w t s0) (cm fs ft t t0 n))), (9, vi (lk w t s0)), (8, vi (lkf w t s0 (calA w t s0 4))), (7, vi (cm fs ft t t0 n)), (6, .ref ua), (5, vi ((us.length - 1 - j : Nat) : Int)), (4, vi x.2.2), (3, vi x.2.1), (2, vi x.1), (0, .ref me), (1, .ref a)]) hx hb dX2_findByBounds_126 hl (by decide) rfl (fun ls hl => ?_)
            refine lv_iload hx hb dX2_findByBounds_128 (lv_at hl 0 rfl) ?_
            refine lv_iload hx hb dX2_findByBounds_130 (lv_at hl 1 rfl) ?_
            refine lv_iload_n hx hb dX2_findByBounds_132 rfl (lv_at hl 7 rfl) ?_
            refine lv_iload hx hb dX2_findByBounds_133 (lv_at hl 6 rfl) ?_
            refine jk_Si (va_runS (As := [vi (lm (lk w t s0) (cm fs ft t t0 n)), vi (lk w t s0), vi x.2.1, vi x.2.2]) (rest := []) ⟨hx, hb, hml, hown, htl⟩ (m_X2_isBetter l g (lm (lk w t s0) (cm fs ft t t0 n)) (lk w t s0) x.2.1 x.2.2 ⟨by omega, by omega⟩ ⟨by omega, by omega⟩ ⟨by omega, by omega⟩ ⟨by omega, by omega⟩) (va_cwS 4 htl lk_X2_80 rfl rfl rfl cwS_X2_isBetter ⟨Nat.le_of_ble_eq_true rfl, Nat.le_of_ble_eq_true rfl⟩) (jp_S hKK hS hAb trivial) rfl rfl hl.1 rfl (lv_room (Nat.le_of_ble_eq_true rfl)) dX2_findByBounds_135 ⟨Nat.le_of_ble_eq_true rfl, Nat.le_of_ble_eq_true rfl⟩) (fun z135 hz135 => ?_)
            subst hz135
            refine jr_ifeq (tgt := 151) hx hb dX2_findByBounds_138 (by decide) (i01R _) (fun c138 => ?_) (fun c138 => ?_)
            · have c138 := i01f c138
              refine jr_iinc (lv' := [(5, vi (((us.length - 1 - j : Nat) : Int) + (-1))), (10, vi (lm (lk w t s0) (cm fs ft t t0 n))), (9, vi (lk w t s0)), (8, vi (lkf w t s0 (calA w t s0 4))), (7, vi (cm fs ft t t0 n)), (6, .ref ua), (4, vi x.2.2), (3, vi x.2.1), (2, vi x.1), (0, .ref me), (1, .ref a)]) hx hb dX2_findByBounds_151 hl (k := 5) rfl rfl (by decide) rfl (fun ls hl => ?_)
              have hl : lv_has ls 11 [(5, vi ((us.length : Int) - 1 - ((j + 1 : Nat) : Int))), (10, vi (lm (lk w t s0) (cm fs ft t t0 n))), (9, vi (lk w t s0)), (8, vi (lkf w t s0 (calA w t s0 4))), (7, vi (cm fs ft t t0 n)), (6, .ref ua), (4, vi x.2.2), (3, vi x.2.1), (2, vi x.1), (0, .ref me), (1, .ref a)] := (show ((((us.length - 1 - j : Nat) : Int) + (-1)) : Int) = ((us.length : Int) - 1 - ((j + 1 : Nat) : Int)) from by omega) ▸ hl
              refine lv_goto (tgt := 21) hx hb dX2_findByBounds_154 (by decide) ?_
              exact ih21 (j + 1) x _ _ _ (by omega) (by rw [fb, ← hF, huv]; exact fbS_2 (tm := (n, fs, ft)) (t0 := t0) c47 c98 c138) (by omega) _ _ hP hD hS ls (lv_sub hl [0, 6, 7, 8, 9, 10] rfl)
            · have c138 := i01t c138
              refine lv_iload hx hb dX2_findByBounds_141 (lv_at hl 5 rfl) ?_
              refine lv_istore_n (lv' := [(2, vi ((us.length - 1 - j : Nat) : Int)), (10, vi (lm (lk w t s0) (cm fs ft t t0 n))), (9, vi (lk w t s0)), (8, vi (lkf w t s0 (calA w t s0 4))), (7, vi (cm fs ft t t0 n)), (6, .ref ua), (5, vi ((us.length - 1 - j : Nat) : Int)), (4, vi x.2.2), (3, vi x.2.1), (0, .ref me), (1, .ref a)]) hx hb dX2_findByBounds_143 rfl hl (by decide) rfl (fun ls hl => ?_)
              refine lv_iload hx hb dX2_findByBounds_144 (lv_at hl 1 rfl) ?_
              refine lv_istore_n (lv' := [(3, vi (lm (lk w t s0) (cm fs ft t t0 n))), (2, vi ((us.length - 1 - j : Nat) : Int)), (10, vi (lm (lk w t s0) (cm fs ft t t0 n))), (9, vi (lk w t s0)), (8, vi (lkf w t s0 (calA w t s0 4))), (7, vi (cm fs ft t t0 n)), (6, .ref ua), (5, vi ((us.length - 1 - j : Nat) : Int)), (4, vi x.2.2), (0, .ref me), (1, .ref a)]) hx hb dX2_findByBounds_146 rfl hl (by decide) rfl (fun ls hl => ?_)
              refine lv_iload hx hb dX2_findByBounds_147 (lv_at hl 3 rfl) ?_
              refine lv_istore (lv' := [(4, vi (lk w t s0)), (3, vi (lm (lk w t s0) (cm fs ft t t0 n))), (2, vi ((us.length - 1 - j : Nat) : Int)), (10, vi (lm (lk w t s0) (cm fs ft t t0 n))), (9, vi (lk w t s0)), (8, vi (lkf w t s0 (calA w t s0 4))), (7, vi (cm fs ft t t0 n)), (6, .ref ua), (5, vi ((us.length - 1 - j : Nat) : Int)), (0, .ref me), (1, .ref a)]) hx hb dX2_findByBounds_149 hl (by decide) rfl (fun ls hl => ?_)
              refine jr_iinc (lv' := [(5, vi (((us.length - 1 - j : Nat) : Int) + (-1))), (4, vi (lk w t s0)), (3, vi (lm (lk w t s0) (cm fs ft t t0 n))), (2, vi ((us.length - 1 - j : Nat) : Int)), (10, vi (lm (lk w t s0) (cm fs ft t t0 n))), (9, vi (lk w t s0)), (8, vi (lkf w t s0 (calA w t s0 4))), (7, vi (cm fs ft t t0 n)), (6, .ref ua), (0, .ref me), (1, .ref a)]) hx hb dX2_findByBounds_151 hl (k := 8) rfl rfl (by decide) rfl (fun ls hl => ?_)
              have hl : lv_has ls 11 [(5, vi ((us.length : Int) - 1 - ((j + 1 : Nat) : Int))), (4, vi (lk w t s0)), (3, vi (lm (lk w t s0) (cm fs ft t t0 n))), (2, vi ((us.length - 1 - j : Nat) : Int)), (10, vi (lm (lk w t s0) (cm fs ft t t0 n))), (9, vi (lk w t s0)), (8, vi (lkf w t s0 (calA w t s0 4))), (7, vi (cm fs ft t t0 n)), (6, .ref ua), (0, .ref me), (1, .ref a)] := (show ((((us.length - 1 - j : Nat) : Int) + (-1)) : Int) = ((us.length : Int) - 1 - ((j + 1 : Nat) : Int)) from by omega) ▸ hl
              refine lv_goto (tgt := 21) hx hb dX2_findByBounds_154 (by decide) ?_
              exact ih21 (j + 1) (((us.length - 1 - j : Nat) : Int), lm (lk w t s0) (cm fs ft t t0 n), lk w t s0) _ _ _ (by omega) (by rw [fb, ← hF, huv]; exact fbS_3 (tm := (n, fs, ft)) (t0 := t0) c47 c98 c138) (by omega) _ _ hP hD hS ls (lv_sub hl [0, 1, 2, 3, 9, 10] rfl)
          · have c98 := i01f c98
            refine lv_goto (tgt := 151) hx hb dX2_findByBounds_101 (by decide) ?_
            refine jr_iinc (lv' := [(5, vi (((us.length - 1 - j : Nat) : Int) + (-1))), (8, vi (lkf w t s0 (calA w t s0 4))), (7, vi (cm fs ft t t0 n)), (6, .ref ua), (4, vi x.2.2), (3, vi x.2.1), (2, vi x.1), (0, .ref me), (1, .ref a)]) hx hb dX2_findByBounds_151 hl (k := 3) rfl rfl (by decide) rfl (fun ls hl => ?_)
            have hl : lv_has ls 11 [(5, vi ((us.length : Int) - 1 - ((j + 1 : Nat) : Int))), (8, vi (lkf w t s0 (calA w t s0 4))), (7, vi (cm fs ft t t0 n)), (6, .ref ua), (4, vi x.2.2), (3, vi x.2.1), (2, vi x.1), (0, .ref me), (1, .ref a)] := (show ((((us.length - 1 - j : Nat) : Int) + (-1)) : Int) = ((us.length : Int) - 1 - ((j + 1 : Nat) : Int)) from by omega) ▸ hl
            refine lv_goto (tgt := 21) hx hb dX2_findByBounds_154 (by decide) ?_
            exact ih21 (j + 1) x _ _ _ (by omega) (by rw [fb, ← hF, huv]; exact fbS_1 (tm := (n, fs, ft)) (t0 := t0) c47 c98) (by omega) _ _ hP hD hS ls (lv_sub hl [0, 4, 5, 6, 7, 8] rfl)
        · refine lv_goto (tgt := 151) hx hb dX2_findByBounds_50 (by decide) ?_
          refine jr_iinc (lv' := [(5, vi (((us.length - 1 - j : Nat) : Int) + (-1))), (6, .ref ua), (4, vi x.2.2), (3, vi x.2.1), (2, vi x.1), (0, .ref me), (1, .ref a)]) hx hb dX2_findByBounds_151 hl (k := 1) rfl rfl (by decide) rfl (fun ls hl => ?_)
          have hl : lv_has ls 11 [(5, vi ((us.length : Int) - 1 - ((j + 1 : Nat) : Int))), (6, .ref ua), (4, vi x.2.2), (3, vi x.2.1), (2, vi x.1), (0, .ref me), (1, .ref a)] := (show ((((us.length - 1 - j : Nat) : Int) + (-1)) : Int) = ((us.length : Int) - 1 - ((j + 1 : Nat) : Int)) from by omega) ▸ hl
          refine lv_goto (tgt := 21) hx hb dX2_findByBounds_154 (by decide) ?_
          exact ih21 (j + 1) x _ _ _ (by omega) (by rw [fb, ← hF, huv]; exact fbS_0 c47) (by omega) _ _ hP hD hS ls (lv_sub hl [0, 2, 3, 4, 5, 6] rfl)
  exact lp21 _ 0 (-1, 0, 100) g1 g2 g3 (Nat.zero_le _) (by rw [fb]) (Nat.lt_succ_self _) _ _ hP hD hS ls (lv_sub hl [0, 1, 2, 3, 4, 5] rfl)
