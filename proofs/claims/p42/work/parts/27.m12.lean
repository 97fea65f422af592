
theorem lkF_X0_18 : GoodIn WSL (va_wsF RX0 18 RJx4a65c ⟨"java/util/List", "size", "()I"⟩ yJx4a65c_size_8abf5 (ws_ yJx4a65c_size_8abf5 cJx4a65c_size_8abf5 1 (some .int))) := gd_app (List.forall_mem_cons.mpr ⟨wd_5_15, List.forall_mem_cons.mpr ⟨wd_5_16, List.forall_mem_cons.mpr ⟨wd_5_17, List.forall_mem_cons.mpr ⟨wd_3_6, fun _ h => nomatch h⟩⟩⟩⟩) (gd_ wd_5_18)
theorem lkF_X0_24 : GoodIn WSL (va_wsF RX0 24 RJx4a65c ⟨"java/util/List", "get", "(I)Ljava/lang/Object;"⟩ yJx4a65c_get_915e3 (ws_ yJx4a65c_get_915e3 cJx4a65c_get_915e3 2 (some (.object "java/lang/Object")))) := gd_app (List.forall_mem_cons.mpr ⟨wd_6_10, List.forall_mem_cons.mpr ⟨wd_6_11, List.forall_mem_cons.mpr ⟨wd_6_12, List.forall_mem_cons.mpr ⟨wd_3_6, fun _ h => nomatch h⟩⟩⟩⟩) (gd_ wd_6_13)
theorem lk_X0_73 : GoodIn WSL (wsV RX0 73 RX0 yX0_at (ws_ yX0_at cX0_at 2 (some (.object "Fuzzyseg$Segment")))) := gd_app (List.forall_mem_cons.mpr ⟨wd_6_5, List.forall_mem_cons.mpr ⟨wd_6_6, List.forall_mem_cons.mpr ⟨wd_6_7, List.forall_mem_cons.mpr ⟨wd_2_10, fun _ h => nomatch h⟩⟩⟩⟩) (gd_ wd_6_8)
theorem cwV_X0_at : yX0_at.cls = RX0 ∧ yX0_at.cls ≠ "java/lang/invoke/MethodHandle" ∧ yX0_at.cls ≠ "java/lang/invoke/VarHandle" ∧ (parseMethodDescriptor yX0_at.desc).map (fun d => d.parameters.length) = some 1 := by decide +kernel
theorem lk_X0_80 : GoodIn WSL (wsV RX0 80 RX4 yX4_isEmpty (ws_ yX4_isEmpty cX4_isEmpty 1 (some .boolean))) := gd_app (List.forall_mem_cons.mpr ⟨wd_20_1, List.forall_mem_cons.mpr ⟨wd_7_17, List.forall_mem_cons.mpr ⟨wd_7_18, List.forall_mem_cons.mpr ⟨wd_7_19, fun _ h => nomatch h⟩⟩⟩⟩) (gd_ wd_7_20)
theorem cwV_X4_isEmpty : yX4_isEmpty.cls = RX4 ∧ yX4_isEmpty.cls ≠ "java/lang/invoke/MethodHandle" ∧ yX4_isEmpty.cls ≠ "java/lang/invoke/VarHandle" ∧ (parseMethodDescriptor yX4_isEmpty.desc).map (fun d => d.parameters.length) = some 0 := by decide +kernel
theorem lk_X0_76 : GoodIn WSL (wsV RX0 76 RX6 yX6_isSameAs (ws_ yX6_isSameAs cX6_isSameAs 3 (some .boolean))) := gd_app (List.forall_mem_cons.mpr ⟨wd_7_2, List.forall_mem_cons.mpr ⟨wd_7_3, List.forall_mem_cons.mpr ⟨wd_7_4, List.forall_mem_cons.mpr ⟨wd_1_13, fun _ h => nomatch h⟩⟩⟩⟩) (gd_ wd_7_5)
theorem cwV_X6_isSameAs : yX6_isSameAs.cls = RX6 ∧ yX6_isSameAs.cls ≠ "java/lang/invoke/MethodHandle" ∧ yX6_isSameAs.cls ≠ "java/lang/invoke/VarHandle" ∧ (parseMethodDescriptor yX6_isSameAs.desc).map (fun d => d.parameters.length) = some 1 := by decide +kernel
set_option maxHeartbeats 4000000 in
set_option maxRecDepth 100000 in
theorem m_X0_size (l : Launch) (g : GT) (d rows : Nat) (ss : List SR) (lw : va_W) (hL : LW g rows (ss.map sA) lw) (hSO : ∀ u ∈ ss, SOK u) (h60 : ss.length ≤ 60) : Met l yX0_size (ws_ yX0_size cX0_size 1 (some .int)) (rmm 1 0 0) (jPc g [.ref d] (fun H => PP g [ob d 0 [.ref rows]] H ∧ PP g (DR g ss lw) H)) (jSi (fun z => z = (ss.length : Int))) 0 0 jN := by
  refine jb_M (by decide) (Nat.le_of_ble_eq_true rfl) ?_
  intro p e s m below meth cq hx hb hr hml hown htl hlk hnm hKK hpre ls hl
  have hown : s.vm.findClass RX0 = some m.cls := hown
  have hl : lv_has ls 1 [(0, .ref d)] := hl
  obtain ⟨hPd, hPr⟩ := hpre
  refine lv_aload_n hx hb dX0_size_0 rfl (lv_at hl 0 rfl) ?_
  refine va_get (D := gD g) (ci := 0) (v := .ref rows) (C := RX0) (T := TX0) (N := 1) hx hb htl ck_X0 hown hKK.k hPd 0 rfl rfl 0 (by decide) (htl _ wd_5_5) (fun _ h9 => h9) rfl dX0_size_1 ?_
  refine jk5_Si (va_runF (As := []) (rest := []) (hKK.k.1 11 _ rfl).2 ⟨hx, hb, hml, hown, htl⟩ (m_Lsize l g rows (ss.map sA) lw hL) (va_cwF 0 htl lkF_X0_18 rfl rfl rfl (fw_0 hKK) cwF_0 ⟨Nat.le_of_ble_eq_true rfl, Nat.le_of_ble_eq_true rfl⟩) (jp_V hKK (va_S.rf (A := jN)) jNb (LW.recv hKK hL (hPr.mem DR.l)) (hPr.mem DR.l)) rfl rfl hl.1 rfl (lv_room (Nat.le_of_ble_eq_true rfl)) dX0_size_4 ⟨Nat.le_of_ble_eq_true rfl, Nat.le_of_ble_eq_true rfl⟩) (fun z4 hz4 => ?_)
  rw [List.length_map] at hz4; subst hz4
  exact je_Si hx hb hr hlk rfl (rfl) dX0_size_9
set_option maxHeartbeats 4000000 in
set_option maxRecDepth 100000 in
theorem m_X0_at (l : Launch) (g : GT) (d rows : Nat) (ss : List SR) (lw : va_W) (hL : LW g rows (ss.map sA) lw) (hSO : ∀ u ∈ ss, SOK u) (h60 : ss.length ≤ 60) (k : Nat) (hk : k < ss.length) : Met l yX0_at (ws_ yX0_at cX0_at 2 (some (.object "Fuzzyseg$Segment"))) (rmm 3 0 0) (jPc g [.ref d, vi (k : Int)] (fun H => PP g [ob d 0 [.ref rows]] H ∧ PP g (DR g ss lw) H)) (jSr (fun z => z = (ss.map sA).getD k 0)) 0 0 jN := by
  refine jb_M (by decide) (Nat.le_of_ble_eq_true rfl) ?_
  intro p e s m below meth cq hx hb hr hml hown htl hlk hnm hKK hpre ls hl
  have hown : s.vm.findClass RX0 = some m.cls := hown
  have hl : lv_has ls 2 [(0, .ref d), (1, vi (k : Int))] := hl
  obtain ⟨hPd, hPr⟩ := hpre
  refine lv_aload_n hx hb dX0_at_0 rfl (lv_at hl 0 rfl) ?_
  refine va_get (D := gD g) (ci := 0) (v := .ref rows) (C := RX0) (T := TX0) (N := 1) hx hb htl ck_X0 hown hKK.k hPd 0 rfl rfl 0 (by decide) (htl _ wd_5_5) (fun _ h9 => h9) rfl dX0_at_1 ?_
  refine lv_iload_n hx hb dX0_at_4 rfl (lv_at hl 1 rfl) ?_
  refine jk5_Sr (va_runF (As := [vi (k : Int)]) (rest := []) (hKK.k.1 11 _ rfl).2 ⟨hx, hb, hml, hown, htl⟩ (m_Lget l g rows (ss.map sA) lw hL k (by rw [List.length_map]; omega)) (va_cwF 1 htl lkF_X0_24 rfl rfl rfl (fw_1 hKK) cwF_1 ⟨Nat.le_of_ble_eq_true rfl, Nat.le_of_ble_eq_true rfl⟩) (jp_V hKK (va_S.rf (A := jN)) jNb (LW.recv hKK hL (hPr.mem DR.l)) (hPr.mem DR.l)) rfl rfl hl.1 rfl (lv_room (Nat.le_of_ble_eq_true rfl)) dX0_at_5 ⟨Nat.le_of_ble_eq_true rfl, Nat.le_of_ble_eq_true rfl⟩) (fun z5 hz5 => ?_)
  obtain ⟨q, hq⟩ : ∃ q, ss[k]? = some q := ⟨_, List.getElem?_eq_getElem (show k < ss.length by omega)⟩
  rw [sA_get hq] at hz5
  obtain ⟨sa, tx, txc, ty, tyc, t, f, u, fu, st, un, sc⟩ := q
  obtain ⟨hT, hU, hst, hun, hsc⟩ : TT t f ∧ TT u fu ∧ (0 ≤ st ∧ st < 65536) ∧ (-1 ≤ un ∧ un < 60) ∧ (0 ≤ sc ∧ sc ≤ 100) := hSO _ (List.mem_of_getElem? hq)
  have hsv : sv ss (k) = (t, u, st, un, sc) := sv_get hq
  have hPs : PP g [ob sa 4 [.ref tx, .ref ty, vi st, vi un, vi sc], ob tx 6 [.ref txc, vi (t.length : Int)], aI g txc 60 f, ob ty 6 [.ref tyc, vi (u.length : Int)], aI g tyc 60 fu] s.heap := hPr.mem (DR.u hq)
  have hz5 : z5 = sa := hz5
  rw [hz5]
  refine va_castS hx hb hown (htl _ wd_18_7) (hKK.k.1 4 _ rfl).2 (va_recv hKK.k hPs (ci := 4) (q0 := 0) rfl rfl) dX0_at_10 ?_
  exact je_Sr hx hb hr hlk ((sA_get hq).symm) dX0_at_13
set_option maxHeartbeats 4000000 in
set_option maxRecDepth 100000 in
theorem m_X0_countNotEmpty (l : Launch) (g : GT) (d rows : Nat) (ss : List SR) (lw : va_W) (hL : LW g rows (ss.map sA) lw) (hSO : ∀ u ∈ ss, SOK u) (h60 : ss.length ≤ 60) : Met l yX0_countNotEmpty (ws_ yX0_countNotEmpty cX0_countNotEmpty 3 (some .int)) (rmm 4 0 0) (jPc g [.ref d] (fun H => PP g [ob d 0 [.ref rows]] H ∧ PP g (DR g ss lw) H)) (jSi (fun z => z = cne (sv ss) ss.length)) 0 0 jN := by
  refine jb_M (by decide) (Nat.le_of_ble_eq_true rfl) ?_
  intro p e s m below meth cq hx hb hr hml hown htl hlk hnm hKK hpre ls hl
  have hown : s.vm.findClass RX0 = some m.cls := hown
  have hl : lv_has ls 3 [(0, .ref d)] := hl
  obtain ⟨hPd, hPr⟩ := hpre
  refine jr_iconst hx hb dX0_countNotEmpty_0 ?_
  refine lv_istore_n (lv' := [(1, vi 0), (0, .ref d)]) hx hb dX0_countNotEmpty_1 rfl hl (by decide) rfl (fun ls hl => ?_)
  refine jr_iconst hx hb dX0_countNotEmpty_2 ?_
  refine lv_istore_n (lv' := [(2, vi 0), (1, vi 0), (0, .ref d)]) hx hb dX0_countNotEmpty_3 rfl hl (by decide) rfl (fun ls hl => ?_)
  have lp4 : ∀ (N : Nat) (i : Nat) (n : Int), (i ≤ ss.length) → (n = cne (sv ss) i) → ss.length - i < N → ∀ ls : Array Slot, lv_has ls 3 [(2, vi (i : Int)), (1, vi n), (0, .ref d)] → W p l e (rmm 4 0 0) s m ([.ref d] : List Value).toArray below meth cq s.heap [] 0 0 (MQ below (jSi (fun z => z = cne (sv ss) ss.length)) ([.ref d] : List Value).toArray s 0 0 jN) (F0 m 4 ls []) := by
    intro N
    induction N with
    | zero => intro i n hi hF hM; exact absurd hM (Nat.not_lt_zero _)
    | succ N ih4 =>
      intro i n hi hF hM ls hl
      have hcb := cne_b (sv ss) i
      refine lv_iload_n hx hb dX0_countNotEmpty_4 rfl (lv_at hl 0 rfl) ?_
      refine lv_aload_n hx hb dX0_countNotEmpty_5 rfl (lv_at hl 2 rfl) ?_
      refine va_get (D := gD g) (ci := 0) (v := .ref rows) (C := RX0) (T := TX0) (N := 1) hx hb htl ck_X0 hown hKK.k hPd 0 rfl rfl 0 (by decide) (htl _ wd_5_5) (fun _ h9 => h9) rfl dX0_countNotEmpty_6 ?_
      refine jk5_Si (va_runF (As := []) (rest := [vi (i : Int)]) (hKK.k.1 11 _ rfl).2 ⟨hx, hb, hml, hown, htl⟩ (m_Lsize l g rows (ss.map sA) lw hL) (va_cwF 0 htl lkF_X0_18 rfl rfl rfl (fw_0 hKK) cwF_0 ⟨Nat.le_of_ble_eq_true rfl, Nat.le_of_ble_eq_true rfl⟩) (jp_V hKK (va_S.rf (A := jN)) jNb (LW.recv hKK hL (hPr.mem DR.l)) (hPr.mem DR.l)) rfl rfl hl.1 rfl (lv_room (Nat.le_of_ble_eq_true rfl)) dX0_countNotEmpty_9 ⟨Nat.le_of_ble_eq_true rfl, Nat.le_of_ble_eq_true rfl⟩) (fun z9 hz9 => ?_)
      rw [List.length_map] at hz9; subst hz9
      refine jr_ge (tgt := 37) hx hb dX0_countNotEmpty_14 (by decide) ⟨by omega, by omega⟩ ⟨by omega, by omega⟩ (fun c14 => ?_) (fun c14 => ?_)
      · refine lv_iload_n hx hb dX0_countNotEmpty_37 rfl (lv_at hl 1 rfl) ?_
        exact je_Si hx hb hr hlk rfl (by obtain rfl : i = ss.length := (by omega); exact hF) dX0_countNotEmpty_38
      · refine lv_aload_n hx hb dX0_countNotEmpty_17 rfl (lv_at hl 2 rfl) ?_
        refine lv_iload_n hx hb dX0_countNotEmpty_18 rfl (lv_at hl 0 rfl) ?_
        refine jk_Sr (va_runV (As := [vi (i : Int)]) (rest := []) ⟨hx, hb, hml, hown, htl⟩ (m_X0_at l g d rows ss lw hL hSO h60 i (by omega)) (cwV 1 htl lk_X0_73 rfl rfl rfl cwV_X0_at ⟨Nat.le_of_ble_eq_true rfl, Nat.le_of_ble_eq_true rfl⟩) (jp_V hKK (va_S.rf (A := jN)) jNb (va_recv hKK.k hPd (ci := 0) (q0 := 0) rfl rfl) ⟨hPd, hPr⟩) rfl rfl hl.1 rfl (lv_room (Nat.le_of_ble_eq_true rfl)) dX0_countNotEmpty_19 ⟨Nat.le_of_ble_eq_true rfl, Nat.le_of_ble_eq_true rfl⟩) (fun z19 hz19 => ?_)
        obtain ⟨q, hq⟩ : ∃ q, ss[i]? = some q := ⟨_, List.getElem?_eq_getElem (show i < ss.length by omega)⟩
        rw [sA_get hq] at hz19
        obtain ⟨sa, tx, txc, ty, tyc, t, f, u, fu, st, un, sc⟩ := q
        obtain ⟨hT, hU, hst, hun, hsc⟩ : TT t f ∧ TT u fu ∧ (0 ≤ st ∧ st < 65536) ∧ (-1 ≤ un ∧ un < 60) ∧ (0 ≤ sc ∧ sc ≤ 100) := hSO _ (List.mem_of_getElem? hq)
        have hsv : sv ss (i) = (t, u, st, un, sc) := sv_get hq
        have hPs : PP g [ob sa 4 [.ref tx, .ref ty, vi st, vi un, vi sc], ob tx 6 [.ref txc, vi (t.length : Int)], aI g txc 60 f, ob ty 6 [.ref tyc, vi (u.length : Int)], aI g tyc 60 fu] s.heap := hPr.mem (DR.u hq)
        have hz19 : z19 = sa := hz19
        rw [hz19]
        refine jk_Si (va_runV (As := []) (rest := []) ⟨hx, hb, hml, hown, htl⟩ (m_X4_isEmpty l g sa tx ty st un sc (by omega)) (cwV 0 htl lk_X0_80 rfl rfl rfl cwV_X4_isEmpty ⟨Nat.le_of_ble_eq_true rfl, Nat.le_of_ble_eq_true rfl⟩) (jp_V hKK (va_S.rf (A := jN)) jNb (va_recv hKK.k hPs (ci := 4) (q0 := 0) rfl rfl) (va_P.sub hPs [0] rfl)) rfl rfl hl.1 rfl (lv_room (Nat.le_of_ble_eq_true rfl)) dX0_countNotEmpty_22 ⟨Nat.le_of_ble_eq_true rfl, Nat.le_of_ble_eq_true rfl⟩) (fun z22 hz22 => ?_)
        subst hz22
        refine jr_ifne (tgt := 31) hx hb dX0_countNotEmpty_25 (by decide) (i01R _) (fun c25 => ?_) (fun c25 => ?_)
        · have c25 := i01t c25
          refine jr_iinc (lv' := [(2, vi ((i : Int) + 1)), (1, vi n), (0, .ref d)]) hx hb dX0_countNotEmpty_31 hl (k := 0) rfl rfl (by decide) rfl (fun ls hl => ?_)
          refine lv_goto (tgt := 4) hx hb dX0_countNotEmpty_34 (by decide) ?_
          exact ih4 (i + 1) _ (by omega) (by rw [cne, hF, hsv]; rw [if_pos c25, Int.add_zero]) (by omega) ls (lv_sub hl [0, 1, 2] rfl)
        · have c25 := i01f c25
          refine jr_iinc (lv' := [(1, vi (n + 1)), (2, vi (i : Int)), (0, .ref d)]) hx hb dX0_countNotEmpty_28 hl (k := 1) rfl rfl (by decide) rfl (fun ls hl => ?_)
          refine jr_iinc (lv' := [(2, vi ((i : Int) + 1)), (1, vi (n + 1)), (0, .ref d)]) hx hb dX0_countNotEmpty_31 hl (k := 1) rfl rfl (by decide) rfl (fun ls hl => ?_)
          refine lv_goto (tgt := 4) hx hb dX0_countNotEmpty_34 (by decide) ?_
          exact ih4 (i + 1) _ (by omega) (by rw [cne, hF, hsv]; rw [if_neg c25]) (by omega) ls (lv_sub hl [0, 1, 2] rfl)
  exact lp4 _ 0 0 (Nat.zero_le _) (rfl) (Nat.lt_succ_self _) ls (lv_sub hl [0, 1, 2] rfl)
set_option maxHeartbeats 4000000 in
set_option maxRecDepth 100000 in
theorem m_X0_hasEqualBefore (l : Launch) (g : GT) (d rows : Nat) (ss : List SR) (lw : va_W) (hL : LW g rows (ss.map sA) lw) (hSO : ∀ u ∈ ss, SOK u) (h60 : ss.length ≤ 60) (k : Nat) (hk : k < ss.length) : Met l yX0_hasEqualBefore (ws_ yX0_hasEqualBefore cX0_hasEqualBefore 4 (some .boolean)) (rmm 4 0 0) (jPc g [.ref d, vi (k : Int)] (fun H => PP g [ob d 0 [.ref rows]] H ∧ PP g (DR g ss lw) H)) (jSi (fun z => z = i01 (eqB (sv ss) (sv ss k).1 k = true))) 0 0 jN := by
  refine jb_M (by decide) (Nat.le_of_ble_eq_true rfl) ?_
  intro p e s m below meth cq hx hb hr hml hown htl hlk hnm hKK hpre ls hl
  have hown : s.vm.findClass RX0 = some m.cls := hown
  have hl : lv_has ls 4 [(0, .ref d), (1, vi (k : Int))] := hl
  obtain ⟨hPd, hPr⟩ := hpre
  refine lv_aload_n hx hb dX0_hasEqualBefore_0 rfl (lv_at hl 0 rfl) ?_
  refine lv_iload_n hx hb dX0_hasEqualBefore_1 rfl (lv_at hl 1 rfl) ?_
  refine jk_Sr (va_runV (As := [vi (k : Int)]) (rest := []) ⟨hx, hb, hml, hown, htl⟩ (m_X0_at l g d rows ss lw hL hSO h60 k (by omega)) (cwV 1 htl lk_X0_73 rfl rfl rfl cwV_X0_at ⟨Nat.le_of_ble_eq_true rfl, Nat.le_of_ble_eq_true rfl⟩) (jp_V hKK (va_S.rf (A := jN)) jNb (va_recv hKK.k hPd (ci := 0) (q0 := 0) rfl rfl) ⟨hPd, hPr⟩) rfl rfl hl.1 rfl (lv_room (Nat.le_of_ble_eq_true rfl)) dX0_hasEqualBefore_2 ⟨Nat.le_of_ble_eq_true rfl, Nat.le_of_ble_eq_true rfl⟩) (fun z2 hz2 => ?_)
  obtain ⟨q0, hq0⟩ : ∃ q, ss[k]? = some q := ⟨_, List.getElem?_eq_getElem (show k < ss.length by omega)⟩
  rw [sA_get hq0] at hz2
  obtain ⟨sa0, tx0, txc0, ty0, tyc0, t0, f0, u0, fu0, st0, un0, sc0⟩ := q0
  obtain ⟨hT0, hU0, hst0, hun0, hsc0⟩ : TT t0 f0 ∧ TT u0 fu0 ∧ (0 ≤ st0 ∧ st0 < 65536) ∧ (-1 ≤ un0 ∧ un0 < 60) ∧ (0 ≤ sc0 ∧ sc0 ≤ 100) := hSO _ (List.mem_of_getElem? hq0)
  have hsv0 : sv ss (k) = (t0, u0, st0, un0, sc0) := sv_get hq0
  have hPs0 : PP g [ob sa0 4 [.ref tx0, .ref ty0, vi st0, vi un0, vi sc0], ob tx0 6 [.ref txc0, vi (t0.length : Int)], aI g txc0 60 f0, ob ty0 6 [.ref tyc0, vi (u0.length : Int)], aI g tyc0 60 fu0] s.heap := hPr.mem (DR.u hq0)
  have hz2 : z2 = sa0 := hz2
  rw [hz2]
  refine va_get (D := gD g) (ci := 4) (v := .ref tx0) (C := RX4) (T := TX4) (N := 5) hx hb htl ck_X4 hown hKK.k hPs0 0 rfl rfl 0 (by decide) (htl _ wd_6_4) (fun _ h9 => h9) rfl dX0_hasEqualBefore_5 ?_
  refine lv_astore_n (lv' := [(2, .ref tx0), (0, .ref d), (1, vi (k : Int))]) hx hb dX0_hasEqualBefore_8 rfl hl (by decide) rfl (fun ls hl => ?_)
  refine jr_iconst hx hb dX0_hasEqualBefore_9 ?_
  refine lv_istore_n (lv' := [(3, vi 0), (2, .ref tx0), (0, .ref d), (1, vi (k : Int))]) hx hb dX0_hasEqualBefore_10 rfl hl (by decide) rfl (fun ls hl => ?_)
  have lp11 : ∀ (N : Nat) (i : Nat), (i ≤ k) → (∀ j, j < i → ¬ (sv ss j).1 = t0) → k - i < N → ∀ ls : Array Slot, lv_has ls 4 [(3, vi (i : Int)), (2, .ref tx0), (0, .ref d), (1, vi (k : Int))] → W p l e (rmm 4 0 0) s m ([.ref d, vi (k : Int)] : List Value).toArray below meth cq s.heap [] 0 0 (MQ below (jSi (fun z => z = i01 (eqB (sv ss) (sv ss k).1 k = true))) ([.ref d, vi (k : Int)] : List Value).toArray s 0 0 jN) (F0 m 11 ls []) := by
    intro N
    induction N with
    | zero => intro i hi hF hM; exact absurd hM (Nat.not_lt_zero _)
    | succ N ih11 =>
      intro i hi hF hM ls hl
      refine lv_iload_n hx hb dX0_hasEqualBefore_11 rfl (lv_at hl 0 rfl) ?_
      refine lv_iload_n hx hb dX0_hasEqualBefore_12 rfl (lv_at hl 3 rfl) ?_
      refine jr_ge (tgt := 39) hx hb dX0_hasEqualBefore_13 (by decide) ⟨by omega, by omega⟩ ⟨by omega, by omega⟩ (fun c13 => ?_) (fun c13 => ?_)
      · refine jr_iconst hx hb dX0_hasEqualBefore_39 ?_
        exact je_Si hx hb hr hlk (nz_b (by omega)).1 ((if_neg (fun q => by rw [hsv0] at q; obtain ⟨j, h1, h2⟩ := eqB_iff.mp q; exact hF j (by omega) h2)).symm) dX0_hasEqualBefore_40
      · refine lv_aload_n hx hb dX0_hasEqualBefore_16 rfl (lv_at hl 2 rfl) ?_
        refine lv_iload_n hx hb dX0_hasEqualBefore_17 rfl (lv_at hl 0 rfl) ?_
        refine jk_Sr (va_runV (As := [vi (i : Int)]) (rest := []) ⟨hx, hb, hml, hown, htl⟩ (m_X0_at l g d rows ss lw hL hSO h60 i (by omega)) (cwV 1 htl lk_X0_73 rfl rfl rfl cwV_X0_at ⟨Nat.le_of_ble_eq_true rfl, Nat.le_of_ble_eq_true rfl⟩) (jp_V hKK (va_S.rf (A := jN)) jNb (va_recv hKK.k hPd (ci := 0) (q0 := 0) rfl rfl) ⟨hPd, hPr⟩) rfl rfl hl.1 rfl (lv_room (Nat.le_of_ble_eq_true rfl)) dX0_hasEqualBefore_18 ⟨Nat.le_of_ble_eq_true rfl, Nat.le_of_ble_eq_true rfl⟩) (fun z18 hz18 => ?_)
        obtain ⟨q, hq⟩ : ∃ q, ss[i]? = some q := ⟨_, List.getElem?_eq_getElem (show i < ss.length by omega)⟩
        rw [sA_get hq] at hz18
        obtain ⟨sa, tx, txc, ty, tyc, t, f, u, fu, st, un, sc⟩ := q
        obtain ⟨hT, hU, hst, hun, hsc⟩ : TT t f ∧ TT u fu ∧ (0 ≤ st ∧ st < 65536) ∧ (-1 ≤ un ∧ un < 60) ∧ (0 ≤ sc ∧ sc ≤ 100) := hSO _ (List.mem_of_getElem? hq)
        have hsv : sv ss (i) = (t, u, st, un, sc) := sv_get hq
        have hPs : PP g [ob sa 4 [.ref tx, .ref ty, vi st, vi un, vi sc], ob tx 6 [.ref txc, vi (t.length : Int)], aI g txc 60 f, ob ty 6 [.ref tyc, vi (u.length : Int)], aI g tyc 60 fu] s.heap := hPr.mem (DR.u hq)
        have hz18 : z18 = sa := hz18
        rw [hz18]
        refine va_get (D := gD g) (ci := 4) (v := .ref tx) (C := RX4) (T := TX4) (N := 5) hx hb htl ck_X4 hown hKK.k hPs 0 rfl rfl 0 (by decide) (htl _ wd_6_4) (fun _ h9 => h9) rfl dX0_hasEqualBefore_21 ?_
        refine lv_aload_n hx hb dX0_hasEqualBefore_24 rfl (lv_at hl 1 rfl) ?_
        refine jk_Si (va_runV (As := [.ref tx0]) (rest := []) ⟨hx, hb, hml, hown, htl⟩ (m_X6_isSameAs l g tx txc t f hT tx0 txc0 t0 f0 hT0) (cwV 1 htl lk_X0_76 rfl rfl rfl cwV_X6_isSameAs ⟨Nat.le_of_ble_eq_true rfl, Nat.le_of_ble_eq_true rfl⟩) (jp_V hKK (va_S.rf (A := jN)) jNb (va_recv hKK.k hPs (ci := 6) (q0 := 1) rfl rfl) ⟨(va_P.sub hPs [1, 2] rfl), (va_P.sub hPs0 [1, 2] rfl)⟩) rfl rfl hl.1 rfl (lv_room (Nat.le_of_ble_eq_true rfl)) dX0_hasEqualBefore_25 ⟨Nat.le_of_ble_eq_true rfl, Nat.le_of_ble_eq_true rfl⟩) (fun z25 hz25 => ?_)
        subst hz25
        refine jr_ifeq (tgt := 33) hx hb dX0_hasEqualBefore_28 (by decide) (i01R _) (fun c28 => ?_) (fun c28 => ?_)
        · have c28 := i01f c28
          refine jr_iinc (lv' := [(3, vi ((i : Int) + 1)), (2, .ref tx0), (0, .ref d), (1, vi (k : Int))]) hx hb dX0_hasEqualBefore_33 hl (k := 0) rfl rfl (by decide) rfl (fun ls hl => ?_)
          refine lv_goto (tgt := 11) hx hb dX0_hasEqualBefore_36 (by decide) ?_
          exact ih11 (i + 1) (by omega) (fun j hj => by rcases Nat.lt_or_ge j i with q | q; exact hF j q; obtain rfl : j = i := (by omega); rw [hsv]; exact c28) (by omega) ls (lv_sub hl [0, 1, 2, 3] rfl)
        · have c28 := i01t c28
          refine jr_iconst hx hb dX0_hasEqualBefore_31 ?_
          exact je_Si hx hb hr hlk (nz_b (by omega)).1 ((if_pos (by rw [hsv0]; exact eqB_iff.mpr ⟨i, by omega, by rw [hsv]; exact c28⟩)).symm) dX0_hasEqualBefore_32
  exact lp11 _ 0 (Nat.zero_le _) (fun j hj => absurd hj (Nat.not_lt_zero _)) (Nat.lt_succ_self _) ls (lv_sub hl [0, 1, 2, 3] rfl)
set_option maxHeartbeats 4000000 in
set_option maxRecDepth 100000 in
theorem m_X0_firstFilledEqualBefore (l : Launch) (g : GT) (d rows : Nat) (ss : List SR) (lw : va_W) (hL : LW g rows (ss.map sA) lw) (hSO : ∀ u ∈ ss, SOK u) (h60 : ss.length ≤ 60) (k : Nat) (hk : k < ss.length) : Met l yX0_firstFilledEqualBefore (ws_ yX0_firstFilledEqualBefore cX0_firstFilledEqualBefore 5 (some .int)) (rmm 4 0 0) (jPc g [.ref d, vi (k : Int)] (fun H => PP g [ob d 0 [.ref rows]] H ∧ PP g (DR g ss lw) H)) (jSi (fun z => z = ffA (sv ss) (sv ss k).1 k k)) 0 0 jN := by
  refine jb_M (by decide) (Nat.le_of_ble_eq_true rfl) ?_
  intro p e s m below meth cq hx hb hr hml hown htl hlk hnm hKK hpre ls hl
  have hown : s.vm.findClass RX0 = some m.cls := hown
  have hl : lv_has ls 5 [(0, .ref d), (1, vi (k : Int))] := hl
  obtain ⟨hPd, hPr⟩ := hpre
  refine lv_aload_n hx hb dX0_firstFilledEqualBefore_0 rfl (lv_at hl 0 rfl) ?_
  refine lv_iload_n hx hb dX0_firstFilledEqualBefore_1 rfl (lv_at hl 1 rfl) ?_
  refine jk_Sr (va_runV (As := [vi (k : Int)]) (rest := []) ⟨hx, hb, hml, hown, htl⟩ (m_X0_at l g d rows ss lw hL hSO h60 k (by omega)) (cwV 1 htl lk_X0_73 rfl rfl rfl cwV_X0_at ⟨Nat.le_of_ble_eq_true rfl, Nat.le_of_ble_eq_true rfl⟩) (jp_V hKK (va_S.rf (A := jN)) jNb (va_recv hKK.k hPd (ci := 0) (q0 := 0) rfl rfl) ⟨hPd, hPr⟩) rfl rfl hl.1 rfl (lv_room (Nat.le_of_ble_eq_true rfl)) dX0_firstFilledEqualBefore_2 ⟨Nat.le_of_ble_eq_true rfl, Nat.le_of_ble_eq_true rfl⟩) (fun z2 hz2 => ?_)
  obtain ⟨q0, hq0⟩ : ∃ q, ss[k]? = some q := ⟨_, List.getElem?_eq_getElem (show k < ss.length by omega)⟩
  rw [sA_get hq0] at hz2
  obtain ⟨sa0, tx0, txc0, ty0, tyc0, t0, f0, u0, fu0, st0, un0, sc0⟩ := q0
  obtain ⟨hT0, hU0, hst0, hun0, hsc0⟩ : TT t0 f0 ∧ TT u0 fu0 ∧ (0 ≤ st0 ∧ st0 < 65536) ∧ (-1 ≤ un0 ∧ un0 < 60) ∧ (0 ≤ sc0 ∧ sc0 ≤ 100) := hSO _ (List.mem_of_getElem? hq0)
  have hsv0 : sv ss (k) = (t0, u0, st0, un0, sc0) := sv_get hq0
  have hPs0 : PP g [ob sa0 4 [.ref tx0, .ref ty0, vi st0, vi un0, vi sc0], ob tx0 6 [.ref txc0, vi (t0.length : Int)], aI g txc0 60 f0, ob ty0 6 [.ref tyc0, vi (u0.length : Int)], aI g tyc0 60 fu0] s.heap := hPr.mem (DR.u hq0)
  have hz2 : z2 = sa0 := hz2
  rw [hz2]
  refine va_get (D := gD g) (ci := 4) (v := .ref tx0) (C := RX4) (T := TX4) (N := 5) hx hb htl ck_X4 hown hKK.k hPs0 0 rfl rfl 0 (by decide) (htl _ wd_6_4) (fun _ h9 => h9) rfl dX0_firstFilledEqualBefore_5 ?_
  refine lv_astore_n (lv' := [(2, .ref tx0), (0, .ref d), (1, vi (k : Int))]) hx hb dX0_firstFilledEqualBefore_8 rfl hl (by decide) rfl (fun ls hl => ?_)
  refine jr_iconst hx hb dX0_firstFilledEqualBefore_9 ?_
  refine lv_istore_n (lv' := [(3, vi 0), (2, .ref tx0), (0, .ref d), (1, vi (k : Int))]) hx hb dX0_firstFilledEqualBefore_10 rfl hl (by decide) rfl (fun ls hl => ?_)
  have lp11 : ∀ (N : Nat) (i : Nat), (i ≤ k) → (ffA (sv ss) t0 k (k - i) = ffA (sv ss) t0 k k) → k - i < N → ∀ ls : Array Slot, lv_has ls 5 [(3, vi (i : Int)), (2, .ref tx0), (0, .ref d), (1, vi (k : Int))] → W p l e (rmm 4 0 0) s m ([.ref d, vi (k : Int)] : List Value).toArray below meth cq s.heap [] 0 0 (MQ below (jSi (fun z => z = ffA (sv ss) (sv ss k).1 k k)) ([.ref d, vi (k : Int)] : List Value).toArray s 0 0 jN) (F0 m 11 ls []) := by
    intro N
    induction N with
    | zero => intro i hi hF hM; exact absurd hM (Nat.not_lt_zero _)
    | succ N ih11 =>
      intro i hi hF hM ls hl
      refine lv_iload_n hx hb dX0_firstFilledEqualBefore_11 rfl (lv_at hl 0 rfl) ?_
      refine lv_iload_n hx hb dX0_firstFilledEqualBefore_12 rfl (lv_at hl 3 rfl) ?_
      refine jr_ge (tgt := 51) hx hb dX0_firstFilledEqualBefore_13 (by decide) ⟨by omega, by omega⟩ ⟨by omega, by omega⟩ (fun c13 => ?_) (fun c13 => ?_)
      · refine jr_iconst hx hb dX0_firstFilledEqualBefore_51 ?_
        exact je_Si hx hb hr hlk rfl (by rw [hsv0]; show _ = ffA (sv ss) t0 k k; obtain rfl : i = k := (by omega); rw [← hF, Nat.sub_self, ffA]) dX0_firstFilledEqualBefore_52
      · refine lv_aload_n hx hb dX0_firstFilledEqualBefore_16 rfl (lv_at hl 2 rfl) ?_
        refine lv_iload_n hx hb dX0_firstFilledEqualBefore_17 rfl (lv_at hl 0 rfl) ?_
        refine jk_Sr (va_runV (As := [vi (i : Int)]) (rest := []) ⟨hx, hb, hml, hown, htl⟩ (m_X0_at l g d rows ss lw hL hSO h60 i (by omega)) (cwV 1 htl lk_X0_73 rfl rfl rfl cwV_X0_at ⟨Nat.le_of_ble_eq_true rfl, Nat.le_of_ble_eq_true rfl⟩) (jp_V hKK (va_S.rf (A := jN)) jNb (va_recv hKK.k hPd (ci := 0) (q0 := 0) rfl rfl) ⟨hPd, hPr⟩) rfl rfl hl.1 rfl (lv_room (Nat.le_of_ble_eq_true rfl)) dX0_firstFilledEqualBefore_18 ⟨Nat.le_of_ble_eq_true rfl, Nat.le_of_ble_eq_true rfl⟩) (fun z18 hz18 => ?_)
        obtain ⟨q, hq⟩ : ∃ q, ss[i]? = some q := ⟨_, List.getElem?_eq_getElem (show i < ss.length by omega)⟩
        rw [sA_get hq] at hz18
        obtain ⟨sa, tx, txc, ty, tyc, t, f, u, fu, st, un, sc⟩ := q
        obtain ⟨hT, hU, hst, hun, hsc⟩ : TT t f ∧ TT u fu ∧ (0 ≤ st ∧ st < 65536) ∧ (-1 ≤ un ∧ un < 60) ∧ (0 ≤ sc ∧ sc ≤ 100) := hSO _ (List.mem_of_getElem? hq)
        have hsv : sv ss (i) = (t, u, st, un, sc) := sv_get hq
        have hPs : PP g [ob sa 4 [.ref tx, .ref ty, vi st, vi un, vi sc], ob tx 6 [.ref txc, vi (t.length : Int)], aI g txc 60 f, ob ty 6 [.ref tyc, vi (u.length : Int)], aI g tyc 60 fu] s.heap := hPr.mem (DR.u hq)
        have hz18 : z18 = sa := hz18
        rw [hz18]
        refine lv_astore (lv' := [(4, .ref sa), (3, vi (i : Int)), (2, .ref tx0), (0, .ref d), (1, vi (k : Int))]) hx hb dX0_firstFilledEqualBefore_21 hl (by decide) rfl (fun ls hl => ?_)
        refine lv_aload hx hb dX0_firstFilledEqualBefore_23 (lv_at hl 0 rfl) ?_
        refine jk_Si (va_runV (As := []) (rest := []) ⟨hx, hb, hml, hown, htl⟩ (m_X4_isEmpty l g sa tx ty st un sc (by omega)) (cwV 0 htl lk_X0_80 rfl rfl rfl cwV_X4_isEmpty ⟨Nat.le_of_ble_eq_true rfl, Nat.le_of_ble_eq_true rfl⟩) (jp_V hKK (va_S.rf (A := jN)) jNb (va_recv hKK.k hPs (ci := 4) (q0 := 0) rfl rfl) (va_P.sub hPs [0] rfl)) rfl rfl hl.1 rfl (lv_room (Nat.le_of_ble_eq_true rfl)) dX0_firstFilledEqualBefore_25 ⟨Nat.le_of_ble_eq_true rfl, Nat.le_of_ble_eq_true rfl⟩) (fun z25 hz25 => ?_)
        subst hz25
        refine jr_ifne (tgt := 45) hx hb dX0_firstFilledEqualBefore_28 (by decide) (i01R _) (fun c28 => ?_) (fun c28 => ?_)
        · have c28 := i01t c28
          refine jr_iinc (lv' := [(3, vi ((i : Int) + 1)), (4, .ref sa), (2, .ref tx0), (0, .ref d), (1, vi (k : Int))]) hx hb dX0_firstFilledEqualBefore_45 hl (k := 1) rfl rfl (by decide) rfl (fun ls hl => ?_)
          refine lv_goto (tgt := 11) hx hb dX0_firstFilledEqualBefore_48 (by decide) ?_
          exact ih11 (i + 1) (by omega) (by rw [← hF, ffA_s (i := i) (by omega), hsv, if_neg]; exact fun q => q.1 c28) (by omega) ls (lv_sub hl [0, 2, 3, 4] rfl)
        · have c28 := i01f c28
          refine lv_aload hx hb dX0_firstFilledEqualBefore_31 (lv_at hl 0 rfl) ?_
          refine va_get (D := gD g) (ci := 4) (v := .ref tx) (C := RX4) (T := TX4) (N := 5) hx hb htl ck_X4 hown hKK.k hPs 0 rfl rfl 0 (by decide) (htl _ wd_6_4) (fun _ h9 => h9) rfl dX0_firstFilledEqualBefore_33 ?_
          refine lv_aload_n hx hb dX0_firstFilledEqualBefore_36 rfl (lv_at hl 2 rfl) ?_
          refine jk_Si (va_runV (As := [.ref tx0]) (rest := []) ⟨hx, hb, hml, hown, htl⟩ (m_X6_isSameAs l g tx txc t f hT tx0 txc0 t0 f0 hT0) (cwV 1 htl lk_X0_76 rfl rfl rfl cwV_X6_isSameAs ⟨Nat.le_of_ble_eq_true rfl, Nat.le_of_ble_eq_true rfl⟩) (jp_V hKK (va_S.rf (A := jN)) jNb (va_recv hKK.k hPs (ci := 6) (q0 := 1) rfl rfl) ⟨(va_P.sub hPs [1, 2] rfl), (va_P.sub hPs0 [1, 2] rfl)⟩) rfl rfl hl.1 rfl (lv_room (Nat.le_of_ble_eq_true rfl)) dX0_firstFilledEqualBefore_37 ⟨Nat.le_of_ble_eq_true rfl, Nat.le_of_ble_eq_true rfl⟩) (fun z37 hz37 => ?_)
          subst hz37
          refine jr_ifeq (tgt := 45) hx hb dX0_firstFilledEqualBefore_40 (by decide) (i01R _) (fun c40 => ?_) (fun c40 => ?_)
          · have c40 := i01f c40
            refine jr_iinc (lv' := [(3, vi ((i : Int) + 1)), (4, .ref sa), (2, .ref tx0), (0, .ref d), (1, vi (k : Int))]) hx hb dX0_firstFilledEqualBefore_45 hl (k := 1) rfl rfl (by decide) rfl (fun ls hl => ?_)
            refine lv_goto (tgt := 11) hx hb dX0_firstFilledEqualBefore_48 (by decide) ?_
            exact ih11 (i + 1) (by omega) (by rw [← hF, ffA_s (i := i) (by omega), hsv, if_neg]; exact fun q => c40 q.2) (by omega) ls (lv_sub hl [0, 2, 3, 4] rfl)
          · have c40 := i01t c40
            refine lv_iload_n hx hb dX0_firstFilledEqualBefore_43 rfl (lv_at hl 1 rfl) ?_
            exact je_Si hx hb hr hlk rfl (by rw [hsv0]; show _ = ffA (sv ss) t0 k k; rw [← hF, ffA_s (i := i) (by omega), hsv]; exact (if_pos ⟨c28, c40⟩).symm) dX0_firstFilledEqualBefore_44
  exact lp11 _ 0 (Nat.zero_le _) (rfl) (Nat.lt_succ_self _) ls (lv_sub hl [0, 1, 2, 3] rfl)
