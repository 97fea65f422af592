
theorem lk_X0_70 : GoodIn WSL (va_wsS RX0 70 yX7_valueIn (ws_ yX7_valueIn cX7_valueIn 1 (some .int))) := gd_app (List.forall_mem_cons.mpr ⟨wd_18_23, List.forall_mem_cons.mpr ⟨wd_19_0, List.forall_mem_cons.mpr ⟨wd_8_9, fun _ h => nomatch h⟩⟩⟩) (gd_ wd_19_1)
theorem cwS_X7_valueIn : yX7_valueIn.cls ≠ "java/lang/invoke/MethodHandle" ∧ yX7_valueIn.cls ≠ "java/lang/invoke/VarHandle" ∧ (parseMethodDescriptor yX7_valueIn.desc).map (fun d => d.parameters.length) = some 1 := by decide +kernel
theorem lk_X0_44 : GoodIn WSL (va_wsS RX0 44 yX7_kindIn (ws_ yX7_kindIn cX7_kindIn 1 (some .int))) := gd_app (List.forall_mem_cons.mpr ⟨wd_18_19, List.forall_mem_cons.mpr ⟨wd_8_8, List.forall_mem_cons.mpr ⟨wd_8_9, fun _ h => nomatch h⟩⟩⟩) (gd_ wd_8_10)
theorem lk_X0_40 : GoodIn WSL (wsV RX0 40 RX6 yX6_at (ws_ yX6_at cX6_at 2 (some .int))) := gd_app (List.forall_mem_cons.mpr ⟨wd_18_17, List.forall_mem_cons.mpr ⟨wd_7_7, List.forall_mem_cons.mpr ⟨wd_7_8, List.forall_mem_cons.mpr ⟨wd_1_13, fun _ h => nomatch h⟩⟩⟩⟩) (gd_ wd_7_9)
theorem lk_X0_62 : GoodIn WSL (va_wsS RX0 62 yX7_codeOf (ws_ yX7_codeOf cX7_codeOf 2 (some .int))) := gd_app (List.forall_mem_cons.mpr ⟨wd_18_18, List.forall_mem_cons.mpr ⟨wd_9_20, List.forall_mem_cons.mpr ⟨wd_8_9, fun _ h => nomatch h⟩⟩⟩) (gd_ wd_9_21)
theorem lk_X0_66 : GoodIn WSL (va_wsS RX0 66 yX0_isAbbreviation (ws_ yX0_isAbbreviation cX0_isAbbreviation 3 (some .boolean))) := gd_app (List.forall_mem_cons.mpr ⟨wd_18_20, List.forall_mem_cons.mpr ⟨wd_18_21, List.forall_mem_cons.mpr ⟨wd_2_10, fun _ h => nomatch h⟩⟩⟩) (gd_ wd_18_22)
theorem cwS_X0_isAbbreviation : yX0_isAbbreviation.cls ≠ "java/lang/invoke/MethodHandle" ∧ yX0_isAbbreviation.cls ≠ "java/lang/invoke/VarHandle" ∧ (parseMethodDescriptor yX0_isAbbreviation.desc).map (fun d => d.parameters.length) = some 2 := by decide +kernel
set_option maxHeartbeats 4000000 in
set_option maxRecDepth 100000 in
theorem m_X0_isAbbreviation (l : Launch) (g : GT) (ba : Nat) (ab : Nat → Int) (hab : ∀ j, j < 100 → ab j = 0 ∨ ab j = 1) (c : Int) (hc : jR c) : Met l yX0_isAbbreviation (ws_ yX0_isAbbreviation cX0_isAbbreviation 3 (some .boolean)) (rmm 1 0 0) (jPc g [vi c, .ref ba] (fun H => PP g [aZ g ba 100 ab] H)) (jSi (fun z => z = i01 (isAb ab c = true))) 0 0 jN := by
  refine jb_M (by decide) (Nat.le_of_ble_eq_true rfl) ?_
  intro p e s m below meth cq hx hb hr hml hown htl hlk hnm hKK hpre ls hl
  have hown : s.vm.findClass RX0 = some m.cls := hown
  have hl : lv_has ls 3 [(0, vi c), (1, .ref ba)] := hl
  have hPab : PP g [aZ g ba 100 ab] s.heap := hpre
  have hvb := vl_b c hc
  have hkb := kd_R hc
  refine lv_iload_n hx hb dX0_isAbbreviation_0 rfl (lv_at hl 0 rfl) ?_
  refine jk_Si (va_runS (As := [vi c]) (rest := []) ⟨hx, hb, hml, hown, htl⟩ (m_X7_valueIn l g c hc) (va_cwS 1 htl lk_X0_70 rfl rfl rfl cwS_X7_valueIn ⟨Nat.le_of_ble_eq_true rfl, Nat.le_of_ble_eq_true rfl⟩) (jp_S hKK (va_S.rf (A := jN)) jNb trivial) rfl rfl hl.1 rfl (lv_room (Nat.le_of_ble_eq_true rfl)) dX0_isAbbreviation_1 ⟨Nat.le_of_ble_eq_true rfl, Nat.le_of_ble_eq_true rfl⟩) (fun z1 hz1 => ?_)
  subst hz1
  refine lv_istore_n (lv' := [(2, vi (vl c)), (0, vi c), (1, .ref ba)]) hx hb dX0_isAbbreviation_4 rfl hl (by decide) rfl (fun ls hl => ?_)
  refine lv_iload_n hx hb dX0_isAbbreviation_5 rfl (lv_at hl 1 rfl) ?_
  refine jk_Si (va_runS (As := [vi c]) (rest := []) ⟨hx, hb, hml, hown, htl⟩ (m_X7_kindIn l g c hc) (va_cwS 1 htl lk_X0_44 rfl rfl rfl cwS_X7_kindIn ⟨Nat.le_of_ble_eq_true rfl, Nat.le_of_ble_eq_true rfl⟩) (jp_S hKK (va_S.rf (A := jN)) jNb trivial) rfl rfl hl.1 rfl (lv_room (Nat.le_of_ble_eq_true rfl)) dX0_isAbbreviation_6 ⟨Nat.le_of_ble_eq_true rfl, Nat.le_of_ble_eq_true rfl⟩) (fun z6 hz6 => ?_)
  subst hz6
  refine jr_ifne (tgt := 32) hx hb dX0_isAbbreviation_9 (by decide) ⟨by omega, by omega⟩ (fun c9 => ?_) (fun c9 => ?_)
  · refine jr_iconst hx hb dX0_isAbbreviation_32 ?_
    exact je_Si hx hb hr hlk (nz_b (by omega)).1 ((if_neg (fun q => by have q2 := isAb_iff.mp q; omega)).symm) dX0_isAbbreviation_33
  · refine lv_iload_n hx hb dX0_isAbbreviation_12 rfl (lv_at hl 0 rfl) ?_
    refine jr_iflt (tgt := 32) hx hb dX0_isAbbreviation_13 (by decide) ⟨by omega, by omega⟩ (fun c13 => ?_) (fun c13 => ?_)
    · refine jr_iconst hx hb dX0_isAbbreviation_32 ?_
      exact je_Si hx hb hr hlk (nz_b (by omega)).1 ((if_neg (fun q => by have q2 := isAb_iff.mp q; omega)).symm) dX0_isAbbreviation_33
    · refine lv_iload_n hx hb dX0_isAbbreviation_16 rfl (lv_at hl 0 rfl) ?_
      refine lv_aload_n hx hb dX0_isAbbreviation_17 rfl (lv_at hl 2 rfl) ?_
      refine va_alen (v := jI (100 : Nat)) hx hb hKK.k hPab 0 1 rfl rfl (jI_nI _) dX0_isAbbreviation_18 ?_
      refine jr_ge (tgt := 32) hx hb dX0_isAbbreviation_19 (by decide) ⟨by omega, by omega⟩ ⟨by omega, by omega⟩ (fun c19 => ?_) (fun c19 => ?_)
      · refine jr_iconst hx hb dX0_isAbbreviation_32 ?_
        exact je_Si hx hb hr hlk (nz_b (by omega)).1 ((if_neg (fun q => by have q2 := isAb_iff.mp q; omega)).symm) dX0_isAbbreviation_33
      · refine lv_aload_n hx hb dX0_isAbbreviation_22 rfl (lv_at hl 2 rfl) ?_
        refine lv_iload_n hx hb dX0_isAbbreviation_23 rfl (lv_at hl 0 rfl) ?_
        have hab8 := hab (vl c).toNat (by omega)
        refine jr_zald hx hb hKK.k hPab 0 rfl (((vl c)).toNat) (by omega) (by omega) (by omega) dX0_isAbbreviation_24 ?_
        refine jr_ifeq (tgt := 32) hx hb dX0_isAbbreviation_25 (by decide) ⟨by omega, by omega⟩ (fun c25 => ?_) (fun c25 => ?_)
        · refine jr_iconst hx hb dX0_isAbbreviation_32 ?_
          exact je_Si hx hb hr hlk (nz_b (by omega)).1 ((if_neg (fun q => by have q2 := isAb_iff.mp q; omega)).symm) dX0_isAbbreviation_33
        · refine jr_iconst hx hb dX0_isAbbreviation_28 ?_
          refine lv_goto (tgt := 33) hx hb dX0_isAbbreviation_29 (by decide) ?_
          exact je_Si hx hb hr hlk (nz_b (by omega)).1 ((if_pos (isAb_iff.mpr ⟨by omega, by omega, by omega, by omega⟩)).symm) dX0_isAbbreviation_33
set_option maxHeartbeats 4000000 in
set_option maxRecDepth 100000 in
theorem m_X0_isEnd (l : Launch) (g : GT) (a c : Nat) (t : List Int) (f : Nat → Int) (hf : TT t f) (ba : Nat) (ab : Nat → Int) (hab : ∀ j, j < 100 → ab j = 0 ∨ ab j = 1) (i : Int) (hi : 0 ≤ i ∧ i < 100) : Met l yX0_isEnd (ws_ yX0_isEnd cX0_isEnd 7 (some .boolean)) (rmm 2 0 0) (jPc g [.ref a, vi i, .ref ba] (fun H => PP g [ob a 6 [.ref c, vi (t.length : Int)], aI g c 60 f] H ∧ PP g [aZ g ba 100 ab] H)) (jSi (fun z => z = i01 (isE ab t i = true))) 0 0 jN := by
  refine jb_M (by decide) (Nat.le_of_ble_eq_true rfl) ?_
  intro p e s m below meth cq hx hb hr hml hown htl hlk hnm hKK hpre ls hl
  have hown : s.vm.findClass RX0 = some m.cls := hown
  have hl : lv_has ls 7 [(0, .ref a), (1, vi i), (2, .ref ba)] := hl
  obtain ⟨hP, hPab⟩ := hpre
  refine lv_aload_n hx hb dX0_isEnd_0 rfl (lv_at hl 0 rfl) ?_
  refine lv_iload_n hx hb dX0_isEnd_1 rfl (lv_at hl 1 rfl) ?_
  refine jk_Si (va_runV (As := [vi i]) (rest := []) ⟨hx, hb, hml, hown, htl⟩ (m_X6_at l g a c t f hf i ⟨by omega, by omega⟩) (cwV 1 htl lk_X0_40 rfl rfl rfl cwV_X6_at ⟨Nat.le_of_ble_eq_true rfl, Nat.le_of_ble_eq_true rfl⟩) (jp_V hKK (va_S.rf (A := jN)) jNb (va_recv hKK.k hP (ci := 6) (q0 := 0) rfl rfl) hP) rfl rfl hl.1 rfl (lv_room (Nat.le_of_ble_eq_true rfl)) dX0_isEnd_2 ⟨Nat.le_of_ble_eq_true rfl, Nat.le_of_ble_eq_true rfl⟩) (fun z2 hz2 => ?_)
  subst hz2
  have ta := TT.tAt_b hf i
  have ta1 := ta
  refine lv_istore_n (lv' := [(3, vi (tAt t i)), (0, .ref a), (1, vi i), (2, .ref ba)]) hx hb dX0_isEnd_5 rfl hl (by decide) rfl (fun ls hl => ?_)
  refine lv_iload_n hx hb dX0_isEnd_6 rfl (lv_at hl 0 rfl) ?_
  refine jr_iconst hx hb dX0_isEnd_7 ?_
  refine jr_bipush hx hb dX0_isEnd_8 (by decide) ?_
  refine jk_Si (va_runS (As := [vi 3, vi 33]) (rest := [vi (tAt t i)]) ⟨hx, hb, hml, hown, htl⟩ (m_X7_codeOf l g 3 33) (va_cwS 2 htl lk_X0_62 rfl rfl rfl cwS_X7_codeOf ⟨Nat.le_of_ble_eq_true rfl, Nat.le_of_ble_eq_true rfl⟩) (jp_S hKK (va_S.rf (A := jN)) jNb trivial) rfl rfl hl.1 rfl (lv_room (Nat.le_of_ble_eq_true rfl)) dX0_isEnd_10 ⟨Nat.le_of_ble_eq_true rfl, Nat.le_of_ble_eq_true rfl⟩) (fun z10 hz10 => ?_)
  subst hz10
  refine jr_eq (tgt := 26) hx hb dX0_isEnd_13 (by decide) ⟨by omega, by omega⟩ ⟨by omega, by omega⟩ (fun c13 => ?_) (fun c13 => ?_)
  · refine jr_iconst hx hb dX0_isEnd_26 ?_
    exact je_Si hx hb hr hlk (nz_b (by omega)).1 ((if_pos (isE_iff.mpr (by first | exact Or.inl (by omega) | exact Or.inr (Or.inl (by omega)) | exact Or.inr (Or.inr ⟨by omega, by omega, c94⟩)))).symm) dX0_isEnd_27
  · refine lv_iload_n hx hb dX0_isEnd_16 rfl (lv_at hl 0 rfl) ?_
    refine jr_iconst hx hb dX0_isEnd_17 ?_
    refine jr_bipush hx hb dX0_isEnd_18 (by decide) ?_
    refine jk_Si (va_runS (As := [vi 3, vi 63]) (rest := [vi (tAt t i)]) ⟨hx, hb, hml, hown, htl⟩ (m_X7_codeOf l g 3 63) (va_cwS 2 htl lk_X0_62 rfl rfl rfl cwS_X7_codeOf ⟨Nat.le_of_ble_eq_true rfl, Nat.le_of_ble_eq_true rfl⟩) (jp_S hKK (va_S.rf (A := jN)) jNb trivial) rfl rfl hl.1 rfl (lv_room (Nat.le_of_ble_eq_true rfl)) dX0_isEnd_20 ⟨Nat.le_of_ble_eq_true rfl, Nat.le_of_ble_eq_true rfl⟩) (fun z20 hz20 => ?_)
    subst hz20
    refine jr_ne (tgt := 28) hx hb dX0_isEnd_23 (by decide) ⟨by omega, by omega⟩ ⟨by omega, by omega⟩ (fun c23 => ?_) (fun c23 => ?_)
    · refine lv_iload_n hx hb dX0_isEnd_28 rfl (lv_at hl 0 rfl) ?_
      refine jr_iconst hx hb dX0_isEnd_29 ?_
      refine jr_bipush hx hb dX0_isEnd_30 (by decide) ?_
      refine jk_Si (va_runS (As := [vi 3, vi 46]) (rest := [vi (tAt t i)]) ⟨hx, hb, hml, hown, htl⟩ (m_X7_codeOf l g 3 46) (va_cwS 2 htl lk_X0_62 rfl rfl rfl cwS_X7_codeOf ⟨Nat.le_of_ble_eq_true rfl, Nat.le_of_ble_eq_true rfl⟩) (jp_S hKK (va_S.rf (A := jN)) jNb trivial) rfl rfl hl.1 rfl (lv_room (Nat.le_of_ble_eq_true rfl)) dX0_isEnd_32 ⟨Nat.le_of_ble_eq_true rfl, Nat.le_of_ble_eq_true rfl⟩) (fun z32 hz32 => ?_)
      subst hz32
      refine jr_eq (tgt := 40) hx hb dX0_isEnd_35 (by decide) ⟨by omega, by omega⟩ ⟨by omega, by omega⟩ (fun c35 => ?_) (fun c35 => ?_)
      · refine lv_aload_n hx hb dX0_isEnd_40 rfl (lv_at hl 1 rfl) ?_
        refine lv_iload_n hx hb dX0_isEnd_41 rfl (lv_at hl 2 rfl) ?_
        refine jr_iconst hx hb dX0_isEnd_42 ?_
        refine jr_isub hx hb dX0_isEnd_43 ?_
        refine jk_Si (va_runV (As := [vi (i - 1)]) (rest := []) ⟨hx, hb, hml, hown, htl⟩ (m_X6_at l g a c t f hf (i - 1) ⟨by omega, by omega⟩) (cwV 1 htl lk_X0_40 rfl rfl rfl cwV_X6_at ⟨Nat.le_of_ble_eq_true rfl, Nat.le_of_ble_eq_true rfl⟩) (jp_V hKK (va_S.rf (A := jN)) jNb (va_recv hKK.k hP (ci := 6) (q0 := 0) rfl rfl) hP) rfl rfl hl.1 rfl (lv_room (Nat.le_of_ble_eq_true rfl)) dX0_isEnd_44 ⟨Nat.le_of_ble_eq_true rfl, Nat.le_of_ble_eq_true rfl⟩) (fun z44 hz44 => ?_)
        subst hz44
        have ta := TT.tAt_b hf (i - 1)
        have ta2 := ta
        refine lv_istore (lv' := [(4, vi (tAt t (i - 1))), (3, vi (tAt t i)), (0, .ref a), (1, vi i), (2, .ref ba)]) hx hb dX0_isEnd_47 hl (by decide) rfl (fun ls hl => ?_)
        refine lv_aload_n hx hb dX0_isEnd_49 rfl (lv_at hl 2 rfl) ?_
        refine lv_iload_n hx hb dX0_isEnd_50 rfl (lv_at hl 3 rfl) ?_
        refine jr_iconst hx hb dX0_isEnd_51 ?_
        refine jr_iadd hx hb dX0_isEnd_52 ?_
        refine jk_Si (va_runV (As := [vi (i + 1)]) (rest := []) ⟨hx, hb, hml, hown, htl⟩ (m_X6_at l g a c t f hf (i + 1) ⟨by omega, by omega⟩) (cwV 1 htl lk_X0_40 rfl rfl rfl cwV_X6_at ⟨Nat.le_of_ble_eq_true rfl, Nat.le_of_ble_eq_true rfl⟩) (jp_V hKK (va_S.rf (A := jN)) jNb (va_recv hKK.k hP (ci := 6) (q0 := 0) rfl rfl) hP) rfl rfl hl.1 rfl (lv_room (Nat.le_of_ble_eq_true rfl)) dX0_isEnd_53 ⟨Nat.le_of_ble_eq_true rfl, Nat.le_of_ble_eq_true rfl⟩) (fun z53 hz53 => ?_)
        subst hz53
        have ta := TT.tAt_b hf (i + 1)
        refine lv_istore (lv' := [(5, vi (tAt t (i + 1))), (4, vi (tAt t (i - 1))), (3, vi (tAt t i)), (0, .ref a), (1, vi i), (2, .ref ba)]) hx hb dX0_isEnd_56 hl (by decide) rfl (fun ls hl => ?_)
        refine lv_iload hx hb dX0_isEnd_58 (lv_at hl 1 rfl) ?_
        refine jk_Si (va_runS (As := [vi (tAt t (i - 1))]) (rest := []) ⟨hx, hb, hml, hown, htl⟩ (m_X7_kindIn l g (tAt t (i - 1)) ⟨by omega, by omega⟩) (va_cwS 1 htl lk_X0_44 rfl rfl rfl cwS_X7_kindIn ⟨Nat.le_of_ble_eq_true rfl, Nat.le_of_ble_eq_true rfl⟩) (jp_S hKK (va_S.rf (A := jN)) jNb trivial) rfl rfl hl.1 rfl (lv_room (Nat.le_of_ble_eq_true rfl)) dX0_isEnd_60 ⟨Nat.le_of_ble_eq_true rfl, Nat.le_of_ble_eq_true rfl⟩) (fun z60 hz60 => ?_)
        subst hz60
        have tk1 := kd_b ta2
        refine jr_iconst hx hb dX0_isEnd_63 ?_
        refine jr_ne (tgt := 80) hx hb dX0_isEnd_64 (by decide) ⟨by omega, by omega⟩ ⟨by omega, by omega⟩ (fun c64 => ?_) (fun c64 => ?_)
        · refine jr_iconst hx hb dX0_isEnd_80 ?_
          refine lv_istore (lv' := [(6, vi 0), (5, vi (tAt t (i + 1))), (4, vi (tAt t (i - 1))), (3, vi (tAt t i)), (0, .ref a), (1, vi i), (2, .ref ba)]) hx hb dX0_isEnd_81 hl (by decide) rfl (fun ls hl => ?_)
          refine lv_iload hx hb dX0_isEnd_83 (lv_at hl 0 rfl) ?_
          refine jr_ifne (tgt := 101) hx hb dX0_isEnd_85 (by decide) ⟨by omega, by omega⟩ (fun c85 => absurd c85 (by omega)) (fun c85 => ?_)
          refine lv_iload hx hb dX0_isEnd_88 (lv_at hl 2 rfl) ?_
          refine lv_aload_n hx hb dX0_isEnd_90 rfl (lv_at hl 6 rfl) ?_
          refine jk_Si (va_runS (As := [vi (tAt t (i - 1)), .ref ba]) (rest := []) ⟨hx, hb, hml, hown, htl⟩ (m_X0_isAbbreviation l g ba ab hab (tAt t (i - 1)) ⟨by omega, by omega⟩) (va_cwS 2 htl lk_X0_66 rfl rfl rfl cwS_X0_isAbbreviation ⟨Nat.le_of_ble_eq_true rfl, Nat.le_of_ble_eq_true rfl⟩) (jp_S hKK (va_S.rf (A := jN)) jNb hPab) rfl rfl hl.1 rfl (lv_room (Nat.le_of_ble_eq_true rfl)) dX0_isEnd_91 ⟨Nat.le_of_ble_eq_true rfl, Nat.le_of_ble_eq_true rfl⟩) (fun z91 hz91 => ?_)
          subst hz91
          refine jr_ifne (tgt := 101) hx hb dX0_isEnd_94 (by decide) (i01R _) (fun c94 => ?_) (fun c94 => ?_)
          · have c94 := i01t c94
            refine jr_iconst hx hb dX0_isEnd_101 ?_
            exact je_Si hx hb hr hlk (nz_b (by omega)).1 ((if_neg (fun q => by rcases isE_iff.mp q with q | q | ⟨q, q2, q3⟩ <;> first | omega | exact q3 c94)).symm) dX0_isEnd_102
          · have c94 := i01f c94
            refine jr_iconst hx hb dX0_isEnd_97 ?_
            refine lv_goto (tgt := 102) hx hb dX0_isEnd_98 (by decide) ?_
            exact je_Si hx hb hr hlk (nz_b (by omega)).1 ((if_pos (isE_iff.mpr (by first | exact Or.inl (by omega) | exact Or.inr (Or.inl (by omega)) | exact Or.inr (Or.inr ⟨by omega, by omega, c94⟩)))).symm) dX0_isEnd_102
        · refine lv_iload hx hb dX0_isEnd_67 (lv_at hl 0 rfl) ?_
          refine jk_Si (va_runS (As := [vi (tAt t (i + 1))]) (rest := []) ⟨hx, hb, hml, hown, htl⟩ (m_X7_kindIn l g (tAt t (i + 1)) ⟨by omega, by omega⟩) (va_cwS 1 htl lk_X0_44 rfl rfl rfl cwS_X7_kindIn ⟨Nat.le_of_ble_eq_true rfl, Nat.le_of_ble_eq_true rfl⟩) (jp_S hKK (va_S.rf (A := jN)) jNb trivial) rfl rfl hl.1 rfl (lv_room (Nat.le_of_ble_eq_true rfl)) dX0_isEnd_69 ⟨Nat.le_of_ble_eq_true rfl, Nat.le_of_ble_eq_true rfl⟩) (fun z69 hz69 => ?_)
          subst hz69
          have tk2 := kd_b ta
          refine jr_iconst hx hb dX0_isEnd_72 ?_
          refine jr_ne (tgt := 80) hx hb dX0_isEnd_73 (by decide) ⟨by omega, by omega⟩ ⟨by omega, by omega⟩ (fun c73 => ?_) (fun c73 => ?_)
          · refine jr_iconst hx hb dX0_isEnd_80 ?_
            refine lv_istore (lv' := [(6, vi 0), (5, vi (tAt t (i + 1))), (4, vi (tAt t (i - 1))), (3, vi (tAt t i)), (0, .ref a), (1, vi i), (2, .ref ba)]) hx hb dX0_isEnd_81 hl (by decide) rfl (fun ls hl => ?_)
            refine lv_iload hx hb dX0_isEnd_83 (lv_at hl 0 rfl) ?_
            refine jr_ifne (tgt := 101) hx hb dX0_isEnd_85 (by decide) ⟨by omega, by omega⟩ (fun c85 => absurd c85 (by omega)) (fun c85 => ?_)
            refine lv_iload hx hb dX0_isEnd_88 (lv_at hl 2 rfl) ?_
            refine lv_aload_n hx hb dX0_isEnd_90 rfl (lv_at hl 6 rfl) ?_
            refine jk_Si (va_runS (As := [vi (tAt t (i - 1)), .ref ba]) (rest := []) ⟨hx, hb, hml, hown, htl⟩ (m_X0_isAbbreviation l g ba ab hab (tAt t (i - 1)) ⟨by omega, by omega⟩) (va_cwS 2 htl lk_X0_66 rfl rfl rfl cwS_X0_isAbbreviation ⟨Nat.le_of_ble_eq_true rfl, Nat.le_of_ble_eq_true rfl⟩) (jp_S hKK (va_S.rf (A := jN)) jNb hPab) rfl rfl hl.1 rfl (lv_room (Nat.le_of_ble_eq_true rfl)) dX0_isEnd_91 ⟨Nat.le_of_ble_eq_true rfl, Nat.le_of_ble_eq_true rfl⟩) (fun z91 hz91 => ?_)
            subst hz91
            refine jr_ifne (tgt := 101) hx hb dX0_isEnd_94 (by decide) (i01R _) (fun c94 => ?_) (fun c94 => ?_)
            · have c94 := i01t c94
              refine jr_iconst hx hb dX0_isEnd_101 ?_
              exact je_Si hx hb hr hlk (nz_b (by omega)).1 ((if_neg (fun q => by rcases isE_iff.mp q with q | q | ⟨q, q2, q3⟩ <;> first | omega | exact q3 c94)).symm) dX0_isEnd_102
            · have c94 := i01f c94
              refine jr_iconst hx hb dX0_isEnd_97 ?_
              refine lv_goto (tgt := 102) hx hb dX0_isEnd_98 (by decide) ?_
              exact je_Si hx hb hr hlk (nz_b (by omega)).1 ((if_pos (isE_iff.mpr (by first | exact Or.inl (by omega) | exact Or.inr (Or.inl (by omega)) | exact Or.inr (Or.inr ⟨by omega, by omega, c94⟩)))).symm) dX0_isEnd_102
          · refine jr_iconst hx hb dX0_isEnd_76 ?_
            refine lv_goto (tgt := 81) hx hb dX0_isEnd_77 (by decide) ?_
            refine lv_istore (lv' := [(6, vi 1), (5, vi (tAt t (i + 1))), (4, vi (tAt t (i - 1))), (3, vi (tAt t i)), (0, .ref a), (1, vi i), (2, .ref ba)]) hx hb dX0_isEnd_81 hl (by decide) rfl (fun ls hl => ?_)
            refine lv_iload hx hb dX0_isEnd_83 (lv_at hl 0 rfl) ?_
            refine jr_ifne (tgt := 101) hx hb dX0_isEnd_85 (by decide) ⟨by omega, by omega⟩ (fun c85 => ?_) (fun c85 => absurd c85 (by omega))
            refine jr_iconst hx hb dX0_isEnd_101 ?_
            exact je_Si hx hb hr hlk (nz_b (by omega)).1 ((if_neg (fun q => by rcases isE_iff.mp q with q | q | ⟨q, q2, q3⟩ <;> first | omega | exact q3 c94)).symm) dX0_isEnd_102
      · refine jr_iconst hx hb dX0_isEnd_38 ?_
        exact je_Si hx hb hr hlk (nz_b (by omega)).1 ((if_neg (fun q => by rcases isE_iff.mp q with q | q | ⟨q, q2, q3⟩ <;> first | omega | exact q3 c94)).symm) dX0_isEnd_39
    · refine jr_iconst hx hb dX0_isEnd_26 ?_
      exact je_Si hx hb hr hlk (nz_b (by omega)).1 ((if_pos (isE_iff.mpr (by first | exact Or.inl (by omega) | exact Or.inr (Or.inl (by omega)) | exact Or.inr (Or.inr ⟨by omega, by omega, c94⟩)))).symm) dX0_isEnd_27
