
theorem lk_L_9 : GoodIn WSL (va_wsS RL 9 yL_cell (ws_ yL_cell cL_cell 3 (some .int))) := gd_app (List.forall_mem_cons.mpr ⟨wd_25_15, List.forall_mem_cons.mpr ⟨wd_25_16, List.forall_mem_cons.mpr ⟨wd_8_17, fun _ h => nomatch h⟩⟩⟩) (gd_ wd_25_17)
theorem cwS_L_cell : yL_cell.cls ≠ "java/lang/invoke/MethodHandle" ∧ yL_cell.cls ≠ "java/lang/invoke/VarHandle" ∧ (parseMethodDescriptor yL_cell.desc).map (fun d => d.parameters.length) = some 2 := by decide +kernel
theorem lk_L_140 : GoodIn WSL (va_wsS RL 140 yL_pick (ws_ yL_pick cL_pick 3 (some .int))) := gd_app (List.forall_mem_cons.mpr ⟨wd_25_12, List.forall_mem_cons.mpr ⟨wd_25_13, List.forall_mem_cons.mpr ⟨wd_8_17, fun _ h => nomatch h⟩⟩⟩) (gd_ wd_25_14)
theorem cwS_L_pick : yL_pick.cls ≠ "java/lang/invoke/MethodHandle" ∧ yL_pick.cls ≠ "java/lang/invoke/VarHandle" ∧ (parseMethodDescriptor yL_pick.desc).map (fun d => d.parameters.length) = some 3 := by decide +kernel
theorem lk_L_144 : GoodIn WSL (va_wsS RL 144 yL_mark (ws_ yL_mark cL_mark 1 (some .char))) := gd_app (List.forall_mem_cons.mpr ⟨wd_26_2, List.forall_mem_cons.mpr ⟨wd_26_3, List.forall_mem_cons.mpr ⟨wd_8_17, fun _ h => nomatch h⟩⟩⟩) (gd_ wd_26_4)
theorem cwS_L_mark : yL_mark.cls ≠ "java/lang/invoke/MethodHandle" ∧ yL_mark.cls ≠ "java/lang/invoke/VarHandle" ∧ (parseMethodDescriptor yL_mark.desc).map (fun d => d.parameters.length) = some 1 := by decide +kernel
set_option maxHeartbeats 4000000 in
set_option maxRecDepth 100000 in
theorem m_L_cell (l : Launch) (g : GT) (b0 n9 : Nat) (xs : Nat → Int32) (hn9 : n9 ≤ 260) (i : Nat) (hi : i < 1000000) : Met l yL_cell (ws_ yL_cell cL_cell 3 (some .int)) (rmm 0 0 0) (jPs g b0 n9 xs [.ref b0, vi (i : Int)] (fun H => True)) (jSi (fun z => jR z)) 0 0 jN := by
  refine js_M (by decide) (Nat.le_of_ble_eq_true rfl) ?_
  intro p e s m below meth cq hx hb hr hml hown htl hlk hnm hKK hX hpre ls hl
  have hbl := hX.lt
  have hown : s.vm.findClass RL = some m.cls := hown
  have hl : lv_has ls 3 [(0, .ref b0), (1, vi (i : Int))] := hl
  refine lv_ldc (v := jI 69069) hx hb hown (htl _ wd_25_18) dL_cell_0 ?_
  refine lv_iload_n hx hb dL_cell_2 rfl (lv_at hl 1 rfl) ?_
  refine lv_aload_n hx hb dL_cell_3 rfl (lv_at hl 0 rfl) ?_
  refine va_slen hx hb hX hbl (fun h => h) (va_S.rf (A := jN)) dL_cell_4 ?_
  rw [show Int32.ofNat n9 = jI (n9 : Int) from (Int32.ofInt_eq_ofNat).symm]
  refine jr_ge (tgt := 14) hx hb dL_cell_5 (by decide) ⟨by omega, by omega⟩ ⟨by omega, by omega⟩ (fun c5 => ?_) (fun c5 => ?_)
  · refine jr_iconst hx hb dL_cell_14 ?_
    refine jr_sipush hx hb dL_cell_15 (by decide) ?_
    refine lv_iload_n hx hb dL_cell_18 rfl (lv_at hl 1 rfl) ?_
    refine jr_imul hx hb dL_cell_19 ?_
    refine jr_iadd hx hb dL_cell_20 ?_
    refine jr_imul hx hb dL_cell_21 ?_
    refine jr_sipush hx hb dL_cell_22 (by decide) ?_
    refine jr_iadd hx hb dL_cell_25 ?_
    refine lv_istore_n (lv' := [(2, vi ((69069 * (0 + (1009 * (i : Int)))) + 12345)), (0, .ref b0), (1, vi (i : Int))]) hx hb dL_cell_26 rfl hl (by decide) rfl (fun ls hl => ?_)
    refine lv_iload_n hx hb dL_cell_27 rfl (lv_at hl 0 rfl) ?_
    refine lv_iload_n hx hb dL_cell_28 rfl (lv_at hl 0 rfl) ?_
    refine jr_bipush hx hb dL_cell_29 (by decide) ?_
    refine jr_ushr hx hb 13 13 524288 (by decide) (by decide) (by decide) dL_cell_31 (fun u31 hu31 => ?_)
    refine lv_ixor hx hb dL_cell_32 ?_
    refine jr_any (fun v32 hv32 => ?_)
    refine lv_ldc (v := jI 1103515245) hx hb hown (htl _ wd_25_19) dL_cell_33 ?_
    refine jr_imul hx hb dL_cell_35 ?_
    refine lv_istore_n (lv' := [(2, vi (v32 * 1103515245)), (0, .ref b0), (1, vi (i : Int))]) hx hb dL_cell_36 rfl hl (by decide) rfl (fun ls hl => ?_)
    refine lv_iload_n hx hb dL_cell_37 rfl (lv_at hl 0 rfl) ?_
    refine lv_iload_n hx hb dL_cell_38 rfl (lv_at hl 0 rfl) ?_
    refine jr_bipush hx hb dL_cell_39 (by decide) ?_
    refine jr_ushr hx hb 16 16 65536 (by decide) (by decide) (by decide) dL_cell_41 (fun u41 hu41 => ?_)
    refine lv_ixor hx hb dL_cell_42 ?_
    refine jr_any (fun v42 hv42 => ?_)
    exact je_Si hx hb hr hlk rfl (hv42) dL_cell_43
  · refine lv_aload_n hx hb dL_cell_8 rfl (lv_at hl 0 rfl) ?_
    refine lv_iload_n hx hb dL_cell_9 rfl (lv_at hl 1 rfl) ?_
    refine va_sld hx hb hX hbl (fun h => h) (va_S.rf (A := jN)) (jI_in (by omega) (by omega) (by omega)) dL_cell_10 ?_
    refine jr_any (fun v10 hv10 => ?_)
    refine lv_goto (tgt := 15) hx hb dL_cell_11 (by decide) ?_
    refine jr_sipush hx hb dL_cell_15 (by decide) ?_
    refine lv_iload_n hx hb dL_cell_18 rfl (lv_at hl 1 rfl) ?_
    refine jr_imul hx hb dL_cell_19 ?_
    refine jr_iadd hx hb dL_cell_20 ?_
    refine jr_imul hx hb dL_cell_21 ?_
    refine jr_sipush hx hb dL_cell_22 (by decide) ?_
    refine jr_iadd hx hb dL_cell_25 ?_
    refine lv_istore_n (lv' := [(2, vi ((69069 * (v10 + (1009 * (i : Int)))) + 12345)), (0, .ref b0), (1, vi (i : Int))]) hx hb dL_cell_26 rfl hl (by decide) rfl (fun ls hl => ?_)
    refine lv_iload_n hx hb dL_cell_27 rfl (lv_at hl 0 rfl) ?_
    refine lv_iload_n hx hb dL_cell_28 rfl (lv_at hl 0 rfl) ?_
    refine jr_bipush hx hb dL_cell_29 (by decide) ?_
    refine jr_ushr hx hb 13 13 524288 (by decide) (by decide) (by decide) dL_cell_31 (fun u31 hu31 => ?_)
    refine lv_ixor hx hb dL_cell_32 ?_
    refine jr_any (fun v32 hv32 => ?_)
    refine lv_ldc (v := jI 1103515245) hx hb hown (htl _ wd_25_19) dL_cell_33 ?_
    refine jr_imul hx hb dL_cell_35 ?_
    refine lv_istore_n (lv' := [(2, vi (v32 * 1103515245)), (0, .ref b0), (1, vi (i : Int))]) hx hb dL_cell_36 rfl hl (by decide) rfl (fun ls hl => ?_)
    refine lv_iload_n hx hb dL_cell_37 rfl (lv_at hl 0 rfl) ?_
    refine lv_iload_n hx hb dL_cell_38 rfl (lv_at hl 0 rfl) ?_
    refine jr_bipush hx hb dL_cell_39 (by decide) ?_
    refine jr_ushr hx hb 16 16 65536 (by decide) (by decide) (by decide) dL_cell_41 (fun u41 hu41 => ?_)
    refine lv_ixor hx hb dL_cell_42 ?_
    refine jr_any (fun v42 hv42 => ?_)
    exact je_Si hx hb hr hlk rfl (hv42) dL_cell_43
set_option maxHeartbeats 4000000 in
set_option maxRecDepth 100000 in
theorem m_L_pick (l : Launch) (g : GT) (b0 n9 : Nat) (xs : Nat → Int32) (hn9 : n9 ≤ 260) (i : Nat) (hi : i < 1000000) (v0 : Int) (hm : 0 < v0 ∧ v0 < 100000) : Met l yL_pick (ws_ yL_pick cL_pick 3 (some .int)) (rmm 2 0 0) (jPs g b0 n9 xs [.ref b0, vi (i : Int), vi v0] (fun H => True)) (jSi (fun z => 0 ≤ z ∧ z < v0)) 0 0 jN := by
  refine js_M (by decide) (Nat.le_of_ble_eq_true rfl) ?_
  intro p e s m below meth cq hx hb hr hml hown htl hlk hnm hKK hX hpre ls hl
  have hbl := hX.lt
  have hown : s.vm.findClass RL = some m.cls := hown
  have hl : lv_has ls 3 [(0, .ref b0), (1, vi (i : Int)), (2, vi v0)] := hl
  refine lv_aload_n hx hb dL_pick_0 rfl (lv_at hl 0 rfl) ?_
  refine lv_iload_n hx hb dL_pick_1 rfl (lv_at hl 1 rfl) ?_
  refine jk_Si (va_runS (As := [.ref b0, vi (i : Int)]) (rest := []) ⟨hx, hb, hml, hown, htl⟩ (m_L_cell l g b0 n9 xs hn9 i hi) (va_cwS 2 htl lk_L_9 rfl rfl rfl cwS_L_cell ⟨Nat.le_of_ble_eq_true rfl, Nat.le_of_ble_eq_true rfl⟩) (jp_X hKK hX hbl (fun h => h) (va_S.rf (A := jN)) jNb trivial) rfl rfl hl.1 rfl (lv_room (Nat.le_of_ble_eq_true rfl)) dL_pick_2 ⟨Nat.le_of_ble_eq_true rfl, Nat.le_of_ble_eq_true rfl⟩) (fun z2 hz2 => ?_)
  refine jr_bipush hx hb dL_pick_5 (by decide) ?_
  refine jr_ushr hx hb 8 8 16777216 (by decide) (by decide) (by decide) dL_pick_7 (fun u7 hu7 => ?_)
  refine lv_iload_n hx hb dL_pick_8 rfl (lv_at hl 2 rfl) ?_
  refine jr_irem hx hb (by omega) (by omega) (by omega) (by omega) dL_pick_9 ?_
  exact je_Si hx hb hr hlk rfl (⟨Int.emod_nonneg _ (by omega), Int.emod_lt_of_pos _ (by omega)⟩) dL_pick_10
set_option maxHeartbeats 4000000 in
set_option maxRecDepth 100000 in
theorem m_L_mark (l : Launch) (g : GT) (k : Int) (hk : 0 ≤ k ∧ k < 5) : Met l yL_mark (ws_ yL_mark cL_mark 1 (some .char)) (rmm 0 0 0) (jPc g [vi k] (fun H => True)) (jSi (fun z => z = 46 ∨ z = 33 ∨ z = 63 ∨ z = 44 ∨ z = 59)) 0 0 jN := by
  refine jb_M (by decide) (Nat.le_of_ble_eq_true rfl) ?_
  intro p e s m below meth cq hx hb hr hml hown htl hlk hnm hKK hpre ls hl
  have hown : s.vm.findClass RL = some m.cls := hown
  have hl : lv_has ls 1 [(0, vi k)] := hl
  refine lv_iload_n hx hb dL_mark_0 rfl (lv_at hl 0 rfl) ?_
  refine jr_ifne (tgt := 9) hx hb dL_mark_1 (by decide) ⟨by omega, by omega⟩ (fun c1 => ?_) (fun c1 => ?_)
  · refine lv_iload_n hx hb dL_mark_9 rfl (lv_at hl 0 rfl) ?_
    refine jr_iconst hx hb dL_mark_10 ?_
    refine jr_ne (tgt := 19) hx hb dL_mark_11 (by decide) ⟨by omega, by omega⟩ ⟨by omega, by omega⟩ (fun c11 => ?_) (fun c11 => ?_)
    · refine lv_iload_n hx hb dL_mark_19 rfl (lv_at hl 0 rfl) ?_
      refine jr_iconst hx hb dL_mark_20 ?_
      refine jr_ne (tgt := 29) hx hb dL_mark_21 (by decide) ⟨by omega, by omega⟩ ⟨by omega, by omega⟩ (fun c21 => ?_) (fun c21 => ?_)
      · refine lv_iload_n hx hb dL_mark_29 rfl (lv_at hl 0 rfl) ?_
        refine jr_iconst hx hb dL_mark_30 ?_
        refine jr_ne (tgt := 39) hx hb dL_mark_31 (by decide) ⟨by omega, by omega⟩ ⟨by omega, by omega⟩ (fun c31 => ?_) (fun c31 => ?_)
        · refine jr_bipush hx hb dL_mark_39 (by decide) ?_
          exact je_Si hx hb hr hlk (nz_c (by omega) (by omega)).1 (by omega) dL_mark_41
        · refine jr_bipush hx hb dL_mark_34 (by decide) ?_
          refine lv_goto (tgt := 41) hx hb dL_mark_36 (by decide) ?_
          exact je_Si hx hb hr hlk (nz_c (by omega) (by omega)).1 (by omega) dL_mark_41
      · refine jr_bipush hx hb dL_mark_24 (by decide) ?_
        refine lv_goto (tgt := 41) hx hb dL_mark_26 (by decide) ?_
        exact je_Si hx hb hr hlk (nz_c (by omega) (by omega)).1 (by omega) dL_mark_41
    · refine jr_bipush hx hb dL_mark_14 (by decide) ?_
      refine lv_goto (tgt := 41) hx hb dL_mark_16 (by decide) ?_
      exact je_Si hx hb hr hlk (nz_c (by omega) (by omega)).1 (by omega) dL_mark_41
  · refine jr_bipush hx hb dL_mark_4 (by decide) ?_
    refine lv_goto (tgt := 41) hx hb dL_mark_6 (by decide) ?_
    exact je_Si hx hb hr hlk (nz_c (by omega) (by omega)).1 (by omega) dL_mark_41
set_option maxHeartbeats 4000000 in
set_option maxRecDepth 100000 in
theorem m_L_token (l : Launch) (g : GT) (b0 n9 : Nat) (xs : Nat → Int32) (hn9 : n9 ≤ 260) (i : Nat) (hi : i < 900000) : Met l yL_token (ws_ yL_token cL_token 4 (some .int)) (rmm 4 0 0) (jPs g b0 n9 xs [.ref b0, vi (i : Int)] (fun H => True)) (jSi (fun z => VT z)) 0 0 jN := by
  refine js_M (by decide) (Nat.le_of_ble_eq_true rfl) ?_
  intro p e s m below meth cq hx hb hr hml hown htl hlk hnm hKK hX hpre ls hl
  have hbl := hX.lt
  have hown : s.vm.findClass RL = some m.cls := hown
  have hl : lv_has ls 4 [(0, .ref b0), (1, vi (i : Int))] := hl
  refine lv_aload_n hx hb dL_token_0 rfl (lv_at hl 0 rfl) ?_
  refine lv_iload_n hx hb dL_token_1 rfl (lv_at hl 1 rfl) ?_
  refine jr_bipush hx hb dL_token_2 (by decide) ?_
  refine jk_Si (va_runS (As := [.ref b0, vi (i : Int), vi 8]) (rest := []) ⟨hx, hb, hml, hown, htl⟩ (m_L_pick l g b0 n9 xs hn9 i (by omega) 8 (by decide)) (va_cwS 3 htl lk_L_140 rfl rfl rfl cwS_L_pick ⟨Nat.le_of_ble_eq_true rfl, Nat.le_of_ble_eq_true rfl⟩) (jp_X hKK hX hbl (fun h => h) (va_S.rf (A := jN)) jNb trivial) rfl rfl hl.1 rfl (lv_room (Nat.le_of_ble_eq_true rfl)) dL_token_4 ⟨Nat.le_of_ble_eq_true rfl, Nat.le_of_ble_eq_true rfl⟩) (fun z4 hz4 => ?_)
  refine lv_istore_n (lv' := [(2, vi z4), (0, .ref b0), (1, vi (i : Int))]) hx hb dL_token_7 rfl hl (by decide) rfl (fun ls hl => ?_)
  refine lv_aload_n hx hb dL_token_8 rfl (lv_at hl 1 rfl) ?_
  refine lv_iload_n hx hb dL_token_9 rfl (lv_at hl 2 rfl) ?_
  refine jr_sipush hx hb dL_token_10 (by decide) ?_
  refine jr_iadd hx hb dL_token_13 ?_
  refine jk_Si (va_runS (As := [.ref b0, vi ((i : Int) + 3000)]) (rest := []) ⟨hx, hb, hml, hown, htl⟩ (m_L_cell l g b0 n9 xs hn9 (i + 3000) (by omega)) (va_cwS 2 htl lk_L_9 rfl rfl rfl cwS_L_cell ⟨Nat.le_of_ble_eq_true rfl, Nat.le_of_ble_eq_true rfl⟩) (jp_X hKK hX hbl (fun h => h) (va_S.rf (A := jN)) jNb trivial) rfl rfl hl.1 rfl (lv_room (Nat.le_of_ble_eq_true rfl)) dL_token_14 ⟨Nat.le_of_ble_eq_true rfl, Nat.le_of_ble_eq_true rfl⟩) (fun z14 hz14 => ?_)
  refine jr_iconst hx hb dL_token_17 ?_
  refine jr_ushr hx hb 5 5 134217728 (by decide) (by decide) (by decide) dL_token_18 (fun u18 hu18 => ?_)
  refine lv_istore_n (lv' := [(3, vi u18), (2, vi z4), (0, .ref b0), (1, vi (i : Int))]) hx hb dL_token_19 rfl hl (by decide) rfl (fun ls hl => ?_)
  refine lv_iload_n hx hb dL_token_20 rfl (lv_at hl 1 rfl) ?_
  refine jr_iconst hx hb dL_token_21 ?_
  refine jr_ge (tgt := 32) hx hb dL_token_22 (by decide) ⟨by omega, by omega⟩ ⟨by omega, by omega⟩ (fun c22 => ?_) (fun c22 => ?_)
  · refine lv_iload_n hx hb dL_token_32 rfl (lv_at hl 1 rfl) ?_
    refine jr_iconst hx hb dL_token_33 ?_
    refine jr_ne (tgt := 47) hx hb dL_token_34 (by decide) ⟨by omega, by omega⟩ ⟨by omega, by omega⟩ (fun c34 => ?_) (fun c34 => ?_)
    · refine lv_iload_n hx hb dL_token_47 rfl (lv_at hl 1 rfl) ?_
      refine jr_iconst hx hb dL_token_48 ?_
      refine jr_ne (tgt := 62) hx hb dL_token_49 (by decide) ⟨by omega, by omega⟩ ⟨by omega, by omega⟩ (fun c49 => ?_) (fun c49 => ?_)
      · refine jr_sipush hx hb dL_token_62 (by decide) ?_
        refine lv_iload_n hx hb dL_token_65 rfl (lv_at hl 0 rfl) ?_
        refine jr_iconst hx hb dL_token_66 ?_
        refine jr_irem hx hb (by omega) (by omega) (by omega) (by omega) dL_token_67 ?_
        refine jk_Si (va_runS (As := [vi (u18 % 5)]) (rest := [vi 30000]) ⟨hx, hb, hml, hown, htl⟩ (m_L_mark l g (u18 % 5) ⟨Int.emod_nonneg _ (by decide), Int.emod_lt_of_pos _ (by decide)⟩) (va_cwS 1 htl lk_L_144 rfl rfl rfl cwS_L_mark ⟨Nat.le_of_ble_eq_true rfl, Nat.le_of_ble_eq_true rfl⟩) (jp_S hKK (va_S.rf (A := jN)) jNb trivial) rfl rfl hl.1 rfl (lv_room (Nat.le_of_ble_eq_true rfl)) dL_token_68 ⟨Nat.le_of_ble_eq_true rfl, Nat.le_of_ble_eq_true rfl⟩) (fun z68 hz68 => ?_)
        refine jr_iadd hx hb dL_token_71 ?_
        exact je_Si hx hb hr hlk rfl (by unfold VT; have := hz68; omega) dL_token_72
      · refine jr_sipush hx hb dL_token_52 (by decide) ?_
        refine lv_iload_n hx hb dL_token_55 rfl (lv_at hl 0 rfl) ?_
        refine jr_iconst hx hb dL_token_56 ?_
        refine jr_irem hx hb (by omega) (by omega) (by omega) (by omega) dL_token_57 ?_
        refine jr_iadd hx hb dL_token_58 ?_
        refine lv_goto (tgt := 72) hx hb dL_token_59 (by decide) ?_
        exact je_Si hx hb hr hlk rfl (by unfold VT; have := Int.emod_nonneg u18 (show (24 : Int) ≠ 0 by decide); omega) dL_token_72
    · refine jr_sipush hx hb dL_token_37 (by decide) ?_
      refine lv_iload_n hx hb dL_token_40 rfl (lv_at hl 0 rfl) ?_
      refine jr_iconst hx hb dL_token_41 ?_
      refine jr_irem hx hb (by omega) (by omega) (by omega) (by omega) dL_token_42 ?_
      refine jr_iadd hx hb dL_token_43 ?_
      refine lv_goto (tgt := 72) hx hb dL_token_44 (by decide) ?_
      exact je_Si hx hb hr hlk rfl (by unfold VT; have := Int.emod_nonneg u18 (show (24 : Int) ≠ 0 by decide); omega) dL_token_72
  · refine lv_iload_n hx hb dL_token_25 rfl (lv_at hl 0 rfl) ?_
    refine jr_bipush hx hb dL_token_26 (by decide) ?_
    refine jr_irem hx hb (by omega) (by omega) (by omega) (by omega) dL_token_28 ?_
    refine lv_goto (tgt := 72) hx hb dL_token_29 (by decide) ?_
    exact je_Si hx hb hr hlk rfl (by unfold VT; have := Int.emod_nonneg u18 (show (24 : Int) ≠ 0 by decide); omega) dL_token_72
