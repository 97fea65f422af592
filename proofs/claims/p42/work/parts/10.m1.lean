
theorem lk_X6_23 : GoodIn WSL (wsV RX6 23 RX6 yX6_at (ws_ yX6_at cX6_at 2 (some .int))) := gd_app (List.forall_mem_cons.mpr ⟨wd_7_6, List.forall_mem_cons.mpr ⟨wd_7_7, List.forall_mem_cons.mpr ⟨wd_7_8, List.forall_mem_cons.mpr ⟨wd_1_13, fun _ h => nomatch h⟩⟩⟩⟩) (gd_ wd_7_9)
theorem cwV_X6_at : yX6_at.cls = RX6 ∧ yX6_at.cls ≠ "java/lang/invoke/MethodHandle" ∧ yX6_at.cls ≠ "java/lang/invoke/VarHandle" ∧ (parseMethodDescriptor yX6_at.desc).map (fun d => d.parameters.length) = some 1 := by decide +kernel
theorem lk_X6_46 : GoodIn WSL (va_wsS RX6 46 yX7_kindIn (ws_ yX7_kindIn cX7_kindIn 1 (some .int))) := gd_app (List.forall_mem_cons.mpr ⟨wd_21_15, List.forall_mem_cons.mpr ⟨wd_8_8, List.forall_mem_cons.mpr ⟨wd_8_9, fun _ h => nomatch h⟩⟩⟩) (gd_ wd_8_10)
theorem cwS_X7_kindIn : yX7_kindIn.cls ≠ "java/lang/invoke/MethodHandle" ∧ yX7_kindIn.cls ≠ "java/lang/invoke/VarHandle" ∧ (parseMethodDescriptor yX7_kindIn.desc).map (fun d => d.parameters.length) = some 1 := by decide +kernel
set_option maxHeartbeats 4000000 in
set_option maxRecDepth 100000 in
/-- a token as one int -/
theorem m_X7_codeOf (l : Launch) (g : GT) (k v : Int) : Met l yX7_codeOf (ws_ yX7_codeOf cX7_codeOf 2 (some .int)) (rmm 0 0 0) (jPc g [vi k, vi v] (fun H => True)) (jSi (fun z => z = k * 10000 + v)) 0 0 jN := by
  refine jb_M (by decide) (Nat.le_of_ble_eq_true rfl) ?_
  intro p e s m below meth cq hx hb hr hml hown htl hlk hnm hKK hpre ls hl
  have hown : s.vm.findClass RX7 = some m.cls := hown
  have hl : lv_has ls 2 [(0, vi k), (1, vi v)] := hl
  refine lv_iload_n hx hb dX7_codeOf_0 rfl (lv_at hl 0 rfl) ?_
  refine jr_sipush hx hb dX7_codeOf_1 (by decide) ?_
  refine jr_imul hx hb dX7_codeOf_4 ?_
  refine lv_iload_n hx hb dX7_codeOf_5 rfl (lv_at hl 1 rfl) ?_
  refine jr_iadd hx hb dX7_codeOf_6 ?_
  exact je_Si hx hb hr hlk rfl (rfl) dX7_codeOf_7
set_option maxHeartbeats 4000000 in
set_option maxRecDepth 100000 in
theorem m_X7_kindIn (l : Launch) (g : GT) (c : Int) (hc : jR c) : Met l yX7_kindIn (ws_ yX7_kindIn cX7_kindIn 1 (some .int)) (rmm 0 0 0) (jPc g [vi c] (fun H => True)) (jSi (fun z => z = kd c)) 0 0 jN := by
  refine jb_M (by decide) (Nat.le_of_ble_eq_true rfl) ?_
  intro p e s m below meth cq hx hb hr hml hown htl hlk hnm hKK hpre ls hl
  have hown : s.vm.findClass RX7 = some m.cls := hown
  have hl : lv_has ls 1 [(0, vi c)] := hl
  refine lv_iload_n hx hb dX7_kindIn_0 rfl (lv_at hl 0 rfl) ?_
  refine jr_ifge (tgt := 8) hx hb dX7_kindIn_1 (by decide) ⟨by omega, by omega⟩ (fun c1 => ?_) (fun c1 => ?_)
  · refine lv_iload_n hx hb dX7_kindIn_8 rfl (lv_at hl 0 rfl) ?_
    refine jr_sipush hx hb dX7_kindIn_9 (by decide) ?_
    refine jr_idiv hx hb (by omega) (by omega) (by omega) (by omega) dX7_kindIn_12 ?_
    exact je_Si hx hb hr hlk rfl (by unfold kd; split <;> omega) dX7_kindIn_13
  · refine jr_iconst hx hb dX7_kindIn_4 ?_
    refine lv_goto (tgt := 13) hx hb dX7_kindIn_5 (by decide) ?_
    exact je_Si hx hb hr hlk rfl (by unfold kd; split <;> omega) dX7_kindIn_13
set_option maxHeartbeats 4000000 in
set_option maxRecDepth 100000 in
theorem m_X7_valueIn (l : Launch) (g : GT) (c : Int) (hc : jR c) : Met l yX7_valueIn (ws_ yX7_valueIn cX7_valueIn 1 (some .int)) (rmm 0 0 0) (jPc g [vi c] (fun H => True)) (jSi (fun z => z = vl c)) 0 0 jN := by
  refine jb_M (by decide) (Nat.le_of_ble_eq_true rfl) ?_
  intro p e s m below meth cq hx hb hr hml hown htl hlk hnm hKK hpre ls hl
  have hown : s.vm.findClass RX7 = some m.cls := hown
  have hl : lv_has ls 1 [(0, vi c)] := hl
  refine lv_iload_n hx hb dX7_valueIn_0 rfl (lv_at hl 0 rfl) ?_
  refine jr_ifge (tgt := 8) hx hb dX7_valueIn_1 (by decide) ⟨by omega, by omega⟩ (fun c1 => ?_) (fun c1 => ?_)
  · refine lv_iload_n hx hb dX7_valueIn_8 rfl (lv_at hl 0 rfl) ?_
    refine jr_sipush hx hb dX7_valueIn_9 (by decide) ?_
    refine jr_irem hx hb (by omega) (by omega) (by omega) (by omega) dX7_valueIn_12 ?_
    exact je_Si hx hb hr hlk rfl (by unfold vl; split <;> omega) dX7_valueIn_13
  · refine jr_iconst hx hb dX7_valueIn_4 ?_
    refine lv_goto (tgt := 13) hx hb dX7_valueIn_5 (by decide) ?_
    exact je_Si hx hb hr hlk rfl (by unfold vl; split <;> omega) dX7_valueIn_13
set_option maxHeartbeats 4000000 in
set_option maxRecDepth 100000 in
theorem m_X7_stemIn (l : Launch) (g : GT) (c : Int) (hc : jR c) : Met l yX7_stemIn (ws_ yX7_stemIn cX7_stemIn 1 (some .int)) (rmm 0 0 0) (jPc g [vi c] (fun H => True)) (jSi (fun z => z = sm c)) 0 0 jN := by
  refine jb_M (by decide) (Nat.le_of_ble_eq_true rfl) ?_
  intro p e s m below meth cq hx hb hr hml hown htl hlk hnm hKK hpre ls hl
  have hown : s.vm.findClass RX7 = some m.cls := hown
  have hl : lv_has ls 1 [(0, vi c)] := hl
  refine lv_iload_n hx hb dX7_stemIn_0 rfl (lv_at hl 0 rfl) ?_
  refine jr_ifge (tgt := 8) hx hb dX7_stemIn_1 (by decide) ⟨by omega, by omega⟩ (fun c1 => ?_) (fun c1 => ?_)
  · refine lv_iload_n hx hb dX7_stemIn_8 rfl (lv_at hl 0 rfl) ?_
    refine jr_sipush hx hb dX7_stemIn_9 (by decide) ?_
    refine jr_irem hx hb (by omega) (by omega) (by omega) (by omega) dX7_stemIn_12 ?_
    refine jr_bipush hx hb dX7_stemIn_13 (by decide) ?_
    refine jr_idiv hx hb (by omega) (by omega) (by omega) (by omega) dX7_stemIn_15 ?_
    exact je_Si hx hb hr hlk rfl (by unfold sm; split <;> omega) dX7_stemIn_16
  · refine jr_iconst hx hb dX7_stemIn_4 ?_
    refine lv_goto (tgt := 16) hx hb dX7_stemIn_5 (by decide) ?_
    exact je_Si hx hb hr hlk rfl (by unfold sm; split <;> omega) dX7_stemIn_16
set_option maxHeartbeats 4000000 in
set_option maxRecDepth 100000 in
theorem m_X6_size (l : Launch) (g : GT) (a c : Nat) (t : List Int) (f : Nat → Int) (hf : TT t f) : Met l yX6_size (ws_ yX6_size cX6_size 1 (some .int)) (rmm 0 0 0) (jPc g [.ref a] (fun H => PP g [ob a 6 [.ref c, vi (t.length : Int)], aI g c 60 f] H)) (jSi (fun z => z = (t.length : Int))) 0 0 jN := by
  refine jb_M (by decide) (Nat.le_of_ble_eq_true rfl) ?_
  intro p e s m below meth cq hx hb hr hml hown htl hlk hnm hKK hpre ls hl
  have hown : s.vm.findClass RX6 = some m.cls := hown
  have hl : lv_has ls 1 [(0, .ref a)] := hl
  have hP : PP g [ob a 6 [.ref c, vi (t.length : Int)], aI g c 60 f] s.heap := hpre
  refine lv_aload_n hx hb dX6_size_0 rfl (lv_at hl 0 rfl) ?_
  refine va_get (D := gD g) (ci := 6) (v := vi (t.length : Int)) (C := RX6) (T := TX6) (N := 2) hx hb htl ck_X6 hown hKK.k hP 0 rfl rfl 1 (by decide) (htl _ wd_2_16) (fun _ h9 => h9) rfl dX6_size_1 ?_
  exact je_Si hx hb hr hlk rfl (rfl) dX6_size_4
set_option maxHeartbeats 4000000 in
set_option maxRecDepth 100000 in
theorem m_X6_hasPlace (l : Launch) (g : GT) (a c : Nat) (t : List Int) (f : Nat → Int) (hf : TT t f) (i : Int) (hi : jR i) : Met l yX6_hasPlace (ws_ yX6_hasPlace cX6_hasPlace 2 (some .boolean)) (rmm 0 0 0) (jPc g [.ref a, vi i] (fun H => PP g [ob a 6 [.ref c, vi (t.length : Int)], aI g c 60 f] H)) (jSi (fun z => z = i01 (0 ≤ i ∧ i < t.length))) 0 0 jN := by
  refine jb_M (by decide) (Nat.le_of_ble_eq_true rfl) ?_
  intro p e s m below meth cq hx hb hr hml hown htl hlk hnm hKK hpre ls hl
  have hown : s.vm.findClass RX6 = some m.cls := hown
  have hl : lv_has ls 2 [(0, .ref a), (1, vi i)] := hl
  have hP : PP g [ob a 6 [.ref c, vi (t.length : Int)], aI g c 60 f] s.heap := hpre
  have hL := hf.len
  refine lv_iload_n hx hb dX6_hasPlace_0 rfl (lv_at hl 1 rfl) ?_
  refine jr_iflt (tgt := 16) hx hb dX6_hasPlace_1 (by decide) ⟨by omega, by omega⟩ (fun c1 => ?_) (fun c1 => ?_)
  · refine jr_iconst hx hb dX6_hasPlace_16 ?_
    exact je_Si hx hb hr hlk (nz_b (by omega)).1 (by first | exact (if_pos ⟨by omega, by omega⟩).symm | exact (if_neg (by omega)).symm) dX6_hasPlace_17
  · refine lv_iload_n hx hb dX6_hasPlace_4 rfl (lv_at hl 1 rfl) ?_
    refine lv_aload_n hx hb dX6_hasPlace_5 rfl (lv_at hl 0 rfl) ?_
    refine va_get (D := gD g) (ci := 6) (v := vi (t.length : Int)) (C := RX6) (T := TX6) (N := 2) hx hb htl ck_X6 hown hKK.k hP 0 rfl rfl 1 (by decide) (htl _ wd_2_16) (fun _ h9 => h9) rfl dX6_hasPlace_6 ?_
    refine jr_ge (tgt := 16) hx hb dX6_hasPlace_9 (by decide) ⟨by omega, by omega⟩ ⟨by omega, by omega⟩ (fun c9 => ?_) (fun c9 => ?_)
    · refine jr_iconst hx hb dX6_hasPlace_16 ?_
      exact je_Si hx hb hr hlk (nz_b (by omega)).1 (by first | exact (if_pos ⟨by omega, by omega⟩).symm | exact (if_neg (by omega)).symm) dX6_hasPlace_17
    · refine jr_iconst hx hb dX6_hasPlace_12 ?_
      refine lv_goto (tgt := 17) hx hb dX6_hasPlace_13 (by decide) ?_
      exact je_Si hx hb hr hlk (nz_b (by omega)).1 (by first | exact (if_pos ⟨by omega, by omega⟩).symm | exact (if_neg (by omega)).symm) dX6_hasPlace_17
set_option maxHeartbeats 4000000 in
set_option maxRecDepth 100000 in
theorem m_X6_at (l : Launch) (g : GT) (a c : Nat) (t : List Int) (f : Nat → Int) (hf : TT t f) (i : Int) (hi : jR i) : Met l yX6_at (ws_ yX6_at cX6_at 2 (some .int)) (rmm 0 0 0) (jPc g [.ref a, vi i] (fun H => PP g [ob a 6 [.ref c, vi (t.length : Int)], aI g c 60 f] H)) (jSi (fun z => z = tAt t i)) 0 0 jN := by
  refine jb_M (by decide) (Nat.le_of_ble_eq_true rfl) ?_
  intro p e s m below meth cq hx hb hr hml hown htl hlk hnm hKK hpre ls hl
  have hown : s.vm.findClass RX6 = some m.cls := hown
  have hl : lv_has ls 2 [(0, .ref a), (1, vi i)] := hl
  have hP : PP g [ob a 6 [.ref c, vi (t.length : Int)], aI g c 60 f] s.heap := hpre
  have hL := hf.len
  refine lv_iload_n hx hb dX6_at_0 rfl (lv_at hl 1 rfl) ?_
  refine jr_iflt (tgt := 21) hx hb dX6_at_1 (by decide) ⟨by omega, by omega⟩ (fun c1 => ?_) (fun c1 => ?_)
  · refine jr_iconst hx hb dX6_at_21 ?_
    exact je_Si hx hb hr hlk rfl (by first | exact (tAt_out (by omega)).symm | (unfold tAt; rw [if_pos ⟨by omega, by omega⟩]; exact hf.at (by omega))) dX6_at_22
  · refine lv_iload_n hx hb dX6_at_4 rfl (lv_at hl 1 rfl) ?_
    refine lv_aload_n hx hb dX6_at_5 rfl (lv_at hl 0 rfl) ?_
    refine va_get (D := gD g) (ci := 6) (v := vi (t.length : Int)) (C := RX6) (T := TX6) (N := 2) hx hb htl ck_X6 hown hKK.k hP 0 rfl rfl 1 (by decide) (htl _ wd_2_16) (fun _ h9 => h9) rfl dX6_at_6 ?_
    refine jr_ge (tgt := 21) hx hb dX6_at_9 (by decide) ⟨by omega, by omega⟩ ⟨by omega, by omega⟩ (fun c9 => ?_) (fun c9 => ?_)
    · refine jr_iconst hx hb dX6_at_21 ?_
      exact je_Si hx hb hr hlk rfl (by first | exact (tAt_out (by omega)).symm | (unfold tAt; rw [if_pos ⟨by omega, by omega⟩]; exact hf.at (by omega))) dX6_at_22
    · refine lv_aload_n hx hb dX6_at_12 rfl (lv_at hl 0 rfl) ?_
      refine va_get (D := gD g) (ci := 6) (v := .ref c) (C := RX6) (T := TX6) (N := 2) hx hb htl ck_X6 hown hKK.k hP 0 rfl rfl 0 (by decide) (htl _ wd_2_15) (fun _ h9 => h9) rfl dX6_at_13 ?_
      refine lv_iload_n hx hb dX6_at_16 rfl (lv_at hl 1 rfl) ?_
      refine jr_iald hx hb hKK.k hP 1 rfl ((i).toNat) (by omega) (by omega) (by omega) dX6_at_17 ?_
      refine lv_goto (tgt := 22) hx hb dX6_at_18 (by decide) ?_
      exact je_Si hx hb hr hlk rfl (by first | exact (tAt_out (by omega)).symm | (unfold tAt; rw [if_pos ⟨by omega, by omega⟩]; exact hf.at (by omega))) dX6_at_22
set_option maxHeartbeats 4000000 in
set_option maxRecDepth 100000 in
theorem m_X6_has (l : Launch) (g : GT) (a c : Nat) (t : List Int) (f : Nat → Int) (hf : TT t f) (x : Int) (hx : jR x) : Met l yX6_has (ws_ yX6_has cX6_has 3 (some .boolean)) (rmm 1 0 0) (jPc g [.ref a, vi x] (fun H => PP g [ob a 6 [.ref c, vi (t.length : Int)], aI g c 60 f] H)) (jSi (fun z => z = i01 (x ∈ t))) 0 0 jN := by
  refine jb_M (by decide) (Nat.le_of_ble_eq_true rfl) ?_
  intro p e s m below meth cq hx hb hr hml hown htl hlk hnm hKK hpre ls hl
  have hown : s.vm.findClass RX6 = some m.cls := hown
  have hl : lv_has ls 3 [(0, .ref a), (1, vi x)] := hl
  have hP : PP g [ob a 6 [.ref c, vi (t.length : Int)], aI g c 60 f] s.heap := hpre
  have hL := hf.len
  refine jr_iconst hx hb dX6_has_0 ?_
  refine lv_istore_n (lv' := [(2, vi 0), (0, .ref a), (1, vi x)]) hx hb dX6_has_1 rfl hl (by decide) rfl (fun ls hl => ?_)
  have lp2 : ∀ (N : Nat) (i : Nat), (i ≤ t.length) → ((x ∈ t.drop i ↔ x ∈ t)) → t.length - i < N → ∀ ls : Array Slot, lv_has ls 3 [(2, vi (i : Int)), (0, .ref a), (1, vi x)] → W p l e (rmm 1 0 0) s m ([.ref a, vi x] : List Value).toArray below meth cq s.heap [] 0 0 (MQ below (jSi (fun z => z = i01 (x ∈ t))) ([.ref a, vi x] : List Value).toArray s 0 0 jN) (F0 m 2 ls []) := by
    intro N
    induction N with
    | zero => intro i hi hF hM; exact absurd hM (Nat.not_lt_zero _)
    | succ N ih2 =>
      intro i hi hF hM ls hl
      refine lv_iload_n hx hb dX6_has_2 rfl (lv_at hl 0 rfl) ?_
      refine lv_aload_n hx hb dX6_has_3 rfl (lv_at hl 1 rfl) ?_
      refine va_get (D := gD g) (ci := 6) (v := vi (t.length : Int)) (C := RX6) (T := TX6) (N := 2) hx hb htl ck_X6 hown hKK.k hP 0 rfl rfl 1 (by decide) (htl _ wd_2_16) (fun _ h9 => h9) rfl dX6_has_4 ?_
      refine jr_ge (tgt := 27) hx hb dX6_has_7 (by decide) ⟨by omega, by omega⟩ ⟨by omega, by omega⟩ (fun c7 => ?_) (fun c7 => ?_)
      · refine jr_iconst hx hb dX6_has_27 ?_
        exact je_Si hx hb hr hlk (nz_b (by omega)).1 ((if_neg (by rw [← hF, dr_e (by omega)]; exact List.not_mem_nil)).symm) dX6_has_28
      · refine lv_aload_n hx hb dX6_has_10 rfl (lv_at hl 1 rfl) ?_
        refine lv_iload_n hx hb dX6_has_11 rfl (lv_at hl 0 rfl) ?_
        refine jk_Si (va_runV (As := [vi (i : Int)]) (rest := []) ⟨hx, hb, hml, hown, htl⟩ (m_X6_at l g a c t f hf (i : Int) ⟨by omega, by omega⟩) (cwV 1 htl lk_X6_23 rfl rfl rfl cwV_X6_at ⟨Nat.le_of_ble_eq_true rfl, Nat.le_of_ble_eq_true rfl⟩) (jp_V hKK (va_S.rf (A := jN)) jNb (va_recv hKK.k hP (ci := 6) (q0 := 0) rfl rfl) hP) rfl rfl hl.1 rfl (lv_room (Nat.le_of_ble_eq_true rfl)) dX6_has_12 ⟨Nat.le_of_ble_eq_true rfl, Nat.le_of_ble_eq_true rfl⟩) (fun z12 hz12 => ?_)
        subst hz12
        have ta := TT.tAt_b hf (i : Int)
        have e12 := tAt_in (t := t) (j := i) (by omega)
        rw [e12] at ta ⊢
        refine lv_iload_n hx hb dX6_has_15 rfl (lv_at hl 2 rfl) ?_
        refine jr_ne (tgt := 21) hx hb dX6_has_16 (by decide) ⟨by omega, by omega⟩ ⟨by omega, by omega⟩ (fun c16 => ?_) (fun c16 => ?_)
        · refine jr_iinc (lv' := [(2, vi ((i : Int) + 1)), (0, .ref a), (1, vi x)]) hx hb dX6_has_21 hl (k := 0) rfl rfl (by decide) rfl (fun ls hl => ?_)
          refine lv_goto (tgt := 2) hx hb dX6_has_24 (by decide) ?_
          exact ih2 (i + 1) (by omega) (by rw [← hF, dr_c (i := i) (by omega), List.mem_cons]; exact ⟨Or.inr, fun q => q.elim (fun q => absurd q.symm c16) id⟩) (by omega) ls (lv_sub hl [0, 1, 2] rfl)
        · refine jr_iconst hx hb dX6_has_19 ?_
          exact je_Si hx hb hr hlk (nz_b (by omega)).1 ((if_pos (by rw [← hF, dr_c (i := i) (by omega)]; rw [c16]; exact List.mem_cons_self)).symm) dX6_has_20
  exact lp2 _ 0 (Nat.zero_le _) (by simp) (Nat.lt_succ_self _) ls (lv_sub hl [0, 1, 2] rfl)
set_option maxHeartbeats 4000000 in
set_option maxRecDepth 100000 in
theorem m_X6_countKind (l : Launch) (g : GT) (a c : Nat) (t : List Int) (f : Nat → Int) (hf : TT t f) (k : Int) (hk : jR k) : Met l yX6_countKind (ws_ yX6_countKind cX6_countKind 4 (some .int)) (rmm 1 0 0) (jPc g [.ref a, vi k] (fun H => PP g [ob a 6 [.ref c, vi (t.length : Int)], aI g c 60 f] H)) (jSi (fun z => z = cntA t k 0)) 0 0 jN := by
  refine jb_M (by decide) (Nat.le_of_ble_eq_true rfl) ?_
  intro p e s m below meth cq hx hb hr hml hown htl hlk hnm hKK hpre ls hl
  have hown : s.vm.findClass RX6 = some m.cls := hown
  have hl : lv_has ls 4 [(0, .ref a), (1, vi k)] := hl
  have hP : PP g [ob a 6 [.ref c, vi (t.length : Int)], aI g c 60 f] s.heap := hpre
  have hL := hf.len
  refine jr_iconst hx hb dX6_countKind_0 ?_
  refine lv_istore_n (lv' := [(2, vi 0), (0, .ref a), (1, vi k)]) hx hb dX6_countKind_1 rfl hl (by decide) rfl (fun ls hl => ?_)
  refine jr_iconst hx hb dX6_countKind_2 ?_
  refine lv_istore_n (lv' := [(3, vi 0), (2, vi 0), (0, .ref a), (1, vi k)]) hx hb dX6_countKind_3 rfl hl (by decide) rfl (fun ls hl => ?_)
  have lp4 : ∀ (N : Nat) (i : Nat) (n : Int), (i ≤ t.length) → (cntA (t.drop i) k n = cntA t k 0) → t.length - i < N → ∀ ls : Array Slot, lv_has ls 4 [(3, vi (i : Int)), (2, vi n), (0, .ref a), (1, vi k)] → W p l e (rmm 1 0 0) s m ([.ref a, vi k] : List Value).toArray below meth cq s.heap [] 0 0 (MQ below (jSi (fun z => z = cntA t k 0)) ([.ref a, vi k] : List Value).toArray s 0 0 jN) (F0 m 4 ls []) := by
    intro N
    induction N with
    | zero => intro i n hi hF hM; exact absurd hM (Nat.not_lt_zero _)
    | succ N ih4 =>
      intro i n hi hF hM ls hl
      refine lv_iload_n hx hb dX6_countKind_4 rfl (lv_at hl 0 rfl) ?_
      refine lv_aload_n hx hb dX6_countKind_5 rfl (lv_at hl 2 rfl) ?_
      refine va_get (D := gD g) (ci := 6) (v := vi (t.length : Int)) (C := RX6) (T := TX6) (N := 2) hx hb htl ck_X6 hown hKK.k hP 0 rfl rfl 1 (by decide) (htl _ wd_2_16) (fun _ h9 => h9) rfl dX6_countKind_6 ?_
      refine jr_ge (tgt := 33) hx hb dX6_countKind_9 (by decide) ⟨by omega, by omega⟩ ⟨by omega, by omega⟩ (fun c9 => ?_) (fun c9 => ?_)
      · refine lv_iload_n hx hb dX6_countKind_33 rfl (lv_at hl 1 rfl) ?_
        exact je_Si hx hb hr hlk rfl (by rw [← hF, dr_e (by omega)]; rfl) dX6_countKind_34
      · refine lv_aload_n hx hb dX6_countKind_12 rfl (lv_at hl 2 rfl) ?_
        refine lv_iload_n hx hb dX6_countKind_13 rfl (lv_at hl 0 rfl) ?_
        refine jk_Si (va_runV (As := [vi (i : Int)]) (rest := []) ⟨hx, hb, hml, hown, htl⟩ (m_X6_at l g a c t f hf (i : Int) ⟨by omega, by omega⟩) (cwV 1 htl lk_X6_23 rfl rfl rfl cwV_X6_at ⟨Nat.le_of_ble_eq_true rfl, Nat.le_of_ble_eq_true rfl⟩) (jp_V hKK (va_S.rf (A := jN)) jNb (va_recv hKK.k hP (ci := 6) (q0 := 0) rfl rfl) hP) rfl rfl hl.1 rfl (lv_room (Nat.le_of_ble_eq_true rfl)) dX6_countKind_14 ⟨Nat.le_of_ble_eq_true rfl, Nat.le_of_ble_eq_true rfl⟩) (fun z14 hz14 => ?_)
        subst hz14
        have ta := TT.tAt_b hf (i : Int)
        have e14 := tAt_in (t := t) (j := i) (by omega)
        rw [e14] at ta ⊢
        refine jk_Si (va_runS (As := [vi (t.getD i 0)]) (rest := []) ⟨hx, hb, hml, hown, htl⟩ (m_X7_kindIn l g (t.getD i 0) ⟨by omega, by omega⟩) (va_cwS 1 htl lk_X6_46 rfl rfl rfl cwS_X7_kindIn ⟨Nat.le_of_ble_eq_true rfl, Nat.le_of_ble_eq_true rfl⟩) (jp_S hKK (va_S.rf (A := jN)) jNb trivial) rfl rfl hl.1 rfl (lv_room (Nat.le_of_ble_eq_true rfl)) dX6_countKind_17 ⟨Nat.le_of_ble_eq_true rfl, Nat.le_of_ble_eq_true rfl⟩) (fun z17 hz17 => ?_)
        subst hz17
        have tk := kd_b (c := t.getD i 0) ⟨by omega, by omega⟩
        refine lv_iload_n hx hb dX6_countKind_20 rfl (lv_at hl 3 rfl) ?_
        refine jr_ne (tgt := 27) hx hb dX6_countKind_21 (by decide) ⟨by omega, by omega⟩ ⟨by omega, by omega⟩ (fun c21 => ?_) (fun c21 => ?_)
        · refine jr_iinc (lv' := [(3, vi ((i : Int) + 1)), (2, vi n), (0, .ref a), (1, vi k)]) hx hb dX6_countKind_27 hl (k := 0) rfl rfl (by decide) rfl (fun ls hl => ?_)
          refine lv_goto (tgt := 4) hx hb dX6_countKind_30 (by decide) ?_
          exact ih4 (i + 1) n (by omega) (by rw [← hF, dr_c (i := i) (by omega), cntA, if_neg c21]) (by omega) ls (lv_sub hl [0, 1, 2, 3] rfl)
        · refine jr_iinc (lv' := [(2, vi (n + 1)), (3, vi (i : Int)), (0, .ref a), (1, vi k)]) hx hb dX6_countKind_24 hl (k := 1) rfl rfl (by decide) rfl (fun ls hl => ?_)
          refine jr_iinc (lv' := [(3, vi ((i : Int) + 1)), (2, vi (n + 1)), (0, .ref a), (1, vi k)]) hx hb dX6_countKind_27 hl (k := 1) rfl rfl (by decide) rfl (fun ls hl => ?_)
          refine lv_goto (tgt := 4) hx hb dX6_countKind_30 (by decide) ?_
          exact ih4 (i + 1) (n + 1) (by omega) (by rw [← hF, dr_c (i := i) (by omega), cntA, if_pos c21]) (by omega) ls (lv_sub hl [0, 1, 2, 3] rfl)
  exact lp4 _ 0 0 (Nat.zero_le _) (rfl) (Nat.lt_succ_self _) ls (lv_sub hl [0, 1, 2, 3] rfl)
set_option maxHeartbeats 4000000 in
set_option maxRecDepth 100000 in
theorem m_X6_isSameAs (l : Launch) (g : GT) (a c : Nat) (t : List Int) (f : Nat → Int) (hf : TT t f) (b d : Nat) (u : List Int) (f2 : Nat → Int) (hf2 : TT u f2) : Met l yX6_isSameAs (ws_ yX6_isSameAs cX6_isSameAs 3 (some .boolean)) (rmm 1 0 0) (jPc g [.ref a, .ref b] (fun H => PP g [ob a 6 [.ref c, vi (t.length : Int)], aI g c 60 f] H ∧ PP g [ob b 6 [.ref d, vi (u.length : Int)], aI g d 60 f2] H)) (jSi (fun z => z = i01 (t = u))) 0 0 jN := by
  refine jb_M (by decide) (Nat.le_of_ble_eq_true rfl) ?_
  intro p e s m below meth cq hx hb hr hml hown htl hlk hnm hKK hpre ls hl
  have hown : s.vm.findClass RX6 = some m.cls := hown
  have hl : lv_has ls 3 [(0, .ref a), (1, .ref b)] := hl
  obtain ⟨hP, hP2⟩ := hpre
  have hL := hf.len
  have hL2 := hf2.len
  refine lv_aload_n hx hb dX6_isSameAs_0 rfl (lv_at hl 0 rfl) ?_
  refine va_get (D := gD g) (ci := 6) (v := vi (t.length : Int)) (C := RX6) (T := TX6) (N := 2) hx hb htl ck_X6 hown hKK.k hP 0 rfl rfl 1 (by decide) (htl _ wd_2_16) (fun _ h9 => h9) rfl dX6_isSameAs_1 ?_
  refine lv_aload_n hx hb dX6_isSameAs_4 rfl (lv_at hl 1 rfl) ?_
  refine va_get (D := gD g) (ci := 6) (v := vi (u.length : Int)) (C := RX6) (T := TX6) (N := 2) hx hb htl ck_X6 hown hKK.k hP2 0 rfl rfl 1 (by decide) (htl _ wd_2_16) (fun _ h9 => h9) rfl dX6_isSameAs_5 ?_
  refine jr_eq (tgt := 13) hx hb dX6_isSameAs_8 (by decide) ⟨by omega, by omega⟩ ⟨by omega, by omega⟩ (fun c8 => ?_) (fun c8 => ?_)
  · refine jr_iconst hx hb dX6_isSameAs_13 ?_
    refine lv_istore_n (lv' := [(2, vi 0), (0, .ref a), (1, .ref b)]) hx hb dX6_isSameAs_14 rfl hl (by decide) rfl (fun ls hl => ?_)
    have lp15 : ∀ (N : Nat) (i : Nat), (i ≤ t.length) → ((t.drop i = u.drop i ↔ t = u)) → t.length - i < N → ∀ ls : Array Slot, lv_has ls 3 [(2, vi (i : Int)), (0, .ref a), (1, .ref b)] → W p l e (rmm 1 0 0) s m ([.ref a, .ref b] : List Value).toArray below meth cq s.heap [] 0 0 (MQ below (jSi (fun z => z = i01 (t = u))) ([.ref a, .ref b] : List Value).toArray s 0 0 jN) (F0 m 15 ls []) := by
      intro N
      induction N with
      | zero => intro i hi hF hM; exact absurd hM (Nat.not_lt_zero _)
      | succ N ih15 =>
        intro i hi hF hM ls hl
        refine lv_iload_n hx hb dX6_isSameAs_15 rfl (lv_at hl 0 rfl) ?_
        refine lv_aload_n hx hb dX6_isSameAs_16 rfl (lv_at hl 1 rfl) ?_
        refine va_get (D := gD g) (ci := 6) (v := vi (t.length : Int)) (C := RX6) (T := TX6) (N := 2) hx hb htl ck_X6 hown hKK.k hP 0 rfl rfl 1 (by decide) (htl _ wd_2_16) (fun _ h9 => h9) rfl dX6_isSameAs_17 ?_
        refine jr_ge (tgt := 44) hx hb dX6_isSameAs_20 (by decide) ⟨by omega, by omega⟩ ⟨by omega, by omega⟩ (fun c20 => ?_) (fun c20 => ?_)
        · refine jr_iconst hx hb dX6_isSameAs_44 ?_
          exact je_Si hx hb hr hlk (nz_b (by omega)).1 ((if_pos (hF.mp (by rw [dr_e (t := t) (by omega), dr_e (t := u) (by omega)]))).symm) dX6_isSameAs_45
        · refine lv_aload_n hx hb dX6_isSameAs_23 rfl (lv_at hl 1 rfl) ?_
          refine lv_iload_n hx hb dX6_isSameAs_24 rfl (lv_at hl 0 rfl) ?_
          refine jk_Si (va_runV (As := [vi (i : Int)]) (rest := []) ⟨hx, hb, hml, hown, htl⟩ (m_X6_at l g a c t f hf (i : Int) ⟨by omega, by omega⟩) (cwV 1 htl lk_X6_23 rfl rfl rfl cwV_X6_at ⟨Nat.le_of_ble_eq_true rfl, Nat.le_of_ble_eq_true rfl⟩) (jp_V hKK (va_S.rf (A := jN)) jNb (va_recv hKK.k hP (ci := 6) (q0 := 0) rfl rfl) hP) rfl rfl hl.1 rfl (lv_room (Nat.le_of_ble_eq_true rfl)) dX6_isSameAs_25 ⟨Nat.le_of_ble_eq_true rfl, Nat.le_of_ble_eq_true rfl⟩) (fun z25 hz25 => ?_)
          subst hz25
          have ta := TT.tAt_b hf (i : Int)
          have e25 := tAt_in (t := t) (j := i) (by omega)
          rw [e25] at ta ⊢
          have ta1 := ta
          refine lv_aload_n hx hb dX6_isSameAs_28 rfl (lv_at hl 2 rfl) ?_
          refine lv_iload_n hx hb dX6_isSameAs_29 rfl (lv_at hl 0 rfl) ?_
          refine jk_Si (va_runV (As := [vi (i : Int)]) (rest := [vi (t.getD i 0)]) ⟨hx, hb, hml, hown, htl⟩ (m_X6_at l g b d u f2 hf2 (i : Int) ⟨by omega, by omega⟩) (cwV 1 htl lk_X6_23 rfl rfl rfl cwV_X6_at ⟨Nat.le_of_ble_eq_true rfl, Nat.le_of_ble_eq_true rfl⟩) (jp_V hKK (va_S.rf (A := jN)) jNb (va_recv hKK.k hP2 (ci := 6) (q0 := 0) rfl rfl) hP2) rfl rfl hl.1 rfl (lv_room (Nat.le_of_ble_eq_true rfl)) dX6_isSameAs_30 ⟨Nat.le_of_ble_eq_true rfl, Nat.le_of_ble_eq_true rfl⟩) (fun z30 hz30 => ?_)
          subst hz30
          have ta := TT.tAt_b hf2 (i : Int)
          have e30 := tAt_in (t := u) (j := i) (by omega)
          rw [e30] at ta ⊢
          refine jr_eq (tgt := 38) hx hb dX6_isSameAs_33 (by decide) ⟨by omega, by omega⟩ ⟨by omega, by omega⟩ (fun c33 => ?_) (fun c33 => ?_)
          · refine jr_iinc (lv' := [(2, vi ((i : Int) + 1)), (0, .ref a), (1, .ref b)]) hx hb dX6_isSameAs_38 hl (k := 0) rfl rfl (by decide) rfl (fun ls hl => ?_)
            refine lv_goto (tgt := 15) hx hb dX6_isSameAs_41 (by decide) ?_
            exact ih15 (i + 1) (by omega) (by rw [← hF, dr_c (t := t) (i := i) (by omega), dr_c (t := u) (i := i) (by omega), List.cons.injEq]; exact ⟨fun q => ⟨c33, q⟩, fun q => q.2⟩) (by omega) ls (lv_sub hl [0, 1, 2] rfl)
          · refine jr_iconst hx hb dX6_isSameAs_36 ?_
            exact je_Si hx hb hr hlk (nz_b (by omega)).1 ((if_neg (fun q => c33 (by rw [q]))).symm) dX6_isSameAs_37
    exact lp15 _ 0 (Nat.zero_le _) (Iff.rfl) (Nat.lt_succ_self _) ls (lv_sub hl [0, 1, 2] rfl)
  · refine jr_iconst hx hb dX6_isSameAs_11 ?_
    exact je_Si hx hb hr hlk (nz_b (by omega)).1 ((if_neg (fun q => c8 (by rw [q]))).symm) dX6_isSameAs_12
set_option maxHeartbeats 4000000 in
set_option maxRecDepth 100000 in
theorem m_X6_placeOfNumber (l : Launch) (g : GT) (a c : Nat) (t : List Int) (f : Nat → Int) (hf : TT t f) (x : Int) (hx : jR x) : Met l yX6_placeOfNumber (ws_ yX6_placeOfNumber cX6_placeOfNumber 4 (some .int)) (rmm 1 0 0) (jPc g [.ref a, vi x] (fun H => PP g [ob a 6 [.ref c, vi (t.length : Int)], aI g c 60 f] H)) (jSi (fun z => z = ponA t x 0)) 0 0 jN := by
  refine jb_M (by decide) (Nat.le_of_ble_eq_true rfl) ?_
  intro p e s m below meth cq hx hb hr hml hown htl hlk hnm hKK hpre ls hl
  have hown : s.vm.findClass RX6 = some m.cls := hown
  have hl : lv_has ls 4 [(0, .ref a), (1, vi x)] := hl
  have hP : PP g [ob a 6 [.ref c, vi (t.length : Int)], aI g c 60 f] s.heap := hpre
  have hL := hf.len
  refine jr_iconst hx hb dX6_placeOfNumber_0 ?_
  refine lv_istore_n (lv' := [(2, vi 0), (0, .ref a), (1, vi x)]) hx hb dX6_placeOfNumber_1 rfl hl (by decide) rfl (fun ls hl => ?_)
  refine jr_iconst hx hb dX6_placeOfNumber_2 ?_
  refine lv_istore_n (lv' := [(3, vi 0), (2, vi 0), (0, .ref a), (1, vi x)]) hx hb dX6_placeOfNumber_3 rfl hl (by decide) rfl (fun ls hl => ?_)
  have lp4 : ∀ (N : Nat) (i : Nat) (n : Int), (i ≤ t.length) → (ponA (t.drop i) x n = ponA t x 0) → t.length - i < N → ∀ ls : Array Slot, lv_has ls 4 [(3, vi (i : Int)), (2, vi n), (0, .ref a), (1, vi x)] → W p l e (rmm 1 0 0) s m ([.ref a, vi x] : List Value).toArray below meth cq s.heap [] 0 0 (MQ below (jSi (fun z => z = ponA t x 0)) ([.ref a, vi x] : List Value).toArray s 0 0 jN) (F0 m 4 ls []) := by
    intro N
    induction N with
    | zero => intro i n hi hF hM; exact absurd hM (Nat.not_lt_zero _)
    | succ N ih4 =>
      intro i n hi hF hM ls hl
      refine lv_iload_n hx hb dX6_placeOfNumber_4 rfl (lv_at hl 0 rfl) ?_
      refine lv_aload_n hx hb dX6_placeOfNumber_5 rfl (lv_at hl 2 rfl) ?_
      refine va_get (D := gD g) (ci := 6) (v := vi (t.length : Int)) (C := RX6) (T := TX6) (N := 2) hx hb htl ck_X6 hown hKK.k hP 0 rfl rfl 1 (by decide) (htl _ wd_2_16) (fun _ h9 => h9) rfl dX6_placeOfNumber_6 ?_
      refine jr_ge (tgt := 44) hx hb dX6_placeOfNumber_9 (by decide) ⟨by omega, by omega⟩ ⟨by omega, by omega⟩ (fun c9 => ?_) (fun c9 => ?_)
      · refine jr_iconst hx hb dX6_placeOfNumber_44 ?_
        exact je_Si hx hb hr hlk rfl (by rw [← hF, dr_e (by omega)]; rfl) dX6_placeOfNumber_45
      · refine lv_aload_n hx hb dX6_placeOfNumber_12 rfl (lv_at hl 2 rfl) ?_
        refine lv_iload_n hx hb dX6_placeOfNumber_13 rfl (lv_at hl 0 rfl) ?_
        refine jk_Si (va_runV (As := [vi (i : Int)]) (rest := []) ⟨hx, hb, hml, hown, htl⟩ (m_X6_at l g a c t f hf (i : Int) ⟨by omega, by omega⟩) (cwV 1 htl lk_X6_23 rfl rfl rfl cwV_X6_at ⟨Nat.le_of_ble_eq_true rfl, Nat.le_of_ble_eq_true rfl⟩) (jp_V hKK (va_S.rf (A := jN)) jNb (va_recv hKK.k hP (ci := 6) (q0 := 0) rfl rfl) hP) rfl rfl hl.1 rfl (lv_room (Nat.le_of_ble_eq_true rfl)) dX6_placeOfNumber_14 ⟨Nat.le_of_ble_eq_true rfl, Nat.le_of_ble_eq_true rfl⟩) (fun z14 hz14 => ?_)
        subst hz14
        have ta := TT.tAt_b hf (i : Int)
        have e14 := tAt_in (t := t) (j := i) (by omega)
        rw [e14] at ta ⊢
        refine lv_iload_n hx hb dX6_placeOfNumber_17 rfl (lv_at hl 3 rfl) ?_
        refine jr_ne (tgt := 23) hx hb dX6_placeOfNumber_18 (by decide) ⟨by omega, by omega⟩ ⟨by omega, by omega⟩ (fun c18 => ?_) (fun c18 => ?_)
        · refine lv_aload_n hx hb dX6_placeOfNumber_23 rfl (lv_at hl 2 rfl) ?_
          refine lv_iload_n hx hb dX6_placeOfNumber_24 rfl (lv_at hl 0 rfl) ?_
          refine jk_Si (va_runV (As := [vi (i : Int)]) (rest := []) ⟨hx, hb, hml, hown, htl⟩ (m_X6_at l g a c t f hf (i : Int) ⟨by omega, by omega⟩) (cwV 1 htl lk_X6_23 rfl rfl rfl cwV_X6_at ⟨Nat.le_of_ble_eq_true rfl, Nat.le_of_ble_eq_true rfl⟩) (jp_V hKK (va_S.rf (A := jN)) jNb (va_recv hKK.k hP (ci := 6) (q0 := 0) rfl rfl) hP) rfl rfl hl.1 rfl (lv_room (Nat.le_of_ble_eq_true rfl)) dX6_placeOfNumber_25 ⟨Nat.le_of_ble_eq_true rfl, Nat.le_of_ble_eq_true rfl⟩) (fun z25 hz25 => ?_)
          subst hz25
          have ta := TT.tAt_b hf (i : Int)
          have e25 := tAt_in (t := t) (j := i) (by omega)
          rw [e25] at ta ⊢
          refine jk_Si (va_runS (As := [vi (t.getD i 0)]) (rest := []) ⟨hx, hb, hml, hown, htl⟩ (m_X7_kindIn l g (t.getD i 0) ⟨by omega, by omega⟩) (va_cwS 1 htl lk_X6_46 rfl rfl rfl cwS_X7_kindIn ⟨Nat.le_of_ble_eq_true rfl, Nat.le_of_ble_eq_true rfl⟩) (jp_S hKK (va_S.rf (A := jN)) jNb trivial) rfl rfl hl.1 rfl (lv_room (Nat.le_of_ble_eq_true rfl)) dX6_placeOfNumber_28 ⟨Nat.le_of_ble_eq_true rfl, Nat.le_of_ble_eq_true rfl⟩) (fun z28 hz28 => ?_)
          subst hz28
          have tk := kd_b (c := t.getD i 0) ⟨by omega, by omega⟩
          refine jr_iconst hx hb dX6_placeOfNumber_31 ?_
          refine jr_ne (tgt := 38) hx hb dX6_placeOfNumber_32 (by decide) ⟨by omega, by omega⟩ ⟨by omega, by omega⟩ (fun c32 => ?_) (fun c32 => ?_)
          · refine jr_iinc (lv' := [(3, vi ((i : Int) + 1)), (2, vi n), (0, .ref a), (1, vi x)]) hx hb dX6_placeOfNumber_38 hl (k := 0) rfl rfl (by decide) rfl (fun ls hl => ?_)
            refine lv_goto (tgt := 4) hx hb dX6_placeOfNumber_41 (by decide) ?_
            exact ih4 (i + 1) n (by omega) (by rw [← hF, dr_c (i := i) (by omega), ponA, if_neg c18, if_neg c32]) (by omega) ls (lv_sub hl [0, 1, 2, 3] rfl)
          · refine jr_iinc (lv' := [(2, vi (n + 1)), (3, vi (i : Int)), (0, .ref a), (1, vi x)]) hx hb dX6_placeOfNumber_35 hl (k := 1) rfl rfl (by decide) rfl (fun ls hl => ?_)
            refine jr_iinc (lv' := [(3, vi ((i : Int) + 1)), (2, vi (n + 1)), (0, .ref a), (1, vi x)]) hx hb dX6_placeOfNumber_38 hl (k := 1) rfl rfl (by decide) rfl (fun ls hl => ?_)
            refine lv_goto (tgt := 4) hx hb dX6_placeOfNumber_41 (by decide) ?_
            exact ih4 (i + 1) (n + 1) (by omega) (by rw [← hF, dr_c (i := i) (by omega), ponA, if_neg c18, if_pos c32]) (by omega) ls (lv_sub hl [0, 1, 2, 3] rfl)
        · refine lv_iload_n hx hb dX6_placeOfNumber_21 rfl (lv_at hl 1 rfl) ?_
          exact je_Si hx hb hr hlk rfl (by rw [← hF, dr_c (i := i) (by omega), ponA, if_pos c18]) dX6_placeOfNumber_22
  exact lp4 _ 0 0 (Nat.zero_le _) (rfl) (Nat.lt_succ_self _) ls (lv_sub hl [0, 1, 2, 3] rfl)
set_option maxHeartbeats 4000000 in
set_option maxRecDepth 100000 in
theorem m_X6_numberAtPlace (l : Launch) (g : GT) (a c : Nat) (t : List Int) (f : Nat → Int) (hf : TT t f) (n0 : Int) (h0 : 0 ≤ n0) (h1 : n0 < 2147483648) : Met l yX6_numberAtPlace (ws_ yX6_numberAtPlace cX6_numberAtPlace 4 (some .int)) (rmm 1 0 0) (jPc g [.ref a, vi n0] (fun H => PP g [ob a 6 [.ref c, vi (t.length : Int)], aI g c 60 f] H)) (jSi (fun z => z = napA t n0)) 0 0 jN := by
  refine jb_M (by decide) (Nat.le_of_ble_eq_true rfl) ?_
  intro p e s m below meth cq hx hb hr hml hown htl hlk hnm hKK hpre ls hl
  have hown : s.vm.findClass RX6 = some m.cls := hown
  have hl : lv_has ls 4 [(0, .ref a), (1, vi n0)] := hl
  have hP : PP g [ob a 6 [.ref c, vi (t.length : Int)], aI g c 60 f] s.heap := hpre
  have hL := hf.len
  refine lv_iload_n hx hb dX6_numberAtPlace_0 rfl (lv_at hl 1 rfl) ?_
  refine lv_istore_n (lv' := [(2, vi n0), (0, .ref a), (1, vi n0)]) hx hb dX6_numberAtPlace_1 rfl hl (by decide) rfl (fun ls hl => ?_)
  refine jr_iconst hx hb dX6_numberAtPlace_2 ?_
  refine lv_istore_n (lv' := [(3, vi 0), (2, vi n0), (0, .ref a), (1, vi n0)]) hx hb dX6_numberAtPlace_3 rfl hl (by decide) rfl (fun ls hl => ?_)
  have lp4 : ∀ (N : Nat) (i : Nat) (n : Int), (i ≤ t.length) → (0 ≤ n) → (n < 2147483648) → (napA (t.drop i) n = napA t n0) → t.length - i < N → ∀ ls : Array Slot, lv_has ls 4 [(3, vi (i : Int)), (2, vi n), (0, .ref a), (1, vi n0)] → W p l e (rmm 1 0 0) s m ([.ref a, vi n0] : List Value).toArray below meth cq s.heap [] 0 0 (MQ below (jSi (fun z => z = napA t n0)) ([.ref a, vi n0] : List Value).toArray s 0 0 jN) (F0 m 4 ls []) := by
    intro N
    induction N with
    | zero => intro i n hi hn0 hn1 hF hM; exact absurd hM (Nat.not_lt_zero _)
    | succ N ih4 =>
      intro i n hi hn0 hn1 hF hM ls hl
      refine lv_iload_n hx hb dX6_numberAtPlace_4 rfl (lv_at hl 0 rfl) ?_
      refine lv_aload_n hx hb dX6_numberAtPlace_5 rfl (lv_at hl 2 rfl) ?_
      refine va_get (D := gD g) (ci := 6) (v := vi (t.length : Int)) (C := RX6) (T := TX6) (N := 2) hx hb htl ck_X6 hown hKK.k hP 0 rfl rfl 1 (by decide) (htl _ wd_2_16) (fun _ h9 => h9) rfl dX6_numberAtPlace_6 ?_
      refine jr_ge (tgt := 43) hx hb dX6_numberAtPlace_9 (by decide) ⟨by omega, by omega⟩ ⟨by omega, by omega⟩ (fun c9 => ?_) (fun c9 => ?_)
      · refine jr_iconst hx hb dX6_numberAtPlace_43 ?_
        exact je_Si hx hb hr hlk rfl (by rw [← hF, dr_e (by omega)]; rfl) dX6_numberAtPlace_44
      · refine lv_aload_n hx hb dX6_numberAtPlace_12 rfl (lv_at hl 2 rfl) ?_
        refine lv_iload_n hx hb dX6_numberAtPlace_13 rfl (lv_at hl 0 rfl) ?_
        refine jk_Si (va_runV (As := [vi (i : Int)]) (rest := []) ⟨hx, hb, hml, hown, htl⟩ (m_X6_at l g a c t f hf (i : Int) ⟨by omega, by omega⟩) (cwV 1 htl lk_X6_23 rfl rfl rfl cwV_X6_at ⟨Nat.le_of_ble_eq_true rfl, Nat.le_of_ble_eq_true rfl⟩) (jp_V hKK (va_S.rf (A := jN)) jNb (va_recv hKK.k hP (ci := 6) (q0 := 0) rfl rfl) hP) rfl rfl hl.1 rfl (lv_room (Nat.le_of_ble_eq_true rfl)) dX6_numberAtPlace_14 ⟨Nat.le_of_ble_eq_true rfl, Nat.le_of_ble_eq_true rfl⟩) (fun z14 hz14 => ?_)
        subst hz14
        have ta := TT.tAt_b hf (i : Int)
        have e14 := tAt_in (t := t) (j := i) (by omega)
        rw [e14] at ta ⊢
        refine jk_Si (va_runS (As := [vi (t.getD i 0)]) (rest := []) ⟨hx, hb, hml, hown, htl⟩ (m_X7_kindIn l g (t.getD i 0) ⟨by omega, by omega⟩) (va_cwS 1 htl lk_X6_46 rfl rfl rfl cwS_X7_kindIn ⟨Nat.le_of_ble_eq_true rfl, Nat.le_of_ble_eq_true rfl⟩) (jp_S hKK (va_S.rf (A := jN)) jNb trivial) rfl rfl hl.1 rfl (lv_room (Nat.le_of_ble_eq_true rfl)) dX6_numberAtPlace_17 ⟨Nat.le_of_ble_eq_true rfl, Nat.le_of_ble_eq_true rfl⟩) (fun z17 hz17 => ?_)
        subst hz17
        have tk := kd_b (c := t.getD i 0) ⟨by omega, by omega⟩
        refine jr_iconst hx hb dX6_numberAtPlace_20 ?_
        refine jr_ne (tgt := 37) hx hb dX6_numberAtPlace_21 (by decide) ⟨by omega, by omega⟩ ⟨by omega, by omega⟩ (fun c21 => ?_) (fun c21 => ?_)
        · refine jr_iinc (lv' := [(3, vi ((i : Int) + 1)), (2, vi n), (0, .ref a), (1, vi n0)]) hx hb dX6_numberAtPlace_37 hl (k := 0) rfl rfl (by decide) rfl (fun ls hl => ?_)
          refine lv_goto (tgt := 4) hx hb dX6_numberAtPlace_40 (by decide) ?_
          exact ih4 (i + 1) n (by omega) (by omega) (by omega) (by rw [← hF, dr_c (i := i) (by omega), napA, if_neg c21]) (by omega) ls (lv_sub hl [0, 1, 2, 3] rfl)
        · refine lv_iload_n hx hb dX6_numberAtPlace_24 rfl (lv_at hl 1 rfl) ?_
          refine jr_ifne (tgt := 34) hx hb dX6_numberAtPlace_25 (by decide) ⟨by omega, by omega⟩ (fun c25 => ?_) (fun c25 => ?_)
          · refine jr_iinc (lv' := [(2, vi (n + (-1))), (3, vi (i : Int)), (0, .ref a), (1, vi n0)]) hx hb dX6_numberAtPlace_34 hl (k := 1) rfl rfl (by decide) rfl (fun ls hl => ?_)
            refine jr_iinc (lv' := [(3, vi ((i : Int) + 1)), (2, vi (n + (-1))), (0, .ref a), (1, vi n0)]) hx hb dX6_numberAtPlace_37 hl (k := 1) rfl rfl (by decide) rfl (fun ls hl => ?_)
            refine lv_goto (tgt := 4) hx hb dX6_numberAtPlace_40 (by decide) ?_
            exact ih4 (i + 1) (n + (-1)) (by omega) (by omega) (by omega) (by rw [← hF, dr_c (i := i) (by omega), napA, if_pos c21, if_neg c25, Int.sub_eq_add_neg]) (by omega) ls (lv_sub hl [0, 1, 2, 3] rfl)
          · refine lv_aload_n hx hb dX6_numberAtPlace_28 rfl (lv_at hl 2 rfl) ?_
            refine lv_iload_n hx hb dX6_numberAtPlace_29 rfl (lv_at hl 0 rfl) ?_
            refine jk_Si (va_runV (As := [vi (i : Int)]) (rest := []) ⟨hx, hb, hml, hown, htl⟩ (m_X6_at l g a c t f hf (i : Int) ⟨by omega, by omega⟩) (cwV 1 htl lk_X6_23 rfl rfl rfl cwV_X6_at ⟨Nat.le_of_ble_eq_true rfl, Nat.le_of_ble_eq_true rfl⟩) (jp_V hKK (va_S.rf (A := jN)) jNb (va_recv hKK.k hP (ci := 6) (q0 := 0) rfl rfl) hP) rfl rfl hl.1 rfl (lv_room (Nat.le_of_ble_eq_true rfl)) dX6_numberAtPlace_30 ⟨Nat.le_of_ble_eq_true rfl, Nat.le_of_ble_eq_true rfl⟩) (fun z30 hz30 => ?_)
            subst hz30
            have ta := TT.tAt_b hf (i : Int)
            have e30 := tAt_in (t := t) (j := i) (by omega)
            rw [e30] at ta ⊢
            exact je_Si hx hb hr hlk rfl (by rw [← hF, dr_c (i := i) (by omega), napA, if_pos c21, if_pos c25]) dX6_numberAtPlace_33
  exact lp4 _ 0 n0 (Nat.zero_le _) (h0) (h1) (rfl) (Nat.lt_succ_self _) ls (lv_sub hl [0, 1, 2, 3] rfl)
