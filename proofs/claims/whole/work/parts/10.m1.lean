

set_option maxHeartbeats 4000000 in
set_option maxRecDepth 100000 in
/-- a token as one int -/
theorem m_X7_codeOf (l : Launch) (g : GT) (k v : Int) : Met l yX7_codeOf (ws_ yX7_codeOf cX7_codeOf 2 (some .int)) (rmm 0 0 0) (jPc g [vi k, vi v] (fun H => True)) (jSi (fun z => z = k * 10000 + v)) 0 0 jN := by
  refine jb_M (by decide) (Nat.le_of_ble_eq_true rfl) ?_
  intro p e s m below meth cq hx hb hr hml hown htl hlk hnm hKK hpre ls hl
  have hown : s.vm.findClass RX7 = some m.cls := hown
  have hl : lv_has ls 2 [(0, vi k), (1, vi v)] := hl
  refine lv_iload_n hx hb dX7_codeOf_0 rfl (lv_at hl 0 rfl) ?_
  refine jr_sipush hx hb dX7_codeOf_1 (by decide) ?_
  refine jr_imul hx hb dX7_codeOf_4 ?_
  refine lv_iload_n hx hb dX7_codeOf_5 rfl (lv_at hl 1 rfl) ?_
  refine jr_iadd hx hb dX7_codeOf_6 ?_
  exact je_Si hx hb hr hlk rfl (rfl) dX7_codeOf_7
set_option maxHeartbeats 4000000 in
set_option maxRecDepth 100000 in
theorem m_X7_kindIn (l : Launch) (g : GT) (c : Int) (hc : jR c) : Met l yX7_kindIn (ws_ yX7_kindIn cX7_kindIn 1 (some .int)) (rmm 0 0 0) (jPc g [vi c] (fun H => True)) (jSi (fun z => z = kd c)) 0 0 jN := by
  refine jb_M (by decide) (Nat.le_of_ble_eq_true rfl) ?_
  intro p e s m below meth cq hx hb hr hml hown htl hlk hnm hKK hpre ls hl
  have hown : s.vm.findClass RX7 = some m.cls := hown
  have hl : lv_has ls 1 [(0, vi c)] := hl
  refine lv_iload_n hx hb dX7_kindIn_0 rfl (lv_at hl 0 rfl) ?_
  refine jr_ifge (tgt := 8) hx hb dX7_kindIn_1 (by decide) ⟨by omega, by omega⟩ (fun c1 => ?_) (fun c1 => ?_)
  · refine lv_iload_n hx hb dX7_kindIn_8 rfl (lv_at hl 0 rfl) ?_
    refine jr_sipush hx hb dX7_kindIn_9 (by decide) ?_
    refine jr_idiv hx hb (by omega) (by omega) (by omega) (by omega) dX7_kindIn_12 ?_
    exact je_Si hx hb hr hlk rfl (by unfold kd; split <;> omega) dX7_kindIn_13
  · refine jr_iconst hx hb dX7_kindIn_4 ?_
    refine lv_goto (tgt := 13) hx hb dX7_kindIn_5 (by decide) ?_
    exact je_Si hx hb hr hlk rfl (by unfold kd; split <;> omega) dX7_kindIn_13
set_option maxHeartbeats 4000000 in
set_option maxRecDepth 100000 in
theorem m_X7_valueIn (l : Launch) (g : GT) (c : Int) (hc : jR c) : Met l yX7_valueIn (ws_ yX7_valueIn cX7_valueIn 1 (some .int)) (rmm 0 0 0) (jPc g [vi c] (fun H => True)) (jSi (fun z => z = vl c)) 0 0 jN := by
  refine jb_M (by decide) (Nat.le_of_ble_eq_true rfl) ?_
  intro p e s m below meth cq hx hb hr hml hown htl hlk hnm hKK hpre ls hl
  have hown : s.vm.findClass RX7 = some m.cls := hown
  have hl : lv_has ls 1 [(0, vi c)] := hl
  refine lv_iload_n hx hb dX7_valueIn_0 rfl (lv_at hl 0 rfl) ?_
  refine jr_ifge (tgt := 8) hx hb dX7_valueIn_1 (by decide) ⟨by omega, by omega⟩ (fun c1 => ?_) (fun c1 => ?_)
  · refine lv_iload_n hx hb dX7_valueIn_8 rfl (lv_at hl 0 rfl) ?_
    refine jr_sipush hx hb dX7_valueIn_9 (by decide) ?_
    refine jr_irem hx hb (by omega) (by omega) (by omega) (by omega) dX7_valueIn_12 ?_
    exact je_Si hx hb hr hlk rfl (by unfold vl; split <;> omega) dX7_valueIn_13
  · refine jr_iconst hx hb dX7_valueIn_4 ?_
    refine lv_goto (tgt := 13) hx hb dX7_valueIn_5 (by decide) ?_
    exact je_Si hx hb hr hlk rfl (by unfold vl; split <;> omega) dX7_valueIn_13
set_option maxHeartbeats 4000000 in
set_option maxRecDepth 100000 in
theorem m_X7_stemIn (l : Launch) (g : GT) (c : Int) (hc : jR c) : Met l yX7_stemIn (ws_ yX7_stemIn cX7_stemIn 1 (some .int)) (rmm 0 0 0) (jPc g [vi c] (fun H => True)) (jSi (fun z => z = sm c)) 0 0 jN := by
  refine jb_M (by decide) (Nat.le_of_ble_eq_true rfl) ?_
  intro p e s m below meth cq hx hb hr hml hown htl hlk hnm hKK hpre ls hl
  have hown : s.vm.findClass RX7 = some m.cls := hown
  have hl : lv_has ls 1 [(0, vi c)] := hl
  refine lv_iload_n hx hb dX7_stemIn_0 rfl (lv_at hl 0 rfl) ?_
  refine jr_ifge (tgt := 8) hx hb dX7_stemIn_1 (by decide) ⟨by omega, by omega⟩ (fun c1 => ?_) (fun c1 => ?_)
  · refine lv_iload_n hx hb dX7_stemIn_8 rfl (lv_at hl 0 rfl) ?_
    refine jr_sipush hx hb dX7_stemIn_9 (by decide) ?_
    refine jr_irem hx hb (by omega) (by omega) (by omega) (by omega) dX7_stemIn_12 ?_
    refine jr_bipush hx hb dX7_stemIn_13 (by decide) ?_
    refine jr_idiv hx hb (by omega) (by omega) (by omega) (by omega) dX7_stemIn_15 ?_
    exact je_Si hx hb hr hlk rfl (by unfold sm; split <;> omega) dX7_stemIn_16
  · refine jr_iconst hx hb dX7_stemIn_4 ?_
    refine lv_goto (tgt := 16) hx hb dX7_stemIn_5 (by decide) ?_
    exact je_Si hx hb hr hlk rfl (by unfold sm; split <;> omega) dX7_stemIn_16
set_option maxHeartbeats 4000000 in
set_option maxRecDepth 100000 in
theorem m_X6_size (l : Launch) (g : GT) (a c : Nat) (t : List Int) (f : Nat → Int) (hf : TT t f) : Met l yX6_size (ws_ yX6_size cX6_size 1 (some .int)) (rmm 0 0 0) (jPc g [.ref a] (fun H => PP g [ob a 6 [.ref c, vi (t.length : Int)], aI g c 60 f] H)) (jSi (fun z => z = (t.length : Int))) 0 0 jN := by
  refine jb_M (by decide) (Nat.le_of_ble_eq_true rfl) ?_
  intro p e s m below meth cq hx hb hr hml hown htl hlk hnm hKK hpre ls hl
  have hown : s.vm.findClass RX6 = some m.cls := hown
  have hl : lv_has ls 1 [(0, .ref a)] := hl
  have hP : PP g [ob a 6 [.ref c, vi (t.length : Int)], aI g c 60 f] s.heap := hpre
  refine lv_aload_n hx hb dX6_size_0 rfl (lv_at hl 0 rfl) ?_
  refine va_get (D := gD g) (ci := 6) (v := vi (t.length : Int)) (C := RX6) (T := TX6) (N := 2) hx hb htl ck_X6 hown hKK.k hP 0 rfl rfl 1 (by decide) (htl _ wd_2_20) (fun _ h9 => h9) rfl dX6_size_1 ?_
  exact je_Si hx hb hr hlk rfl (rfl) dX6_size_4
set_option maxHeartbeats 4000000 in
set_option maxRecDepth 100000 in
theorem m_X6_hasPlace (l : Launch) (g : GT) (a c : Nat) (t : List Int) (f : Nat → Int) (hf : TT t f) (i : Int) (hi : jR i) : Met l yX6_hasPlace (ws_ yX6_hasPlace cX6_hasPlace 2 (some .boolean)) (rmm 0 0 0) (jPc g [.ref a, vi i] (fun H => PP g [ob a 6 [.ref c, vi (t.length : Int)], aI g c 60 f] H)) (jSi (fun z => z = i01 (0 ≤ i ∧ i < t.length))) 0 0 jN := by
  refine jb_M (by decide) (Nat.le_of_ble_eq_true rfl) ?_
  intro p e s m below meth cq hx hb hr hml hown htl hlk hnm hKK hpre ls hl
  have hown : s.vm.findClass RX6 = some m.cls := hown
  have hl : lv_has ls 2 [(0, .ref a), (1, vi i)] := hl
  have hP : PP g [ob a 6 [.ref c, vi (t.length : Int)], aI g c 60 f] s.heap := hpre
  have hL := hf.len
  refine lv_iload_n hx hb dX6_hasPlace_0 rfl (lv_at hl 1 rfl) ?_
  refine jr_iflt (tgt := 16) hx hb dX6_hasPlace_1 (by decide) ⟨by omega, by omega⟩ (fun c1 => ?_) (fun c1 => ?_)
  · refine jr_iconst hx hb dX6_hasPlace_16 ?_
    exact je_Si hx hb hr hlk (nz_b (by omega)).1 (by first | exact (if_pos ⟨by omega, by omega⟩).symm | exact (if_neg (by omega)).symm) dX6_hasPlace_17
  · refine lv_iload_n hx hb dX6_hasPlace_4 rfl (lv_at hl 1 rfl) ?_
    refine lv_aload_n hx hb dX6_hasPlace_5 rfl (lv_at hl 0 rfl) ?_
    refine va_get (D := gD g) (ci := 6) (v := vi (t.length : Int)) (C := RX6) (T := TX6) (N := 2) hx hb htl ck_X6 hown hKK.k hP 0 rfl rfl 1 (by decide) (htl _ wd_2_20) (fun _ h9 => h9) rfl dX6_hasPlace_6 ?_
    refine jr_ge (tgt := 16) hx hb dX6_hasPlace_9 (by decide) ⟨by omega, by omega⟩ ⟨by omega, by omega⟩ (fun c9 => ?_) (fun c9 => ?_)
    · refine jr_iconst hx hb dX6_hasPlace_16 ?_
      exact je_Si hx hb hr hlk (nz_b (by omega)).1 (by first | exact (if_pos ⟨by omega, by omega⟩).symm | exact (if_neg (by omega)).symm) dX6_hasPlace_17
    · refine jr_iconst hx hb dX6_hasPlace_12 ?_
      refine lv_goto (tgt := 17) hx hb dX6_hasPlace_13 (by decide) ?_
      exact je_Si hx hb hr hlk (nz_b (by omega)).1 (by first | exact (if_pos ⟨by omega, by omega⟩).symm | exact (if_neg (by omega)).symm) dX6_hasPlace_17
set_option maxHeartbeats 4000000 in
set_option maxRecDepth 100000 in
theorem m_X6_at (l : Launch) (g : GT) (a c : Nat) (t : List Int) (f : Nat → Int) (hf : TT t f) (i : Int) (hi : jR i) : Met l yX6_at (ws_ yX6_at cX6_at 2 (some .int)) (rmm 0 0 0) (jPc g [.ref a, vi i] (fun H => PP g [ob a 6 [.ref c, vi (t.length : Int)], aI g c 60 f] H)) (jSi (fun z => z = tAt t i)) 0 0 jN := by
  refine jb_M (by decide) (Nat.le_of_ble_eq_true rfl) ?_
  intro p e s m below meth cq hx hb hr hml hown htl hlk hnm hKK hpre ls hl
  have hown : s.vm.findClass RX6 = some m.cls := hown
  have hl : lv_has ls 2 [(0, .ref a), (1, vi i)] := hl
  have hP : PP g [ob a 6 [.ref c, vi (t.length : Int)], aI g c 60 f] s.heap := hpre
  have hL := hf.len
  refine lv_iload_n hx hb dX6_at_0 rfl (lv_at hl 1 rfl) ?_
  refine jr_iflt (tgt := 21) hx hb dX6_at_1 (by decide) ⟨by omega, by omega⟩ (fun c1 => ?_) (fun c1 => ?_)
  · refine jr_iconst hx hb dX6_at_21 ?_
    exact je_Si hx hb hr hlk rfl (by first | exact (tAt_out (by omega)).symm | (unfold tAt; rw [if_pos ⟨by omega, by omega⟩]; exact hf.at (by omega))) dX6_at_22
  · refine lv_iload_n hx hb dX6_at_4 rfl (lv_at hl 1 rfl) ?_
    refine lv_aload_n hx hb dX6_at_5 rfl (lv_at hl 0 rfl) ?_
    refine va_get (D := gD g) (ci := 6) (v := vi (t.length : Int)) (C := RX6) (T := TX6) (N := 2) hx hb htl ck_X6 hown hKK.k hP 0 rfl rfl 1 (by decide) (htl _ wd_2_20) (fun _ h9 => h9) rfl dX6_at_6 ?_
    refine jr_ge (tgt := 21) hx hb dX6_at_9 (by decide) ⟨by omega, by omega⟩ ⟨by omega, by omega⟩ (fun c9 => ?_) (fun c9 => ?_)
    · refine jr_iconst hx hb dX6_at_21 ?_
      exact je_Si hx hb hr hlk rfl (by first | exact (tAt_out (by omega)).symm | (unfold tAt; rw [if_pos ⟨by omega, by omega⟩]; exact hf.at (by omega))) dX6_at_22
    · refine lv_aload_n hx hb dX6_at_12 rfl (lv_at hl 0 rfl) ?_
      refine va_get (D := gD g) (ci := 6) (v := .ref c) (C := RX6) (T := TX6) (N := 2) hx hb htl ck_X6 hown hKK.k hP 0 rfl rfl 0 (by decide) (htl _ wd_2_19) (fun _ h9 => h9) rfl dX6_at_13 ?_
      refine lv_iload_n hx hb dX6_at_16 rfl (lv_at hl 1 rfl) ?_
      refine jr_iald hx hb hKK.k hP 1 rfl ((i).toNat) (by omega) (by omega) (by omega) dX6_at_17 ?_
      refine lv_goto (tgt := 22) hx hb dX6_at_18 (by decide) ?_
      exact je_Si hx hb hr hlk rfl (by first | exact (tAt_out (by omega)).symm | (unfold tAt; rw [if_pos ⟨by omega, by omega⟩]; exact hf.at (by omega))) dX6_at_22
