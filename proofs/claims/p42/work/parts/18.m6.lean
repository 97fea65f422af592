
theorem lk_J15_105 : GoodIn WSL (va_wsS RJ15 105 yJ3_checkIndex_8e157 (ws_ yJ3_checkIndex_8e157 cJ3_checkIndex_8e157 3 (some .int))) := gd_app (List.forall_mem_cons.mpr ⟨wd_6_18, List.forall_mem_cons.mpr ⟨wd_6_19, List.forall_mem_cons.mpr ⟨wd_6_20, fun _ h => nomatch h⟩⟩⟩) (gd_ wd_6_21)
theorem cwS_J3_checkIndex_8e157 : yJ3_checkIndex_8e157.cls ≠ "java/lang/invoke/MethodHandle" ∧ yJ3_checkIndex_8e157.cls ≠ "java/lang/invoke/VarHandle" ∧ (parseMethodDescriptor yJ3_checkIndex_8e157.desc).map (fun d => d.parameters.length) = some 3 := by decide +kernel
theorem lk_Jx4a65c_118 : GoodIn WSL (va_wsS RJx4a65c 118 yJ15_checkIndex_7cf53 (ws_ yJ15_checkIndex_7cf53 cJ15_checkIndex_7cf53 2 (some .int))) := gd_app (List.forall_mem_cons.mpr ⟨wd_6_14, List.forall_mem_cons.mpr ⟨wd_6_15, List.forall_mem_cons.mpr ⟨wd_6_16, fun _ h => nomatch h⟩⟩⟩) (gd_ wd_6_17)
theorem cwS_J15_checkIndex_7cf53 : yJ15_checkIndex_7cf53.cls ≠ "java/lang/invoke/MethodHandle" ∧ yJ15_checkIndex_7cf53.cls ≠ "java/lang/invoke/VarHandle" ∧ (parseMethodDescriptor yJ15_checkIndex_7cf53.desc).map (fun d => d.parameters.length) = some 2 := by decide +kernel
theorem lk_Jx4a65c_123 : GoodIn WSL (wsV RJx4a65c 123 RJx4a65c yJx4a65c_elementData_915e3 (ws_ yJx4a65c_elementData_915e3 cJx4a65c_elementData_915e3 2 (some (.object "java/lang/Object")))) := gd_app (List.forall_mem_cons.mpr ⟨wd_6_22, List.forall_mem_cons.mpr ⟨wd_6_23, List.forall_mem_cons.mpr ⟨wd_7_0, List.forall_mem_cons.mpr ⟨wd_3_6, fun _ h => nomatch h⟩⟩⟩⟩) (gd_ wd_7_1)
theorem cwV_Jx4a65c_elementData_915e3 : yJx4a65c_elementData_915e3.cls = RJx4a65c ∧ yJx4a65c_elementData_915e3.cls ≠ "java/lang/invoke/MethodHandle" ∧ yJx4a65c_elementData_915e3.cls ≠ "java/lang/invoke/VarHandle" ∧ (parseMethodDescriptor yJx4a65c_elementData_915e3.desc).map (fun d => d.parameters.length) = some 1 := by decide +kernel
theorem lk_J7_300 : GoodIn WSL (va_wsS RJ7 300 yJ7_copyOf_6403c (ws_ yJ7_copyOf_6403c cJ7_copyOf_6403c 4 (some (.array (.object "java/lang/Object"))))) := gd_app (List.forall_mem_cons.mpr ⟨wd_16_5, List.forall_mem_cons.mpr ⟨wd_16_6, List.forall_mem_cons.mpr ⟨wd_15_23, fun _ h => nomatch h⟩⟩⟩) (gd_ wd_16_7)
theorem cwS_J7_copyOf_6403c : yJ7_copyOf_6403c.cls ≠ "java/lang/invoke/MethodHandle" ∧ yJ7_copyOf_6403c.cls ≠ "java/lang/invoke/VarHandle" ∧ (parseMethodDescriptor yJ7_copyOf_6403c.desc).map (fun d => d.parameters.length) = some 3 := by decide +kernel
theorem lk_Jx4a65c_73 : GoodIn WSL (va_wsS RJx4a65c 73 yJ8_newLength_cabcc (ws_ yJ8_newLength_cabcc cJ8_newLength_cabcc 4 (some .int))) := gd_app (List.forall_mem_cons.mpr ⟨wd_15_12, List.forall_mem_cons.mpr ⟨wd_15_13, List.forall_mem_cons.mpr ⟨wd_15_14, fun _ h => nomatch h⟩⟩⟩) (gd_ wd_15_15)
theorem cwS_J8_newLength_cabcc : yJ8_newLength_cabcc.cls ≠ "java/lang/invoke/MethodHandle" ∧ yJ8_newLength_cabcc.cls ≠ "java/lang/invoke/VarHandle" ∧ (parseMethodDescriptor yJ8_newLength_cabcc.desc).map (fun d => d.parameters.length) = some 3 := by decide +kernel
theorem lk_Jx4a65c_66 : GoodIn WSL (va_wsS RJx4a65c 66 yJ7_copyOf_1904c (ws_ yJ7_copyOf_1904c cJ7_copyOf_1904c 2 (some (.array (.object "java/lang/Object"))))) := gd_app (List.forall_mem_cons.mpr ⟨wd_15_21, List.forall_mem_cons.mpr ⟨wd_15_22, List.forall_mem_cons.mpr ⟨wd_15_23, fun _ h => nomatch h⟩⟩⟩) (gd_ wd_16_0)
theorem cwS_J7_copyOf_1904c : yJ7_copyOf_1904c.cls ≠ "java/lang/invoke/MethodHandle" ∧ yJ7_copyOf_1904c.cls ≠ "java/lang/invoke/VarHandle" ∧ (parseMethodDescriptor yJ7_copyOf_1904c.desc).map (fun d => d.parameters.length) = some 2 := by decide +kernel
theorem lk_Jx4a65c_69 : GoodIn WSL (wsV RJx4a65c 69 RJx4a65c yJx4a65c_grow_92f84 (ws_ yJx4a65c_grow_92f84 cJx4a65c_grow_92f84 4 (some (.array (.object "java/lang/Object"))))) := gd_app (List.forall_mem_cons.mpr ⟨wd_15_3, List.forall_mem_cons.mpr ⟨wd_15_4, List.forall_mem_cons.mpr ⟨wd_15_5, List.forall_mem_cons.mpr ⟨wd_3_6, fun _ h => nomatch h⟩⟩⟩⟩) (gd_ wd_15_6)
theorem cwV_Jx4a65c_grow_92f84 : yJx4a65c_grow_92f84.cls = RJx4a65c ∧ yJx4a65c_grow_92f84.cls ≠ "java/lang/invoke/MethodHandle" ∧ yJx4a65c_grow_92f84.cls ≠ "java/lang/invoke/VarHandle" ∧ (parseMethodDescriptor yJx4a65c_grow_92f84.desc).map (fun d => d.parameters.length) = some 1 := by decide +kernel
theorem lk_Jx4a65c_129 : GoodIn WSL (wsV RJx4a65c 129 RJx4a65c yJx4a65c_grow_d5877 (ws_ yJx4a65c_grow_d5877 cJx4a65c_grow_d5877 1 (some (.array (.object "java/lang/Object"))))) := gd_app (List.forall_mem_cons.mpr ⟨wd_14_23, List.forall_mem_cons.mpr ⟨wd_15_0, List.forall_mem_cons.mpr ⟨wd_15_1, List.forall_mem_cons.mpr ⟨wd_3_6, fun _ h => nomatch h⟩⟩⟩⟩) (gd_ wd_15_2)
theorem cwV_Jx4a65c_grow_d5877 : yJx4a65c_grow_d5877.cls = RJx4a65c ∧ yJx4a65c_grow_d5877.cls ≠ "java/lang/invoke/MethodHandle" ∧ yJx4a65c_grow_d5877.cls ≠ "java/lang/invoke/VarHandle" ∧ (parseMethodDescriptor yJx4a65c_grow_d5877.desc).map (fun d => d.parameters.length) = some 0 := by decide +kernel
theorem lk_Jx4a65c_131 : GoodIn WSL (wsV RJx4a65c 131 RJx4a65c yJx4a65c_add_72be8 (ws_ yJx4a65c_add_72be8 cJx4a65c_add_72be8 4 none)) := gd_app (List.forall_mem_cons.mpr ⟨wd_14_19, List.forall_mem_cons.mpr ⟨wd_14_20, List.forall_mem_cons.mpr ⟨wd_14_21, List.forall_mem_cons.mpr ⟨wd_3_6, fun _ h => nomatch h⟩⟩⟩⟩) (gd_ wd_14_22)
theorem cwV_Jx4a65c_add_72be8 : yJx4a65c_add_72be8.cls = RJx4a65c ∧ yJx4a65c_add_72be8.cls ≠ "java/lang/invoke/MethodHandle" ∧ yJx4a65c_add_72be8.cls ≠ "java/lang/invoke/VarHandle" ∧ (parseMethodDescriptor yJx4a65c_add_72be8.desc).map (fun d => d.parameters.length) = some 3 := by decide +kernel
set_option maxHeartbeats 4000000 in
set_option maxRecDepth 100000 in
theorem m_Jsize_E (l : Launch) (g : GT) (a : Nat) (mc : Int) : Met l yJx4a65c_size_8abf5 (ws_ yJx4a65c_size_8abf5 cJx4a65c_size_8abf5 1 (some .int)) (rmm 0 0 0) (jPc g [.ref a] (fun H => PP g [ob a 11 [vi mc, .ref (gE g), vi 0]] H)) (jSi (fun z => z = 0)) 0 0 jN := by
  refine jb_M (by decide) (Nat.le_of_ble_eq_true rfl) ?_
  intro p e s m below meth cq hx hb hr hml hown htl hlk hnm hKK hpre ls hl
  have hown : s.vm.findClass RJx4a65c = some m.cls := hown
  have hl : lv_has ls 1 [(0, .ref a)] := hl
  have hP : PP g [ob a 11 [vi mc, .ref (gE g), vi 0]] s.heap := hpre
  refine lv_aload_n hx hb dJx4a65c_size_8abf5_0 rfl (lv_at hl 0 rfl) ?_
  refine va_get (D := gD g) (ci := 11) (v := vi 0) (C := RJx4a65c) (T := TJx4a65c) (N := 3) hx hb htl ck_Jx4a65c hown hKK.k hP 0 rfl rfl 2 (by decide) (htl _ wd_5_19) (fun _ h9 => h9) rfl dJx4a65c_size_8abf5_1 ?_
  exact je_Si hx hb hr hlk rfl (rfl) dJx4a65c_size_8abf5_4
set_option maxHeartbeats 4000000 in
set_option maxRecDepth 100000 in
theorem m_Jsize_F (l : Launch) (g : GT) (a : Nat) (mc : Int) (ea cap n : Nat) (f : Nat → Option Nat) : Met l yJx4a65c_size_8abf5 (ws_ yJx4a65c_size_8abf5 cJx4a65c_size_8abf5 1 (some .int)) (rmm 0 0 0) (jPc g [.ref a] (fun H => PP g [ob a 11 [vi mc, .ref ea, vi (n : Int)], aO g ea cap f] H)) (jSi (fun z => z = (n : Int))) 0 0 jN := by
  refine jb_M (by decide) (Nat.le_of_ble_eq_true rfl) ?_
  intro p e s m below meth cq hx hb hr hml hown htl hlk hnm hKK hpre ls hl
  have hown : s.vm.findClass RJx4a65c = some m.cls := hown
  have hl : lv_has ls 1 [(0, .ref a)] := hl
  have hP : PP g [ob a 11 [vi mc, .ref ea, vi (n : Int)], aO g ea cap f] s.heap := hpre
  refine lv_aload_n hx hb dJx4a65c_size_8abf5_0 rfl (lv_at hl 0 rfl) ?_
  refine va_get (D := gD g) (ci := 11) (v := vi (n : Int)) (C := RJx4a65c) (T := TJx4a65c) (N := 3) hx hb htl ck_Jx4a65c hown hKK.k hP 0 rfl rfl 2 (by decide) (htl _ wd_5_19) (fun _ h9 => h9) rfl dJx4a65c_size_8abf5_1 ?_
  exact je_Si hx hb hr hlk rfl (rfl) dJx4a65c_size_8abf5_4
set_option maxHeartbeats 4000000 in
set_option maxRecDepth 100000 in
theorem m_J3_checkIndex_8e157 (l : Launch) (g : GT) (i n : Int) (h : 0 ≤ i ∧ i < n) (hn : n < 2147483648) : Met l yJ3_checkIndex_8e157 (ws_ yJ3_checkIndex_8e157 cJ3_checkIndex_8e157 3 (some .int)) (rmm 0 0 0) (jPc g [vi i, vi n, .null] (fun H => True)) (jSi (fun z => z = i)) 0 0 jN := by
  refine jb_M (by decide) (Nat.le_of_ble_eq_true rfl) ?_
  intro p e s m below meth cq hx hb hr hml hown htl hlk hnm hKK hpre ls hl
  have hown : s.vm.findClass RJ3 = some m.cls := hown
  have hl : lv_has ls 3 [(0, vi i), (1, vi n), (2, .null)] := hl
  refine lv_iload_n hx hb dJ3_checkIndex_8e157_0 rfl (lv_at hl 0 rfl) ?_
  refine jr_iflt (tgt := 9) hx hb dJ3_checkIndex_8e157_1 (by decide) ⟨by omega, by omega⟩ (fun c1 => absurd c1 (by omega)) (fun c1 => ?_)
  refine lv_iload_n hx hb dJ3_checkIndex_8e157_4 rfl (lv_at hl 0 rfl) ?_
  refine lv_iload_n hx hb dJ3_checkIndex_8e157_5 rfl (lv_at hl 1 rfl) ?_
  refine jr_lt (tgt := 16) hx hb dJ3_checkIndex_8e157_6 (by decide) ⟨by omega, by omega⟩ ⟨by omega, by omega⟩ (fun c6 => ?_) (fun c6 => absurd c6 (by omega))
  refine lv_iload_n hx hb dJ3_checkIndex_8e157_16 rfl (lv_at hl 0 rfl) ?_
  exact je_Si hx hb hr hlk rfl (rfl) dJ3_checkIndex_8e157_17
set_option maxHeartbeats 4000000 in
set_option maxRecDepth 100000 in
theorem m_J15_checkIndex_7cf53 (l : Launch) (g : GT) (i n : Int) (h : 0 ≤ i ∧ i < n) (hn : n < 2147483648) : Met l yJ15_checkIndex_7cf53 (ws_ yJ15_checkIndex_7cf53 cJ15_checkIndex_7cf53 2 (some .int)) (rmm 1 0 0) (jPc g [vi i, vi n] (fun H => True)) (jSi (fun z => z = i)) 0 0 jN := by
  refine jb_M (by decide) (Nat.le_of_ble_eq_true rfl) ?_
  intro p e s m below meth cq hx hb hr hml hown htl hlk hnm hKK hpre ls hl
  have hown : s.vm.findClass RJ15 = some m.cls := hown
  have hl : lv_has ls 2 [(0, vi i), (1, vi n)] := hl
  refine lv_iload_n hx hb dJ15_checkIndex_7cf53_0 rfl (lv_at hl 0 rfl) ?_
  refine lv_iload_n hx hb dJ15_checkIndex_7cf53_1 rfl (lv_at hl 1 rfl) ?_
  refine lv_null hx hb dJ15_checkIndex_7cf53_2 ?_
  refine jk_Si (va_runS (As := [vi i, vi n, .null]) (rest := []) ⟨hx, hb, hml, hown, htl⟩ (m_J3_checkIndex_8e157 l g i n (by omega) (by omega)) (va_cwS 3 htl lk_J15_105 rfl rfl rfl cwS_J3_checkIndex_8e157 ⟨Nat.le_of_ble_eq_true rfl, Nat.le_of_ble_eq_true rfl⟩) (jp_S hKK (va_S.rf (A := jN)) jNb trivial) rfl rfl hl.1 rfl (lv_room (Nat.le_of_ble_eq_true rfl)) dJ15_checkIndex_7cf53_3 ⟨Nat.le_of_ble_eq_true rfl, Nat.le_of_ble_eq_true rfl⟩) (fun z3 hz3 => ?_)
  subst hz3
  exact je_Si hx hb hr hlk rfl (rfl) dJ15_checkIndex_7cf53_6
set_option maxHeartbeats 4000000 in
set_option maxRecDepth 100000 in
theorem m_Jx4a65c_elementData_915e3 (l : Launch) (g : GT) (a : Nat) (mc : Int) (ea n cap : Nat) (f : Nat → Option Nat) (k q : Nat) (hk : k < n) (hn : n ≤ cap) (hc : cap ≤ 88) (hq : f k = some q) : Met l yJx4a65c_elementData_915e3 (ws_ yJx4a65c_elementData_915e3 cJx4a65c_elementData_915e3 2 (some (.object "java/lang/Object"))) (rmm 0 0 0) (jPc g [.ref a, vi (k : Int)] (fun H => PP g [ob a 11 [vi mc, .ref ea, vi (n : Int)], aO g ea cap f] H)) (jSr (fun z => z = q)) 0 0 jN := by
  refine jb_M (by decide) (Nat.le_of_ble_eq_true rfl) ?_
  intro p e s m below meth cq hx hb hr hml hown htl hlk hnm hKK hpre ls hl
  have hown : s.vm.findClass RJx4a65c = some m.cls := hown
  have hl : lv_has ls 2 [(0, .ref a), (1, vi (k : Int))] := hl
  have hP : PP g [ob a 11 [vi mc, .ref ea, vi (n : Int)], aO g ea cap f] s.heap := hpre
  refine lv_aload_n hx hb dJx4a65c_elementData_915e3_0 rfl (lv_at hl 0 rfl) ?_
  refine va_get (D := gD g) (ci := 11) (v := .ref ea) (C := RJx4a65c) (T := TJx4a65c) (N := 3) hx hb htl ck_Jx4a65c hown hKK.k hP 0 rfl rfl 1 (by decide) (htl _ wd_4_8) (fun _ h9 => h9) rfl dJx4a65c_elementData_915e3_1 ?_
  refine lv_iload_n hx hb dJx4a65c_elementData_915e3_4 rfl (lv_at hl 1 rfl) ?_
  refine jr_aald hx hb hKK.k hP 1 rfl k rfl (by omega) (by omega) (v := q) (hq) dJx4a65c_elementData_915e3_5 ?_
  exact je_Sr hx hb hr hlk (rfl) dJx4a65c_elementData_915e3_6
set_option maxHeartbeats 4000000 in
set_option maxRecDepth 100000 in
theorem m_Jget_F (l : Launch) (g : GT) (a : Nat) (mc : Int) (ea n cap : Nat) (f : Nat → Option Nat) (k q : Nat) (hk : k < n) (hn : n ≤ cap) (hc : cap ≤ 88) (hq : f k = some q) : Met l yJx4a65c_get_915e3 (ws_ yJx4a65c_get_915e3 cJx4a65c_get_915e3 2 (some (.object "java/lang/Object"))) (rmm 2 0 0) (jPc g [.ref a, vi (k : Int)] (fun H => PP g [ob a 11 [vi mc, .ref ea, vi (n : Int)], aO g ea cap f] H)) (jSr (fun z => z = q)) 0 0 jN := by
  refine jb_M (by decide) (Nat.le_of_ble_eq_true rfl) ?_
  intro p e s m below meth cq hx hb hr hml hown htl hlk hnm hKK hpre ls hl
  have hown : s.vm.findClass RJx4a65c = some m.cls := hown
  have hl : lv_has ls 2 [(0, .ref a), (1, vi (k : Int))] := hl
  have hP : PP g [ob a 11 [vi mc, .ref ea, vi (n : Int)], aO g ea cap f] s.heap := hpre
  refine lv_iload_n hx hb dJx4a65c_get_915e3_0 rfl (lv_at hl 1 rfl) ?_
  refine lv_aload_n hx hb dJx4a65c_get_915e3_1 rfl (lv_at hl 0 rfl) ?_
  refine va_get (D := gD g) (ci := 11) (v := vi (n : Int)) (C := RJx4a65c) (T := TJx4a65c) (N := 3) hx hb htl ck_Jx4a65c hown hKK.k hP 0 rfl rfl 2 (by decide) (htl _ wd_5_19) (fun _ h9 => h9) rfl dJx4a65c_get_915e3_2 ?_
  refine jk_Si (va_runS (As := [vi (k : Int), vi (n : Int)]) (rest := []) ⟨hx, hb, hml, hown, htl⟩ (m_J15_checkIndex_7cf53 l g (k : Int) (n : Int) (by omega) (by omega)) (va_cwS 2 htl lk_Jx4a65c_118 rfl rfl rfl cwS_J15_checkIndex_7cf53 ⟨Nat.le_of_ble_eq_true rfl, Nat.le_of_ble_eq_true rfl⟩) (jp_S hKK (va_S.rf (A := jN)) jNb trivial) rfl rfl hl.1 rfl (lv_room (Nat.le_of_ble_eq_true rfl)) dJx4a65c_get_915e3_5 ⟨Nat.le_of_ble_eq_true rfl, Nat.le_of_ble_eq_true rfl⟩) (fun z5 hz5 => ?_)
  subst hz5
  refine lv_pop hx hb dJx4a65c_get_915e3_8 rfl ?_
  refine lv_aload_n hx hb dJx4a65c_get_915e3_9 rfl (lv_at hl 0 rfl) ?_
  refine lv_iload_n hx hb dJx4a65c_get_915e3_10 rfl (lv_at hl 1 rfl) ?_
  refine jk_Sr (va_runV (As := [vi (k : Int)]) (rest := []) ⟨hx, hb, hml, hown, htl⟩ (m_Jx4a65c_elementData_915e3 l g a mc ea n cap f k q hk hn hc hq) (cwV 1 htl lk_Jx4a65c_123 rfl rfl rfl cwV_Jx4a65c_elementData_915e3 ⟨Nat.le_of_ble_eq_true rfl, Nat.le_of_ble_eq_true rfl⟩) (jp_V hKK (va_S.rf (A := jN)) jNb (va_recv hKK.k hP (ci := 11) (q0 := 0) rfl rfl) hP) rfl rfl hl.1 rfl (lv_room (Nat.le_of_ble_eq_true rfl)) dJx4a65c_get_915e3_11 ⟨Nat.le_of_ble_eq_true rfl, Nat.le_of_ble_eq_true rfl⟩) (fun z11 hz11 => ?_)
  subst hz11
  exact je_Sr hx hb hr hlk (rfl) dJx4a65c_get_915e3_14
theorem m_Lsize (l : Launch) (g : GT) (a : Nat) (xs : List Nat) (lw : va_W) (h : LW g a xs lw) : Met l yJx4a65c_size_8abf5 (ws_ yJx4a65c_size_8abf5 cJx4a65c_size_8abf5 1 (some .int)) (rmm 0 0 0) (jPc g [.ref a] (fun H => PP g lw H)) (jSi (fun z => z = (xs.length : Int))) 0 0 jN := by
  rcases h with ⟨rfl, mc, rfl⟩ | ⟨mc, ea, cap, f, rfl, -⟩
  · exact m_Jsize_E l g a mc
  · exact m_Jsize_F l g a mc ea cap xs.length f
theorem m_Lget (l : Launch) (g : GT) (a : Nat) (xs : List Nat) (lw : va_W) (h : LW g a xs lw) (k : Nat) (hk : k < xs.length) : Met l yJx4a65c_get_915e3 (ws_ yJx4a65c_get_915e3 cJx4a65c_get_915e3 2 (some (.object "java/lang/Object"))) (rmm 2 0 0) (jPc g [.ref a, vi (k : Int)] (fun H => PP g lw H)) (jSr (fun z => z = xs.getD k 0)) 0 0 jN := by
  rcases h with ⟨rfl, mc, rfl⟩ | ⟨mc, ea, cap, f, rfl, h1, h2, h3, h4⟩
  · exact absurd hk (Nat.not_lt_zero _)
  · exact m_Jget_F l g a mc ea xs.length cap f k (xs.getD k 0) hk h1 h3 (h4 k hk)
set_option maxHeartbeats 4000000 in
set_option maxRecDepth 100000 in
theorem m_J8_newLength_cabcc (l : Launch) (g : GT) (o a b : Int) (h0 : 0 ≤ o ∧ o < 1000) (h1 : 0 ≤ a ∧ a < 1000) (h2 : 0 ≤ b ∧ b < 1000) (h3 : 0 < o + max a b) : Met l yJ8_newLength_cabcc (ws_ yJ8_newLength_cabcc cJ8_newLength_cabcc 4 (some .int)) (rmm 0 0 0) (jPc g [vi o, vi a, vi b] (fun H => True)) (jSi (fun z => z = o + max a b)) 0 0 jN := by
  refine jb_M (by decide) (Nat.le_of_ble_eq_true rfl) ?_
  intro p e s m below meth cq hx hb hr hml hown htl hlk hnm hKK hpre ls hl
  have hown : s.vm.findClass RJ8 = some m.cls := hown
  have hl : lv_has ls 4 [(0, vi o), (1, vi a), (2, vi b)] := hl
  refine lv_iload_n hx hb dJ8_newLength_cabcc_0 rfl (lv_at hl 0 rfl) ?_
  refine lv_iload_n hx hb dJ8_newLength_cabcc_1 rfl (lv_at hl 1 rfl) ?_
  refine lv_iload_n hx hb dJ8_newLength_cabcc_2 rfl (lv_at hl 2 rfl) ?_
  refine jr_mmax hx hb (by rw [hml]; exact hl.1.symm) hown (htl _ wd_15_16) (htl _ wd_15_8) (htl _ wd_15_9) (htl _ wd_15_10) (Nat.le_of_ble_eq_true rfl) (Nat.le_of_ble_eq_true rfl) (Nat.le_of_ble_eq_true rfl) (Nat.le_of_ble_eq_true rfl) ⟨by omega, by omega⟩ ⟨by omega, by omega⟩ dJ8_newLength_cabcc_3 ?_
  refine jr_iadd hx hb dJ8_newLength_cabcc_6 ?_
  refine lv_istore_n (lv' := [(3, vi (o + (max a b))), (0, vi o), (1, vi a), (2, vi b)]) hx hb dJ8_newLength_cabcc_7 rfl hl (by decide) rfl (fun ls hl => ?_)
  refine jr_iconst hx hb dJ8_newLength_cabcc_8 ?_
  refine lv_iload_n hx hb dJ8_newLength_cabcc_9 rfl (lv_at hl 0 rfl) ?_
  refine jr_ge (tgt := 21) hx hb dJ8_newLength_cabcc_10 (by decide) ⟨by omega, by omega⟩ ⟨by omega, by omega⟩ (fun c10 => absurd c10 (by omega)) (fun c10 => ?_)
  refine lv_iload_n hx hb dJ8_newLength_cabcc_13 rfl (lv_at hl 0 rfl) ?_
  refine lv_ldc (v := jI 2147483639) hx hb hown (htl _ wd_15_17) dJ8_newLength_cabcc_14 ?_
  refine jr_gt (tgt := 21) hx hb dJ8_newLength_cabcc_16 (by decide) ⟨by omega, by omega⟩ ⟨by omega, by omega⟩ (fun c16 => absurd c16 (by omega)) (fun c16 => ?_)
  refine lv_iload_n hx hb dJ8_newLength_cabcc_19 rfl (lv_at hl 0 rfl) ?_
  exact je_Si hx hb hr hlk rfl (rfl) dJ8_newLength_cabcc_20
set_option maxHeartbeats 4000000 in
set_option maxRecDepth 100000 in
theorem m_J7_copyOf_6403c (l : Launch) (g : GT) (ea cap N sz : Nat) (f : Nat → Option Nat) (xs : List Nat) (hl9 : xs.length = cap) (hf : ∀ j, j < xs.length → f j = some (xs.getD j 0)) (hcN : cap ≤ N) (hN : N ≤ 88) : Met l yJ7_copyOf_6403c (ws_ yJ7_copyOf_6403c cJ7_copyOf_6403c 4 (some (.array (.object "java/lang/Object")))) (rmm 0 1 88) (jPc g [.ref ea, vi (N : Int), .ref (gM g)] (fun H => H.size = sz ∧ PP g [aO g ea cap f] H ∧ va_D (fun q => gb g ≤ q) [aO g ea cap f] ∧ EL g xs [ea] H)) (jQr (fun z H1 => PP g [aO g ea cap f, aO g z N (va_cpy f (fun _ => none) 0 0 cap)] H1 ∧ va_D (va_A [aO g ea cap f] sz) [aO g ea cap f, aO g z N (va_cpy f (fun _ => none) 0 0 cap)]) (va_A [aO g ea cap f] sz)) 1 88 (va_A [aO g ea cap f] sz) := by
  refine jb_M (by decide) (Nat.le_of_ble_eq_true rfl) ?_
  intro p e s m below meth cq hx hb hr hml hown htl hlk hnm hKK hpre ls hl
  have hown : s.vm.findClass RJ7 = some m.cls := hown
  have hl : lv_has ls 4 [(0, .ref ea), (1, vi (N : Int)), (2, .ref (gM g))] := hl
  obtain ⟨hsz, hP, hD0, hEL⟩ := hpre
  subst hsz
  have hD : va_D (va_A [aO g ea cap f] s.heap.size) [aO g ea cap f] := hD0.self
  have hAb : ∀ q, (va_A [aO g ea cap f] s.heap.size) q → gb g ≤ q := fun q h => h.elim (fun ⟨k, e, h⟩ => hD0.2 k _ h) (fun h => Nat.le_trans hKK.2.1 h)
  generalize hAe : va_A [aO g ea cap f] s.heap.size = A at *
  have hA : ∀ q, s.heap.size ≤ q → A q := fun q h => by rw [← hAe]; exact Or.inr h
  have hS : va_S A s.heap s.heap [] := va_S.rf
  suffices K : ∀ (H : Heap) (locs : List Loc), PP g [aO g ea cap f] H → va_D A [aO g ea cap f] → va_S A s.heap H locs → ∀ ls : Array Slot, lv_has ls 4 [(0, .ref ea), (1, vi (N : Int)), (2, .ref (gM g))] → W p l e (rmm 0 1 88) s m ([.ref ea, vi (N : Int), .ref (gM g)] : List Value).toArray below meth cq H locs 0 0 (MQ below (jQr (fun z H1 => PP g [aO g ea cap f, aO g z N (va_cpy f (fun _ => none) 0 0 cap)] H1 ∧ va_D (A) [aO g ea cap f, aO g z N (va_cpy f (fun _ => none) 0 0 cap)]) A) ([.ref ea, vi (N : Int), .ref (gM g)] : List Value).toArray s 1 88 A) (F0 m 0 ls []) from K _ _ hP hD hS _ hl
  clear hl; intro H locs hP hD hS ls hl
  have hnA := nA_of hAe
  refine lv_aload_n hx hb dJ7_copyOf_6403c_0 rfl (lv_at hl 2 rfl) ?_
  refine va_ldcM hx hb hown (htl _ wd_16_8) hKK.1.2.2.2.2.2.2.2.1 dJ7_copyOf_6403c_1 ?_
  refine lv_acmp_ne (rx := some (gM g)) (ry := some (gM g)) (tgt := 13) hx hb dJ7_copyOf_6403c_3 (by decide) (fun h => absurd rfl h) (fun _ => ?_)
  refine lv_iload_n hx hb dJ7_copyOf_6403c_6 rfl (lv_at hl 1 rfl) ?_
  refine jr_newq hx hb hown (htl _ wd_16_9) hKK.1.2.2.2.2.2.2.1 hKK.k hP hD hS hA N (rfl) (by omega) (Nat.le_of_ble_eq_true rfl) (show 0 + N ≤ 88 by omega) dJ7_copyOf_6403c_7 (fun q7 H hP hD hS => ?_)
  have hP : PP g [aO g ea cap f, aO g q7 N (fun _ => none)] H := hP
  have hD : va_D A [aO g ea cap f, aO g q7 N (fun _ => none)] := hD
  refine W.widen (k := 1) (n := 88) (by omega) (by omega) ?_
  refine lv_goto (tgt := 24) hx hb dJ7_copyOf_6403c_10 (by decide) ?_
  refine lv_astore_n (lv' := [(3, .ref q7), (0, .ref ea), (1, vi (N : Int)), (2, .ref (gM g))]) hx hb dJ7_copyOf_6403c_24 rfl hl (by decide) rfl (fun ls hl => ?_)
  refine lv_aload_n hx hb dJ7_copyOf_6403c_25 rfl (lv_at hl 1 rfl) ?_
  refine jr_iconst hx hb dJ7_copyOf_6403c_26 ?_
  refine lv_aload_n hx hb dJ7_copyOf_6403c_27 rfl (lv_at hl 0 rfl) ?_
  refine jr_iconst hx hb dJ7_copyOf_6403c_28 ?_
  refine lv_aload_n hx hb dJ7_copyOf_6403c_29 rfl (lv_at hl 1 rfl) ?_
  refine va_alen (v := jI (cap : Nat)) hx hb hKK.k hP 0 3 rfl rfl (jI_nI _) dJ7_copyOf_6403c_30 ?_
  refine lv_iload_n hx hb dJ7_copyOf_6403c_31 rfl (lv_at hl 2 rfl) ?_
  refine jr_mmin hx hb (by rw [hml]; exact hl.1.symm) hown (htl _ wd_16_10) (htl _ wd_16_11) (htl _ wd_15_9) (htl _ wd_16_12) (Nat.le_of_ble_eq_true rfl) (Nat.le_of_ble_eq_true rfl) (Nat.le_of_ble_eq_true rfl) (Nat.le_of_ble_eq_true rfl) ⟨by omega, by omega⟩ ⟨by omega, by omega⟩ dJ7_copyOf_6403c_32 ?_
  refine jr_nm (b := (cap : Int)) (by omega) ?_
  refine va_copyM hx hb (by rw [hml]; exact hl.1.symm) hown (htl _ wd_16_13) (htl _ wd_16_14) (htl _ wd_16_15) (htl _ wd_16_16) hKK.k hP hD hS 0 1 3 3 rfl rfl rfl rfl (by decide) (by decide) (by rw [jI_0, jI_lt ⟨by omega, by omega⟩ ⟨by omega, by omega⟩]; omega) (by rw [jI_cl (z := (cap : Int)) (by omega) (by omega), jI_cl (z := 0) (by omega) (by omega)]; omega) (by rw [jI_cl (z := (cap : Int)) (by omega) (by omega), jI_cl (z := 0) (by omega) (by omega)]; omega) ?_ (Nat.le_of_ble_eq_true rfl) (Nat.le_of_ble_eq_true rfl) dJ7_copyOf_6403c_35 ?_
  · intro i hi y hy
    rw [jI_cl (z := (cap : Int)) (by omega) (by omega), Int.toNat_natCast] at hi
    have hy2 : f i = some y := by rw [← hy]; show f i = f (0 + i); rw [Nat.zero_add]
    rw [hf i (by omega)] at hy2
    cases hy2
    exact hEL.any hKK hS hnA (by rw [List.getD_eq_getElem?_getD, List.getElem?_eq_getElem (by omega)]; exact List.getElem_mem _)
  intro H locs hP hD hS
  rw [jI_cl (z := (cap : Int)) (by omega) (by omega), jI_cl (z := 0) (by omega) (by omega), Int.toNat_natCast] at hP hD
  have hP : PP g [aO g ea cap f, aO g q7 N (va_cpy f (fun _ => none) 0 0 cap)] H := hP
  have hD : va_D A [aO g ea cap f, aO g q7 N (va_cpy f (fun _ => none) 0 0 cap)] := hD
  refine lv_aload_n hx hb dJ7_copyOf_6403c_38 rfl (lv_at hl 0 rfl) ?_
  exact je_QrA hx hb hr hlk hS (⟨hP, hD⟩) dJ7_copyOf_6403c_39
set_option maxHeartbeats 4000000 in
set_option maxRecDepth 100000 in
theorem m_J7_copyOf_1904c (l : Launch) (g : GT) (ea cap N sz : Nat) (f : Nat → Option Nat) (xs : List Nat) (hl9 : xs.length = cap) (hf : ∀ j, j < xs.length → f j = some (xs.getD j 0)) (hcN : cap ≤ N) (hN : N ≤ 88) : Met l yJ7_copyOf_1904c (ws_ yJ7_copyOf_1904c cJ7_copyOf_1904c 2 (some (.array (.object "java/lang/Object")))) (rmm 1 1 88) (jPc g [.ref ea, vi (N : Int)] (fun H => H.size = sz ∧ PP g [aO g ea cap f] H ∧ va_D (fun q => gb g ≤ q) [aO g ea cap f] ∧ EL g xs [ea] H)) (jQr (fun z H1 => PP g [aO g ea cap f, aO g z N (va_cpy f (fun _ => none) 0 0 cap)] H1 ∧ va_D (va_A [aO g ea cap f] sz) [aO g ea cap f, aO g z N (va_cpy f (fun _ => none) 0 0 cap)]) (va_A [aO g ea cap f] sz)) 1 88 (va_A [aO g ea cap f] sz) := by
  refine jb_M (by decide) (Nat.le_of_ble_eq_true rfl) ?_
  intro p e s m below meth cq hx hb hr hml hown htl hlk hnm hKK hpre ls hl
  have hown : s.vm.findClass RJ7 = some m.cls := hown
  have hl : lv_has ls 2 [(0, .ref ea), (1, vi (N : Int))] := hl
  obtain ⟨hsz, hP, hD0, hEL⟩ := hpre
  subst hsz
  have hD : va_D (va_A [aO g ea cap f] s.heap.size) [aO g ea cap f] := hD0.self
  have hAb : ∀ q, (va_A [aO g ea cap f] s.heap.size) q → gb g ≤ q := fun q h => h.elim (fun ⟨k, e, h⟩ => hD0.2 k _ h) (fun h => Nat.le_trans hKK.2.1 h)
  generalize hAe : va_A [aO g ea cap f] s.heap.size = A at *
  have hA : ∀ q, s.heap.size ≤ q → A q := fun q h => by rw [← hAe]; exact Or.inr h
  have hS : va_S A s.heap s.heap [] := va_S.rf
  suffices K : ∀ (H : Heap) (locs : List Loc), PP g [aO g ea cap f] H → va_D A [aO g ea cap f] → va_S A s.heap H locs → ∀ ls : Array Slot, lv_has ls 2 [(0, .ref ea), (1, vi (N : Int))] → W p l e (rmm 1 1 88) s m ([.ref ea, vi (N : Int)] : List Value).toArray below meth cq H locs 0 0 (MQ below (jQr (fun z H1 => PP g [aO g ea cap f, aO g z N (va_cpy f (fun _ => none) 0 0 cap)] H1 ∧ va_D (A) [aO g ea cap f, aO g z N (va_cpy f (fun _ => none) 0 0 cap)]) A) ([.ref ea, vi (N : Int)] : List Value).toArray s 1 88 A) (F0 m 0 ls []) from K _ _ hP hD hS _ hl
  clear hl; intro H locs hP hD hS ls hl
  have hnA := nA_of hAe
  refine lv_aload_n hx hb dJ7_copyOf_1904c_0 rfl (lv_at hl 0 rfl) ?_
  refine lv_iload_n hx hb dJ7_copyOf_1904c_1 rfl (lv_at hl 1 rfl) ?_
  refine lv_aload_n hx hb dJ7_copyOf_1904c_2 rfl (lv_at hl 0 rfl) ?_
  refine va_getC hx hb (by rw [hml]; exact hl.1.symm) hown (htl _ wd_16_1) hKK.1.2.2.2.2.2.2.2.2.1.use (htl _ wd_16_2) (htl _ wd_16_3) (htl _ wd_16_4) hKK.1.2.2.2.2.2.2.2.1 (jo_recv hKK.k hP 0 rfl) (Nat.le_of_ble_eq_true rfl) (Nat.le_of_ble_eq_true rfl) dJ7_copyOf_1904c_3 ?_
  have hDc : va_D A [aO g ea cap f] := hD.sub [0] (by decide) rfl
  have hFc := va_free (wc := [aO g ea cap f]) hD hS hA [0] rfl
  refine jk_Qr (va_runS (As := [.ref ea, vi (N : Int), .ref (gM g)]) (rest := []) ⟨hx, hb, hml, hown, htl⟩ (m_J7_copyOf_6403c l g ea cap N H.size f xs (by omega) hf (by omega) (by omega)) (va_cwS 3 htl lk_J7_300 rfl rfl rfl cwS_J7_copyOf_6403c ⟨Nat.le_of_ble_eq_true rfl, Nat.le_of_ble_eq_true rfl⟩) (jp_S hKK hS hAb ⟨rfl, hP, hDc.weaken (fun _ q _ h => hAb _ h), hEL.kept hS hnA (fun _ h => h) (fun _ h => by first | exact h | exact List.mem_cons_of_mem _ h)⟩) rfl rfl hl.1 rfl (lv_room (Nat.le_of_ble_eq_true rfl)) dJ7_copyOf_1904c_6 ⟨Nat.le_of_ble_eq_true rfl, Nat.le_of_ble_eq_true rfl⟩) hS (fun q _ h => hFc q h) hFc (fun z6 H1 locs hz6 hzs hks hS => ?_)
  obtain ⟨hP1, hD1⟩ := hz6
  obtain ⟨hP, hD⟩ := va_join (wr := []) (w1 := [aO g ea cap f, aO g z6 N (va_cpy f (fun _ => none) 0 0 cap)]) hP hD [0] [] rfl rfl (by decide) (by decide) hks hFc hP1 hD1
  clear hzs hks; generalize H1 = H at hP hD hS ⊢
  have hP : PP g [aO g ea cap f, aO g z6 N (va_cpy f (fun _ => none) 0 0 cap)] H := hP
  have hD : va_D A [aO g ea cap f, aO g z6 N (va_cpy f (fun _ => none) 0 0 cap)] := hD
  refine W.widen (k := 1) (n := 88) (by omega) (by omega) ?_
  exact je_QrA hx hb hr hlk hS (⟨hP, hD⟩) dJ7_copyOf_1904c_9
set_option maxHeartbeats 4000000 in
set_option maxRecDepth 100000 in
theorem m_Jx4a65c_grow_92f84_F (l : Launch) (g : GT) (a : Nat) (mc : Int) (ea n sz : Nat) (f : Nat → Option Nat) (xs : List Nat) (hn : xs.length = n) (h10 : 10 ≤ n) (h59 : n < 60) (hf : ∀ j, j < xs.length → f j = some (xs.getD j 0)) : Met l yJx4a65c_grow_92f84 (ws_ yJx4a65c_grow_92f84 cJx4a65c_grow_92f84 4 (some (.array (.object "java/lang/Object")))) (rmm 2 1 88) (jPc g [.ref a, vi ((n : Int) + 1)] (fun H => H.size = sz ∧ PP g [ob a 11 [vi mc, .ref ea, vi (n : Int)], aO g ea n f] H ∧ va_D (fun q => gb g ≤ q) [ob a 11 [vi mc, .ref ea, vi (n : Int)], aO g ea n f] ∧ EL g xs [a, ea] H)) (jQr (fun z H1 => PP g [ob a 11 [vi mc, .ref z, vi (n : Int)], aO g z (n + n / 2) (va_cpy f (fun _ => none) 0 0 n)] H1 ∧ va_D (va_A [ob a 11 [vi mc, .ref ea, vi (n : Int)], aO g ea n f] sz) [ob a 11 [vi mc, .ref z, vi (n : Int)], aO g z (n + n / 2) (va_cpy f (fun _ => none) 0 0 n)]) (va_A [ob a 11 [vi mc, .ref ea, vi (n : Int)], aO g ea n f] sz)) 1 88 (va_A [ob a 11 [vi mc, .ref ea, vi (n : Int)], aO g ea n f] sz) := by
  refine jb_M (by decide) (Nat.le_of_ble_eq_true rfl) ?_
  intro p e s m below meth cq hx hb hr hml hown htl hlk hnm hKK hpre ls hl
  have hown : s.vm.findClass RJx4a65c = some m.cls := hown
  have hl : lv_has ls 4 [(0, .ref a), (1, vi ((n : Int) + 1))] := hl
  obtain ⟨hsz, hP, hD0, hEL⟩ := hpre
  subst hsz
  have hD : va_D (va_A [ob a 11 [vi mc, .ref ea, vi (n : Int)], aO g ea n f] s.heap.size) [ob a 11 [vi mc, .ref ea, vi (n : Int)], aO g ea n f] := hD0.self
  have hAb : ∀ q, (va_A [ob a 11 [vi mc, .ref ea, vi (n : Int)], aO g ea n f] s.heap.size) q → gb g ≤ q := fun q h => h.elim (fun ⟨k, e, h⟩ => hD0.2 k _ h) (fun h => Nat.le_trans hKK.2.1 h)
  generalize hAe : va_A [ob a 11 [vi mc, .ref ea, vi (n : Int)], aO g ea n f] s.heap.size = A at *
  have hA : ∀ q, s.heap.size ≤ q → A q := fun q h => by rw [← hAe]; exact Or.inr h
  have hS : va_S A s.heap s.heap [] := va_S.rf
  suffices K : ∀ (H : Heap) (locs : List Loc), PP g [ob a 11 [vi mc, .ref ea, vi (n : Int)], aO g ea n f] H → va_D A [ob a 11 [vi mc, .ref ea, vi (n : Int)], aO g ea n f] → va_S A s.heap H locs → ∀ ls : Array Slot, lv_has ls 4 [(0, .ref a), (1, vi ((n : Int) + 1))] → W p l e (rmm 2 1 88) s m ([.ref a, vi ((n : Int) + 1)] : List Value).toArray below meth cq H locs 0 0 (MQ below (jQr (fun z H1 => PP g [ob a 11 [vi mc, .ref z, vi (n : Int)], aO g z (n + n / 2) (va_cpy f (fun _ => none) 0 0 n)] H1 ∧ va_D (A) [ob a 11 [vi mc, .ref z, vi (n : Int)], aO g z (n + n / 2) (va_cpy f (fun _ => none) 0 0 n)]) A) ([.ref a, vi ((n : Int) + 1)] : List Value).toArray s 1 88 A) (F0 m 0 ls []) from K _ _ hP hD hS _ hl
  clear hl; intro H locs hP hD hS ls hl
  have hnA := nA_of hAe
  refine lv_aload_n hx hb dJx4a65c_grow_92f84_0 rfl (lv_at hl 0 rfl) ?_
  refine va_get (D := gD g) (ci := 11) (v := .ref ea) (C := RJx4a65c) (T := TJx4a65c) (N := 3) hx hb htl ck_Jx4a65c hown hKK.k hP 0 rfl rfl 1 (by decide) (htl _ wd_4_8) (fun _ h9 => h9) rfl dJx4a65c_grow_92f84_1 ?_
  refine va_alen (v := jI (n : Nat)) hx hb hKK.k hP 1 3 rfl rfl (jI_nI _) dJx4a65c_grow_92f84_4 ?_
  refine lv_istore_n (lv' := [(2, vi ((n : Nat) : Int)), (0, .ref a), (1, vi ((n : Int) + 1))]) hx hb dJx4a65c_grow_92f84_5 rfl hl (by decide) rfl (fun ls hl => ?_)
  refine lv_iload_n hx hb dJx4a65c_grow_92f84_6 rfl (lv_at hl 0 rfl) ?_
  refine jr_ifgt (tgt := 20) hx hb dJx4a65c_grow_92f84_7 (by decide) ⟨by omega, by omega⟩ (fun c7 => ?_) (fun c7 => absurd c7 (by omega))
  refine lv_iload_n hx hb dJx4a65c_grow_92f84_20 rfl (lv_at hl 0 rfl) ?_
  refine lv_iload_n hx hb dJx4a65c_grow_92f84_21 rfl (lv_at hl 2 rfl) ?_
  refine lv_iload_n hx hb dJx4a65c_grow_92f84_22 rfl (lv_at hl 0 rfl) ?_
  refine jr_isub hx hb dJx4a65c_grow_92f84_23 ?_
  refine lv_iload_n hx hb dJx4a65c_grow_92f84_24 rfl (lv_at hl 0 rfl) ?_
  refine jr_iconst hx hb dJx4a65c_grow_92f84_25 ?_
  refine jr_ishr1 hx hb (a := n) (by omega) dJx4a65c_grow_92f84_26 ?_
  refine jk_Si (va_runS (As := [vi ((n : Nat) : Int), vi (((n : Int) + 1) - ((n : Nat) : Int)), vi ((n / 2 : Nat) : Int)]) (rest := []) ⟨hx, hb, hml, hown, htl⟩ (m_J8_newLength_cabcc l g ((n : Nat) : Int) (((n : Int) + 1) - ((n : Nat) : Int)) ((n / 2 : Nat) : Int) (by omega) (by omega) (by omega) (by omega)) (va_cwS 3 htl lk_Jx4a65c_73 rfl rfl rfl cwS_J8_newLength_cabcc ⟨Nat.le_of_ble_eq_true rfl, Nat.le_of_ble_eq_true rfl⟩) (jp_S hKK hS hAb trivial) rfl rfl hl.1 rfl (lv_room (Nat.le_of_ble_eq_true rfl)) dJx4a65c_grow_92f84_27 ⟨Nat.le_of_ble_eq_true rfl, Nat.le_of_ble_eq_true rfl⟩) (fun z27 hz27 => ?_)
  subst hz27
  refine lv_istore_n (lv' := [(3, vi (((n : Nat) : Int) + max (((n : Int) + 1) - ((n : Nat) : Int)) ((n / 2 : Nat) : Int))), (2, vi ((n : Nat) : Int)), (0, .ref a), (1, vi ((n : Int) + 1))]) hx hb dJx4a65c_grow_92f84_30 rfl hl (by decide) rfl (fun ls hl => ?_)
  refine lv_aload_n hx hb dJx4a65c_grow_92f84_31 rfl (lv_at hl 2 rfl) ?_
  refine lv_aload_n hx hb dJx4a65c_grow_92f84_32 rfl (lv_at hl 2 rfl) ?_
  refine va_get (D := gD g) (ci := 11) (v := .ref ea) (C := RJx4a65c) (T := TJx4a65c) (N := 3) hx hb htl ck_Jx4a65c hown hKK.k hP 0 rfl rfl 1 (by decide) (htl _ wd_4_8) (fun _ h9 => h9) rfl dJx4a65c_grow_92f84_33 ?_
  refine lv_iload_n hx hb dJx4a65c_grow_92f84_36 rfl (lv_at hl 0 rfl) ?_
  refine jr_nm (b := ((n + n / 2 : Nat) : Int)) (by omega) ?_
  have hDc : va_D A [aO g ea n f] := hD.sub [1] (by decide) rfl
  have hFc := va_free (wc := [aO g ea n f]) hD hS hA [1] rfl
  refine jk_Qr (va_runS (As := [.ref ea, vi ((n + n / 2 : Nat) : Int)]) (rest := [.ref a]) ⟨hx, hb, hml, hown, htl⟩ (m_J7_copyOf_1904c l g ea n (n + n / 2) H.size f xs (by omega) hf (by omega) (by omega)) (va_cwS 2 htl lk_Jx4a65c_66 rfl rfl rfl cwS_J7_copyOf_1904c ⟨Nat.le_of_ble_eq_true rfl, Nat.le_of_ble_eq_true rfl⟩) (jp_S hKK hS hAb ⟨rfl, (va_P.sub hP [1] rfl), hDc.weaken (fun _ q _ h => hAb _ h), hEL.kept hS hnA (fun _ h => h) (fun _ h => by first | exact h | exact List.mem_cons_of_mem _ h)⟩) rfl rfl hl.1 rfl (lv_room (Nat.le_of_ble_eq_true rfl)) dJx4a65c_grow_92f84_37 ⟨Nat.le_of_ble_eq_true rfl, Nat.le_of_ble_eq_true rfl⟩) hS (fun q _ h => hFc q h) hFc (fun z37 H1 locs hz37 hzs hks hS => ?_)
  obtain ⟨hP1, hD1⟩ := hz37
  obtain ⟨hP, hD⟩ := va_join (wr := [ob a 11 [vi mc, .ref ea, vi (n : Int)]]) (w1 := [aO g ea n f, aO g z37 (n + n / 2) (va_cpy f (fun _ => none) 0 0 n)]) hP hD [1] [0] rfl rfl (by decide) (by decide) hks hFc hP1 hD1
  clear hzs hks; generalize H1 = H at hP hD hS ⊢
  have hP : PP g [ob a 11 [vi mc, .ref ea, vi (n : Int)], aO g ea n f, aO g z37 (n + n / 2) (va_cpy f (fun _ => none) 0 0 n)] H := hP
  have hD : va_D A [ob a 11 [vi mc, .ref ea, vi (n : Int)], aO g ea n f, aO g z37 (n + n / 2) (va_cpy f (fun _ => none) 0 0 n)] := hD
  refine W.widen (k := 1) (n := 88) (by omega) (by omega) ?_
  refine lv_dup_x1 hx hb dJx4a65c_grow_92f84_40 rfl rfl ?_
  refine va_put (D := gD g) (ci := 11) (v := .ref z37) (ty := .array (.object "java/lang/Object")) (C := RJx4a65c) (T := TJx4a65c) (N := 3) hx hb htl ck_Jx4a65c tyJx4a65c tyJx4a65c_ok nmJx4a65c hown hKK.k hP hD hS 0 rfl rfl 1 (by decide) (htl _ wd_4_8) (fun _ h9 => h9) rfl (by decide +kernel) rfl rfl (Nat.le_of_ble_eq_true rfl) dJx4a65c_grow_92f84_41 (fun H locs hP hD hS => ?_)
  have hP : PP g [ob a 11 [vi mc, .ref z37, vi (n : Int)], aO g ea n f, aO g z37 (n + n / 2) (va_cpy f (fun _ => none) 0 0 n)] H := hP
  have hD : va_D A [ob a 11 [vi mc, .ref z37, vi (n : Int)], aO g ea n f, aO g z37 (n + n / 2) (va_cpy f (fun _ => none) 0 0 n)] := hD
  exact je_QrA hx hb hr hlk hS (⟨va_P.sub hP [0, 2] rfl, hD.sub [0, 2] (by decide) rfl⟩) dJx4a65c_grow_92f84_44
set_option maxHeartbeats 4000000 in
set_option maxRecDepth 100000 in
theorem m_Jx4a65c_grow_92f84_E (l : Launch) (g : GT) (a : Nat) (mc : Int) (sz : Nat) : Met l yJx4a65c_grow_92f84 (ws_ yJx4a65c_grow_92f84 cJx4a65c_grow_92f84 4 (some (.array (.object "java/lang/Object")))) (rmm 2 1 88) (jPc g [.ref a, vi 1] (fun H => H.size = sz ∧ PP g [ob a 11 [vi mc, .ref (gE g), vi 0]] H ∧ va_D (fun q => gb g ≤ q) [ob a 11 [vi mc, .ref (gE g), vi 0]])) (jQr (fun z H1 => PP g [ob a 11 [vi mc, .ref z, vi 0], aO g z 10 (fun _ => none)] H1 ∧ va_D (va_A [ob a 11 [vi mc, .ref (gE g), vi 0]] sz) [ob a 11 [vi mc, .ref z, vi 0], aO g z 10 (fun _ => none)]) (va_A [ob a 11 [vi mc, .ref (gE g), vi 0]] sz)) 1 88 (va_A [ob a 11 [vi mc, .ref (gE g), vi 0]] sz) := by
  refine jb_M (by decide) (Nat.le_of_ble_eq_true rfl) ?_
  intro p e s m below meth cq hx hb hr hml hown htl hlk hnm hKK hpre ls hl
  have hown : s.vm.findClass RJx4a65c = some m.cls := hown
  have hl : lv_has ls 4 [(0, .ref a), (1, vi 1)] := hl
  obtain ⟨hsz, hP, hD0⟩ := hpre
  subst hsz
  have hD : va_D (va_A [ob a 11 [vi mc, .ref (gE g), vi 0]] s.heap.size) [ob a 11 [vi mc, .ref (gE g), vi 0]] := hD0.self
  have hAb : ∀ q, (va_A [ob a 11 [vi mc, .ref (gE g), vi 0]] s.heap.size) q → gb g ≤ q := fun q h => h.elim (fun ⟨k, e, h⟩ => hD0.2 k _ h) (fun h => Nat.le_trans hKK.2.1 h)
  generalize hAe : va_A [ob a 11 [vi mc, .ref (gE g), vi 0]] s.heap.size = A at *
  have hA : ∀ q, s.heap.size ≤ q → A q := fun q h => by rw [← hAe]; exact Or.inr h
  have hS : va_S A s.heap s.heap [] := va_S.rf
  suffices K : ∀ (H : Heap) (locs : List Loc), PP g [ob a 11 [vi mc, .ref (gE g), vi 0]] H → va_D A [ob a 11 [vi mc, .ref (gE g), vi 0]] → va_S A s.heap H locs → ∀ ls : Array Slot, lv_has ls 4 [(0, .ref a), (1, vi 1)] → W p l e (rmm 2 1 88) s m ([.ref a, vi 1] : List Value).toArray below meth cq H locs 0 0 (MQ below (jQr (fun z H1 => PP g [ob a 11 [vi mc, .ref z, vi 0], aO g z 10 (fun _ => none)] H1 ∧ va_D (A) [ob a 11 [vi mc, .ref z, vi 0], aO g z 10 (fun _ => none)]) A) ([.ref a, vi 1] : List Value).toArray s 1 88 A) (F0 m 0 ls []) from K _ _ hP hD hS _ hl
  clear hl; intro H locs hP hD hS ls hl
  refine lv_aload_n hx hb dJx4a65c_grow_92f84_0 rfl (lv_at hl 0 rfl) ?_
  refine va_get (D := gD g) (ci := 11) (v := .ref (gE g)) (C := RJx4a65c) (T := TJx4a65c) (N := 3) hx hb htl ck_Jx4a65c hown hKK.k hP 0 rfl rfl 1 (by decide) (htl _ wd_4_8) (fun _ h9 => h9) rfl dJx4a65c_grow_92f84_1 ?_
  refine va_tlen (v := jI 0) hx hb (hKK.2.2.2.2.2.narrow hAb) hS rfl dJx4a65c_grow_92f84_4 ?_
  refine lv_istore_n (lv' := [(2, vi 0), (0, .ref a), (1, vi 1)]) hx hb dJx4a65c_grow_92f84_5 rfl hl (by decide) rfl (fun ls hl => ?_)
  refine lv_iload_n hx hb dJx4a65c_grow_92f84_6 rfl (lv_at hl 0 rfl) ?_
  refine jr_ifgt (tgt := 20) hx hb dJx4a65c_grow_92f84_7 (by decide) ⟨by omega, by omega⟩ (fun c7 => absurd c7 (by omega)) (fun c7 => ?_)
  refine lv_aload_n hx hb dJx4a65c_grow_92f84_10 rfl (lv_at hl 1 rfl) ?_
  refine va_get (D := gD g) (ci := 11) (v := .ref (gE g)) (C := RJx4a65c) (T := TJx4a65c) (N := 3) hx hb htl ck_Jx4a65c hown hKK.k hP 0 rfl rfl 1 (by decide) (htl _ wd_4_8) (fun _ h9 => h9) rfl dJx4a65c_grow_92f84_11 ?_
  refine va_gets hx hb (hKK.2.2.2.2.1.narrow hAb) hS hown (htl _ wd_4_7) (fun _ h9 => h9) dJx4a65c_grow_92f84_14 ?_
  refine lv_acmp_eq (rx := some (gE g)) (ry := some (gE g)) (tgt := 45) hx hb dJx4a65c_grow_92f84_17 (by decide) (fun _ => ?_) (fun h => absurd rfl h)
  refine lv_aload_n hx hb dJx4a65c_grow_92f84_45 rfl (lv_at hl 1 rfl) ?_
  refine jr_bipush hx hb dJx4a65c_grow_92f84_46 (by decide) ?_
  refine lv_iload_n hx hb dJx4a65c_grow_92f84_48 rfl (lv_at hl 2 rfl) ?_
  refine jr_mmax hx hb (by rw [hml]; exact hl.1.symm) hown (htl _ wd_15_7) (htl _ wd_15_8) (htl _ wd_15_9) (htl _ wd_15_10) (Nat.le_of_ble_eq_true rfl) (Nat.le_of_ble_eq_true rfl) (Nat.le_of_ble_eq_true rfl) (Nat.le_of_ble_eq_true rfl) ⟨by omega, by omega⟩ ⟨by omega, by omega⟩ dJx4a65c_grow_92f84_49 ?_
  refine jr_nm (b := 10) (by omega) ?_
  refine jr_newq hx hb hown (htl _ wd_15_11) hKK.1.2.2.2.2.2.2.1 hKK.k hP hD hS hA 10 (rfl) (by omega) (Nat.le_of_ble_eq_true rfl) (show 0 + 10 ≤ 88 by omega) dJx4a65c_grow_92f84_52 (fun q52 H hP hD hS => ?_)
  have hP : PP g [ob a 11 [vi mc, .ref (gE g), vi 0], aO g q52 10 (fun _ => none)] H := hP
  have hD : va_D A [ob a 11 [vi mc, .ref (gE g), vi 0], aO g q52 10 (fun _ => none)] := hD
  refine W.widen (k := 1) (n := 10) (by omega) (by omega) ?_
  refine lv_dup_x1 hx hb dJx4a65c_grow_92f84_55 rfl rfl ?_
  refine va_put (D := gD g) (ci := 11) (v := .ref q52) (ty := .array (.object "java/lang/Object")) (C := RJx4a65c) (T := TJx4a65c) (N := 3) hx hb htl ck_Jx4a65c tyJx4a65c tyJx4a65c_ok nmJx4a65c hown hKK.k hP hD hS 0 rfl rfl 1 (by decide) (htl _ wd_4_8) (fun _ h9 => h9) rfl (by decide +kernel) rfl rfl (Nat.le_of_ble_eq_true rfl) dJx4a65c_grow_92f84_56 (fun H locs hP hD hS => ?_)
  have hP : PP g [ob a 11 [vi mc, .ref q52, vi 0], aO g q52 10 (fun _ => none)] H := hP
  have hD : va_D A [ob a 11 [vi mc, .ref q52, vi 0], aO g q52 10 (fun _ => none)] := hD
  refine W.widen (k := 1) (n := 88) (by omega) (by omega) ?_
  exact je_QrA hx hb hr hlk hS (⟨va_P.sub hP [0, 1] rfl, hD.sub [0, 1] (by decide) rfl⟩) dJx4a65c_grow_92f84_59
set_option maxHeartbeats 4000000 in
set_option maxRecDepth 100000 in
theorem m_Jx4a65c_grow_d5877_F (l : Launch) (g : GT) (a : Nat) (mc : Int) (ea n sz : Nat) (f : Nat → Option Nat) (xs : List Nat) (hn : xs.length = n) (h10 : 10 ≤ n) (h59 : n < 60) (hf : ∀ j, j < xs.length → f j = some (xs.getD j 0)) : Met l yJx4a65c_grow_d5877 (ws_ yJx4a65c_grow_d5877 cJx4a65c_grow_d5877 1 (some (.array (.object "java/lang/Object")))) (rmm 3 1 88) (jPc g [.ref a] (fun H => H.size = sz ∧ PP g [ob a 11 [vi mc, .ref ea, vi (n : Int)], aO g ea n f] H ∧ va_D (fun q => gb g ≤ q) [ob a 11 [vi mc, .ref ea, vi (n : Int)], aO g ea n f] ∧ EL g xs [a, ea] H)) (jQr (fun z H1 => PP g [ob a 11 [vi mc, .ref z, vi (n : Int)], aO g z (n + n / 2) (va_cpy f (fun _ => none) 0 0 n)] H1 ∧ va_D (va_A [ob a 11 [vi mc, .ref ea, vi (n : Int)], aO g ea n f] sz) [ob a 11 [vi mc, .ref z, vi (n : Int)], aO g z (n + n / 2) (va_cpy f (fun _ => none) 0 0 n)]) (va_A [ob a 11 [vi mc, .ref ea, vi (n : Int)], aO g ea n f] sz)) 1 88 (va_A [ob a 11 [vi mc, .ref ea, vi (n : Int)], aO g ea n f] sz) := by
  refine jb_M (by decide) (Nat.le_of_ble_eq_true rfl) ?_
  intro p e s m below meth cq hx hb hr hml hown htl hlk hnm hKK hpre ls hl
  have hown : s.vm.findClass RJx4a65c = some m.cls := hown
  have hl : lv_has ls 1 [(0, .ref a)] := hl
  obtain ⟨hsz, hP, hD0, hEL⟩ := hpre
  subst hsz
  have hD : va_D (va_A [ob a 11 [vi mc, .ref ea, vi (n : Int)], aO g ea n f] s.heap.size) [ob a 11 [vi mc, .ref ea, vi (n : Int)], aO g ea n f] := hD0.self
  have hAb : ∀ q, (va_A [ob a 11 [vi mc, .ref ea, vi (n : Int)], aO g ea n f] s.heap.size) q → gb g ≤ q := fun q h => h.elim (fun ⟨k, e, h⟩ => hD0.2 k _ h) (fun h => Nat.le_trans hKK.2.1 h)
  generalize hAe : va_A [ob a 11 [vi mc, .ref ea, vi (n : Int)], aO g ea n f] s.heap.size = A at *
  have hA : ∀ q, s.heap.size ≤ q → A q := fun q h => by rw [← hAe]; exact Or.inr h
  have hS : va_S A s.heap s.heap [] := va_S.rf
  suffices K : ∀ (H : Heap) (locs : List Loc), PP g [ob a 11 [vi mc, .ref ea, vi (n : Int)], aO g ea n f] H → va_D A [ob a 11 [vi mc, .ref ea, vi (n : Int)], aO g ea n f] → va_S A s.heap H locs → ∀ ls : Array Slot, lv_has ls 1 [(0, .ref a)] → W p l e (rmm 3 1 88) s m ([.ref a] : List Value).toArray below meth cq H locs 0 0 (MQ below (jQr (fun z H1 => PP g [ob a 11 [vi mc, .ref z, vi (n : Int)], aO g z (n + n / 2) (va_cpy f (fun _ => none) 0 0 n)] H1 ∧ va_D (A) [ob a 11 [vi mc, .ref z, vi (n : Int)], aO g z (n + n / 2) (va_cpy f (fun _ => none) 0 0 n)]) A) ([.ref a] : List Value).toArray s 1 88 A) (F0 m 0 ls []) from K _ _ hP hD hS _ hl
  clear hl; intro H locs hP hD hS ls hl
  have hnA := nA_of hAe
  refine lv_aload_n hx hb dJx4a65c_grow_d5877_0 rfl (lv_at hl 0 rfl) ?_
  refine lv_aload_n hx hb dJx4a65c_grow_d5877_1 rfl (lv_at hl 0 rfl) ?_
  refine va_get (D := gD g) (ci := 11) (v := vi (n : Int)) (C := RJx4a65c) (T := TJx4a65c) (N := 3) hx hb htl ck_Jx4a65c hown hKK.k hP 0 rfl rfl 2 (by decide) (htl _ wd_5_19) (fun _ h9 => h9) rfl dJx4a65c_grow_d5877_2 ?_
  refine jr_iconst hx hb dJx4a65c_grow_d5877_5 ?_
  refine jr_iadd hx hb dJx4a65c_grow_d5877_6 ?_
  have hDc : va_D A [ob a 11 [vi mc, .ref ea, vi (n : Int)], aO g ea n f] := hD.sub [0, 1] (by decide) rfl
  have hFc := va_free (wc := [ob a 11 [vi mc, .ref ea, vi (n : Int)], aO g ea n f]) hD hS hA [0, 1] rfl
  refine jk_Qr (va_runV (As := [vi ((n : Int) + 1)]) (rest := []) ⟨hx, hb, hml, hown, htl⟩ (m_Jx4a65c_grow_92f84_F l g a mc ea n H.size f xs hn h10 h59 hf) (cwV 1 htl lk_Jx4a65c_69 rfl rfl rfl cwV_Jx4a65c_grow_92f84 ⟨Nat.le_of_ble_eq_true rfl, Nat.le_of_ble_eq_true rfl⟩) (jp_V hKK hS hAb (va_recv hKK.k hP (ci := 11) (q0 := 0) rfl rfl) ⟨rfl, hP, hDc.weaken (fun _ q _ h => hAb _ h), hEL.kept hS hnA (fun _ h => by first | exact h | exact List.mem_cons_of_mem _ h) (fun _ h => by first | exact h | exact List.mem_cons_of_mem _ h)⟩) rfl rfl hl.1 rfl (lv_room (Nat.le_of_ble_eq_true rfl)) dJx4a65c_grow_d5877_7 ⟨Nat.le_of_ble_eq_true rfl, Nat.le_of_ble_eq_true rfl⟩) hS (fun q _ h => hFc q h) hFc (fun z7 H1 locs hz7 hzs hks hS => ?_)
  obtain ⟨hP1, hD1⟩ := hz7
  obtain ⟨hP, hD⟩ := va_join (wr := []) (w1 := [ob a 11 [vi mc, .ref z7, vi (n : Int)], aO g z7 (n + n / 2) (va_cpy f (fun _ => none) 0 0 n)]) hP hD [0, 1] [] rfl rfl (by decide) (by decide) hks hFc hP1 hD1
  clear hzs hks; generalize H1 = H at hP hD hS ⊢
  have hP : PP g [ob a 11 [vi mc, .ref z7, vi (n : Int)], aO g z7 (n + n / 2) (va_cpy f (fun _ => none) 0 0 n)] H := hP
  have hD : va_D A [ob a 11 [vi mc, .ref z7, vi (n : Int)], aO g z7 (n + n / 2) (va_cpy f (fun _ => none) 0 0 n)] := hD
  refine W.widen (k := 1) (n := 88) (by omega) (by omega) ?_
  exact je_QrA hx hb hr hlk hS (⟨va_P.sub hP [0, 1] rfl, hD.sub [0, 1] (by decide) rfl⟩) dJx4a65c_grow_d5877_10
set_option maxHeartbeats 4000000 in
set_option maxRecDepth 100000 in
theorem m_Jx4a65c_grow_d5877_E (l : Launch) (g : GT) (a : Nat) (mc : Int) (sz : Nat) : Met l yJx4a65c_grow_d5877 (ws_ yJx4a65c_grow_d5877 cJx4a65c_grow_d5877 1 (some (.array (.object "java/lang/Object")))) (rmm 3 1 88) (jPc g [.ref a] (fun H => H.size = sz ∧ PP g [ob a 11 [vi mc, .ref (gE g), vi 0]] H ∧ va_D (fun q => gb g ≤ q) [ob a 11 [vi mc, .ref (gE g), vi 0]])) (jQr (fun z H1 => PP g [ob a 11 [vi mc, .ref z, vi 0], aO g z 10 (fun _ => none)] H1 ∧ va_D (va_A [ob a 11 [vi mc, .ref (gE g), vi 0]] sz) [ob a 11 [vi mc, .ref z, vi 0], aO g z 10 (fun _ => none)]) (va_A [ob a 11 [vi mc, .ref (gE g), vi 0]] sz)) 1 88 (va_A [ob a 11 [vi mc, .ref (gE g), vi 0]] sz) := by
  refine jb_M (by decide) (Nat.le_of_ble_eq_true rfl) ?_
  intro p e s m below meth cq hx hb hr hml hown htl hlk hnm hKK hpre ls hl
  have hown : s.vm.findClass RJx4a65c = some m.cls := hown
  have hl : lv_has ls 1 [(0, .ref a)] := hl
  obtain ⟨hsz, hP, hD0⟩ := hpre
  subst hsz
  have hD : va_D (va_A [ob a 11 [vi mc, .ref (gE g), vi 0]] s.heap.size) [ob a 11 [vi mc, .ref (gE g), vi 0]] := hD0.self
  have hAb : ∀ q, (va_A [ob a 11 [vi mc, .ref (gE g), vi 0]] s.heap.size) q → gb g ≤ q := fun q h => h.elim (fun ⟨k, e, h⟩ => hD0.2 k _ h) (fun h => Nat.le_trans hKK.2.1 h)
  generalize hAe : va_A [ob a 11 [vi mc, .ref (gE g), vi 0]] s.heap.size = A at *
  have hA : ∀ q, s.heap.size ≤ q → A q := fun q h => by rw [← hAe]; exact Or.inr h
  have hS : va_S A s.heap s.heap [] := va_S.rf
  suffices K : ∀ (H : Heap) (locs : List Loc), PP g [ob a 11 [vi mc, .ref (gE g), vi 0]] H → va_D A [ob a 11 [vi mc, .ref (gE g), vi 0]] → va_S A s.heap H locs → ∀ ls : Array Slot, lv_has ls 1 [(0, .ref a)] → W p l e (rmm 3 1 88) s m ([.ref a] : List Value).toArray below meth cq H locs 0 0 (MQ below (jQr (fun z H1 => PP g [ob a 11 [vi mc, .ref z, vi 0], aO g z 10 (fun _ => none)] H1 ∧ va_D (A) [ob a 11 [vi mc, .ref z, vi 0], aO g z 10 (fun _ => none)]) A) ([.ref a] : List Value).toArray s 1 88 A) (F0 m 0 ls []) from K _ _ hP hD hS _ hl
  clear hl; intro H locs hP hD hS ls hl
  refine lv_aload_n hx hb dJx4a65c_grow_d5877_0 rfl (lv_at hl 0 rfl) ?_
  refine lv_aload_n hx hb dJx4a65c_grow_d5877_1 rfl (lv_at hl 0 rfl) ?_
  refine va_get (D := gD g) (ci := 11) (v := vi 0) (C := RJx4a65c) (T := TJx4a65c) (N := 3) hx hb htl ck_Jx4a65c hown hKK.k hP 0 rfl rfl 2 (by decide) (htl _ wd_5_19) (fun _ h9 => h9) rfl dJx4a65c_grow_d5877_2 ?_
  refine jr_iconst hx hb dJx4a65c_grow_d5877_5 ?_
  refine jr_iadd hx hb dJx4a65c_grow_d5877_6 ?_
  have hDc : va_D A [ob a 11 [vi mc, .ref (gE g), vi 0]] := hD.sub [0] (by decide) rfl
  have hFc := va_free (wc := [ob a 11 [vi mc, .ref (gE g), vi 0]]) hD hS hA [0] rfl
  refine jk_Qr (va_runV (As := [vi (0 + 1)]) (rest := []) ⟨hx, hb, hml, hown, htl⟩ (m_Jx4a65c_grow_92f84_E l g a mc H.size) (cwV 1 htl lk_Jx4a65c_69 rfl rfl rfl cwV_Jx4a65c_grow_92f84 ⟨Nat.le_of_ble_eq_true rfl, Nat.le_of_ble_eq_true rfl⟩) (jp_V hKK hS hAb (va_recv hKK.k hP (ci := 11) (q0 := 0) rfl rfl) ⟨rfl, hP, hDc.weaken (fun _ q _ h => hAb _ h)⟩) rfl rfl hl.1 rfl (lv_room (Nat.le_of_ble_eq_true rfl)) dJx4a65c_grow_d5877_7 ⟨Nat.le_of_ble_eq_true rfl, Nat.le_of_ble_eq_true rfl⟩) hS (fun q _ h => hFc q h) hFc (fun z7 H1 locs hz7 hzs hks hS => ?_)
  obtain ⟨hP1, hD1⟩ := hz7
  obtain ⟨hP, hD⟩ := va_join (wr := []) (w1 := [ob a 11 [vi mc, .ref z7, vi 0], aO g z7 10 (fun _ => none)]) hP hD [0] [] rfl rfl (by decide) (by decide) hks hFc hP1 hD1
  clear hzs hks; generalize H1 = H at hP hD hS ⊢
  have hP : PP g [ob a 11 [vi mc, .ref z7, vi 0], aO g z7 10 (fun _ => none)] H := hP
  have hD : va_D A [ob a 11 [vi mc, .ref z7, vi 0], aO g z7 10 (fun _ => none)] := hD
  refine W.widen (k := 1) (n := 88) (by omega) (by omega) ?_
  exact je_QrA hx hb hr hlk hS (⟨va_P.sub hP [0, 1] rfl, hD.sub [0, 1] (by decide) rfl⟩) dJx4a65c_grow_d5877_10
set_option maxHeartbeats 4000000 in
set_option maxRecDepth 100000 in
theorem m_Jx4a65c_add_72be8_E (l : Launch) (g : GT) (a : Nat) (mc : Int) (q sz : Nat) : Met l yJx4a65c_add_72be8 (ws_ yJx4a65c_add_72be8 cJx4a65c_add_72be8 4 none) (rmm 4 1 88) (jPc g [.ref a, .ref q, .ref (gE g), vi 0] (fun H => H.size = sz ∧ PP g [ob a 11 [vi mc, .ref (gE g), vi 0]] H ∧ va_D (fun q => gb g ≤ q) [ob a 11 [vi mc, .ref (gE g), vi 0]] ∧ EL g [q] [a] H)) (jQv (fun H1 => ∃ lw : va_W, LW g a ([] ++ [q]) lw ∧ PP g lw H1 ∧ va_D (va_A [ob a 11 [vi mc, .ref (gE g), vi 0]] sz) lw) (va_A [ob a 11 [vi mc, .ref (gE g), vi 0]] sz)) 1 88 (va_A [ob a 11 [vi mc, .ref (gE g), vi 0]] sz) := by
  refine jb_M (by decide) (Nat.le_of_ble_eq_true rfl) ?_
  intro p e s m below meth cq hx hb hr hml hown htl hlk hnm hKK hpre ls hl
  have hown : s.vm.findClass RJx4a65c = some m.cls := hown
  have hl : lv_has ls 4 [(0, .ref a), (1, .ref q), (2, .ref (gE g)), (3, vi 0)] := hl
  obtain ⟨hsz, hP, hD0, hEL⟩ := hpre
  subst hsz
  have hD : va_D (va_A [ob a 11 [vi mc, .ref (gE g), vi 0]] s.heap.size) [ob a 11 [vi mc, .ref (gE g), vi 0]] := hD0.self
  have hAb : ∀ q, (va_A [ob a 11 [vi mc, .ref (gE g), vi 0]] s.heap.size) q → gb g ≤ q := fun q h => h.elim (fun ⟨k, e, h⟩ => hD0.2 k _ h) (fun h => Nat.le_trans hKK.2.1 h)
  generalize hAe : va_A [ob a 11 [vi mc, .ref (gE g), vi 0]] s.heap.size = A at *
  have hA : ∀ q, s.heap.size ≤ q → A q := fun q h => by rw [← hAe]; exact Or.inr h
  have hS : va_S A s.heap s.heap [] := va_S.rf
  suffices K : ∀ (H : Heap) (locs : List Loc), PP g [ob a 11 [vi mc, .ref (gE g), vi 0]] H → va_D A [ob a 11 [vi mc, .ref (gE g), vi 0]] → va_S A s.heap H locs → ∀ ls : Array Slot, lv_has ls 4 [(0, .ref a), (1, .ref q), (2, .ref (gE g)), (3, vi 0)] → W p l e (rmm 4 1 88) s m ([.ref a, .ref q, .ref (gE g), vi 0] : List Value).toArray below meth cq H locs 0 0 (MQ below (jQv (fun H1 => ∃ lw : va_W, LW g a ([] ++ [q]) lw ∧ PP g lw H1 ∧ va_D (A) lw) A) ([.ref a, .ref q, .ref (gE g), vi 0] : List Value).toArray s 1 88 A) (F0 m 0 ls []) from K _ _ hP hD hS _ hl
  clear hl; intro H locs hP hD hS ls hl
  have hnA := nA_of hAe
  refine lv_iload_n hx hb dJx4a65c_add_72be8_0 rfl (lv_at hl 3 rfl) ?_
  refine lv_aload_n hx hb dJx4a65c_add_72be8_1 rfl (lv_at hl 2 rfl) ?_
  refine va_tlen (v := jI 0) hx hb (hKK.2.2.2.2.2.narrow hAb) hS rfl dJx4a65c_add_72be8_2 ?_
  refine jr_ne (tgt := 11) hx hb dJx4a65c_add_72be8_3 (by decide) ⟨by omega, by omega⟩ ⟨by omega, by omega⟩ (fun c3 => absurd c3 (by omega)) (fun c3 => ?_)
  refine lv_aload_n hx hb dJx4a65c_add_72be8_6 rfl (lv_at hl 0 rfl) ?_
  have hDc : va_D A [ob a 11 [vi mc, .ref (gE g), vi 0]] := hD.sub [0] (by decide) rfl
  have hFc := va_free (wc := [ob a 11 [vi mc, .ref (gE g), vi 0]]) hD hS hA [0] rfl
  refine jk_Qr (va_runV (As := []) (rest := []) ⟨hx, hb, hml, hown, htl⟩ (m_Jx4a65c_grow_d5877_E l g a mc H.size) (cwV 0 htl lk_Jx4a65c_129 rfl rfl rfl cwV_Jx4a65c_grow_d5877 ⟨Nat.le_of_ble_eq_true rfl, Nat.le_of_ble_eq_true rfl⟩) (jp_V hKK hS hAb (va_recv hKK.k hP (ci := 11) (q0 := 0) rfl rfl) ⟨rfl, hP, hDc.weaken (fun _ q _ h => hAb _ h)⟩) rfl rfl hl.1 rfl (lv_room (Nat.le_of_ble_eq_true rfl)) dJx4a65c_add_72be8_7 ⟨Nat.le_of_ble_eq_true rfl, Nat.le_of_ble_eq_true rfl⟩) hS (fun q _ h => hFc q h) hFc (fun z7 H1 locs hz7 hzs hks hS => ?_)
  obtain ⟨hP1, hD1⟩ := hz7
  obtain ⟨hP, hD⟩ := va_join (wr := []) (w1 := [ob a 11 [vi mc, .ref z7, vi 0], aO g z7 10 (fun _ => none)]) hP hD [0] [] rfl rfl (by decide) (by decide) hks hFc hP1 hD1
  clear hzs hks; generalize H1 = H at hP hD hS ⊢
  have hP : PP g [ob a 11 [vi mc, .ref z7, vi 0], aO g z7 10 (fun _ => none)] H := hP
  have hD : va_D A [ob a 11 [vi mc, .ref z7, vi 0], aO g z7 10 (fun _ => none)] := hD
  refine W.widen (k := 1) (n := 88) (by omega) (by omega) ?_
  refine lv_astore_n (lv' := [(2, .ref z7), (0, .ref a), (1, .ref q), (3, vi 0)]) hx hb dJx4a65c_add_72be8_10 rfl hl (by decide) rfl (fun ls hl => ?_)
  refine lv_aload_n hx hb dJx4a65c_add_72be8_11 rfl (lv_at hl 0 rfl) ?_
  refine lv_iload_n hx hb dJx4a65c_add_72be8_12 rfl (lv_at hl 3 rfl) ?_
  refine lv_aload_n hx hb dJx4a65c_add_72be8_13 rfl (lv_at hl 2 rfl) ?_
  refine jr_aast hx hb hKK.k hP hD hS 1 rfl (hEL.any hKK hS hnA List.mem_cons_self) 0 rfl (by omega) (by omega) dJx4a65c_add_72be8_14 (fun H locs hP hD hS => ?_)
  have hP : PP g [ob a 11 [vi mc, .ref z7, vi 0], aO g z7 10 (va_up (fun _ => none) 0 (some q))] H := hP
  have hD : va_D A [ob a 11 [vi mc, .ref z7, vi 0], aO g z7 10 (va_up (fun _ => none) 0 (some q))] := hD
  refine lv_aload_n hx hb dJx4a65c_add_72be8_15 rfl (lv_at hl 1 rfl) ?_
  refine lv_iload_n hx hb dJx4a65c_add_72be8_16 rfl (lv_at hl 3 rfl) ?_
  refine jr_iconst hx hb dJx4a65c_add_72be8_17 ?_
  refine jr_iadd hx hb dJx4a65c_add_72be8_18 ?_
  refine va_put (D := gD g) (ci := 11) (v := vi (0 + 1)) (ty := .int) (C := RJx4a65c) (T := TJx4a65c) (N := 3) hx hb htl ck_Jx4a65c tyJx4a65c tyJx4a65c_ok nmJx4a65c hown hKK.k hP hD hS 0 rfl rfl 2 (by decide) (htl _ wd_5_19) (fun _ h9 => h9) rfl (by decide +kernel) rfl rfl (Nat.le_of_ble_eq_true rfl) dJx4a65c_add_72be8_19 (fun H locs hP hD hS => ?_)
  have hP : PP g [ob a 11 [vi mc, .ref z7, vi (0 + 1)], aO g z7 10 (va_up (fun _ => none) 0 (some q))] H := hP
  have hD : va_D A [ob a 11 [vi mc, .ref z7, vi (0 + 1)], aO g z7 10 (va_up (fun _ => none) 0 (some q))] := hD
  exact je_Qv hx hb hr hlk hS (⟨_, LW.push (l := []) (by decide) (by decide) (by decide) (fun _ h => absurd h (Nat.not_lt_zero _)) rfl, va_P.sub hP [0, 1] rfl, hD.sub [0, 1] (by decide) rfl⟩) dJx4a65c_add_72be8_22
set_option maxHeartbeats 4000000 in
set_option maxRecDepth 100000 in
theorem m_Jx4a65c_add_72be8_N (l : Launch) (g : GT) (a : Nat) (mc : Int) (ea cap n q sz : Nat) (f : Nat → Option Nat) (xs : List Nat) (hn : xs.length = n) (h1 : n < cap) (h2 : 10 ≤ cap) (h3 : cap ≤ 88) (hf : ∀ j, j < xs.length → f j = some (xs.getD j 0)) : Met l yJx4a65c_add_72be8 (ws_ yJx4a65c_add_72be8 cJx4a65c_add_72be8 4 none) (rmm 4 1 88) (jPc g [.ref a, .ref q, .ref ea, vi (n : Int)] (fun H => H.size = sz ∧ PP g [ob a 11 [vi mc, .ref ea, vi (n : Int)], aO g ea cap f] H ∧ va_D (fun q => gb g ≤ q) [ob a 11 [vi mc, .ref ea, vi (n : Int)], aO g ea cap f] ∧ EL g (q :: xs) [a, ea] H)) (jQv (fun H1 => ∃ lw : va_W, LW g a (xs ++ [q]) lw ∧ PP g lw H1 ∧ va_D (va_A [ob a 11 [vi mc, .ref ea, vi (n : Int)], aO g ea cap f] sz) lw) (va_A [ob a 11 [vi mc, .ref ea, vi (n : Int)], aO g ea cap f] sz)) 1 88 (va_A [ob a 11 [vi mc, .ref ea, vi (n : Int)], aO g ea cap f] sz) := by
  refine jb_M (by decide) (Nat.le_of_ble_eq_true rfl) ?_
  intro p e s m below meth cq hx hb hr hml hown htl hlk hnm hKK hpre ls hl
  have hown : s.vm.findClass RJx4a65c = some m.cls := hown
  have hl : lv_has ls 4 [(0, .ref a), (1, .ref q), (2, .ref ea), (3, vi (n : Int))] := hl
  obtain ⟨hsz, hP, hD0, hEL⟩ := hpre
  subst hsz
  have hD : va_D (va_A [ob a 11 [vi mc, .ref ea, vi (n : Int)], aO g ea cap f] s.heap.size) [ob a 11 [vi mc, .ref ea, vi (n : Int)], aO g ea cap f] := hD0.self
  have hAb : ∀ q, (va_A [ob a 11 [vi mc, .ref ea, vi (n : Int)], aO g ea cap f] s.heap.size) q → gb g ≤ q := fun q h => h.elim (fun ⟨k, e, h⟩ => hD0.2 k _ h) (fun h => Nat.le_trans hKK.2.1 h)
  generalize hAe : va_A [ob a 11 [vi mc, .ref ea, vi (n : Int)], aO g ea cap f] s.heap.size = A at *
  have hA : ∀ q, s.heap.size ≤ q → A q := fun q h => by rw [← hAe]; exact Or.inr h
  have hS : va_S A s.heap s.heap [] := va_S.rf
  suffices K : ∀ (H : Heap) (locs : List Loc), PP g [ob a 11 [vi mc, .ref ea, vi (n : Int)], aO g ea cap f] H → va_D A [ob a 11 [vi mc, .ref ea, vi (n : Int)], aO g ea cap f] → va_S A s.heap H locs → ∀ ls : Array Slot, lv_has ls 4 [(0, .ref a), (1, .ref q), (2, .ref ea), (3, vi (n : Int))] → W p l e (rmm 4 1 88) s m ([.ref a, .ref q, .ref ea, vi (n : Int)] : List Value).toArray below meth cq H locs 0 0 (MQ below (jQv (fun H1 => ∃ lw : va_W, LW g a (xs ++ [q]) lw ∧ PP g lw H1 ∧ va_D (A) lw) A) ([.ref a, .ref q, .ref ea, vi (n : Int)] : List Value).toArray s 1 88 A) (F0 m 0 ls []) from K _ _ hP hD hS _ hl
  clear hl; intro H locs hP hD hS ls hl
  have hnA := nA_of hAe
  refine lv_iload_n hx hb dJx4a65c_add_72be8_0 rfl (lv_at hl 3 rfl) ?_
  refine lv_aload_n hx hb dJx4a65c_add_72be8_1 rfl (lv_at hl 2 rfl) ?_
  refine va_alen (v := jI (cap : Nat)) hx hb hKK.k hP 1 3 rfl rfl (jI_nI _) dJx4a65c_add_72be8_2 ?_
  refine jr_ne (tgt := 11) hx hb dJx4a65c_add_72be8_3 (by decide) ⟨by omega, by omega⟩ ⟨by omega, by omega⟩ (fun c3 => ?_) (fun c3 => absurd c3 (by omega))
  refine lv_aload_n hx hb dJx4a65c_add_72be8_11 rfl (lv_at hl 2 rfl) ?_
  refine lv_iload_n hx hb dJx4a65c_add_72be8_12 rfl (lv_at hl 3 rfl) ?_
  refine lv_aload_n hx hb dJx4a65c_add_72be8_13 rfl (lv_at hl 1 rfl) ?_
  refine jr_aast hx hb hKK.k hP hD hS 1 rfl (hEL.any hKK hS hnA List.mem_cons_self) n rfl (by omega) (by omega) dJx4a65c_add_72be8_14 (fun H locs hP hD hS => ?_)
  have hP : PP g [ob a 11 [vi mc, .ref ea, vi (n : Int)], aO g ea cap (va_up f n (some q))] H := hP
  have hD : va_D A [ob a 11 [vi mc, .ref ea, vi (n : Int)], aO g ea cap (va_up f n (some q))] := hD
  refine lv_aload_n hx hb dJx4a65c_add_72be8_15 rfl (lv_at hl 0 rfl) ?_
  refine lv_iload_n hx hb dJx4a65c_add_72be8_16 rfl (lv_at hl 3 rfl) ?_
  refine jr_iconst hx hb dJx4a65c_add_72be8_17 ?_
  refine jr_iadd hx hb dJx4a65c_add_72be8_18 ?_
  refine va_put (D := gD g) (ci := 11) (v := vi ((n : Int) + 1)) (ty := .int) (C := RJx4a65c) (T := TJx4a65c) (N := 3) hx hb htl ck_Jx4a65c tyJx4a65c tyJx4a65c_ok nmJx4a65c hown hKK.k hP hD hS 0 rfl rfl 2 (by decide) (htl _ wd_5_19) (fun _ h9 => h9) rfl (by decide +kernel) rfl rfl (Nat.le_of_ble_eq_true rfl) dJx4a65c_add_72be8_19 (fun H locs hP hD hS => ?_)
  have hP : PP g [ob a 11 [vi mc, .ref ea, vi ((n : Int) + 1)], aO g ea cap (va_up f n (some q))] H := hP
  have hD : va_D A [ob a 11 [vi mc, .ref ea, vi ((n : Int) + 1)], aO g ea cap (va_up f n (some q))] := hD
  refine W.widen (k := 1) (n := 88) (by omega) (by omega) ?_
  exact je_Qv hx hb hr hlk hS (⟨_, (by have z := LW.push (g := g) (a := a) (ea := ea) (q := q) (mc := mc) (n := (n : Int) + 1) (l := xs) (by omega) h2 h3 hf (by omega); rwa [hn] at z), va_P.sub hP [0, 1] rfl, hD.sub [0, 1] (by decide) rfl⟩) dJx4a65c_add_72be8_22
set_option maxHeartbeats 4000000 in
set_option maxRecDepth 100000 in
theorem m_Jx4a65c_add_72be8_F (l : Launch) (g : GT) (a : Nat) (mc : Int) (ea n q sz : Nat) (f : Nat → Option Nat) (xs : List Nat) (hn : xs.length = n) (h10 : 10 ≤ n) (h59 : n < 60) (hf : ∀ j, j < xs.length → f j = some (xs.getD j 0)) : Met l yJx4a65c_add_72be8 (ws_ yJx4a65c_add_72be8 cJx4a65c_add_72be8 4 none) (rmm 4 1 88) (jPc g [.ref a, .ref q, .ref ea, vi (n : Int)] (fun H => H.size = sz ∧ PP g [ob a 11 [vi mc, .ref ea, vi (n : Int)], aO g ea n f] H ∧ va_D (fun q => gb g ≤ q) [ob a 11 [vi mc, .ref ea, vi (n : Int)], aO g ea n f] ∧ EL g (q :: xs) [a, ea] H)) (jQv (fun H1 => ∃ lw : va_W, LW g a (xs ++ [q]) lw ∧ PP g lw H1 ∧ va_D (va_A [ob a 11 [vi mc, .ref ea, vi (n : Int)], aO g ea n f] sz) lw) (va_A [ob a 11 [vi mc, .ref ea, vi (n : Int)], aO g ea n f] sz)) 1 88 (va_A [ob a 11 [vi mc, .ref ea, vi (n : Int)], aO g ea n f] sz) := by
  refine jb_M (by decide) (Nat.le_of_ble_eq_true rfl) ?_
  intro p e s m below meth cq hx hb hr hml hown htl hlk hnm hKK hpre ls hl
  have hown : s.vm.findClass RJx4a65c = some m.cls := hown
  have hl : lv_has ls 4 [(0, .ref a), (1, .ref q), (2, .ref ea), (3, vi (n : Int))] := hl
  obtain ⟨hsz, hP, hD0, hEL⟩ := hpre
  subst hsz
  have hD : va_D (va_A [ob a 11 [vi mc, .ref ea, vi (n : Int)], aO g ea n f] s.heap.size) [ob a 11 [vi mc, .ref ea, vi (n : Int)], aO g ea n f] := hD0.self
  have hAb : ∀ q, (va_A [ob a 11 [vi mc, .ref ea, vi (n : Int)], aO g ea n f] s.heap.size) q → gb g ≤ q := fun q h => h.elim (fun ⟨k, e, h⟩ => hD0.2 k _ h) (fun h => Nat.le_trans hKK.2.1 h)
  generalize hAe : va_A [ob a 11 [vi mc, .ref ea, vi (n : Int)], aO g ea n f] s.heap.size = A at *
  have hA : ∀ q, s.heap.size ≤ q → A q := fun q h => by rw [← hAe]; exact Or.inr h
  have hS : va_S A s.heap s.heap [] := va_S.rf
  suffices K : ∀ (H : Heap) (locs : List Loc), PP g [ob a 11 [vi mc, .ref ea, vi (n : Int)], aO g ea n f] H → va_D A [ob a 11 [vi mc, .ref ea, vi (n : Int)], aO g ea n f] → va_S A s.heap H locs → ∀ ls : Array Slot, lv_has ls 4 [(0, .ref a), (1, .ref q), (2, .ref ea), (3, vi (n : Int))] → W p l e (rmm 4 1 88) s m ([.ref a, .ref q, .ref ea, vi (n : Int)] : List Value).toArray below meth cq H locs 0 0 (MQ below (jQv (fun H1 => ∃ lw : va_W, LW g a (xs ++ [q]) lw ∧ PP g lw H1 ∧ va_D (A) lw) A) ([.ref a, .ref q, .ref ea, vi (n : Int)] : List Value).toArray s 1 88 A) (F0 m 0 ls []) from K _ _ hP hD hS _ hl
  clear hl; intro H locs hP hD hS ls hl
  have hnA := nA_of hAe
  refine lv_iload_n hx hb dJx4a65c_add_72be8_0 rfl (lv_at hl 3 rfl) ?_
  refine lv_aload_n hx hb dJx4a65c_add_72be8_1 rfl (lv_at hl 2 rfl) ?_
  refine va_alen (v := jI (n : Nat)) hx hb hKK.k hP 1 3 rfl rfl (jI_nI _) dJx4a65c_add_72be8_2 ?_
  refine jr_ne (tgt := 11) hx hb dJx4a65c_add_72be8_3 (by decide) ⟨by omega, by omega⟩ ⟨by omega, by omega⟩ (fun c3 => absurd c3 (by omega)) (fun c3 => ?_)
  refine lv_aload_n hx hb dJx4a65c_add_72be8_6 rfl (lv_at hl 0 rfl) ?_
  have hDc : va_D A [ob a 11 [vi mc, .ref ea, vi (n : Int)], aO g ea n f] := hD.sub [0, 1] (by decide) rfl
  have hFc := va_free (wc := [ob a 11 [vi mc, .ref ea, vi (n : Int)], aO g ea n f]) hD hS hA [0, 1] rfl
  refine jk_Qr (va_runV (As := []) (rest := []) ⟨hx, hb, hml, hown, htl⟩ (m_Jx4a65c_grow_d5877_F l g a mc ea n H.size f xs hn h10 h59 hf) (cwV 0 htl lk_Jx4a65c_129 rfl rfl rfl cwV_Jx4a65c_grow_d5877 ⟨Nat.le_of_ble_eq_true rfl, Nat.le_of_ble_eq_true rfl⟩) (jp_V hKK hS hAb (va_recv hKK.k hP (ci := 11) (q0 := 0) rfl rfl) ⟨rfl, hP, hDc.weaken (fun _ q _ h => hAb _ h), hEL.kept hS hnA (fun _ h => by first | exact h | exact List.mem_cons_of_mem _ h) (fun _ h => by first | exact h | exact List.mem_cons_of_mem _ h)⟩) rfl rfl hl.1 rfl (lv_room (Nat.le_of_ble_eq_true rfl)) dJx4a65c_add_72be8_7 ⟨Nat.le_of_ble_eq_true rfl, Nat.le_of_ble_eq_true rfl⟩) hS (fun q _ h => hFc q h) hFc (fun z7 H1 locs hz7 hzs hks hS => ?_)
  obtain ⟨hP1, hD1⟩ := hz7
  obtain ⟨hP, hD⟩ := va_join (wr := []) (w1 := [ob a 11 [vi mc, .ref z7, vi (n : Int)], aO g z7 (n + n / 2) (va_cpy f (fun _ => none) 0 0 n)]) hP hD [0, 1] [] rfl rfl (by decide) (by decide) hks hFc hP1 hD1
  clear hzs hks; generalize H1 = H at hP hD hS ⊢
  have hP : PP g [ob a 11 [vi mc, .ref z7, vi (n : Int)], aO g z7 (n + n / 2) (va_cpy f (fun _ => none) 0 0 n)] H := hP
  have hD : va_D A [ob a 11 [vi mc, .ref z7, vi (n : Int)], aO g z7 (n + n / 2) (va_cpy f (fun _ => none) 0 0 n)] := hD
  refine W.widen (k := 1) (n := 88) (by omega) (by omega) ?_
  refine lv_astore_n (lv' := [(2, .ref z7), (0, .ref a), (1, .ref q), (3, vi (n : Int))]) hx hb dJx4a65c_add_72be8_10 rfl hl (by decide) rfl (fun ls hl => ?_)
  refine lv_aload_n hx hb dJx4a65c_add_72be8_11 rfl (lv_at hl 0 rfl) ?_
  refine lv_iload_n hx hb dJx4a65c_add_72be8_12 rfl (lv_at hl 3 rfl) ?_
  refine lv_aload_n hx hb dJx4a65c_add_72be8_13 rfl (lv_at hl 2 rfl) ?_
  refine jr_aast hx hb hKK.k hP hD hS 1 rfl (hEL.any hKK hS hnA List.mem_cons_self) n rfl (by omega) (by omega) dJx4a65c_add_72be8_14 (fun H locs hP hD hS => ?_)
  have hP : PP g [ob a 11 [vi mc, .ref z7, vi (n : Int)], aO g z7 (n + n / 2) (va_up (va_cpy f (fun _ => none) 0 0 n) n (some q))] H := hP
  have hD : va_D A [ob a 11 [vi mc, .ref z7, vi (n : Int)], aO g z7 (n + n / 2) (va_up (va_cpy f (fun _ => none) 0 0 n) n (some q))] := hD
  refine lv_aload_n hx hb dJx4a65c_add_72be8_15 rfl (lv_at hl 1 rfl) ?_
  refine lv_iload_n hx hb dJx4a65c_add_72be8_16 rfl (lv_at hl 3 rfl) ?_
  refine jr_iconst hx hb dJx4a65c_add_72be8_17 ?_
  refine jr_iadd hx hb dJx4a65c_add_72be8_18 ?_
  refine va_put (D := gD g) (ci := 11) (v := vi ((n : Int) + 1)) (ty := .int) (C := RJx4a65c) (T := TJx4a65c) (N := 3) hx hb htl ck_Jx4a65c tyJx4a65c tyJx4a65c_ok nmJx4a65c hown hKK.k hP hD hS 0 rfl rfl 2 (by decide) (htl _ wd_5_19) (fun _ h9 => h9) rfl (by decide +kernel) rfl rfl (Nat.le_of_ble_eq_true rfl) dJx4a65c_add_72be8_19 (fun H locs hP hD hS => ?_)
  have hP : PP g [ob a 11 [vi mc, .ref z7, vi ((n : Int) + 1)], aO g z7 (n + n / 2) (va_up (va_cpy f (fun _ => none) 0 0 n) n (some q))] H := hP
  have hD : va_D A [ob a 11 [vi mc, .ref z7, vi ((n : Int) + 1)], aO g z7 (n + n / 2) (va_up (va_cpy f (fun _ => none) 0 0 n) n (some q))] := hD
  exact je_Qv hx hb hr hlk hS (⟨_, (by have z := LW.push (g := g) (a := a) (ea := z7) (q := q) (mc := mc) (n := (n : Int) + 1) (cap := n + n / 2) (l := xs) (by omega) (by omega) (by omega) (LW.cpy hn hf) (by omega); rwa [hn] at z), va_P.sub hP [0, 1] rfl, hD.sub [0, 1] (by decide) rfl⟩) dJx4a65c_add_72be8_22
set_option maxHeartbeats 4000000 in
set_option maxRecDepth 100000 in
theorem m_Jx4a65c_add_9ea2d_E (l : Launch) (g : GT) (a : Nat) (mc : Int) (q sz : Nat) : Met l yJx4a65c_add_9ea2d (ws_ yJx4a65c_add_9ea2d cJx4a65c_add_9ea2d 2 (some .boolean)) (rmm 5 1 88) (jPc g [.ref a, .ref q] (fun H => H.size = sz ∧ PP g [ob a 11 [vi mc, .ref (gE g), vi 0]] H ∧ va_D (fun q => gb g ≤ q) [ob a 11 [vi mc, .ref (gE g), vi 0]] ∧ EL g [q] [a] H)) (jQi (fun z H1 => z = 1 ∧ ∃ lw : va_W, LW g a ([] ++ [q]) lw ∧ PP g lw H1 ∧ va_D (va_A [ob a 11 [vi mc, .ref (gE g), vi 0]] sz) lw) (va_A [ob a 11 [vi mc, .ref (gE g), vi 0]] sz)) 1 88 (va_A [ob a 11 [vi mc, .ref (gE g), vi 0]] sz) := by
  refine jb_M (by decide) (Nat.le_of_ble_eq_true rfl) ?_
  intro p e s m below meth cq hx hb hr hml hown htl hlk hnm hKK hpre ls hl
  have hown : s.vm.findClass RJx4a65c = some m.cls := hown
  have hl : lv_has ls 2 [(0, .ref a), (1, .ref q)] := hl
  obtain ⟨hsz, hP, hD0, hEL⟩ := hpre
  subst hsz
  have hD : va_D (va_A [ob a 11 [vi mc, .ref (gE g), vi 0]] s.heap.size) [ob a 11 [vi mc, .ref (gE g), vi 0]] := hD0.self
  have hAb : ∀ q, (va_A [ob a 11 [vi mc, .ref (gE g), vi 0]] s.heap.size) q → gb g ≤ q := fun q h => h.elim (fun ⟨k, e, h⟩ => hD0.2 k _ h) (fun h => Nat.le_trans hKK.2.1 h)
  generalize hAe : va_A [ob a 11 [vi mc, .ref (gE g), vi 0]] s.heap.size = A at *
  have hA : ∀ q, s.heap.size ≤ q → A q := fun q h => by rw [← hAe]; exact Or.inr h
  have hS : va_S A s.heap s.heap [] := va_S.rf
  suffices K : ∀ (H : Heap) (locs : List Loc), PP g [ob a 11 [vi mc, .ref (gE g), vi 0]] H → va_D A [ob a 11 [vi mc, .ref (gE g), vi 0]] → va_S A s.heap H locs → ∀ ls : Array Slot, lv_has ls 2 [(0, .ref a), (1, .ref q)] → W p l e (rmm 5 1 88) s m ([.ref a, .ref q] : List Value).toArray below meth cq H locs 0 0 (MQ below (jQi (fun z H1 => z = 1 ∧ ∃ lw : va_W, LW g a ([] ++ [q]) lw ∧ PP g lw H1 ∧ va_D (A) lw) A) ([.ref a, .ref q] : List Value).toArray s 1 88 A) (F0 m 0 ls []) from K _ _ hP hD hS _ hl
  clear hl; intro H locs hP hD hS ls hl
  have hnA := nA_of hAe
  refine lv_aload_n hx hb dJx4a65c_add_9ea2d_0 rfl (lv_at hl 0 rfl) ?_
  refine lv_dup hx hb dJx4a65c_add_9ea2d_1 rfl ?_
  refine va_get (D := gD g) (ci := 11) (v := vi mc) (C := RJx4a65c) (T := TJx4a65c) (N := 3) hx hb htl ck_Jx4a65c hown hKK.k hP 0 rfl rfl 0 (by decide) (htl _ wd_14_17) (u_same (htl _ wd_14_18)) rfl dJx4a65c_add_9ea2d_2 ?_
  refine jr_iconst hx hb dJx4a65c_add_9ea2d_5 ?_
  refine jr_iadd hx hb dJx4a65c_add_9ea2d_6 ?_
  refine va_put (D := gD g) (ci := 11) (v := vi (mc + 1)) (ty := .int) (C := RJx4a65c) (T := TJx4a65c) (N := 3) hx hb htl ck_Jx4a65c tyJx4a65c tyJx4a65c_ok nmJx4a65c hown hKK.k hP hD hS 0 rfl rfl 0 (by decide) (htl _ wd_14_17) (u_same (htl _ wd_14_18)) rfl (by decide +kernel) rfl rfl (Nat.le_of_ble_eq_true rfl) dJx4a65c_add_9ea2d_7 (fun H locs hP hD hS => ?_)
  have hP : PP g [ob a 11 [vi (mc + 1), .ref (gE g), vi 0]] H := hP
  have hD : va_D A [ob a 11 [vi (mc + 1), .ref (gE g), vi 0]] := hD
  refine lv_aload_n hx hb dJx4a65c_add_9ea2d_10 rfl (lv_at hl 0 rfl) ?_
  refine lv_aload_n hx hb dJx4a65c_add_9ea2d_11 rfl (lv_at hl 1 rfl) ?_
  refine lv_aload_n hx hb dJx4a65c_add_9ea2d_12 rfl (lv_at hl 0 rfl) ?_
  refine va_get (D := gD g) (ci := 11) (v := .ref (gE g)) (C := RJx4a65c) (T := TJx4a65c) (N := 3) hx hb htl ck_Jx4a65c hown hKK.k hP 0 rfl rfl 1 (by decide) (htl _ wd_4_8) (fun _ h9 => h9) rfl dJx4a65c_add_9ea2d_13 ?_
  refine lv_aload_n hx hb dJx4a65c_add_9ea2d_16 rfl (lv_at hl 0 rfl) ?_
  refine va_get (D := gD g) (ci := 11) (v := vi 0) (C := RJx4a65c) (T := TJx4a65c) (N := 3) hx hb htl ck_Jx4a65c hown hKK.k hP 0 rfl rfl 2 (by decide) (htl _ wd_5_19) (fun _ h9 => h9) rfl dJx4a65c_add_9ea2d_17 ?_
  have hDc : va_D A [ob a 11 [vi (mc + 1), .ref (gE g), vi 0]] := hD
  have hFc := va_free (wc := [ob a 11 [vi (mc + 1), .ref (gE g), vi 0]]) hD hS hA [0] rfl
  refine jk_Qv (va_runV (As := [.ref q, .ref (gE g), vi 0]) (rest := []) ⟨hx, hb, hml, hown, htl⟩ (m_Jx4a65c_add_72be8_E l g a (mc + 1) q H.size) (cwV 3 htl lk_Jx4a65c_131 rfl rfl rfl cwV_Jx4a65c_add_72be8 ⟨Nat.le_of_ble_eq_true rfl, Nat.le_of_ble_eq_true rfl⟩) (jp_V hKK hS hAb (va_recv hKK.k hP (ci := 11) (q0 := 0) rfl rfl) ⟨rfl, hP, hDc.weaken (fun _ q _ h => hAb _ h), hEL.kept hS hnA (fun _ h => h) (fun _ h => h)⟩) rfl rfl hl.1 rfl (lv_room (Nat.le_of_ble_eq_true rfl)) dJx4a65c_add_9ea2d_20 ⟨Nat.le_of_ble_eq_true rfl, Nat.le_of_ble_eq_true rfl⟩) hS (fun q _ h => hFc q h) hFc (fun H1 locs hz20 hzs hks hS => ?_)
  obtain ⟨lw20, hL20, hP1, hD1⟩ := hz20
  have hD : va_D A lw20 := hD1.weaken (fun _ q _ h => hFc _ h)
  clear hD1 hzs hks; generalize H1 = H at hP1 hS ⊢
  have hP := hP1
  refine jr_iconst hx hb dJx4a65c_add_9ea2d_23 ?_
  exact je_Qi hx hb hr hlk (nz_b (by omega)).1 hS (⟨rfl, lw20, hL20, hP, hD⟩) dJx4a65c_add_9ea2d_24
set_option maxHeartbeats 4000000 in
set_option maxRecDepth 100000 in
theorem m_Jx4a65c_add_9ea2d_N (l : Launch) (g : GT) (a : Nat) (mc : Int) (ea cap n q sz : Nat) (f : Nat → Option Nat) (xs : List Nat) (hn : xs.length = n) (h1 : n < cap) (h2 : 10 ≤ cap) (h3 : cap ≤ 88) (hf : ∀ j, j < xs.length → f j = some (xs.getD j 0)) : Met l yJx4a65c_add_9ea2d (ws_ yJx4a65c_add_9ea2d cJx4a65c_add_9ea2d 2 (some .boolean)) (rmm 5 1 88) (jPc g [.ref a, .ref q] (fun H => H.size = sz ∧ PP g [ob a 11 [vi mc, .ref ea, vi (n : Int)], aO g ea cap f] H ∧ va_D (fun q => gb g ≤ q) [ob a 11 [vi mc, .ref ea, vi (n : Int)], aO g ea cap f] ∧ EL g (q :: xs) [a, ea] H)) (jQi (fun z H1 => z = 1 ∧ ∃ lw : va_W, LW g a (xs ++ [q]) lw ∧ PP g lw H1 ∧ va_D (va_A [ob a 11 [vi mc, .ref ea, vi (n : Int)], aO g ea cap f] sz) lw) (va_A [ob a 11 [vi mc, .ref ea, vi (n : Int)], aO g ea cap f] sz)) 1 88 (va_A [ob a 11 [vi mc, .ref ea, vi (n : Int)], aO g ea cap f] sz) := by
  refine jb_M (by decide) (Nat.le_of_ble_eq_true rfl) ?_
  intro p e s m below meth cq hx hb hr hml hown htl hlk hnm hKK hpre ls hl
  have hown : s.vm.findClass RJx4a65c = some m.cls := hown
  have hl : lv_has ls 2 [(0, .ref a), (1, .ref q)] := hl
  obtain ⟨hsz, hP, hD0, hEL⟩ := hpre
  subst hsz
  have hD : va_D (va_A [ob a 11 [vi mc, .ref ea, vi (n : Int)], aO g ea cap f] s.heap.size) [ob a 11 [vi mc, .ref ea, vi (n : Int)], aO g ea cap f] := hD0.self
  have hAb : ∀ q, (va_A [ob a 11 [vi mc, .ref ea, vi (n : Int)], aO g ea cap f] s.heap.size) q → gb g ≤ q := fun q h => h.elim (fun ⟨k, e, h⟩ => hD0.2 k _ h) (fun h => Nat.le_trans hKK.2.1 h)
  generalize hAe : va_A [ob a 11 [vi mc, .ref ea, vi (n : Int)], aO g ea cap f] s.heap.size = A at *
  have hA : ∀ q, s.heap.size ≤ q → A q := fun q h => by rw [← hAe]; exact Or.inr h
  have hS : va_S A s.heap s.heap [] := va_S.rf
  suffices K : ∀ (H : Heap) (locs : List Loc), PP g [ob a 11 [vi mc, .ref ea, vi (n : Int)], aO g ea cap f] H → va_D A [ob a 11 [vi mc, .ref ea, vi (n : Int)], aO g ea cap f] → va_S A s.heap H locs → ∀ ls : Array Slot, lv_has ls 2 [(0, .ref a), (1, .ref q)] → W p l e (rmm 5 1 88) s m ([.ref a, .ref q] : List Value).toArray below meth cq H locs 0 0 (MQ below (jQi (fun z H1 => z = 1 ∧ ∃ lw : va_W, LW g a (xs ++ [q]) lw ∧ PP g lw H1 ∧ va_D (A) lw) A) ([.ref a, .ref q] : List Value).toArray s 1 88 A) (F0 m 0 ls []) from K _ _ hP hD hS _ hl
  clear hl; intro H locs hP hD hS ls hl
  have hnA := nA_of hAe
  refine lv_aload_n hx hb dJx4a65c_add_9ea2d_0 rfl (lv_at hl 0 rfl) ?_
  refine lv_dup hx hb dJx4a65c_add_9ea2d_1 rfl ?_
  refine va_get (D := gD g) (ci := 11) (v := vi mc) (C := RJx4a65c) (T := TJx4a65c) (N := 3) hx hb htl ck_Jx4a65c hown hKK.k hP 0 rfl rfl 0 (by decide) (htl _ wd_14_17) (u_same (htl _ wd_14_18)) rfl dJx4a65c_add_9ea2d_2 ?_
  refine jr_iconst hx hb dJx4a65c_add_9ea2d_5 ?_
  refine jr_iadd hx hb dJx4a65c_add_9ea2d_6 ?_
  refine va_put (D := gD g) (ci := 11) (v := vi (mc + 1)) (ty := .int) (C := RJx4a65c) (T := TJx4a65c) (N := 3) hx hb htl ck_Jx4a65c tyJx4a65c tyJx4a65c_ok nmJx4a65c hown hKK.k hP hD hS 0 rfl rfl 0 (by decide) (htl _ wd_14_17) (u_same (htl _ wd_14_18)) rfl (by decide +kernel) rfl rfl (Nat.le_of_ble_eq_true rfl) dJx4a65c_add_9ea2d_7 (fun H locs hP hD hS => ?_)
  have hP : PP g [ob a 11 [vi (mc + 1), .ref ea, vi (n : Int)], aO g ea cap f] H := hP
  have hD : va_D A [ob a 11 [vi (mc + 1), .ref ea, vi (n : Int)], aO g ea cap f] := hD
  refine lv_aload_n hx hb dJx4a65c_add_9ea2d_10 rfl (lv_at hl 0 rfl) ?_
  refine lv_aload_n hx hb dJx4a65c_add_9ea2d_11 rfl (lv_at hl 1 rfl) ?_
  refine lv_aload_n hx hb dJx4a65c_add_9ea2d_12 rfl (lv_at hl 0 rfl) ?_
  refine va_get (D := gD g) (ci := 11) (v := .ref ea) (C := RJx4a65c) (T := TJx4a65c) (N := 3) hx hb htl ck_Jx4a65c hown hKK.k hP 0 rfl rfl 1 (by decide) (htl _ wd_4_8) (fun _ h9 => h9) rfl dJx4a65c_add_9ea2d_13 ?_
  refine lv_aload_n hx hb dJx4a65c_add_9ea2d_16 rfl (lv_at hl 0 rfl) ?_
  refine va_get (D := gD g) (ci := 11) (v := vi (n : Int)) (C := RJx4a65c) (T := TJx4a65c) (N := 3) hx hb htl ck_Jx4a65c hown hKK.k hP 0 rfl rfl 2 (by decide) (htl _ wd_5_19) (fun _ h9 => h9) rfl dJx4a65c_add_9ea2d_17 ?_
  have hDc : va_D A [ob a 11 [vi (mc + 1), .ref ea, vi (n : Int)], aO g ea cap f] := hD
  have hFc := va_free (wc := [ob a 11 [vi (mc + 1), .ref ea, vi (n : Int)], aO g ea cap f]) hD hS hA [0, 1] rfl
  refine jk_Qv (va_runV (As := [.ref q, .ref ea, vi (n : Int)]) (rest := []) ⟨hx, hb, hml, hown, htl⟩ (m_Jx4a65c_add_72be8_N l g a (mc + 1) ea cap n q H.size f xs hn h1 h2 h3 hf) (cwV 3 htl lk_Jx4a65c_131 rfl rfl rfl cwV_Jx4a65c_add_72be8 ⟨Nat.le_of_ble_eq_true rfl, Nat.le_of_ble_eq_true rfl⟩) (jp_V hKK hS hAb (va_recv hKK.k hP (ci := 11) (q0 := 0) rfl rfl) ⟨rfl, hP, hDc.weaken (fun _ q _ h => hAb _ h), hEL.kept hS hnA (fun _ h => h) (fun _ h => h)⟩) rfl rfl hl.1 rfl (lv_room (Nat.le_of_ble_eq_true rfl)) dJx4a65c_add_9ea2d_20 ⟨Nat.le_of_ble_eq_true rfl, Nat.le_of_ble_eq_true rfl⟩) hS (fun q _ h => hFc q h) hFc (fun H1 locs hz20 hzs hks hS => ?_)
  obtain ⟨lw20, hL20, hP1, hD1⟩ := hz20
  have hD : va_D A lw20 := hD1.weaken (fun _ q _ h => hFc _ h)
  clear hD1 hzs hks; generalize H1 = H at hP1 hS ⊢
  have hP := hP1
  refine jr_iconst hx hb dJx4a65c_add_9ea2d_23 ?_
  exact je_Qi hx hb hr hlk (nz_b (by omega)).1 hS (⟨rfl, lw20, hL20, hP, hD⟩) dJx4a65c_add_9ea2d_24
set_option maxHeartbeats 4000000 in
set_option maxRecDepth 100000 in
theorem m_Jx4a65c_add_9ea2d_F (l : Launch) (g : GT) (a : Nat) (mc : Int) (ea n q sz : Nat) (f : Nat → Option Nat) (xs : List Nat) (hn : xs.length = n) (h10 : 10 ≤ n) (h59 : n < 60) (hf : ∀ j, j < xs.length → f j = some (xs.getD j 0)) : Met l yJx4a65c_add_9ea2d (ws_ yJx4a65c_add_9ea2d cJx4a65c_add_9ea2d 2 (some .boolean)) (rmm 5 1 88) (jPc g [.ref a, .ref q] (fun H => H.size = sz ∧ PP g [ob a 11 [vi mc, .ref ea, vi (n : Int)], aO g ea n f] H ∧ va_D (fun q => gb g ≤ q) [ob a 11 [vi mc, .ref ea, vi (n : Int)], aO g ea n f] ∧ EL g (q :: xs) [a, ea] H)) (jQi (fun z H1 => z = 1 ∧ ∃ lw : va_W, LW g a (xs ++ [q]) lw ∧ PP g lw H1 ∧ va_D (va_A [ob a 11 [vi mc, .ref ea, vi (n : Int)], aO g ea n f] sz) lw) (va_A [ob a 11 [vi mc, .ref ea, vi (n : Int)], aO g ea n f] sz)) 1 88 (va_A [ob a 11 [vi mc, .ref ea, vi (n : Int)], aO g ea n f] sz) := by
  refine jb_M (by decide) (Nat.le_of_ble_eq_true rfl) ?_
  intro p e s m below meth cq hx hb hr hml hown htl hlk hnm hKK hpre ls hl
  have hown : s.vm.findClass RJx4a65c = some m.cls := hown
  have hl : lv_has ls 2 [(0, .ref a), (1, .ref q)] := hl
  obtain ⟨hsz, hP, hD0, hEL⟩ := hpre
  subst hsz
  have hD : va_D (va_A [ob a 11 [vi mc, .ref ea, vi (n : Int)], aO g ea n f] s.heap.size) [ob a 11 [vi mc, .ref ea, vi (n : Int)], aO g ea n f] := hD0.self
  have hAb : ∀ q, (va_A [ob a 11 [vi mc, .ref ea, vi (n : Int)], aO g ea n f] s.heap.size) q → gb g ≤ q := fun q h => h.elim (fun ⟨k, e, h⟩ => hD0.2 k _ h) (fun h => Nat.le_trans hKK.2.1 h)
  generalize hAe : va_A [ob a 11 [vi mc, .ref ea, vi (n : Int)], aO g ea n f] s.heap.size = A at *
  have hA : ∀ q, s.heap.size ≤ q → A q := fun q h => by rw [← hAe]; exact Or.inr h
  have hS : va_S A s.heap s.heap [] := va_S.rf
  suffices K : ∀ (H : Heap) (locs : List Loc), PP g [ob a 11 [vi mc, .ref ea, vi (n : Int)], aO g ea n f] H → va_D A [ob a 11 [vi mc, .ref ea, vi (n : Int)], aO g ea n f] → va_S A s.heap H locs → ∀ ls : Array Slot, lv_has ls 2 [(0, .ref a), (1, .ref q)] → W p l e (rmm 5 1 88) s m ([.ref a, .ref q] : List Value).toArray below meth cq H locs 0 0 (MQ below (jQi (fun z H1 => z = 1 ∧ ∃ lw : va_W, LW g a (xs ++ [q]) lw ∧ PP g lw H1 ∧ va_D (A) lw) A) ([.ref a, .ref q] : List Value).toArray s 1 88 A) (F0 m 0 ls []) from K _ _ hP hD hS _ hl
  clear hl; intro H locs hP hD hS ls hl
  have hnA := nA_of hAe
  refine lv_aload_n hx hb dJx4a65c_add_9ea2d_0 rfl (lv_at hl 0 rfl) ?_
  refine lv_dup hx hb dJx4a65c_add_9ea2d_1 rfl ?_
  refine va_get (D := gD g) (ci := 11) (v := vi mc) (C := RJx4a65c) (T := TJx4a65c) (N := 3) hx hb htl ck_Jx4a65c hown hKK.k hP 0 rfl rfl 0 (by decide) (htl _ wd_14_17) (u_same (htl _ wd_14_18)) rfl dJx4a65c_add_9ea2d_2 ?_
  refine jr_iconst hx hb dJx4a65c_add_9ea2d_5 ?_
  refine jr_iadd hx hb dJx4a65c_add_9ea2d_6 ?_
  refine va_put (D := gD g) (ci := 11) (v := vi (mc + 1)) (ty := .int) (C := RJx4a65c) (T := TJx4a65c) (N := 3) hx hb htl ck_Jx4a65c tyJx4a65c tyJx4a65c_ok nmJx4a65c hown hKK.k hP hD hS 0 rfl rfl 0 (by decide) (htl _ wd_14_17) (u_same (htl _ wd_14_18)) rfl (by decide +kernel) rfl rfl (Nat.le_of_ble_eq_true rfl) dJx4a65c_add_9ea2d_7 (fun H locs hP hD hS => ?_)
  have hP : PP g [ob a 11 [vi (mc + 1), .ref ea, vi (n : Int)], aO g ea n f] H := hP
  have hD : va_D A [ob a 11 [vi (mc + 1), .ref ea, vi (n : Int)], aO g ea n f] := hD
  refine lv_aload_n hx hb dJx4a65c_add_9ea2d_10 rfl (lv_at hl 0 rfl) ?_
  refine lv_aload_n hx hb dJx4a65c_add_9ea2d_11 rfl (lv_at hl 1 rfl) ?_
  refine lv_aload_n hx hb dJx4a65c_add_9ea2d_12 rfl (lv_at hl 0 rfl) ?_
  refine va_get (D := gD g) (ci := 11) (v := .ref ea) (C := RJx4a65c) (T := TJx4a65c) (N := 3) hx hb htl ck_Jx4a65c hown hKK.k hP 0 rfl rfl 1 (by decide) (htl _ wd_4_8) (fun _ h9 => h9) rfl dJx4a65c_add_9ea2d_13 ?_
  refine lv_aload_n hx hb dJx4a65c_add_9ea2d_16 rfl (lv_at hl 0 rfl) ?_
  refine va_get (D := gD g) (ci := 11) (v := vi (n : Int)) (C := RJx4a65c) (T := TJx4a65c) (N := 3) hx hb htl ck_Jx4a65c hown hKK.k hP 0 rfl rfl 2 (by decide) (htl _ wd_5_19) (fun _ h9 => h9) rfl dJx4a65c_add_9ea2d_17 ?_
  have hDc : va_D A [ob a 11 [vi (mc + 1), .ref ea, vi (n : Int)], aO g ea n f] := hD
  have hFc := va_free (wc := [ob a 11 [vi (mc + 1), .ref ea, vi (n : Int)], aO g ea n f]) hD hS hA [0, 1] rfl
  refine jk_Qv (va_runV (As := [.ref q, .ref ea, vi (n : Int)]) (rest := []) ⟨hx, hb, hml, hown, htl⟩ (m_Jx4a65c_add_72be8_F l g a (mc + 1) ea n q H.size f xs hn h10 h59 hf) (cwV 3 htl lk_Jx4a65c_131 rfl rfl rfl cwV_Jx4a65c_add_72be8 ⟨Nat.le_of_ble_eq_true rfl, Nat.le_of_ble_eq_true rfl⟩) (jp_V hKK hS hAb (va_recv hKK.k hP (ci := 11) (q0 := 0) rfl rfl) ⟨rfl, hP, hDc.weaken (fun _ q _ h => hAb _ h), hEL.kept hS hnA (fun _ h => h) (fun _ h => h)⟩) rfl rfl hl.1 rfl (lv_room (Nat.le_of_ble_eq_true rfl)) dJx4a65c_add_9ea2d_20 ⟨Nat.le_of_ble_eq_true rfl, Nat.le_of_ble_eq_true rfl⟩) hS (fun q _ h => hFc q h) hFc (fun H1 locs hz20 hzs hks hS => ?_)
  obtain ⟨lw20, hL20, hP1, hD1⟩ := hz20
  have hD : va_D A lw20 := hD1.weaken (fun _ q _ h => hFc _ h)
  clear hD1 hzs hks; generalize H1 = H at hP1 hS ⊢
  have hP := hP1
  refine jr_iconst hx hb dJx4a65c_add_9ea2d_23 ?_
  exact je_Qi hx hb hr hlk (nz_b (by omega)).1 hS (⟨rfl, lw20, hL20, hP, hD⟩) dJx4a65c_add_9ea2d_24
