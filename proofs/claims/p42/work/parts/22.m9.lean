
theorem lk_X4_35 : GoodIn WSL (wsV RX4 35 RX6 yX6_copyAll (ws_ yX6_copyAll cX6_copyAll 2 none)) := gd_app (List.forall_mem_cons.mpr ⟨wd_20_10, List.forall_mem_cons.mpr ⟨wd_12_16, List.forall_mem_cons.mpr ⟨wd_12_17, List.forall_mem_cons.mpr ⟨wd_1_13, fun _ h => nomatch h⟩⟩⟩⟩) (gd_ wd_12_18)
theorem lk_X4_49 : GoodIn WSL (wsV RX4 49 RX4 yX4_setGiven (ws_ yX4_setGiven cX4_setGiven 3 none)) := gd_app (List.forall_mem_cons.mpr ⟨wd_20_6, List.forall_mem_cons.mpr ⟨wd_20_7, List.forall_mem_cons.mpr ⟨wd_20_8, List.forall_mem_cons.mpr ⟨wd_7_19, fun _ h => nomatch h⟩⟩⟩⟩) (gd_ wd_20_9)
theorem cwV_X4_setGiven : yX4_setGiven.cls = RX4 ∧ yX4_setGiven.cls ≠ "java/lang/invoke/MethodHandle" ∧ yX4_setGiven.cls ≠ "java/lang/invoke/VarHandle" ∧ (parseMethodDescriptor yX4_setGiven.desc).map (fun d => d.parameters.length) = some 2 := by decide +kernel
theorem lk_X4_53 : GoodIn WSL (wsV RX4 53 RX6 yX6_size (ws_ yX6_size cX6_size 1 (some .int))) := gd_app (List.forall_mem_cons.mpr ⟨wd_23_20, List.forall_mem_cons.mpr ⟨wd_8_3, List.forall_mem_cons.mpr ⟨wd_8_4, List.forall_mem_cons.mpr ⟨wd_1_13, fun _ h => nomatch h⟩⟩⟩⟩) (gd_ wd_8_5)
theorem lk_X4_57 : GoodIn WSL (wsV RX4 57 RX6 yX6_at (ws_ yX6_at cX6_at 2 (some .int))) := gd_app (List.forall_mem_cons.mpr ⟨wd_23_21, List.forall_mem_cons.mpr ⟨wd_7_7, List.forall_mem_cons.mpr ⟨wd_7_8, List.forall_mem_cons.mpr ⟨wd_1_13, fun _ h => nomatch h⟩⟩⟩⟩) (gd_ wd_7_9)
theorem lk_X4_60 : GoodIn WSL (va_wsS RX4 60 yX7_kindIn (ws_ yX7_kindIn cX7_kindIn 1 (some .int))) := gd_app (List.forall_mem_cons.mpr ⟨wd_23_22, List.forall_mem_cons.mpr ⟨wd_8_8, List.forall_mem_cons.mpr ⟨wd_8_9, fun _ h => nomatch h⟩⟩⟩) (gd_ wd_8_10)
theorem lk_X4_65 : GoodIn WSL (wsV RX4 65 RX6 yX6_placeOfNumber (ws_ yX6_placeOfNumber cX6_placeOfNumber 4 (some .int))) := gd_app (List.forall_mem_cons.mpr ⟨wd_23_23, List.forall_mem_cons.mpr ⟨wd_24_0, List.forall_mem_cons.mpr ⟨wd_24_1, List.forall_mem_cons.mpr ⟨wd_1_13, fun _ h => nomatch h⟩⟩⟩⟩) (gd_ wd_24_2)
theorem cwV_X6_placeOfNumber : yX6_placeOfNumber.cls = RX6 ∧ yX6_placeOfNumber.cls ≠ "java/lang/invoke/MethodHandle" ∧ yX6_placeOfNumber.cls ≠ "java/lang/invoke/VarHandle" ∧ (parseMethodDescriptor yX6_placeOfNumber.desc).map (fun d => d.parameters.length) = some 1 := by decide +kernel
theorem lk_X4_68 : GoodIn WSL (wsV RX4 68 RX6 yX6_numberAtPlace (ws_ yX6_numberAtPlace cX6_numberAtPlace 4 (some .int))) := gd_app (List.forall_mem_cons.mpr ⟨wd_24_3, List.forall_mem_cons.mpr ⟨wd_24_4, List.forall_mem_cons.mpr ⟨wd_24_5, List.forall_mem_cons.mpr ⟨wd_1_13, fun _ h => nomatch h⟩⟩⟩⟩) (gd_ wd_24_6)
theorem cwV_X6_numberAtPlace : yX6_numberAtPlace.cls = RX6 ∧ yX6_numberAtPlace.cls ≠ "java/lang/invoke/MethodHandle" ∧ yX6_numberAtPlace.cls ≠ "java/lang/invoke/VarHandle" ∧ (parseMethodDescriptor yX6_numberAtPlace.desc).map (fun d => d.parameters.length) = some 1 := by decide +kernel
theorem lk_X4_71 : GoodIn WSL (wsV RX4 71 RX6 yX6_replaceAt (ws_ yX6_replaceAt cX6_replaceAt 3 none)) := gd_app (List.forall_mem_cons.mpr ⟨wd_24_7, List.forall_mem_cons.mpr ⟨wd_24_8, List.forall_mem_cons.mpr ⟨wd_24_9, List.forall_mem_cons.mpr ⟨wd_1_13, fun _ h => nomatch h⟩⟩⟩⟩) (gd_ wd_24_10)
theorem cwV_X6_replaceAt : yX6_replaceAt.cls = RX6 ∧ yX6_replaceAt.cls ≠ "java/lang/invoke/MethodHandle" ∧ yX6_replaceAt.cls ≠ "java/lang/invoke/VarHandle" ∧ (parseMethodDescriptor yX6_replaceAt.desc).map (fun d => d.parameters.length) = some 2 := by decide +kernel
theorem lk_X4_39 : GoodIn WSL (wsV RX4 39 RX6 yX6_countKind (ws_ yX6_countKind cX6_countKind 4 (some .int))) := gd_app (List.forall_mem_cons.mpr ⟨wd_23_15, List.forall_mem_cons.mpr ⟨wd_21_12, List.forall_mem_cons.mpr ⟨wd_21_13, List.forall_mem_cons.mpr ⟨wd_1_13, fun _ h => nomatch h⟩⟩⟩⟩) (gd_ wd_21_14)
theorem lk_X4_46 : GoodIn WSL (wsV RX4 46 RX4 yX4_adaptNumbers (ws_ yX4_adaptNumbers cX4_adaptNumbers 6 none)) := gd_app (List.forall_mem_cons.mpr ⟨wd_23_16, List.forall_mem_cons.mpr ⟨wd_23_17, List.forall_mem_cons.mpr ⟨wd_23_18, List.forall_mem_cons.mpr ⟨wd_7_19, fun _ h => nomatch h⟩⟩⟩⟩) (gd_ wd_23_19)
theorem cwV_X4_adaptNumbers : yX4_adaptNumbers.cls = RX4 ∧ yX4_adaptNumbers.cls ≠ "java/lang/invoke/MethodHandle" ∧ yX4_adaptNumbers.cls ≠ "java/lang/invoke/VarHandle" ∧ (parseMethodDescriptor yX4_adaptNumbers.desc).map (fun d => d.parameters.length) = some 1 := by decide +kernel
set_option maxHeartbeats 4000000 in
set_option maxRecDepth 100000 in
theorem m_X4_isEmpty (l : Launch) (g : GT) (o tx ty : Nat) (st un sc : Int) (hst : 0 ≤ st ∧ st < 65536) : Met l yX4_isEmpty (ws_ yX4_isEmpty cX4_isEmpty 1 (some .boolean)) (rmm 0 0 0) (jPc g [.ref o] (fun H => PP g [ob o 4 [.ref tx, .ref ty, vi st, vi un, vi sc]] H)) (jSi (fun z => z = i01 (st = 101))) 0 0 jN := by
  refine jb_M (by decide) (Nat.le_of_ble_eq_true rfl) ?_
  intro p e s m below meth cq hx hb hr hml hown htl hlk hnm hKK hpre ls hl
  have hown : s.vm.findClass RX4 = some m.cls := hown
  have hl : lv_has ls 1 [(0, .ref o)] := hl
  have hP : PP g [ob o 4 [.ref tx, .ref ty, vi st, vi un, vi sc]] s.heap := hpre
  refine lv_aload_n hx hb dX4_isEmpty_0 rfl (lv_at hl 0 rfl) ?_
  refine va_get (D := gD g) (ci := 4) (v := vi st) (C := RX4) (T := TX4) (N := 5) hx hb htl ck_X4 hown hKK.k hP 0 rfl rfl 2 (by decide) (htl _ wd_7_21) (fun _ h9 => h9) rfl dX4_isEmpty_1 ?_
  refine jr_bipush hx hb dX4_isEmpty_4 (by decide) ?_
  refine jr_ne (tgt := 13) hx hb dX4_isEmpty_6 (by decide) ⟨by omega, by omega⟩ ⟨by omega, by omega⟩ (fun c6 => ?_) (fun c6 => ?_)
  · refine jr_iconst hx hb dX4_isEmpty_13 ?_
    exact je_Si hx hb hr hlk (nz_b (by omega)).1 ((if_neg (by omega)).symm) dX4_isEmpty_14
  · refine jr_iconst hx hb dX4_isEmpty_9 ?_
    refine lv_goto (tgt := 14) hx hb dX4_isEmpty_10 (by decide) ?_
    exact je_Si hx hb hr hlk (nz_b (by omega)).1 ((if_pos (by omega)).symm) dX4_isEmpty_14
set_option maxHeartbeats 4000000 in
set_option maxRecDepth 100000 in
theorem m_X4_setGiven (l : Launch) (g : GT) (o tx ty : Nat) (st un sc : Int) (tya : Nat) (u : List Int) (f2 : Nat → Int) (hf2 : TT u f2) (a c : Nat) (t : List Int) (f : Nat → Int) (hf : TT t f) (hne : ∀ x ∈ ([a, c] : List Nat), x ∉ ([o, ty, tya] : List Nat)) (ns : Int) (hns : 0 ≤ ns ∧ ns < 65536) : Met l yX4_setGiven (ws_ yX4_setGiven cX4_setGiven 3 none) (rmm 3 0 0) (jPc g [.ref o, .ref a, vi ns] (fun H => PP g [ob o 4 [.ref tx, .ref ty, vi st, vi un, vi sc], ob ty 6 [.ref tya, vi (u.length : Int)], aI g tya 60 f2] H ∧ va_D (fun q => gb g ≤ q) [ob o 4 [.ref tx, .ref ty, vi st, vi un, vi sc], ob ty 6 [.ref tya, vi (u.length : Int)], aI g tya 60 f2] ∧ PP g [ob a 6 [.ref c, vi (t.length : Int)], aI g c 60 f] H)) (jQv (fun H1 => ∃ f1 : Nat → Int, TT t f1 ∧ PP g [ob o 4 [.ref tx, .ref ty, vi ns, vi (-1), vi 0], ob ty 6 [.ref tya, vi (t.length : Int)], aI g tya 60 f1] H1) (jA [ob o 4 [.ref tx, .ref ty, vi st, vi un, vi sc], ob ty 6 [.ref tya, vi (u.length : Int)], aI g tya 60 f2])) 0 0 (jA [ob o 4 [.ref tx, .ref ty, vi st, vi un, vi sc], ob ty 6 [.ref tya, vi (u.length : Int)], aI g tya 60 f2]) := by
  refine jb_M (by decide) (Nat.le_of_ble_eq_true rfl) ?_
  intro p e s m below meth cq hx hb hr hml hown htl hlk hnm hKK hpre ls hl
  have hown : s.vm.findClass RX4 = some m.cls := hown
  have hl : lv_has ls 3 [(0, .ref o), (1, .ref a), (2, vi ns)] := hl
  obtain ⟨hP, hD0, hPg⟩ := hpre
  have ap_hPg : ∀ (k : Nat) (q : Nat × va_E), ([ob a 6 [.ref c, vi (t.length : Int)], aI g c 60 f] : va_W)[k]? = some q → ¬ (jA [ob o 4 [.ref tx, .ref ty, vi st, vi un, vi sc], ob ty 6 [.ref tya, vi (u.length : Int)], aI g tya 60 f2]) q.1 := jap (hne)
  have hD : va_D (jA [ob o 4 [.ref tx, .ref ty, vi st, vi un, vi sc], ob ty 6 [.ref tya, vi (u.length : Int)], aI g tya 60 f2]) [ob o 4 [.ref tx, .ref ty, vi st, vi un, vi sc], ob ty 6 [.ref tya, vi (u.length : Int)], aI g tya 60 f2] := hD0.inD
  have hAb : ∀ q, (jA [ob o 4 [.ref tx, .ref ty, vi st, vi un, vi sc], ob ty 6 [.ref tya, vi (u.length : Int)], aI g tya 60 f2]) q → gb g ≤ q := fun q h => hD0.inA h
  generalize hAe : jA [ob o 4 [.ref tx, .ref ty, vi st, vi un, vi sc], ob ty 6 [.ref tya, vi (u.length : Int)], aI g tya 60 f2] = A at *
  have hS : va_S A s.heap s.heap [] := va_S.rf
  suffices K : ∀ (H : Heap) (locs : List Loc), PP g [ob o 4 [.ref tx, .ref ty, vi st, vi un, vi sc], ob ty 6 [.ref tya, vi (u.length : Int)], aI g tya 60 f2] H → va_D A [ob o 4 [.ref tx, .ref ty, vi st, vi un, vi sc], ob ty 6 [.ref tya, vi (u.length : Int)], aI g tya 60 f2] → va_S A s.heap H locs → ∀ ls : Array Slot, lv_has ls 3 [(0, .ref o), (1, .ref a), (2, vi ns)] → W p l e (rmm 3 0 0) s m ([.ref o, .ref a, vi ns] : List Value).toArray below meth cq H locs 0 0 (MQ below (jQv (fun H1 => ∃ f1 : Nat → Int, TT t f1 ∧ PP g [ob o 4 [.ref tx, .ref ty, vi ns, vi (-1), vi 0], ob ty 6 [.ref tya, vi (t.length : Int)], aI g tya 60 f1] H1) A) ([.ref o, .ref a, vi ns] : List Value).toArray s 0 0 A) (F0 m 0 ls []) from K _ _ hP hD hS _ hl
  clear hl; intro H locs hP hD hS ls hl
  refine lv_aload_n hx hb dX4_setGiven_0 rfl (lv_at hl 0 rfl) ?_
  refine va_get (D := gD g) (ci := 4) (v := .ref ty) (C := RX4) (T := TX4) (N := 5) hx hb htl ck_X4 hown hKK.k hP 0 rfl rfl 1 (by decide) (htl _ wd_19_7) (fun _ h9 => h9) rfl dX4_setGiven_1 ?_
  refine lv_aload_n hx hb dX4_setGiven_4 rfl (lv_at hl 1 rfl) ?_
  have hDc : va_D A [ob ty 6 [.ref tya, vi (u.length : Int)], aI g tya 60 f2] := hD.sub [1, 2] (by decide) rfl
  refine jk_Qv (va_runV (As := [.ref a]) (rest := []) ⟨hx, hb, hml, hown, htl⟩ (m_X6_copyAll l g ty tya u f2 hf2 a c t f hf (jdisR hD ap_hPg [0, 1] [1, 2] rfl rfl)  ) (cwV 1 htl lk_X4_35 rfl rfl rfl cwV_X6_copyAll ⟨Nat.le_of_ble_eq_true rfl, Nat.le_of_ble_eq_true rfl⟩) (jp_V hKK hS hAb (va_recv hKK.k hP (ci := 6) (q0 := 1) rfl rfl) ⟨(va_P.sub hP [1, 2] rfl), hDc.weaken (fun _ q _ h => hAb _ h), (jat hPg hS ap_hPg)⟩) rfl rfl hl.1 rfl (lv_room (Nat.le_of_ble_eq_true rfl)) dX4_setGiven_5 ⟨Nat.le_of_ble_eq_true rfl, Nat.le_of_ble_eq_true rfl⟩) hS (fun q _ h => hDc.inA h) (fun q h => hDc.inA h) (fun H1 locs hz5 hzs hks hS => ?_)
  obtain ⟨fn5, hfn5, hP1⟩ := hz5
  obtain ⟨hP, hD⟩ := jput (wc := [ob ty 6 [.ref tya, vi (u.length : Int)], aI g tya 60 f2]) (w1 := [ob ty 6 [.ref tya, vi (t.length : Int)], aI g tya 60 fn5]) hP hD [1, 2] rfl rfl hks (fun q _ h => h) hP1
  clear hzs hks; generalize H1 = H at hP hD hS ⊢
  have hP : PP g [ob o 4 [.ref tx, .ref ty, vi st, vi un, vi sc], ob ty 6 [.ref tya, vi (t.length : Int)], aI g tya 60 fn5] H := hP
  have hD : va_D A [ob o 4 [.ref tx, .ref ty, vi st, vi un, vi sc], ob ty 6 [.ref tya, vi (t.length : Int)], aI g tya 60 fn5] := hD
  refine lv_aload_n hx hb dX4_setGiven_8 rfl (lv_at hl 0 rfl) ?_
  refine lv_iload_n hx hb dX4_setGiven_9 rfl (lv_at hl 2 rfl) ?_
  refine va_put (D := gD g) (ci := 4) (v := vi ns) (ty := .char) (C := RX4) (T := TX4) (N := 5) hx hb htl ck_X4 tyX4 tyX4_ok nmX4 hown hKK.k hP hD hS 0 rfl rfl 2 (by decide) (htl _ wd_7_21) (fun _ h9 => h9) rfl (by decide +kernel) (nz_c hns.1 hns.2).1 (nz_c hns.1 hns.2).2 (Nat.le_of_ble_eq_true rfl) dX4_setGiven_10 (fun H locs hP hD hS => ?_)
  have hP : PP g [ob o 4 [.ref tx, .ref ty, vi ns, vi un, vi sc], ob ty 6 [.ref tya, vi (t.length : Int)], aI g tya 60 fn5] H := hP
  have hD : va_D A [ob o 4 [.ref tx, .ref ty, vi ns, vi un, vi sc], ob ty 6 [.ref tya, vi (t.length : Int)], aI g tya 60 fn5] := hD
  refine lv_aload_n hx hb dX4_setGiven_13 rfl (lv_at hl 0 rfl) ?_
  refine jr_iconst hx hb dX4_setGiven_14 ?_
  refine va_put (D := gD g) (ci := 4) (v := vi (-1)) (ty := .int) (C := RX4) (T := TX4) (N := 5) hx hb htl ck_X4 tyX4 tyX4_ok nmX4 hown hKK.k hP hD hS 0 rfl rfl 3 (by decide) (htl _ wd_19_8) (fun _ h9 => h9) rfl (by decide +kernel) rfl rfl (Nat.le_of_ble_eq_true rfl) dX4_setGiven_15 (fun H locs hP hD hS => ?_)
  have hP : PP g [ob o 4 [.ref tx, .ref ty, vi ns, vi (-1), vi sc], ob ty 6 [.ref tya, vi (t.length : Int)], aI g tya 60 fn5] H := hP
  have hD : va_D A [ob o 4 [.ref tx, .ref ty, vi ns, vi (-1), vi sc], ob ty 6 [.ref tya, vi (t.length : Int)], aI g tya 60 fn5] := hD
  refine lv_aload_n hx hb dX4_setGiven_18 rfl (lv_at hl 0 rfl) ?_
  refine jr_iconst hx hb dX4_setGiven_19 ?_
  refine va_put (D := gD g) (ci := 4) (v := vi 0) (ty := .int) (C := RX4) (T := TX4) (N := 5) hx hb htl ck_X4 tyX4 tyX4_ok nmX4 hown hKK.k hP hD hS 0 rfl rfl 4 (by decide) (htl _ wd_19_9) (fun _ h9 => h9) rfl (by decide +kernel) rfl rfl (Nat.le_of_ble_eq_true rfl) dX4_setGiven_20 (fun H locs hP hD hS => ?_)
  have hP : PP g [ob o 4 [.ref tx, .ref ty, vi ns, vi (-1), vi 0], ob ty 6 [.ref tya, vi (t.length : Int)], aI g tya 60 fn5] H := hP
  have hD : va_D A [ob o 4 [.ref tx, .ref ty, vi ns, vi (-1), vi 0], ob ty 6 [.ref tya, vi (t.length : Int)], aI g tya 60 fn5] := hD
  exact je_Qv hx hb hr hlk hS (⟨fn5, hfn5, hP⟩) dX4_setGiven_23
set_option maxHeartbeats 4000000 in
set_option maxRecDepth 100000 in
theorem m_X4_setRepeat (l : Launch) (g : GT) (o tx ty : Nat) (st un sc : Int) (tya : Nat) (u : List Int) (f2 : Nat → Int) (hf2 : TT u f2) (a c : Nat) (t : List Int) (f : Nat → Int) (hf : TT t f) (hne : ∀ x ∈ ([a, c] : List Nat), x ∉ ([o, ty, tya] : List Nat)) : Met l yX4_setRepeat (ws_ yX4_setRepeat cX4_setRepeat 2 none) (rmm 4 0 0) (jPc g [.ref o, .ref a] (fun H => PP g [ob o 4 [.ref tx, .ref ty, vi st, vi un, vi sc], ob ty 6 [.ref tya, vi (u.length : Int)], aI g tya 60 f2] H ∧ va_D (fun q => gb g ≤ q) [ob o 4 [.ref tx, .ref ty, vi st, vi un, vi sc], ob ty 6 [.ref tya, vi (u.length : Int)], aI g tya 60 f2] ∧ PP g [ob a 6 [.ref c, vi (t.length : Int)], aI g c 60 f] H)) (jQv (fun H1 => ∃ f1 : Nat → Int, TT t f1 ∧ PP g [ob o 4 [.ref tx, .ref ty, vi 114, vi (-1), vi 0], ob ty 6 [.ref tya, vi (t.length : Int)], aI g tya 60 f1] H1) (jA [ob o 4 [.ref tx, .ref ty, vi st, vi un, vi sc], ob ty 6 [.ref tya, vi (u.length : Int)], aI g tya 60 f2])) 0 0 (jA [ob o 4 [.ref tx, .ref ty, vi st, vi un, vi sc], ob ty 6 [.ref tya, vi (u.length : Int)], aI g tya 60 f2]) := by
  refine jb_M (by decide) (Nat.le_of_ble_eq_true rfl) ?_
  intro p e s m below meth cq hx hb hr hml hown htl hlk hnm hKK hpre ls hl
  have hown : s.vm.findClass RX4 = some m.cls := hown
  have hl : lv_has ls 2 [(0, .ref o), (1, .ref a)] := hl
  obtain ⟨hP, hD0, hPg⟩ := hpre
  have ap_hPg : ∀ (k : Nat) (q : Nat × va_E), ([ob a 6 [.ref c, vi (t.length : Int)], aI g c 60 f] : va_W)[k]? = some q → ¬ (jA [ob o 4 [.ref tx, .ref ty, vi st, vi un, vi sc], ob ty 6 [.ref tya, vi (u.length : Int)], aI g tya 60 f2]) q.1 := jap (hne)
  have hD : va_D (jA [ob o 4 [.ref tx, .ref ty, vi st, vi un, vi sc], ob ty 6 [.ref tya, vi (u.length : Int)], aI g tya 60 f2]) [ob o 4 [.ref tx, .ref ty, vi st, vi un, vi sc], ob ty 6 [.ref tya, vi (u.length : Int)], aI g tya 60 f2] := hD0.inD
  have hAb : ∀ q, (jA [ob o 4 [.ref tx, .ref ty, vi st, vi un, vi sc], ob ty 6 [.ref tya, vi (u.length : Int)], aI g tya 60 f2]) q → gb g ≤ q := fun q h => hD0.inA h
  generalize hAe : jA [ob o 4 [.ref tx, .ref ty, vi st, vi un, vi sc], ob ty 6 [.ref tya, vi (u.length : Int)], aI g tya 60 f2] = A at *
  have hS : va_S A s.heap s.heap [] := va_S.rf
  suffices K : ∀ (H : Heap) (locs : List Loc), PP g [ob o 4 [.ref tx, .ref ty, vi st, vi un, vi sc], ob ty 6 [.ref tya, vi (u.length : Int)], aI g tya 60 f2] H → va_D A [ob o 4 [.ref tx, .ref ty, vi st, vi un, vi sc], ob ty 6 [.ref tya, vi (u.length : Int)], aI g tya 60 f2] → va_S A s.heap H locs → ∀ ls : Array Slot, lv_has ls 2 [(0, .ref o), (1, .ref a)] → W p l e (rmm 4 0 0) s m ([.ref o, .ref a] : List Value).toArray below meth cq H locs 0 0 (MQ below (jQv (fun H1 => ∃ f1 : Nat → Int, TT t f1 ∧ PP g [ob o 4 [.ref tx, .ref ty, vi 114, vi (-1), vi 0], ob ty 6 [.ref tya, vi (t.length : Int)], aI g tya 60 f1] H1) A) ([.ref o, .ref a] : List Value).toArray s 0 0 A) (F0 m 0 ls []) from K _ _ hP hD hS _ hl
  clear hl; intro H locs hP hD hS ls hl
  refine lv_aload_n hx hb dX4_setRepeat_0 rfl (lv_at hl 0 rfl) ?_
  refine lv_aload_n hx hb dX4_setRepeat_1 rfl (lv_at hl 1 rfl) ?_
  refine jr_bipush hx hb dX4_setRepeat_2 (by decide) ?_
  have hDc : va_D A [ob o 4 [.ref tx, .ref ty, vi st, vi un, vi sc], ob ty 6 [.ref tya, vi (u.length : Int)], aI g tya 60 f2] := hD.sub [0, 1, 2] (by decide) rfl
  refine jk_Qv (va_runV (As := [.ref a, vi 114]) (rest := []) ⟨hx, hb, hml, hown, htl⟩ (m_X4_setGiven l g o tx ty st un sc tya u f2 hf2 a c t f hf (jdisR hD ap_hPg [0, 1] [0, 1, 2] rfl rfl) 114 (by omega)) (cwV 2 htl lk_X4_49 rfl rfl rfl cwV_X4_setGiven ⟨Nat.le_of_ble_eq_true rfl, Nat.le_of_ble_eq_true rfl⟩) (jp_V hKK hS hAb (va_recv hKK.k hP (ci := 4) (q0 := 0) rfl rfl) ⟨hP, hDc.weaken (fun _ q _ h => hAb _ h), (jat hPg hS ap_hPg)⟩) rfl rfl hl.1 rfl (lv_room (Nat.le_of_ble_eq_true rfl)) dX4_setRepeat_4 ⟨Nat.le_of_ble_eq_true rfl, Nat.le_of_ble_eq_true rfl⟩) hS (fun q _ h => hDc.inA h) (fun q h => hDc.inA h) (fun H1 locs hz4 hzs hks hS => ?_)
  obtain ⟨fn4, hfn4, hP1⟩ := hz4
  obtain ⟨hP, hD⟩ := jput (wc := [ob o 4 [.ref tx, .ref ty, vi st, vi un, vi sc], ob ty 6 [.ref tya, vi (u.length : Int)], aI g tya 60 f2]) (w1 := [ob o 4 [.ref tx, .ref ty, vi 114, vi (-1), vi 0], ob ty 6 [.ref tya, vi (t.length : Int)], aI g tya 60 fn4]) hP hD [0, 1, 2] rfl rfl hks (fun q _ h => h) hP1
  clear hzs hks; generalize H1 = H at hP hD hS ⊢
  have hP : PP g [ob o 4 [.ref tx, .ref ty, vi 114, vi (-1), vi 0], ob ty 6 [.ref tya, vi (t.length : Int)], aI g tya 60 fn4] H := hP
  have hD : va_D A [ob o 4 [.ref tx, .ref ty, vi 114, vi (-1), vi 0], ob ty 6 [.ref tya, vi (t.length : Int)], aI g tya 60 fn4] := hD
  exact je_Qv hx hb hr hlk hS (⟨fn4, hfn4, hP⟩) dX4_setRepeat_7
set_option maxHeartbeats 4000000 in
set_option maxRecDepth 100000 in
theorem m_X4_setAnswer (l : Launch) (g : GT) (o tx ty : Nat) (st un sc : Int) (tya : Nat) (u : List Int) (f2 : Nat → Int) (hf2 : TT u f2) (a c : Nat) (t : List Int) (f : Nat → Int) (hf : TT t f) (hne : ∀ x ∈ ([a, c] : List Nat), x ∉ ([o, ty, tya] : List Nat)) : Met l yX4_setAnswer (ws_ yX4_setAnswer cX4_setAnswer 2 none) (rmm 4 0 0) (jPc g [.ref o, .ref a] (fun H => PP g [ob o 4 [.ref tx, .ref ty, vi st, vi un, vi sc], ob ty 6 [.ref tya, vi (u.length : Int)], aI g tya 60 f2] H ∧ va_D (fun q => gb g ≤ q) [ob o 4 [.ref tx, .ref ty, vi st, vi un, vi sc], ob ty 6 [.ref tya, vi (u.length : Int)], aI g tya 60 f2] ∧ PP g [ob a 6 [.ref c, vi (t.length : Int)], aI g c 60 f] H)) (jQv (fun H1 => ∃ f1 : Nat → Int, TT t f1 ∧ PP g [ob o 4 [.ref tx, .ref ty, vi 97, vi (-1), vi 0], ob ty 6 [.ref tya, vi (t.length : Int)], aI g tya 60 f1] H1) (jA [ob o 4 [.ref tx, .ref ty, vi st, vi un, vi sc], ob ty 6 [.ref tya, vi (u.length : Int)], aI g tya 60 f2])) 0 0 (jA [ob o 4 [.ref tx, .ref ty, vi st, vi un, vi sc], ob ty 6 [.ref tya, vi (u.length : Int)], aI g tya 60 f2]) := by
  refine jb_M (by decide) (Nat.le_of_ble_eq_true rfl) ?_
  intro p e s m below meth cq hx hb hr hml hown htl hlk hnm hKK hpre ls hl
  have hown : s.vm.findClass RX4 = some m.cls := hown
  have hl : lv_has ls 2 [(0, .ref o), (1, .ref a)] := hl
  obtain ⟨hP, hD0, hPg⟩ := hpre
  have ap_hPg : ∀ (k : Nat) (q : Nat × va_E), ([ob a 6 [.ref c, vi (t.length : Int)], aI g c 60 f] : va_W)[k]? = some q → ¬ (jA [ob o 4 [.ref tx, .ref ty, vi st, vi un, vi sc], ob ty 6 [.ref tya, vi (u.length : Int)], aI g tya 60 f2]) q.1 := jap (hne)
  have hD : va_D (jA [ob o 4 [.ref tx, .ref ty, vi st, vi un, vi sc], ob ty 6 [.ref tya, vi (u.length : Int)], aI g tya 60 f2]) [ob o 4 [.ref tx, .ref ty, vi st, vi un, vi sc], ob ty 6 [.ref tya, vi (u.length : Int)], aI g tya 60 f2] := hD0.inD
  have hAb : ∀ q, (jA [ob o 4 [.ref tx, .ref ty, vi st, vi un, vi sc], ob ty 6 [.ref tya, vi (u.length : Int)], aI g tya 60 f2]) q → gb g ≤ q := fun q h => hD0.inA h
  generalize hAe : jA [ob o 4 [.ref tx, .ref ty, vi st, vi un, vi sc], ob ty 6 [.ref tya, vi (u.length : Int)], aI g tya 60 f2] = A at *
  have hS : va_S A s.heap s.heap [] := va_S.rf
  suffices K : ∀ (H : Heap) (locs : List Loc), PP g [ob o 4 [.ref tx, .ref ty, vi st, vi un, vi sc], ob ty 6 [.ref tya, vi (u.length : Int)], aI g tya 60 f2] H → va_D A [ob o 4 [.ref tx, .ref ty, vi st, vi un, vi sc], ob ty 6 [.ref tya, vi (u.length : Int)], aI g tya 60 f2] → va_S A s.heap H locs → ∀ ls : Array Slot, lv_has ls 2 [(0, .ref o), (1, .ref a)] → W p l e (rmm 4 0 0) s m ([.ref o, .ref a] : List Value).toArray below meth cq H locs 0 0 (MQ below (jQv (fun H1 => ∃ f1 : Nat → Int, TT t f1 ∧ PP g [ob o 4 [.ref tx, .ref ty, vi 97, vi (-1), vi 0], ob ty 6 [.ref tya, vi (t.length : Int)], aI g tya 60 f1] H1) A) ([.ref o, .ref a] : List Value).toArray s 0 0 A) (F0 m 0 ls []) from K _ _ hP hD hS _ hl
  clear hl; intro H locs hP hD hS ls hl
  refine lv_aload_n hx hb dX4_setAnswer_0 rfl (lv_at hl 0 rfl) ?_
  refine lv_aload_n hx hb dX4_setAnswer_1 rfl (lv_at hl 1 rfl) ?_
  refine jr_bipush hx hb dX4_setAnswer_2 (by decide) ?_
  have hDc : va_D A [ob o 4 [.ref tx, .ref ty, vi st, vi un, vi sc], ob ty 6 [.ref tya, vi (u.length : Int)], aI g tya 60 f2] := hD.sub [0, 1, 2] (by decide) rfl
  refine jk_Qv (va_runV (As := [.ref a, vi 97]) (rest := []) ⟨hx, hb, hml, hown, htl⟩ (m_X4_setGiven l g o tx ty st un sc tya u f2 hf2 a c t f hf (jdisR hD ap_hPg [0, 1] [0, 1, 2] rfl rfl) 97 (by omega)) (cwV 2 htl lk_X4_49 rfl rfl rfl cwV_X4_setGiven ⟨Nat.le_of_ble_eq_true rfl, Nat.le_of_ble_eq_true rfl⟩) (jp_V hKK hS hAb (va_recv hKK.k hP (ci := 4) (q0 := 0) rfl rfl) ⟨hP, hDc.weaken (fun _ q _ h => hAb _ h), (jat hPg hS ap_hPg)⟩) rfl rfl hl.1 rfl (lv_room (Nat.le_of_ble_eq_true rfl)) dX4_setAnswer_4 ⟨Nat.le_of_ble_eq_true rfl, Nat.le_of_ble_eq_true rfl⟩) hS (fun q _ h => hDc.inA h) (fun q h => hDc.inA h) (fun H1 locs hz4 hzs hks hS => ?_)
  obtain ⟨fn4, hfn4, hP1⟩ := hz4
  obtain ⟨hP, hD⟩ := jput (wc := [ob o 4 [.ref tx, .ref ty, vi st, vi un, vi sc], ob ty 6 [.ref tya, vi (u.length : Int)], aI g tya 60 f2]) (w1 := [ob o 4 [.ref tx, .ref ty, vi 97, vi (-1), vi 0], ob ty 6 [.ref tya, vi (t.length : Int)], aI g tya 60 fn4]) hP hD [0, 1, 2] rfl rfl hks (fun q _ h => h) hP1
  clear hzs hks; generalize H1 = H at hP hD hS ⊢
  have hP : PP g [ob o 4 [.ref tx, .ref ty, vi 97, vi (-1), vi 0], ob ty 6 [.ref tya, vi (t.length : Int)], aI g tya 60 fn4] H := hP
  have hD : va_D A [ob o 4 [.ref tx, .ref ty, vi 97, vi (-1), vi 0], ob ty 6 [.ref tya, vi (t.length : Int)], aI g tya 60 fn4] := hD
  exact je_Qv hx hb hr hlk hS (⟨fn4, hfn4, hP⟩) dX4_setAnswer_7
set_option maxHeartbeats 4000000 in
set_option maxRecDepth 100000 in
theorem m_X4_adaptNumbers (l : Launch) (g : GT) (o tx ty : Nat) (st un sc : Int) (c : Nat) (t : List Int) (f : Nat → Int) (hf : TT t f) (tya : Nat) (u : List Int) (f2 : Nat → Int) (hf2 : TT u f2) (sa sd : Nat) (s0 : List Int) (f3 : Nat → Int) (hf3 : TT s0 f3) (hno : ∀ x ∈ ([o] : List Nat), x ∉ ([ty, tya] : List Nat)) (hnt : ∀ x ∈ ([tx, c] : List Nat), x ∉ ([ty, tya] : List Nat)) (hns : ∀ x ∈ ([sa, sd] : List Nat), x ∉ ([ty, tya] : List Nat)) : Met l yX4_adaptNumbers (ws_ yX4_adaptNumbers cX4_adaptNumbers 6 none) (rmm 2 0 0) (jPc g [.ref o, .ref sa] (fun H => PP g [ob ty 6 [.ref tya, vi (u.length : Int)], aI g tya 60 f2] H ∧ va_D (fun q => gb g ≤ q) [ob ty 6 [.ref tya, vi (u.length : Int)], aI g tya 60 f2] ∧ PP g [ob o 4 [.ref tx, .ref ty, vi st, vi un, vi sc]] H ∧ PP g [ob tx 6 [.ref c, vi (t.length : Int)], aI g c 60 f] H ∧ PP g [ob sa 6 [.ref sd, vi (s0.length : Int)], aI g sd 60 f3] H)) (jQv (fun H1 => ∃ f1 : Nat → Int, TT (u.map (ad1 t s0)) f1 ∧ PP g [ob ty 6 [.ref tya, vi ((u.map (ad1 t s0)).length : Int)], aI g tya 60 f1] H1) (jA [ob ty 6 [.ref tya, vi (u.length : Int)], aI g tya 60 f2])) 0 0 (jA [ob ty 6 [.ref tya, vi (u.length : Int)], aI g tya 60 f2]) := by
  refine jb_M (by decide) (Nat.le_of_ble_eq_true rfl) ?_
  intro p e s m below meth cq hx hb hr hml hown htl hlk hnm hKK hpre ls hl
  have hown : s.vm.findClass RX4 = some m.cls := hown
  have hl : lv_has ls 6 [(0, .ref o), (1, .ref sa)] := hl
  obtain ⟨hP, hD0, hPo, hPt, hPs⟩ := hpre
  have hL := hf2.len
  have ap_hPo : ∀ (k : Nat) (q : Nat × va_E), ([ob o 4 [.ref tx, .ref ty, vi st, vi un, vi sc]] : va_W)[k]? = some q → ¬ (jA [ob ty 6 [.ref tya, vi (u.length : Int)], aI g tya 60 f2]) q.1 := jap (hno)
  have ap_hPt : ∀ (k : Nat) (q : Nat × va_E), ([ob tx 6 [.ref c, vi (t.length : Int)], aI g c 60 f] : va_W)[k]? = some q → ¬ (jA [ob ty 6 [.ref tya, vi (u.length : Int)], aI g tya 60 f2]) q.1 := jap (hnt)
  have ap_hPs : ∀ (k : Nat) (q : Nat × va_E), ([ob sa 6 [.ref sd, vi (s0.length : Int)], aI g sd 60 f3] : va_W)[k]? = some q → ¬ (jA [ob ty 6 [.ref tya, vi (u.length : Int)], aI g tya 60 f2]) q.1 := jap (hns)
  have hD : va_D (jA [ob ty 6 [.ref tya, vi (u.length : Int)], aI g tya 60 f2]) [ob ty 6 [.ref tya, vi (u.length : Int)], aI g tya 60 f2] := hD0.inD
  have hAb : ∀ q, (jA [ob ty 6 [.ref tya, vi (u.length : Int)], aI g tya 60 f2]) q → gb g ≤ q := fun q h => hD0.inA h
  generalize hAe : jA [ob ty 6 [.ref tya, vi (u.length : Int)], aI g tya 60 f2] = A at *
  have hS : va_S A s.heap s.heap [] := va_S.rf
  suffices K : ∀ (H : Heap) (locs : List Loc), PP g [ob ty 6 [.ref tya, vi (u.length : Int)], aI g tya 60 f2] H → va_D A [ob ty 6 [.ref tya, vi (u.length : Int)], aI g tya 60 f2] → va_S A s.heap H locs → ∀ ls : Array Slot, lv_has ls 6 [(0, .ref o), (1, .ref sa)] → W p l e (rmm 2 0 0) s m ([.ref o, .ref sa] : List Value).toArray below meth cq H locs 0 0 (MQ below (jQv (fun H1 => ∃ f1 : Nat → Int, TT (u.map (ad1 t s0)) f1 ∧ PP g [ob ty 6 [.ref tya, vi ((u.map (ad1 t s0)).length : Int)], aI g tya 60 f1] H1) A) ([.ref o, .ref sa] : List Value).toArray s 0 0 A) (F0 m 0 ls []) from K _ _ hP hD hS _ hl
  clear hl; intro H locs hP hD hS ls hl
  refine jr_iconst hx hb dX4_adaptNumbers_0 ?_
  refine lv_istore_n (lv' := [(2, vi 0), (0, .ref o), (1, .ref sa)]) hx hb dX4_adaptNumbers_1 rfl hl (by decide) rfl (fun ls hl => ?_)
  have lp2 : ∀ (N : Nat) (i : Nat) (v : List Int) (f4 : Nat → Int), (i ≤ u.length) → (v = (u.take i).map (ad1 t s0) ++ u.drop i) → (TT v f4) → u.length - i < N → ∀ (H : Heap) (locs : List Loc), PP g [ob ty 6 [.ref tya, vi (v.length : Int)], aI g tya 60 f4] H → va_D A [ob ty 6 [.ref tya, vi (v.length : Int)], aI g tya 60 f4] → va_S A s.heap H locs → ∀ ls : Array Slot, lv_has ls 6 [(2, vi (i : Int)), (0, .ref o), (1, .ref sa)] → W p l e (rmm 2 0 0) s m ([.ref o, .ref sa] : List Value).toArray below meth cq H locs 0 0 (MQ below (jQv (fun H1 => ∃ f1 : Nat → Int, TT (u.map (ad1 t s0)) f1 ∧ PP g [ob ty 6 [.ref tya, vi ((u.map (ad1 t s0)).length : Int)], aI g tya 60 f1] H1) A) ([.ref o, .ref sa] : List Value).toArray s 0 0 A) (F0 m 2 ls []) := by
    intro N
    induction N with
    | zero => intro i v f4 hi hv hf4 hM; exact absurd hM (Nat.not_lt_zero _)
    | succ N ih2 =>
      intro i v f4 hi hv hf4 hM H locs hP hD hS ls hl
      have hvl : v.length = u.length := by rw [hv, List.length_append, List.length_map, List.length_take, List.length_drop]; omega
      refine lv_iload_n hx hb dX4_adaptNumbers_2 rfl (lv_at hl 0 rfl) ?_
      refine lv_aload_n hx hb dX4_adaptNumbers_3 rfl (lv_at hl 1 rfl) ?_
      refine va_get (D := gD g) (ci := 4) (v := .ref ty) (C := RX4) (T := TX4) (N := 5) hx hb htl ck_X4 hown hKK.k (jat hPo hS ap_hPo) 0 rfl rfl 1 (by decide) (htl _ wd_19_7) (fun _ h9 => h9) rfl dX4_adaptNumbers_4 ?_
      refine jk_Si (va_runV (As := []) (rest := [vi (i : Int)]) ⟨hx, hb, hml, hown, htl⟩ (m_X6_size l g ty tya v f4 hf4  ) (cwV 0 htl lk_X4_53 rfl rfl rfl cwV_X6_size ⟨Nat.le_of_ble_eq_true rfl, Nat.le_of_ble_eq_true rfl⟩) (jp_V hKK hS hAb (va_recv hKK.k hP (ci := 6) (q0 := 0) rfl rfl) hP) rfl rfl hl.1 rfl (lv_room (Nat.le_of_ble_eq_true rfl)) dX4_adaptNumbers_7 ⟨Nat.le_of_ble_eq_true rfl, Nat.le_of_ble_eq_true rfl⟩) (fun z7 hz7 => ?_)
      subst hz7
      refine jr_ge (tgt := 84) hx hb dX4_adaptNumbers_10 (by decide) ⟨by omega, by omega⟩ ⟨by omega, by omega⟩ (fun c10 => ?_) (fun c10 => ?_)
      · exact je_Qv hx hb hr hlk hS (by obtain rfl : i = u.length := (by omega); rw [dr_e (Nat.le_refl _), List.append_nil, List.take_length] at hv; rw [← hv]; exact ⟨f4, hf4, by rw [hvl] at hP; rw [hvl]; exact hP⟩) dX4_adaptNumbers_84
      · refine lv_aload_n hx hb dX4_adaptNumbers_13 rfl (lv_at hl 1 rfl) ?_
        refine va_get (D := gD g) (ci := 4) (v := .ref ty) (C := RX4) (T := TX4) (N := 5) hx hb htl ck_X4 hown hKK.k (jat hPo hS ap_hPo) 0 rfl rfl 1 (by decide) (htl _ wd_19_7) (fun _ h9 => h9) rfl dX4_adaptNumbers_14 ?_
        refine lv_iload_n hx hb dX4_adaptNumbers_17 rfl (lv_at hl 0 rfl) ?_
        refine jk_Si (va_runV (As := [vi (i : Int)]) (rest := []) ⟨hx, hb, hml, hown, htl⟩ (m_X6_at l g ty tya v f4 hf4 (i : Int) ⟨by omega, by omega⟩) (cwV 1 htl lk_X4_57 rfl rfl rfl cwV_X6_at ⟨Nat.le_of_ble_eq_true rfl, Nat.le_of_ble_eq_true rfl⟩) (jp_V hKK hS hAb (va_recv hKK.k hP (ci := 6) (q0 := 0) rfl rfl) hP) rfl rfl hl.1 rfl (lv_room (Nat.le_of_ble_eq_true rfl)) dX4_adaptNumbers_18 ⟨Nat.le_of_ble_eq_true rfl, Nat.le_of_ble_eq_true rfl⟩) (fun z18 hz18 => ?_)
        subst hz18
        have ta := TT.tAt_b hf4 (i : Int)
        obtain ⟨ad_1, ad_2, ad_3⟩ := ad_step (i := i) (by omega) hv
        have tb := hf2.b (j := i) (by omega)
        rw [tAt_in (t := v) (j := i) (by omega), ad_2] at ta ⊢
        refine lv_istore_n (lv' := [(3, vi (u.getD i 0)), (2, vi (i : Int)), (0, .ref o), (1, .ref sa)]) hx hb dX4_adaptNumbers_21 rfl hl (by decide) rfl (fun ls hl => ?_)
        refine lv_iload_n hx hb dX4_adaptNumbers_22 rfl (lv_at hl 0 rfl) ?_
        refine jk_Si (va_runS (As := [vi (u.getD i 0)]) (rest := []) ⟨hx, hb, hml, hown, htl⟩ (m_X7_kindIn l g (u.getD i 0) ⟨by omega, by omega⟩) (va_cwS 1 htl lk_X4_60 rfl rfl rfl cwS_X7_kindIn ⟨Nat.le_of_ble_eq_true rfl, Nat.le_of_ble_eq_true rfl⟩) (jp_S hKK hS hAb trivial) rfl rfl hl.1 rfl (lv_room (Nat.le_of_ble_eq_true rfl)) dX4_adaptNumbers_23 ⟨Nat.le_of_ble_eq_true rfl, Nat.le_of_ble_eq_true rfl⟩) (fun z23 hz23 => ?_)
        subst hz23
        have tk := kd_b (c := u.getD i 0) ⟨by omega, by omega⟩
        refine jr_iconst hx hb dX4_adaptNumbers_26 ?_
        refine jr_ne (tgt := 38) hx hb dX4_adaptNumbers_27 (by decide) ⟨by omega, by omega⟩ ⟨by omega, by omega⟩ (fun c27 => ?_) (fun c27 => ?_)
        · refine jr_iconst hx hb dX4_adaptNumbers_38 ?_
          refine lv_istore (lv' := [(4, vi (-1)), (3, vi (u.getD i 0)), (2, vi (i : Int)), (0, .ref o), (1, .ref sa)]) hx hb dX4_adaptNumbers_39 hl (by decide) rfl (fun ls hl => ?_)
          refine lv_iload hx hb dX4_adaptNumbers_41 (lv_at hl 0 rfl) ?_
          refine jr_iconst hx hb dX4_adaptNumbers_43 ?_
          refine jr_ne (tgt := 51) hx hb dX4_adaptNumbers_44 (by decide) ⟨by omega, by omega⟩ ⟨by omega, by omega⟩ (fun c44 => absurd c44 (by omega)) (fun c44 => ?_)
          refine jr_iconst hx hb dX4_adaptNumbers_47 ?_
          refine lv_goto (tgt := 60) hx hb dX4_adaptNumbers_48 (by decide) ?_
          refine lv_istore (lv' := [(5, vi (-1)), (4, vi (-1)), (3, vi (u.getD i 0)), (2, vi (i : Int)), (0, .ref o), (1, .ref sa)]) hx hb dX4_adaptNumbers_60 hl (by decide) rfl (fun ls hl => ?_)
          refine lv_iload hx hb dX4_adaptNumbers_62 (lv_at hl 0 rfl) ?_
          refine jr_iconst hx hb dX4_adaptNumbers_64 ?_
          refine jr_eq (tgt := 78) hx hb dX4_adaptNumbers_65 (by decide) ⟨by omega, by omega⟩ ⟨by omega, by omega⟩ (fun c65 => ?_) (fun c65 => absurd c65 (by omega))
          refine jr_iinc (lv' := [(2, vi ((i : Int) + 1)), (5, vi (-1)), (4, vi (-1)), (3, vi (u.getD i 0)), (0, .ref o), (1, .ref sa)]) hx hb dX4_adaptNumbers_78 hl (k := 3) rfl rfl (by decide) rfl (fun ls hl => ?_)
          refine lv_goto (tgt := 2) hx hb dX4_adaptNumbers_81 (by decide) ?_
          exact ih2 (i + 1) v f4 (by omega) (ad_keep (by omega) hv (if_neg (fun q => c27 q.1))) (hf4) (by omega) _ _ hP hD hS ls (lv_sub hl [0, 4, 5] rfl)
        · refine lv_aload_n hx hb dX4_adaptNumbers_30 rfl (lv_at hl 3 rfl) ?_
          refine lv_iload_n hx hb dX4_adaptNumbers_31 rfl (lv_at hl 0 rfl) ?_
          refine jk_Si (va_runV (As := [vi (u.getD i 0)]) (rest := []) ⟨hx, hb, hml, hown, htl⟩ (m_X6_placeOfNumber l g sa sd s0 f3 hf3 (u.getD i 0) ⟨by omega, by omega⟩) (cwV 1 htl lk_X4_65 rfl rfl rfl cwV_X6_placeOfNumber ⟨Nat.le_of_ble_eq_true rfl, Nat.le_of_ble_eq_true rfl⟩) (jp_V hKK hS hAb (va_recv hKK.k (jat hPs hS ap_hPs) (ci := 6) (q0 := 0) rfl rfl) (jat hPs hS ap_hPs)) rfl rfl hl.1 rfl (lv_room (Nat.le_of_ble_eq_true rfl)) dX4_adaptNumbers_32 ⟨Nat.le_of_ble_eq_true rfl, Nat.le_of_ble_eq_true rfl⟩) (fun z32 hz32 => ?_)
          subst hz32
          have tp := ponA_b s0 (u.getD i 0) 0 (by omega)
          have hL3 := hf3.len
          refine lv_goto (tgt := 39) hx hb dX4_adaptNumbers_35 (by decide) ?_
          refine lv_istore (lv' := [(4, vi (ponA s0 (u.getD i 0) 0)), (3, vi (u.getD i 0)), (2, vi (i : Int)), (0, .ref o), (1, .ref sa)]) hx hb dX4_adaptNumbers_39 hl (by decide) rfl (fun ls hl => ?_)
          refine lv_iload hx hb dX4_adaptNumbers_41 (lv_at hl 0 rfl) ?_
          refine jr_iconst hx hb dX4_adaptNumbers_43 ?_
          refine jr_ne (tgt := 51) hx hb dX4_adaptNumbers_44 (by decide) ⟨by omega, by omega⟩ ⟨by omega, by omega⟩ (fun c44 => ?_) (fun c44 => ?_)
          · refine lv_aload_n hx hb dX4_adaptNumbers_51 rfl (lv_at hl 3 rfl) ?_
            refine va_get (D := gD g) (ci := 4) (v := .ref tx) (C := RX4) (T := TX4) (N := 5) hx hb htl ck_X4 hown hKK.k (jat hPo hS ap_hPo) 0 rfl rfl 0 (by decide) (htl _ wd_19_6) (fun _ h9 => h9) rfl dX4_adaptNumbers_52 ?_
            refine lv_iload hx hb dX4_adaptNumbers_55 (lv_at hl 0 rfl) ?_
            refine jk_Si (va_runV (As := [vi (ponA s0 (u.getD i 0) 0)]) (rest := []) ⟨hx, hb, hml, hown, htl⟩ (m_X6_numberAtPlace l g tx c t f hf (ponA s0 (u.getD i 0) 0) (by omega) (by omega)) (cwV 1 htl lk_X4_68 rfl rfl rfl cwV_X6_numberAtPlace ⟨Nat.le_of_ble_eq_true rfl, Nat.le_of_ble_eq_true rfl⟩) (jp_V hKK hS hAb (va_recv hKK.k (jat hPt hS ap_hPt) (ci := 6) (q0 := 0) rfl rfl) (jat hPt hS ap_hPt)) rfl rfl hl.1 rfl (lv_room (Nat.le_of_ble_eq_true rfl)) dX4_adaptNumbers_57 ⟨Nat.le_of_ble_eq_true rfl, Nat.le_of_ble_eq_true rfl⟩) (fun z57 hz57 => ?_)
            subst hz57
            have tn := napA_b hf (ponA s0 (u.getD i 0) 0)
            refine lv_istore (lv' := [(5, vi (napA t (ponA s0 (u.getD i 0) 0))), (4, vi (ponA s0 (u.getD i 0) 0)), (3, vi (u.getD i 0)), (2, vi (i : Int)), (0, .ref o), (1, .ref sa)]) hx hb dX4_adaptNumbers_60 hl (by decide) rfl (fun ls hl => ?_)
            refine lv_iload hx hb dX4_adaptNumbers_62 (lv_at hl 0 rfl) ?_
            refine jr_iconst hx hb dX4_adaptNumbers_64 ?_
            refine jr_eq (tgt := 78) hx hb dX4_adaptNumbers_65 (by decide) ⟨by omega, by omega⟩ ⟨by omega, by omega⟩ (fun c65 => ?_) (fun c65 => ?_)
            · refine jr_iinc (lv' := [(2, vi ((i : Int) + 1)), (5, vi (napA t (ponA s0 (u.getD i 0) 0))), (4, vi (ponA s0 (u.getD i 0) 0)), (3, vi (u.getD i 0)), (0, .ref o), (1, .ref sa)]) hx hb dX4_adaptNumbers_78 hl (k := 3) rfl rfl (by decide) rfl (fun ls hl => ?_)
              refine lv_goto (tgt := 2) hx hb dX4_adaptNumbers_81 (by decide) ?_
              exact ih2 (i + 1) v f4 (by omega) (ad_keep (by omega) hv (if_neg (fun q => q.2.2 c65))) (hf4) (by omega) _ _ hP hD hS ls (lv_sub hl [0, 4, 5] rfl)
            · refine lv_aload_n hx hb dX4_adaptNumbers_68 rfl (lv_at hl 4 rfl) ?_
              refine va_get (D := gD g) (ci := 4) (v := .ref ty) (C := RX4) (T := TX4) (N := 5) hx hb htl ck_X4 hown hKK.k (jat hPo hS ap_hPo) 0 rfl rfl 1 (by decide) (htl _ wd_19_7) (fun _ h9 => h9) rfl dX4_adaptNumbers_69 ?_
              refine lv_iload_n hx hb dX4_adaptNumbers_72 rfl (lv_at hl 3 rfl) ?_
              refine lv_iload hx hb dX4_adaptNumbers_73 (lv_at hl 0 rfl) ?_
              have hA1 : ad1 t s0 (u.getD i 0) = napA t (ponA s0 (u.getD i 0) 0) := if_pos ⟨c27, c44, c65⟩
              have hDc : va_D A [ob ty 6 [.ref tya, vi (v.length : Int)], aI g tya 60 f4] := hD.sub [0, 1] (by decide) rfl
              refine jk_Qv (va_runV (As := [vi (i : Int), vi (napA t (ponA s0 (u.getD i 0) 0))]) (rest := []) ⟨hx, hb, hml, hown, htl⟩ (m_X6_replaceAt l g ty tya v f4 hf4 (i : Int) (napA t (ponA s0 (u.getD i 0) 0)) (by omega) (by omega)) (cwV 2 htl lk_X4_71 rfl rfl rfl cwV_X6_replaceAt ⟨Nat.le_of_ble_eq_true rfl, Nat.le_of_ble_eq_true rfl⟩) (jp_V hKK hS hAb (va_recv hKK.k hP (ci := 6) (q0 := 0) rfl rfl) ⟨hP, hDc.weaken (fun _ q _ h => hAb _ h)⟩) rfl rfl hl.1 rfl (lv_room (Nat.le_of_ble_eq_true rfl)) dX4_adaptNumbers_75 ⟨Nat.le_of_ble_eq_true rfl, Nat.le_of_ble_eq_true rfl⟩) hS (fun q _ h => hDc.inA h) (fun q h => hDc.inA h) (fun H1 locs hz75 hzs hks hS => ?_)
              obtain ⟨fn75, hfn75, hP1⟩ := hz75
              obtain ⟨hP, hD⟩ := jput (wc := [ob ty 6 [.ref tya, vi (v.length : Int)], aI g tya 60 f4]) (w1 := [ob ty 6 [.ref tya, vi ((v.set ((i : Int)).toNat (napA t (ponA s0 (u.getD i 0) 0))).length : Int)], aI g tya 60 fn75]) hP hD [0, 1] rfl rfl hks (fun q _ h => h) hP1
              clear hzs hks; generalize H1 = H at hP hD hS ⊢
              have hP : PP g [ob ty 6 [.ref tya, vi ((v.set ((i : Int)).toNat (napA t (ponA s0 (u.getD i 0) 0))).length : Int)], aI g tya 60 fn75] H := hP
              have hD : va_D A [ob ty 6 [.ref tya, vi ((v.set ((i : Int)).toNat (napA t (ponA s0 (u.getD i 0) 0))).length : Int)], aI g tya 60 fn75] := hD
              refine jr_iinc (lv' := [(2, vi ((i : Int) + 1)), (5, vi (napA t (ponA s0 (u.getD i 0) 0))), (4, vi (ponA s0 (u.getD i 0) 0)), (3, vi (u.getD i 0)), (0, .ref o), (1, .ref sa)]) hx hb dX4_adaptNumbers_78 hl (k := 3) rfl rfl (by decide) rfl (fun ls hl => ?_)
              refine lv_goto (tgt := 2) hx hb dX4_adaptNumbers_81 (by decide) ?_
              exact ih2 (i + 1) _ fn75 (by omega) (by rw [Int.toNat_natCast, ← hA1]; exact (ad_step (by omega) hv).2.2) (hfn75) (by omega) _ _ hP hD hS ls (lv_sub hl [0, 4, 5] rfl)
          · refine jr_iconst hx hb dX4_adaptNumbers_47 ?_
            refine lv_goto (tgt := 60) hx hb dX4_adaptNumbers_48 (by decide) ?_
            refine lv_istore (lv' := [(5, vi (-1)), (4, vi (ponA s0 (u.getD i 0) 0)), (3, vi (u.getD i 0)), (2, vi (i : Int)), (0, .ref o), (1, .ref sa)]) hx hb dX4_adaptNumbers_60 hl (by decide) rfl (fun ls hl => ?_)
            refine lv_iload hx hb dX4_adaptNumbers_62 (lv_at hl 0 rfl) ?_
            refine jr_iconst hx hb dX4_adaptNumbers_64 ?_
            refine jr_eq (tgt := 78) hx hb dX4_adaptNumbers_65 (by decide) ⟨by omega, by omega⟩ ⟨by omega, by omega⟩ (fun c65 => ?_) (fun c65 => absurd c65 (by omega))
            refine jr_iinc (lv' := [(2, vi ((i : Int) + 1)), (5, vi (-1)), (4, vi (ponA s0 (u.getD i 0) 0)), (3, vi (u.getD i 0)), (0, .ref o), (1, .ref sa)]) hx hb dX4_adaptNumbers_78 hl (k := 3) rfl rfl (by decide) rfl (fun ls hl => ?_)
            refine lv_goto (tgt := 2) hx hb dX4_adaptNumbers_81 (by decide) ?_
            exact ih2 (i + 1) v f4 (by omega) (ad_keep (by omega) hv (if_neg (fun q => q.2.1 c44))) (hf4) (by omega) _ _ hP hD hS ls (lv_sub hl [0, 4, 5] rfl)
  exact lp2 _ 0 u f2 (Nat.zero_le _) (by simp) (hf2) (Nat.lt_succ_self _) _ _ hP hD hS ls (lv_sub hl [0, 1, 2] rfl)
set_option maxHeartbeats 4000000 in
set_option maxRecDepth 100000 in
theorem m_X4_setFilling (l : Launch) (g : GT) (o tx ty : Nat) (st un sc : Int) (c : Nat) (t : List Int) (f : Nat → Int) (hf : TT t f) (tya : Nat) (u : List Int) (f2 : Nat → Int) (hf2 : TT u f2) (us usc : Nat) (s0 : List Int) (f3 : Nat → Int) (hf3 : TT s0 f3) (ua ut utc : Nat) (v0 : List Int) (f5 : Nat → Int) (hf5 : TT v0 f5) (lv num rt : Int) (hnt : ∀ x ∈ ([tx, c] : List Nat), x ∉ ([o, ty, tya] : List Nat)) (hnu : ∀ x ∈ ([ua, us, usc, ut, utc] : List Nat), x ∉ ([o, ty, tya] : List Nat)) (hrt : 0 ≤ rt ∧ rt ≤ 100) : Met l yX4_setFilling (ws_ yX4_setFilling cX4_setFilling 4 none) (rmm 3 0 0) (jPc g [.ref o, .ref ua, vi num, vi rt] (fun H => PP g [ob o 4 [.ref tx, .ref ty, vi st, vi un, vi sc], ob ty 6 [.ref tya, vi (u.length : Int)], aI g tya 60 f2] H ∧ va_D (fun q => gb g ≤ q) [ob o 4 [.ref tx, .ref ty, vi st, vi un, vi sc], ob ty 6 [.ref tya, vi (u.length : Int)], aI g tya 60 f2] ∧ PP g [ob tx 6 [.ref c, vi (t.length : Int)], aI g c 60 f] H ∧ PP g [ob ua 7 [.ref us, .ref ut, vi lv], ob us 6 [.ref usc, vi (s0.length : Int)], aI g usc 60 f3, ob ut 6 [.ref utc, vi (v0.length : Int)], aI g utc 60 f5] H)) (jQv (fun H1 => ∃ f1 : Nat → Int, TT (fl1 t s0 v0) f1 ∧ PP g [ob o 4 [.ref tx, .ref ty, vi (if rt = 100 then 120 else 102), vi num, vi rt], ob ty 6 [.ref tya, vi ((fl1 t s0 v0).length : Int)], aI g tya 60 f1] H1) (jA [ob o 4 [.ref tx, .ref ty, vi st, vi un, vi sc], ob ty 6 [.ref tya, vi (u.length : Int)], aI g tya 60 f2])) 0 0 (jA [ob o 4 [.ref tx, .ref ty, vi st, vi un, vi sc], ob ty 6 [.ref tya, vi (u.length : Int)], aI g tya 60 f2]) := by
  refine jb_M (by decide) (Nat.le_of_ble_eq_true rfl) ?_
  intro p e s m below meth cq hx hb hr hml hown htl hlk hnm hKK hpre ls hl
  have hown : s.vm.findClass RX4 = some m.cls := hown
  have hl : lv_has ls 4 [(0, .ref o), (1, .ref ua), (2, vi num), (3, vi rt)] := hl
  obtain ⟨hP, hD0, hPt, hPu⟩ := hpre
  have ap_hPt : ∀ (k : Nat) (q : Nat × va_E), ([ob tx 6 [.ref c, vi (t.length : Int)], aI g c 60 f] : va_W)[k]? = some q → ¬ (jA [ob o 4 [.ref tx, .ref ty, vi st, vi un, vi sc], ob ty 6 [.ref tya, vi (u.length : Int)], aI g tya 60 f2]) q.1 := jap (hnt)
  have ap_hPu : ∀ (k : Nat) (q : Nat × va_E), ([ob ua 7 [.ref us, .ref ut, vi lv], ob us 6 [.ref usc, vi (s0.length : Int)], aI g usc 60 f3, ob ut 6 [.ref utc, vi (v0.length : Int)], aI g utc 60 f5] : va_W)[k]? = some q → ¬ (jA [ob o 4 [.ref tx, .ref ty, vi st, vi un, vi sc], ob ty 6 [.ref tya, vi (u.length : Int)], aI g tya 60 f2]) q.1 := jap (hnu)
  have hD : va_D (jA [ob o 4 [.ref tx, .ref ty, vi st, vi un, vi sc], ob ty 6 [.ref tya, vi (u.length : Int)], aI g tya 60 f2]) [ob o 4 [.ref tx, .ref ty, vi st, vi un, vi sc], ob ty 6 [.ref tya, vi (u.length : Int)], aI g tya 60 f2] := hD0.inD
  have hAb : ∀ q, (jA [ob o 4 [.ref tx, .ref ty, vi st, vi un, vi sc], ob ty 6 [.ref tya, vi (u.length : Int)], aI g tya 60 f2]) q → gb g ≤ q := fun q h => hD0.inA h
  generalize hAe : jA [ob o 4 [.ref tx, .ref ty, vi st, vi un, vi sc], ob ty 6 [.ref tya, vi (u.length : Int)], aI g tya 60 f2] = A at *
  have hS : va_S A s.heap s.heap [] := va_S.rf
  suffices K : ∀ (H : Heap) (locs : List Loc), PP g [ob o 4 [.ref tx, .ref ty, vi st, vi un, vi sc], ob ty 6 [.ref tya, vi (u.length : Int)], aI g tya 60 f2] H → va_D A [ob o 4 [.ref tx, .ref ty, vi st, vi un, vi sc], ob ty 6 [.ref tya, vi (u.length : Int)], aI g tya 60 f2] → va_S A s.heap H locs → ∀ ls : Array Slot, lv_has ls 4 [(0, .ref o), (1, .ref ua), (2, vi num), (3, vi rt)] → W p l e (rmm 3 0 0) s m ([.ref o, .ref ua, vi num, vi rt] : List Value).toArray below meth cq H locs 0 0 (MQ below (jQv (fun H1 => ∃ f1 : Nat → Int, TT (fl1 t s0 v0) f1 ∧ PP g [ob o 4 [.ref tx, .ref ty, vi (if rt = 100 then 120 else 102), vi num, vi rt], ob ty 6 [.ref tya, vi ((fl1 t s0 v0).length : Int)], aI g tya 60 f1] H1) A) ([.ref o, .ref ua, vi num, vi rt] : List Value).toArray s 0 0 A) (F0 m 0 ls []) from K _ _ hP hD hS _ hl
  clear hl; intro H locs hP hD hS ls hl
  refine lv_aload_n hx hb dX4_setFilling_0 rfl (lv_at hl 0 rfl) ?_
  refine va_get (D := gD g) (ci := 4) (v := .ref ty) (C := RX4) (T := TX4) (N := 5) hx hb htl ck_X4 hown hKK.k hP 0 rfl rfl 1 (by decide) (htl _ wd_19_7) (fun _ h9 => h9) rfl dX4_setFilling_1 ?_
  refine lv_aload_n hx hb dX4_setFilling_4 rfl (lv_at hl 1 rfl) ?_
  refine va_get (D := gD g) (ci := 7) (v := .ref ut) (C := RX8) (T := TX8) (N := 3) hx hb htl ck_X8 hown hKK.k (jat hPu hS ap_hPu) 0 rfl rfl 1 (by decide) (htl _ wd_23_13) (fun _ h9 => h9) rfl dX4_setFilling_5 ?_
  have hDc : va_D A [ob ty 6 [.ref tya, vi (u.length : Int)], aI g tya 60 f2] := hD.sub [1, 2] (by decide) rfl
  refine jk_Qv (va_runV (As := [.ref ut]) (rest := []) ⟨hx, hb, hml, hown, htl⟩ (m_X6_copyAll l g ty tya u f2 hf2 ut utc v0 f5 hf5 (jdisR hD ap_hPu [3, 4] [1, 2] rfl rfl)  ) (cwV 1 htl lk_X4_35 rfl rfl rfl cwV_X6_copyAll ⟨Nat.le_of_ble_eq_true rfl, Nat.le_of_ble_eq_true rfl⟩) (jp_V hKK hS hAb (va_recv hKK.k hP (ci := 6) (q0 := 1) rfl rfl) ⟨(va_P.sub hP [1, 2] rfl), hDc.weaken (fun _ q _ h => hAb _ h), (va_P.sub (jat hPu hS ap_hPu) [3, 4] rfl)⟩) rfl rfl hl.1 rfl (lv_room (Nat.le_of_ble_eq_true rfl)) dX4_setFilling_8 ⟨Nat.le_of_ble_eq_true rfl, Nat.le_of_ble_eq_true rfl⟩) hS (fun q _ h => hDc.inA h) (fun q h => hDc.inA h) (fun H1 locs hz8 hzs hks hS => ?_)
  obtain ⟨fn8, hfn8, hP1⟩ := hz8
  obtain ⟨hP, hD⟩ := jput (wc := [ob ty 6 [.ref tya, vi (u.length : Int)], aI g tya 60 f2]) (w1 := [ob ty 6 [.ref tya, vi (v0.length : Int)], aI g tya 60 fn8]) hP hD [1, 2] rfl rfl hks (fun q _ h => h) hP1
  clear hzs hks; generalize H1 = H at hP hD hS ⊢
  have hP : PP g [ob o 4 [.ref tx, .ref ty, vi st, vi un, vi sc], ob ty 6 [.ref tya, vi (v0.length : Int)], aI g tya 60 fn8] H := hP
  have hD : va_D A [ob o 4 [.ref tx, .ref ty, vi st, vi un, vi sc], ob ty 6 [.ref tya, vi (v0.length : Int)], aI g tya 60 fn8] := hD
  refine lv_aload_n hx hb dX4_setFilling_11 rfl (lv_at hl 0 rfl) ?_
  refine va_get (D := gD g) (ci := 4) (v := .ref tx) (C := RX4) (T := TX4) (N := 5) hx hb htl ck_X4 hown hKK.k hP 0 rfl rfl 0 (by decide) (htl _ wd_19_6) (fun _ h9 => h9) rfl dX4_setFilling_12 ?_
  refine jr_iconst hx hb dX4_setFilling_15 ?_
  refine jk_Si (va_runV (As := [vi 1]) (rest := []) ⟨hx, hb, hml, hown, htl⟩ (m_X6_countKind l g tx c t f hf 1 ⟨by omega, by omega⟩) (cwV 1 htl lk_X4_39 rfl rfl rfl cwV_X6_countKind ⟨Nat.le_of_ble_eq_true rfl, Nat.le_of_ble_eq_true rfl⟩) (jp_V hKK hS hAb (va_recv hKK.k (jat hPt hS ap_hPt) (ci := 6) (q0 := 0) rfl rfl) (jat hPt hS ap_hPt)) rfl rfl hl.1 rfl (lv_room (Nat.le_of_ble_eq_true rfl)) dX4_setFilling_16 ⟨Nat.le_of_ble_eq_true rfl, Nat.le_of_ble_eq_true rfl⟩) (fun z16 hz16 => ?_)
  subst hz16
  have tc := cntA_b t 1 0
  have tc1 := tc
  have hLt := hf.len
  refine lv_aload_n hx hb dX4_setFilling_19 rfl (lv_at hl 1 rfl) ?_
  refine va_get (D := gD g) (ci := 7) (v := .ref us) (C := RX8) (T := TX8) (N := 3) hx hb htl ck_X8 hown hKK.k (jat hPu hS ap_hPu) 0 rfl rfl 0 (by decide) (htl _ wd_23_14) (fun _ h9 => h9) rfl dX4_setFilling_20 ?_
  refine jr_iconst hx hb dX4_setFilling_23 ?_
  refine jk_Si (va_runV (As := [vi 1]) (rest := [vi (cntA t 1 0)]) ⟨hx, hb, hml, hown, htl⟩ (m_X6_countKind l g us usc s0 f3 hf3 1 ⟨by omega, by omega⟩) (cwV 1 htl lk_X4_39 rfl rfl rfl cwV_X6_countKind ⟨Nat.le_of_ble_eq_true rfl, Nat.le_of_ble_eq_true rfl⟩) (jp_V hKK hS hAb (va_recv hKK.k (jat hPu hS ap_hPu) (ci := 6) (q0 := 1) rfl rfl) (va_P.sub (jat hPu hS ap_hPu) [1, 2] rfl)) rfl rfl hl.1 rfl (lv_room (Nat.le_of_ble_eq_true rfl)) dX4_setFilling_24 ⟨Nat.le_of_ble_eq_true rfl, Nat.le_of_ble_eq_true rfl⟩) (fun z24 hz24 => ?_)
  subst hz24
  have tc := cntA_b s0 1 0
  have hLs := hf3.len
  refine jr_ne (tgt := 38) hx hb dX4_setFilling_27 (by decide) ⟨by omega, by omega⟩ ⟨by omega, by omega⟩ (fun c27 => ?_) (fun c27 => ?_)
  · refine lv_aload_n hx hb dX4_setFilling_38 rfl (lv_at hl 0 rfl) ?_
    refine lv_iload_n hx hb dX4_setFilling_39 rfl (lv_at hl 3 rfl) ?_
    refine jr_bipush hx hb dX4_setFilling_40 (by decide) ?_
    refine jr_ne (tgt := 50) hx hb dX4_setFilling_42 (by decide) ⟨by omega, by omega⟩ ⟨by omega, by omega⟩ (fun c42 => ?_) (fun c42 => ?_)
    · have rt99 := c42
      refine jr_bipush hx hb dX4_setFilling_50 (by decide) ?_
      refine va_put (D := gD g) (ci := 4) (v := vi 102) (ty := .char) (C := RX4) (T := TX4) (N := 5) hx hb htl ck_X4 tyX4 tyX4_ok nmX4 hown hKK.k hP hD hS 0 rfl rfl 2 (by decide) (htl _ wd_7_21) (fun _ h9 => h9) rfl (by decide +kernel) (by decide) (by decide) (Nat.le_of_ble_eq_true rfl) dX4_setFilling_52 (fun H locs hP hD hS => ?_)
      have hP : PP g [ob o 4 [.ref tx, .ref ty, vi 102, vi un, vi sc], ob ty 6 [.ref tya, vi (v0.length : Int)], aI g tya 60 fn8] H := hP
      have hD : va_D A [ob o 4 [.ref tx, .ref ty, vi 102, vi un, vi sc], ob ty 6 [.ref tya, vi (v0.length : Int)], aI g tya 60 fn8] := hD
      refine lv_aload_n hx hb dX4_setFilling_55 rfl (lv_at hl 0 rfl) ?_
      refine lv_iload_n hx hb dX4_setFilling_56 rfl (lv_at hl 2 rfl) ?_
      refine va_put (D := gD g) (ci := 4) (v := vi num) (ty := .int) (C := RX4) (T := TX4) (N := 5) hx hb htl ck_X4 tyX4 tyX4_ok nmX4 hown hKK.k hP hD hS 0 rfl rfl 3 (by decide) (htl _ wd_19_8) (fun _ h9 => h9) rfl (by decide +kernel) rfl rfl (Nat.le_of_ble_eq_true rfl) dX4_setFilling_57 (fun H locs hP hD hS => ?_)
      have hP : PP g [ob o 4 [.ref tx, .ref ty, vi 102, vi num, vi sc], ob ty 6 [.ref tya, vi (v0.length : Int)], aI g tya 60 fn8] H := hP
      have hD : va_D A [ob o 4 [.ref tx, .ref ty, vi 102, vi num, vi sc], ob ty 6 [.ref tya, vi (v0.length : Int)], aI g tya 60 fn8] := hD
      refine lv_aload_n hx hb dX4_setFilling_60 rfl (lv_at hl 0 rfl) ?_
      refine lv_iload_n hx hb dX4_setFilling_61 rfl (lv_at hl 3 rfl) ?_
      refine va_put (D := gD g) (ci := 4) (v := vi rt) (ty := .int) (C := RX4) (T := TX4) (N := 5) hx hb htl ck_X4 tyX4 tyX4_ok nmX4 hown hKK.k hP hD hS 0 rfl rfl 4 (by decide) (htl _ wd_19_9) (fun _ h9 => h9) rfl (by decide +kernel) rfl rfl (Nat.le_of_ble_eq_true rfl) dX4_setFilling_62 (fun H locs hP hD hS => ?_)
      have hP : PP g [ob o 4 [.ref tx, .ref ty, vi 102, vi num, vi rt], ob ty 6 [.ref tya, vi (v0.length : Int)], aI g tya 60 fn8] H := hP
      have hD : va_D A [ob o 4 [.ref tx, .ref ty, vi 102, vi num, vi rt], ob ty 6 [.ref tya, vi (v0.length : Int)], aI g tya 60 fn8] := hD
      exact je_Qv hx hb hr hlk hS (by rw [show (if rt = 100 then (120 : Int) else 102) = 102 from if_neg rt99]; rw [show fl1 t s0 v0 = v0 from if_neg c27]; exact ⟨fn8, hfn8, hP⟩) dX4_setFilling_65
    · have rt99 := c42
      refine jr_bipush hx hb dX4_setFilling_45 (by decide) ?_
      refine lv_goto (tgt := 52) hx hb dX4_setFilling_47 (by decide) ?_
      refine va_put (D := gD g) (ci := 4) (v := vi 120) (ty := .char) (C := RX4) (T := TX4) (N := 5) hx hb htl ck_X4 tyX4 tyX4_ok nmX4 hown hKK.k hP hD hS 0 rfl rfl 2 (by decide) (htl _ wd_7_21) (fun _ h9 => h9) rfl (by decide +kernel) (by decide) (by decide) (Nat.le_of_ble_eq_true rfl) dX4_setFilling_52 (fun H locs hP hD hS => ?_)
      have hP : PP g [ob o 4 [.ref tx, .ref ty, vi 120, vi un, vi sc], ob ty 6 [.ref tya, vi (v0.length : Int)], aI g tya 60 fn8] H := hP
      have hD : va_D A [ob o 4 [.ref tx, .ref ty, vi 120, vi un, vi sc], ob ty 6 [.ref tya, vi (v0.length : Int)], aI g tya 60 fn8] := hD
      refine lv_aload_n hx hb dX4_setFilling_55 rfl (lv_at hl 0 rfl) ?_
      refine lv_iload_n hx hb dX4_setFilling_56 rfl (lv_at hl 2 rfl) ?_
      refine va_put (D := gD g) (ci := 4) (v := vi num) (ty := .int) (C := RX4) (T := TX4) (N := 5) hx hb htl ck_X4 tyX4 tyX4_ok nmX4 hown hKK.k hP hD hS 0 rfl rfl 3 (by decide) (htl _ wd_19_8) (fun _ h9 => h9) rfl (by decide +kernel) rfl rfl (Nat.le_of_ble_eq_true rfl) dX4_setFilling_57 (fun H locs hP hD hS => ?_)
      have hP : PP g [ob o 4 [.ref tx, .ref ty, vi 120, vi num, vi sc], ob ty 6 [.ref tya, vi (v0.length : Int)], aI g tya 60 fn8] H := hP
      have hD : va_D A [ob o 4 [.ref tx, .ref ty, vi 120, vi num, vi sc], ob ty 6 [.ref tya, vi (v0.length : Int)], aI g tya 60 fn8] := hD
      refine lv_aload_n hx hb dX4_setFilling_60 rfl (lv_at hl 0 rfl) ?_
      refine lv_iload_n hx hb dX4_setFilling_61 rfl (lv_at hl 3 rfl) ?_
      refine va_put (D := gD g) (ci := 4) (v := vi rt) (ty := .int) (C := RX4) (T := TX4) (N := 5) hx hb htl ck_X4 tyX4 tyX4_ok nmX4 hown hKK.k hP hD hS 0 rfl rfl 4 (by decide) (htl _ wd_19_9) (fun _ h9 => h9) rfl (by decide +kernel) rfl rfl (Nat.le_of_ble_eq_true rfl) dX4_setFilling_62 (fun H locs hP hD hS => ?_)
      have hP : PP g [ob o 4 [.ref tx, .ref ty, vi 120, vi num, vi rt], ob ty 6 [.ref tya, vi (v0.length : Int)], aI g tya 60 fn8] H := hP
      have hD : va_D A [ob o 4 [.ref tx, .ref ty, vi 120, vi num, vi rt], ob ty 6 [.ref tya, vi (v0.length : Int)], aI g tya 60 fn8] := hD
      exact je_Qv hx hb hr hlk hS (by rw [show (if rt = 100 then (120 : Int) else 102) = 120 from if_pos rt99]; rw [show fl1 t s0 v0 = v0 from if_neg c27]; exact ⟨fn8, hfn8, hP⟩) dX4_setFilling_65
  · refine lv_aload_n hx hb dX4_setFilling_30 rfl (lv_at hl 0 rfl) ?_
    refine lv_aload_n hx hb dX4_setFilling_31 rfl (lv_at hl 1 rfl) ?_
    refine va_get (D := gD g) (ci := 7) (v := .ref us) (C := RX8) (T := TX8) (N := 3) hx hb htl ck_X8 hown hKK.k (jat hPu hS ap_hPu) 0 rfl rfl 0 (by decide) (htl _ wd_23_14) (fun _ h9 => h9) rfl dX4_setFilling_32 ?_
    have hDc : va_D A [ob ty 6 [.ref tya, vi (v0.length : Int)], aI g tya 60 fn8] := hD.sub [1, 2] (by decide) rfl
    refine jk_Qv (va_runV (As := [.ref us]) (rest := []) ⟨hx, hb, hml, hown, htl⟩ (m_X4_adaptNumbers l g o tx ty st un sc c t f hf tya v0 fn8 hfn8 us usc s0 f3 hf3 (jdis hD [0] [1, 2] rfl rfl (by decide)) (jdisR hD ap_hPt [0, 1] [1, 2] rfl rfl) (jdisR hD ap_hPu [1, 2] [1, 2] rfl rfl)) (cwV 1 htl lk_X4_46 rfl rfl rfl cwV_X4_adaptNumbers ⟨Nat.le_of_ble_eq_true rfl, Nat.le_of_ble_eq_true rfl⟩) (jp_V hKK hS hAb (va_recv hKK.k hP (ci := 4) (q0 := 0) rfl rfl) ⟨(va_P.sub hP [1, 2] rfl), hDc.weaken (fun _ q _ h => hAb _ h), (va_P.sub hP [0] rfl), (jat hPt hS ap_hPt), (va_P.sub (jat hPu hS ap_hPu) [1, 2] rfl)⟩) rfl rfl hl.1 rfl (lv_room (Nat.le_of_ble_eq_true rfl)) dX4_setFilling_35 ⟨Nat.le_of_ble_eq_true rfl, Nat.le_of_ble_eq_true rfl⟩) hS (fun q _ h => hDc.inA h) (fun q h => hDc.inA h) (fun H1 locs hz35 hzs hks hS => ?_)
    obtain ⟨fn35, hfn35, hP1⟩ := hz35
    obtain ⟨hP, hD⟩ := jput (wc := [ob ty 6 [.ref tya, vi (v0.length : Int)], aI g tya 60 fn8]) (w1 := [ob ty 6 [.ref tya, vi ((v0.map (ad1 t s0)).length : Int)], aI g tya 60 fn35]) hP hD [1, 2] rfl rfl hks (fun q _ h => h) hP1
    clear hzs hks; generalize H1 = H at hP hD hS ⊢
    have hP : PP g [ob o 4 [.ref tx, .ref ty, vi st, vi un, vi sc], ob ty 6 [.ref tya, vi ((v0.map (ad1 t s0)).length : Int)], aI g tya 60 fn35] H := hP
    have hD : va_D A [ob o 4 [.ref tx, .ref ty, vi st, vi un, vi sc], ob ty 6 [.ref tya, vi ((v0.map (ad1 t s0)).length : Int)], aI g tya 60 fn35] := hD
    refine lv_aload_n hx hb dX4_setFilling_38 rfl (lv_at hl 0 rfl) ?_
    refine lv_iload_n hx hb dX4_setFilling_39 rfl (lv_at hl 3 rfl) ?_
    refine jr_bipush hx hb dX4_setFilling_40 (by decide) ?_
    refine jr_ne (tgt := 50) hx hb dX4_setFilling_42 (by decide) ⟨by omega, by omega⟩ ⟨by omega, by omega⟩ (fun c42 => ?_) (fun c42 => ?_)
    · have rt99 := c42
      refine jr_bipush hx hb dX4_setFilling_50 (by decide) ?_
      refine va_put (D := gD g) (ci := 4) (v := vi 102) (ty := .char) (C := RX4) (T := TX4) (N := 5) hx hb htl ck_X4 tyX4 tyX4_ok nmX4 hown hKK.k hP hD hS 0 rfl rfl 2 (by decide) (htl _ wd_7_21) (fun _ h9 => h9) rfl (by decide +kernel) (by decide) (by decide) (Nat.le_of_ble_eq_true rfl) dX4_setFilling_52 (fun H locs hP hD hS => ?_)
      have hP : PP g [ob o 4 [.ref tx, .ref ty, vi 102, vi un, vi sc], ob ty 6 [.ref tya, vi ((v0.map (ad1 t s0)).length : Int)], aI g tya 60 fn35] H := hP
      have hD : va_D A [ob o 4 [.ref tx, .ref ty, vi 102, vi un, vi sc], ob ty 6 [.ref tya, vi ((v0.map (ad1 t s0)).length : Int)], aI g tya 60 fn35] := hD
      refine lv_aload_n hx hb dX4_setFilling_55 rfl (lv_at hl 0 rfl) ?_
      refine lv_iload_n hx hb dX4_setFilling_56 rfl (lv_at hl 2 rfl) ?_
      refine va_put (D := gD g) (ci := 4) (v := vi num) (ty := .int) (C := RX4) (T := TX4) (N := 5) hx hb htl ck_X4 tyX4 tyX4_ok nmX4 hown hKK.k hP hD hS 0 rfl rfl 3 (by decide) (htl _ wd_19_8) (fun _ h9 => h9) rfl (by decide +kernel) rfl rfl (Nat.le_of_ble_eq_true rfl) dX4_setFilling_57 (fun H locs hP hD hS => ?_)
      have hP : PP g [ob o 4 [.ref tx, .ref ty, vi 102, vi num, vi sc], ob ty 6 [.ref tya, vi ((v0.map (ad1 t s0)).length : Int)], aI g tya 60 fn35] H := hP
      have hD : va_D A [ob o 4 [.ref tx, .ref ty, vi 102, vi num, vi sc], ob ty 6 [.ref tya, vi ((v0.map (ad1 t s0)).length : Int)], aI g tya 60 fn35] := hD
      refine lv_aload_n hx hb dX4_setFilling_60 rfl (lv_at hl 0 rfl) ?_
      refine lv_iload_n hx hb dX4_setFilling_61 rfl (lv_at hl 3 rfl) ?_
      refine va_put (D := gD g) (ci := 4) (v := vi rt) (ty := .int) (C := RX4) (T := TX4) (N := 5) hx hb htl ck_X4 tyX4 tyX4_ok nmX4 hown hKK.k hP hD hS 0 rfl rfl 4 (by decide) (htl _ wd_19_9) (fun _ h9 => h9) rfl (by decide +kernel) rfl rfl (Nat.le_of_ble_eq_true rfl) dX4_setFilling_62 (fun H locs hP hD hS => ?_)
      have hP : PP g [ob o 4 [.ref tx, .ref ty, vi 102, vi num, vi rt], ob ty 6 [.ref tya, vi ((v0.map (ad1 t s0)).length : Int)], aI g tya 60 fn35] H := hP
      have hD : va_D A [ob o 4 [.ref tx, .ref ty, vi 102, vi num, vi rt], ob ty 6 [.ref tya, vi ((v0.map (ad1 t s0)).length : Int)], aI g tya 60 fn35] := hD
      exact je_Qv hx hb hr hlk hS (by rw [show (if rt = 100 then (120 : Int) else 102) = 102 from if_neg rt99]; rw [show fl1 t s0 v0 = v0.map (ad1 t s0) from if_pos c27]; exact ⟨fn35, hfn35, hP⟩) dX4_setFilling_65
    · have rt99 := c42
      refine jr_bipush hx hb dX4_setFilling_45 (by decide) ?_
      refine lv_goto (tgt := 52) hx hb dX4_setFilling_47 (by decide) ?_
      refine va_put (D := gD g) (ci := 4) (v := vi 120) (ty := .char) (C := RX4) (T := TX4) (N := 5) hx hb htl ck_X4 tyX4 tyX4_ok nmX4 hown hKK.k hP hD hS 0 rfl rfl 2 (by decide) (htl _ wd_7_21) (fun _ h9 => h9) rfl (by decide +kernel) (by decide) (by decide) (Nat.le_of_ble_eq_true rfl) dX4_setFilling_52 (fun H locs hP hD hS => ?_)
      have hP : PP g [ob o 4 [.ref tx, .ref ty, vi 120, vi un, vi sc], ob ty 6 [.ref tya, vi ((v0.map (ad1 t s0)).length : Int)], aI g tya 60 fn35] H := hP
      have hD : va_D A [ob o 4 [.ref tx, .ref ty, vi 120, vi un, vi sc], ob ty 6 [.ref tya, vi ((v0.map (ad1 t s0)).length : Int)], aI g tya 60 fn35] := hD
      refine lv_aload_n hx hb dX4_setFilling_55 rfl (lv_at hl 0 rfl) ?_
      refine lv_iload_n hx hb dX4_setFilling_56 rfl (lv_at hl 2 rfl) ?_
      refine va_put (D := gD g) (ci := 4) (v := vi num) (ty := .int) (C := RX4) (T := TX4) (N := 5) hx hb htl ck_X4 tyX4 tyX4_ok nmX4 hown hKK.k hP hD hS 0 rfl rfl 3 (by decide) (htl _ wd_19_8) (fun _ h9 => h9) rfl (by decide +kernel) rfl rfl (Nat.le_of_ble_eq_true rfl) dX4_setFilling_57 (fun H locs hP hD hS => ?_)
      have hP : PP g [ob o 4 [.ref tx, .ref ty, vi 120, vi num, vi sc], ob ty 6 [.ref tya, vi ((v0.map (ad1 t s0)).length : Int)], aI g tya 60 fn35] H := hP
      have hD : va_D A [ob o 4 [.ref tx, .ref ty, vi 120, vi num, vi sc], ob ty 6 [.ref tya, vi ((v0.map (ad1 t s0)).length : Int)], aI g tya 60 fn35] := hD
      refine lv_aload_n hx hb dX4_setFilling_60 rfl (lv_at hl 0 rfl) ?_
      refine lv_iload_n hx hb dX4_setFilling_61 rfl (lv_at hl 3 rfl) ?_
      refine va_put (D := gD g) (ci := 4) (v := vi rt) (ty := .int) (C := RX4) (T := TX4) (N := 5) hx hb htl ck_X4 tyX4 tyX4_ok nmX4 hown hKK.k hP hD hS 0 rfl rfl 4 (by decide) (htl _ wd_19_9) (fun _ h9 => h9) rfl (by decide +kernel) rfl rfl (Nat.le_of_ble_eq_true rfl) dX4_setFilling_62 (fun H locs hP hD hS => ?_)
      have hP : PP g [ob o 4 [.ref tx, .ref ty, vi 120, vi num, vi rt], ob ty 6 [.ref tya, vi ((v0.map (ad1 t s0)).length : Int)], aI g tya 60 fn35] H := hP
      have hD : va_D A [ob o 4 [.ref tx, .ref ty, vi 120, vi num, vi rt], ob ty 6 [.ref tya, vi ((v0.map (ad1 t s0)).length : Int)], aI g tya 60 fn35] := hD
      exact je_Qv hx hb hr hlk hS (by rw [show (if rt = 100 then (120 : Int) else 102) = 120 from if_pos rt99]; rw [show fl1 t s0 v0 = v0.map (ad1 t s0) from if_pos c27]; exact ⟨fn35, hfn35, hP⟩) dX4_setFilling_65
