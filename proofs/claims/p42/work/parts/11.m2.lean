
theorem lk_X6_19 : GoodIn WSL (wsV RX6 19 RX6 yX6_hasPlace (ws_ yX6_hasPlace cX6_hasPlace 2 (some .boolean))) := gd_app (List.forall_mem_cons.mpr ⟨wd_24_11, List.forall_mem_cons.mpr ⟨wd_24_12, List.forall_mem_cons.mpr ⟨wd_24_13, List.forall_mem_cons.mpr ⟨wd_1_13, fun _ h => nomatch h⟩⟩⟩⟩) (gd_ wd_24_14)
theorem cwV_X6_hasPlace : yX6_hasPlace.cls = RX6 ∧ yX6_hasPlace.cls ≠ "java/lang/invoke/MethodHandle" ∧ yX6_hasPlace.cls ≠ "java/lang/invoke/VarHandle" ∧ (parseMethodDescriptor yX6_hasPlace.desc).map (fun d => d.parameters.length) = some 1 := by decide +kernel
theorem lk_X6_27 : GoodIn WSL (wsV RX6 27 RX6 yX6_put (ws_ yX6_put cX6_put 2 none)) := gd_app (List.forall_mem_cons.mpr ⟨wd_13_0, List.forall_mem_cons.mpr ⟨wd_9_23, List.forall_mem_cons.mpr ⟨wd_10_0, List.forall_mem_cons.mpr ⟨wd_1_13, fun _ h => nomatch h⟩⟩⟩⟩) (gd_ wd_10_1)
theorem cwV_X6_put : yX6_put.cls = RX6 ∧ yX6_put.cls ≠ "java/lang/invoke/MethodHandle" ∧ yX6_put.cls ≠ "java/lang/invoke/VarHandle" ∧ (parseMethodDescriptor yX6_put.desc).map (fun d => d.parameters.length) = some 1 := by decide +kernel
theorem lk_X6_31 : GoodIn WSL (wsV RX6 31 RX6 yX6_size (ws_ yX6_size cX6_size 1 (some .int))) := gd_app (List.forall_mem_cons.mpr ⟨wd_12_19, List.forall_mem_cons.mpr ⟨wd_8_3, List.forall_mem_cons.mpr ⟨wd_8_4, List.forall_mem_cons.mpr ⟨wd_1_13, fun _ h => nomatch h⟩⟩⟩⟩) (gd_ wd_8_5)
theorem cwV_X6_size : yX6_size.cls = RX6 ∧ yX6_size.cls ≠ "java/lang/invoke/MethodHandle" ∧ yX6_size.cls ≠ "java/lang/invoke/VarHandle" ∧ (parseMethodDescriptor yX6_size.desc).map (fun d => d.parameters.length) = some 0 := by decide +kernel
theorem lk_X6_35 : GoodIn WSL (wsV RX6 35 RX6 yX6_copyRange (ws_ yX6_copyRange cX6_copyRange 5 none)) := gd_app (List.forall_mem_cons.mpr ⟨wd_12_20, List.forall_mem_cons.mpr ⟨wd_12_21, List.forall_mem_cons.mpr ⟨wd_12_22, List.forall_mem_cons.mpr ⟨wd_1_13, fun _ h => nomatch h⟩⟩⟩⟩) (gd_ wd_12_23)
theorem cwV_X6_copyRange : yX6_copyRange.cls = RX6 ∧ yX6_copyRange.cls ≠ "java/lang/invoke/MethodHandle" ∧ yX6_copyRange.cls ≠ "java/lang/invoke/VarHandle" ∧ (parseMethodDescriptor yX6_copyRange.desc).map (fun d => d.parameters.length) = some 3 := by decide +kernel
theorem lk_X6_39 : GoodIn WSL (wsV RX6 39 RX6 yX6_copyAll (ws_ yX6_copyAll cX6_copyAll 2 none)) := gd_app (List.forall_mem_cons.mpr ⟨wd_12_15, List.forall_mem_cons.mpr ⟨wd_12_16, List.forall_mem_cons.mpr ⟨wd_12_17, List.forall_mem_cons.mpr ⟨wd_1_13, fun _ h => nomatch h⟩⟩⟩⟩) (gd_ wd_12_18)
theorem cwV_X6_copyAll : yX6_copyAll.cls = RX6 ∧ yX6_copyAll.cls ≠ "java/lang/invoke/MethodHandle" ∧ yX6_copyAll.cls ≠ "java/lang/invoke/VarHandle" ∧ (parseMethodDescriptor yX6_copyAll.desc).map (fun d => d.parameters.length) = some 1 := by decide +kernel
theorem lk_X6_43 : GoodIn WSL (wsV RX6 43 RX6 yX6_makeEmpty (ws_ yX6_makeEmpty cX6_makeEmpty 1 none)) := gd_app (List.forall_mem_cons.mpr ⟨wd_13_1, List.forall_mem_cons.mpr ⟨wd_13_2, List.forall_mem_cons.mpr ⟨wd_13_3, List.forall_mem_cons.mpr ⟨wd_1_13, fun _ h => nomatch h⟩⟩⟩⟩) (gd_ wd_13_4)
theorem cwV_X6_makeEmpty : yX6_makeEmpty.cls = RX6 ∧ yX6_makeEmpty.cls ≠ "java/lang/invoke/MethodHandle" ∧ yX6_makeEmpty.cls ≠ "java/lang/invoke/VarHandle" ∧ (parseMethodDescriptor yX6_makeEmpty.desc).map (fun d => d.parameters.length) = some 0 := by decide +kernel
set_option maxHeartbeats 4000000 in
set_option maxRecDepth 100000 in
theorem m_X6_makeEmpty (l : Launch) (g : GT) (a c : Nat) (t : List Int) (f : Nat → Int) (hf : TT t f) : Met l yX6_makeEmpty (ws_ yX6_makeEmpty cX6_makeEmpty 1 none) (rmm 0 0 0) (jPc g [.ref a] (fun H => PP g [ob a 6 [.ref c, vi (t.length : Int)], aI g c 60 f] H ∧ va_D (fun q => gb g ≤ q) [ob a 6 [.ref c, vi (t.length : Int)], aI g c 60 f])) (jQv (fun H1 => ∃ f1 : Nat → Int, TT ([] : List Int) f1 ∧ PP g [ob a 6 [.ref c, vi (([] : List Int).length : Int)], aI g c 60 f1] H1) (jA [ob a 6 [.ref c, vi (t.length : Int)], aI g c 60 f])) 0 0 (jA [ob a 6 [.ref c, vi (t.length : Int)], aI g c 60 f]) := by
  refine jb_M (by decide) (Nat.le_of_ble_eq_true rfl) ?_
  intro p e s m below meth cq hx hb hr hml hown htl hlk hnm hKK hpre ls hl
  have hown : s.vm.findClass RX6 = some m.cls := hown
  have hl : lv_has ls 1 [(0, .ref a)] := hl
  obtain ⟨hP, hD0⟩ := hpre
  have hD : va_D (jA [ob a 6 [.ref c, vi (t.length : Int)], aI g c 60 f]) [ob a 6 [.ref c, vi (t.length : Int)], aI g c 60 f] := hD0.inD
  have hAb : ∀ q, (jA [ob a 6 [.ref c, vi (t.length : Int)], aI g c 60 f]) q → gb g ≤ q := fun q h => hD0.inA h
  generalize hAe : jA [ob a 6 [.ref c, vi (t.length : Int)], aI g c 60 f] = A at *
  have hS : va_S A s.heap s.heap [] := va_S.rf
  suffices K : ∀ (H : Heap) (locs : List Loc), PP g [ob a 6 [.ref c, vi (t.length : Int)], aI g c 60 f] H → va_D A [ob a 6 [.ref c, vi (t.length : Int)], aI g c 60 f] → va_S A s.heap H locs → ∀ ls : Array Slot, lv_has ls 1 [(0, .ref a)] → W p l e (rmm 0 0 0) s m ([.ref a] : List Value).toArray below meth cq H locs 0 0 (MQ below (jQv (fun H1 => ∃ f1 : Nat → Int, TT ([] : List Int) f1 ∧ PP g [ob a 6 [.ref c, vi (([] : List Int).length : Int)], aI g c 60 f1] H1) A) ([.ref a] : List Value).toArray s 0 0 A) (F0 m 0 ls []) from K _ _ hP hD hS _ hl
  clear hl; intro H locs hP hD hS ls hl
  refine lv_aload_n hx hb dX6_makeEmpty_0 rfl (lv_at hl 0 rfl) ?_
  refine jr_iconst hx hb dX6_makeEmpty_1 ?_
  refine va_put (D := gD g) (ci := 6) (v := vi 0) (ty := .int) (C := RX6) (T := TX6) (N := 2) hx hb htl ck_X6 tyX6 tyX6_ok nmX6 hown hKK.k hP hD hS 0 rfl rfl 1 (by decide) (htl _ wd_2_16) (fun _ h9 => h9) rfl (by decide +kernel) rfl rfl (Nat.le_of_ble_eq_true rfl) dX6_makeEmpty_2 (fun H locs hP hD hS => ?_)
  have hP : PP g [ob a 6 [.ref c, vi 0], aI g c 60 f] H := hP
  have hD : va_D A [ob a 6 [.ref c, vi 0], aI g c 60 f] := hD
  exact je_Qv hx hb hr hlk hS (⟨f, TT.nil f, hP⟩) dX6_makeEmpty_5
set_option maxHeartbeats 4000000 in
set_option maxRecDepth 100000 in
theorem m_X6_put (l : Launch) (g : GT) (a c : Nat) (t : List Int) (f : Nat → Int) (hf : TT t f) (x : Int) (hl6 : t.length < 60) (hx6 : 0 ≤ x ∧ x < 40000) : Met l yX6_put (ws_ yX6_put cX6_put 2 none) (rmm 0 0 0) (jPc g [.ref a, vi x] (fun H => PP g [ob a 6 [.ref c, vi (t.length : Int)], aI g c 60 f] H ∧ va_D (fun q => gb g ≤ q) [ob a 6 [.ref c, vi (t.length : Int)], aI g c 60 f])) (jQv (fun H1 => ∃ f1 : Nat → Int, TT (t ++ [x]) f1 ∧ PP g [ob a 6 [.ref c, vi ((t ++ [x]).length : Int)], aI g c 60 f1] H1) (jA [ob a 6 [.ref c, vi (t.length : Int)], aI g c 60 f])) 0 0 (jA [ob a 6 [.ref c, vi (t.length : Int)], aI g c 60 f]) := by
  refine jb_M (by decide) (Nat.le_of_ble_eq_true rfl) ?_
  intro p e s m below meth cq hx hb hr hml hown htl hlk hnm hKK hpre ls hl
  have hown : s.vm.findClass RX6 = some m.cls := hown
  have hl : lv_has ls 2 [(0, .ref a), (1, vi x)] := hl
  obtain ⟨hP, hD0⟩ := hpre
  have hD : va_D (jA [ob a 6 [.ref c, vi (t.length : Int)], aI g c 60 f]) [ob a 6 [.ref c, vi (t.length : Int)], aI g c 60 f] := hD0.inD
  have hAb : ∀ q, (jA [ob a 6 [.ref c, vi (t.length : Int)], aI g c 60 f]) q → gb g ≤ q := fun q h => hD0.inA h
  generalize hAe : jA [ob a 6 [.ref c, vi (t.length : Int)], aI g c 60 f] = A at *
  have hS : va_S A s.heap s.heap [] := va_S.rf
  suffices K : ∀ (H : Heap) (locs : List Loc), PP g [ob a 6 [.ref c, vi (t.length : Int)], aI g c 60 f] H → va_D A [ob a 6 [.ref c, vi (t.length : Int)], aI g c 60 f] → va_S A s.heap H locs → ∀ ls : Array Slot, lv_has ls 2 [(0, .ref a), (1, vi x)] → W p l e (rmm 0 0 0) s m ([.ref a, vi x] : List Value).toArray below meth cq H locs 0 0 (MQ below (jQv (fun H1 => ∃ f1 : Nat → Int, TT (t ++ [x]) f1 ∧ PP g [ob a 6 [.ref c, vi ((t ++ [x]).length : Int)], aI g c 60 f1] H1) A) ([.ref a, vi x] : List Value).toArray s 0 0 A) (F0 m 0 ls []) from K _ _ hP hD hS _ hl
  clear hl; intro H locs hP hD hS ls hl
  refine lv_aload_n hx hb dX6_put_0 rfl (lv_at hl 0 rfl) ?_
  refine va_get (D := gD g) (ci := 6) (v := vi (t.length : Int)) (C := RX6) (T := TX6) (N := 2) hx hb htl ck_X6 hown hKK.k hP 0 rfl rfl 1 (by decide) (htl _ wd_2_16) (fun _ h9 => h9) rfl dX6_put_1 ?_
  refine lv_aload_n hx hb dX6_put_4 rfl (lv_at hl 0 rfl) ?_
  refine va_get (D := gD g) (ci := 6) (v := .ref c) (C := RX6) (T := TX6) (N := 2) hx hb htl ck_X6 hown hKK.k hP 0 rfl rfl 0 (by decide) (htl _ wd_2_15) (fun _ h9 => h9) rfl dX6_put_5 ?_
  refine va_alen (v := jI (60 : Nat)) hx hb hKK.k hP 1 0 rfl rfl (jI_nI _) dX6_put_8 ?_
  refine jr_ge (tgt := 32) hx hb dX6_put_9 (by decide) ⟨by omega, by omega⟩ ⟨by omega, by omega⟩ (fun c9 => absurd c9 (by omega)) (fun c9 => ?_)
  refine lv_aload_n hx hb dX6_put_12 rfl (lv_at hl 0 rfl) ?_
  refine va_get (D := gD g) (ci := 6) (v := .ref c) (C := RX6) (T := TX6) (N := 2) hx hb htl ck_X6 hown hKK.k hP 0 rfl rfl 0 (by decide) (htl _ wd_2_15) (fun _ h9 => h9) rfl dX6_put_13 ?_
  refine lv_aload_n hx hb dX6_put_16 rfl (lv_at hl 0 rfl) ?_
  refine va_get (D := gD g) (ci := 6) (v := vi (t.length : Int)) (C := RX6) (T := TX6) (N := 2) hx hb htl ck_X6 hown hKK.k hP 0 rfl rfl 1 (by decide) (htl _ wd_2_16) (fun _ h9 => h9) rfl dX6_put_17 ?_
  refine lv_iload_n hx hb dX6_put_20 rfl (lv_at hl 1 rfl) ?_
  refine jr_iast hx hb hKK.k hP hD hS 1 rfl t.length rfl (by omega) (by omega) dX6_put_21 (fun H locs hP hD hS => ?_)
  have hP : PP g [ob a 6 [.ref c, vi (t.length : Int)], aI g c 60 (ju f t.length x)] H := hP
  have hD : va_D A [ob a 6 [.ref c, vi (t.length : Int)], aI g c 60 (ju f t.length x)] := hD
  refine lv_aload_n hx hb dX6_put_22 rfl (lv_at hl 0 rfl) ?_
  refine lv_dup hx hb dX6_put_23 rfl ?_
  refine va_get (D := gD g) (ci := 6) (v := vi (t.length : Int)) (C := RX6) (T := TX6) (N := 2) hx hb htl ck_X6 hown hKK.k hP 0 rfl rfl 1 (by decide) (htl _ wd_2_16) (fun _ h9 => h9) rfl dX6_put_24 ?_
  refine jr_iconst hx hb dX6_put_27 ?_
  refine jr_iadd hx hb dX6_put_28 ?_
  refine va_put (D := gD g) (ci := 6) (v := vi ((t.length : Int) + 1)) (ty := .int) (C := RX6) (T := TX6) (N := 2) hx hb htl ck_X6 tyX6 tyX6_ok nmX6 hown hKK.k hP hD hS 0 rfl rfl 1 (by decide) (htl _ wd_2_16) (fun _ h9 => h9) rfl (by decide +kernel) rfl rfl (Nat.le_of_ble_eq_true rfl) dX6_put_29 (fun H locs hP hD hS => ?_)
  have hP : PP g [ob a 6 [.ref c, vi ((t.length : Int) + 1)], aI g c 60 (ju f t.length x)] H := hP
  have hD : va_D A [ob a 6 [.ref c, vi ((t.length : Int) + 1)], aI g c 60 (ju f t.length x)] := hD
  exact je_Qv hx hb hr hlk hS (⟨ju f t.length x, hf.push hl6 hx6, by rw [show (((t ++ [x] : List Int).length : Nat) : Int) = (t.length : Int) + 1 by simp]; exact hP⟩) dX6_put_32
set_option maxHeartbeats 4000000 in
set_option maxRecDepth 100000 in
theorem m_X6_replaceAt (l : Launch) (g : GT) (a c : Nat) (t : List Int) (f : Nat → Int) (hf : TT t f) (i x : Int) (hi6 : 0 ≤ i ∧ i < t.length) (hx6 : 0 ≤ x ∧ x < 40000) : Met l yX6_replaceAt (ws_ yX6_replaceAt cX6_replaceAt 3 none) (rmm 1 0 0) (jPc g [.ref a, vi i, vi x] (fun H => PP g [ob a 6 [.ref c, vi (t.length : Int)], aI g c 60 f] H ∧ va_D (fun q => gb g ≤ q) [ob a 6 [.ref c, vi (t.length : Int)], aI g c 60 f])) (jQv (fun H1 => ∃ f1 : Nat → Int, TT (t.set (i).toNat x) f1 ∧ PP g [ob a 6 [.ref c, vi ((t.set (i).toNat x).length : Int)], aI g c 60 f1] H1) (jA [ob a 6 [.ref c, vi (t.length : Int)], aI g c 60 f])) 0 0 (jA [ob a 6 [.ref c, vi (t.length : Int)], aI g c 60 f]) := by
  refine jb_M (by decide) (Nat.le_of_ble_eq_true rfl) ?_
  intro p e s m below meth cq hx hb hr hml hown htl hlk hnm hKK hpre ls hl
  have hown : s.vm.findClass RX6 = some m.cls := hown
  have hl : lv_has ls 3 [(0, .ref a), (1, vi i), (2, vi x)] := hl
  obtain ⟨hP, hD0⟩ := hpre
  have hL := hf.len
  have hD : va_D (jA [ob a 6 [.ref c, vi (t.length : Int)], aI g c 60 f]) [ob a 6 [.ref c, vi (t.length : Int)], aI g c 60 f] := hD0.inD
  have hAb : ∀ q, (jA [ob a 6 [.ref c, vi (t.length : Int)], aI g c 60 f]) q → gb g ≤ q := fun q h => hD0.inA h
  generalize hAe : jA [ob a 6 [.ref c, vi (t.length : Int)], aI g c 60 f] = A at *
  have hS : va_S A s.heap s.heap [] := va_S.rf
  suffices K : ∀ (H : Heap) (locs : List Loc), PP g [ob a 6 [.ref c, vi (t.length : Int)], aI g c 60 f] H → va_D A [ob a 6 [.ref c, vi (t.length : Int)], aI g c 60 f] → va_S A s.heap H locs → ∀ ls : Array Slot, lv_has ls 3 [(0, .ref a), (1, vi i), (2, vi x)] → W p l e (rmm 1 0 0) s m ([.ref a, vi i, vi x] : List Value).toArray below meth cq H locs 0 0 (MQ below (jQv (fun H1 => ∃ f1 : Nat → Int, TT (t.set (i).toNat x) f1 ∧ PP g [ob a 6 [.ref c, vi ((t.set (i).toNat x).length : Int)], aI g c 60 f1] H1) A) ([.ref a, vi i, vi x] : List Value).toArray s 0 0 A) (F0 m 0 ls []) from K _ _ hP hD hS _ hl
  clear hl; intro H locs hP hD hS ls hl
  refine lv_aload_n hx hb dX6_replaceAt_0 rfl (lv_at hl 0 rfl) ?_
  refine lv_iload_n hx hb dX6_replaceAt_1 rfl (lv_at hl 1 rfl) ?_
  refine jk_Si (va_runV (As := [vi i]) (rest := []) ⟨hx, hb, hml, hown, htl⟩ (m_X6_hasPlace l g a c t f hf i ⟨by omega, by omega⟩) (cwV 1 htl lk_X6_19 rfl rfl rfl cwV_X6_hasPlace ⟨Nat.le_of_ble_eq_true rfl, Nat.le_of_ble_eq_true rfl⟩) (jp_V hKK hS hAb (va_recv hKK.k hP (ci := 6) (q0 := 0) rfl rfl) hP) rfl rfl hl.1 rfl (lv_room (Nat.le_of_ble_eq_true rfl)) dX6_replaceAt_2 ⟨Nat.le_of_ble_eq_true rfl, Nat.le_of_ble_eq_true rfl⟩) (fun z2 hz2 => ?_)
  subst hz2
  refine jr_nm (b := 1) (if_pos (by omega)) ?_
  refine jr_ifeq (tgt := 15) hx hb dX6_replaceAt_5 (by decide) ⟨by omega, by omega⟩ (fun c5 => absurd c5 (by omega)) (fun c5 => ?_)
  refine lv_aload_n hx hb dX6_replaceAt_8 rfl (lv_at hl 0 rfl) ?_
  refine va_get (D := gD g) (ci := 6) (v := .ref c) (C := RX6) (T := TX6) (N := 2) hx hb htl ck_X6 hown hKK.k hP 0 rfl rfl 0 (by decide) (htl _ wd_2_15) (fun _ h9 => h9) rfl dX6_replaceAt_9 ?_
  refine lv_iload_n hx hb dX6_replaceAt_12 rfl (lv_at hl 1 rfl) ?_
  refine lv_iload_n hx hb dX6_replaceAt_13 rfl (lv_at hl 2 rfl) ?_
  refine jr_iast hx hb hKK.k hP hD hS 1 rfl i.toNat (by omega) (by omega) (by omega) dX6_replaceAt_14 (fun H locs hP hD hS => ?_)
  have hP : PP g [ob a 6 [.ref c, vi (t.length : Int)], aI g c 60 (ju f i.toNat x)] H := hP
  have hD : va_D A [ob a 6 [.ref c, vi (t.length : Int)], aI g c 60 (ju f i.toNat x)] := hD
  exact je_Qv hx hb hr hlk hS (⟨ju f i.toNat x, hf.setAt _ hx6, by rw [List.length_set]; exact hP⟩) dX6_replaceAt_15
set_option maxHeartbeats 4000000 in
set_option maxRecDepth 100000 in
theorem m_X6_init (l : Launch) (g : GT) (a sz : Nat) : Met l yX6_init (ws_ yX6_init cX6_init 1 none) (rmm 0 1 60) (jPc g [.ref a] (fun H => H.size = sz ∧ PP g [ob a 6 [.null, vi 0]] H ∧ va_D (fun q => gb g ≤ q) [ob a 6 [.null, vi 0]])) (jQv (fun H1 => ∃ c : Nat, PP g [ob a 6 [.ref c, vi 0], aI g c 60 (fun _ => 0)] H1 ∧ va_D (va_A [ob a 6 [.null, vi 0]] sz) [ob a 6 [.ref c, vi 0], aI g c 60 (fun _ => 0)]) (va_A [ob a 6 [.null, vi 0]] sz)) 1 60 (va_A [ob a 6 [.null, vi 0]] sz) := by
  refine jb_M (by decide) (Nat.le_of_ble_eq_true rfl) ?_
  intro p e s m below meth cq hx hb hr hml hown htl hlk hnm hKK hpre ls hl
  have hown : s.vm.findClass RX6 = some m.cls := hown
  have hl : lv_has ls 1 [(0, .ref a)] := hl
  obtain ⟨hsz, hP, hD0⟩ := hpre
  subst hsz
  have hD : va_D (va_A [ob a 6 [.null, vi 0]] s.heap.size) [ob a 6 [.null, vi 0]] := hD0.self
  have hAb : ∀ q, (va_A [ob a 6 [.null, vi 0]] s.heap.size) q → gb g ≤ q := fun q h => h.elim (fun ⟨k, e, h⟩ => hD0.2 k _ h) (fun h => Nat.le_trans hKK.2.1 h)
  generalize hAe : va_A [ob a 6 [.null, vi 0]] s.heap.size = A at *
  have hA : ∀ q, s.heap.size ≤ q → A q := fun q h => by rw [← hAe]; exact Or.inr h
  have hS : va_S A s.heap s.heap [] := va_S.rf
  suffices K : ∀ (H : Heap) (locs : List Loc), PP g [ob a 6 [.null, vi 0]] H → va_D A [ob a 6 [.null, vi 0]] → va_S A s.heap H locs → ∀ ls : Array Slot, lv_has ls 1 [(0, .ref a)] → W p l e (rmm 0 1 60) s m ([.ref a] : List Value).toArray below meth cq H locs 0 0 (MQ below (jQv (fun H1 => ∃ c : Nat, PP g [ob a 6 [.ref c, vi 0], aI g c 60 (fun _ => 0)] H1 ∧ va_D (A) [ob a 6 [.ref c, vi 0], aI g c 60 (fun _ => 0)]) A) ([.ref a] : List Value).toArray s 1 60 A) (F0 m 0 ls []) from K _ _ hP hD hS _ hl
  clear hl; intro H locs hP hD hS ls hl
  refine lv_aload_n hx hb dX6_init_0 rfl (lv_at hl 0 rfl) ?_
  refine W.objInit hx hb hown (htl _ wd_2_14) (htl _ wd_1_9) (htl _ wd_1_10) rfl (by rw [hml]; exact hl.1) rfl dX6_init_1 (Nat.le_of_ble_eq_true rfl) (Nat.le_of_ble_eq_true rfl) ?_
  refine W.eq (g2 := F0 m 4 ls []) rfl ?_
  refine lv_aload_n hx hb dX6_init_4 rfl (lv_at hl 0 rfl) ?_
  refine jr_bipush hx hb dX6_init_5 (by decide) ?_
  refine va_newaK (atype := .int) hx hb (htl _ wd_1_4) (g := F0 m 7 ls [vi 60, .ref a]) rfl dX6_init_7 rfl (N := 60) (by decide) (by decide) (by decide) (Nat.le_of_ble_eq_true rfl) (Nat.le_of_ble_eq_true rfl) rfl (fun H1 cA e1 z1 o1 hAr hNm => ?_)
  obtain rfl : cA = gI g := Option.some.inj (hNm.symm.trans (hKK.k.2 0 _ rfl).2)
  obtain ⟨q7, hq7⟩ : ∃ q, q = H.size := ⟨_, rfl⟩
  rw [← hq7] at e1 ⊢
  obtain ⟨hP, hD, hS⟩ : PP g [ob a 6 [.null, vi 0], aI g q7 60 (fun _ => 0)] H1 ∧ va_D A [ob a 6 [.null, vi 0], aI g q7 60 (fun _ => 0)] ∧ va_S A s.heap H1 locs := jnew hP hD hS hA hq7 (by exact e1) z1 o1
  clear e1 z1 o1; generalize H1 = H at hP hD hS ⊢
  have hP : PP g [ob a 6 [.null, vi 0], aI g q7 60 (fun _ => 0)] H := hP
  refine W.widen (k := 1) (n := 60) (by omega) (by omega) ?_
  refine W.eq (g2 := F0 m 9 ls [.ref q7, .ref a]) rfl ?_
  refine va_putF (D := gD g) (ci := 6) (v := .ref q7) (ty := .array .int) (C := RX6) (T := TX6) (N := 2) hx hb htl ck_X6 tyX6 tyX6_ok nmX6 hown hKK.k hP hD hS 0 rfl rfl 0 (by decide) (htl _ wd_2_15) (fun _ h9 => h9) rfl hnm rfl (by decide +kernel) rfl rfl (Nat.le_of_ble_eq_true rfl) dX6_init_9 (fun H locs hP hD hS => ?_)
  have hP : PP g [ob a 6 [.ref q7, vi 0], aI g q7 60 (fun _ => 0)] H := hP
  have hD : va_D A [ob a 6 [.ref q7, vi 0], aI g q7 60 (fun _ => 0)] := hD
  refine lv_aload_n hx hb dX6_init_12 rfl (lv_at hl 0 rfl) ?_
  refine jr_iconst hx hb dX6_init_13 ?_
  refine va_put (D := gD g) (ci := 6) (v := vi 0) (ty := .int) (C := RX6) (T := TX6) (N := 2) hx hb htl ck_X6 tyX6 tyX6_ok nmX6 hown hKK.k hP hD hS 0 rfl rfl 1 (by decide) (htl _ wd_2_16) (fun _ h9 => h9) rfl (by decide +kernel) rfl rfl (Nat.le_of_ble_eq_true rfl) dX6_init_14 (fun H locs hP hD hS => ?_)
  have hP : PP g [ob a 6 [.ref q7, vi 0], aI g q7 60 (fun _ => 0)] H := hP
  have hD : va_D A [ob a 6 [.ref q7, vi 0], aI g q7 60 (fun _ => 0)] := hD
  exact je_Qv hx hb hr hlk hS (⟨q7, hP, hD⟩) dX6_init_17
set_option maxHeartbeats 4000000 in
set_option maxRecDepth 100000 in
theorem m_X6_copyRange (l : Launch) (g : GT) (a c : Nat) (t : List Int) (f : Nat → Int) (hf : TT t f) (b d : Nat) (u : List Int) (f2 : Nat → Int) (hf2 : TT u f2) (hne : ∀ x ∈ ([b, d] : List Nat), x ∉ ([a, c] : List Nat)) (n1 n2 : Nat) (h12 : n1 ≤ n2) (h2u : n2 ≤ u.length) : Met l yX6_copyRange (ws_ yX6_copyRange cX6_copyRange 5 none) (rmm 1 0 0) (jPc g [.ref a, .ref b, vi (n1 : Int), vi (n2 : Int)] (fun H => PP g [ob a 6 [.ref c, vi (t.length : Int)], aI g c 60 f] H ∧ va_D (fun q => gb g ≤ q) [ob a 6 [.ref c, vi (t.length : Int)], aI g c 60 f] ∧ PP g [ob b 6 [.ref d, vi (u.length : Int)], aI g d 60 f2] H)) (jQv (fun H1 => ∃ f1 : Nat → Int, TT ((u.drop n1).take (n2 - n1)) f1 ∧ PP g [ob a 6 [.ref c, vi (((u.drop n1).take (n2 - n1)).length : Int)], aI g c 60 f1] H1) (jA [ob a 6 [.ref c, vi (t.length : Int)], aI g c 60 f])) 0 0 (jA [ob a 6 [.ref c, vi (t.length : Int)], aI g c 60 f]) := by
  refine jb_M (by decide) (Nat.le_of_ble_eq_true rfl) ?_
  intro p e s m below meth cq hx hb hr hml hown htl hlk hnm hKK hpre ls hl
  have hown : s.vm.findClass RX6 = some m.cls := hown
  have hl : lv_has ls 5 [(0, .ref a), (1, .ref b), (2, vi (n1 : Int)), (3, vi (n2 : Int))] := hl
  obtain ⟨hP, hD0, hP2⟩ := hpre
  have hL := hf.len
  have hL2 := hf2.len
  have ap_hP2 : ∀ (k : Nat) (q : Nat × va_E), ([ob b 6 [.ref d, vi (u.length : Int)], aI g d 60 f2] : va_W)[k]? = some q → ¬ (jA [ob a 6 [.ref c, vi (t.length : Int)], aI g c 60 f]) q.1 := jap (hne)
  have hD : va_D (jA [ob a 6 [.ref c, vi (t.length : Int)], aI g c 60 f]) [ob a 6 [.ref c, vi (t.length : Int)], aI g c 60 f] := hD0.inD
  have hAb : ∀ q, (jA [ob a 6 [.ref c, vi (t.length : Int)], aI g c 60 f]) q → gb g ≤ q := fun q h => hD0.inA h
  generalize hAe : jA [ob a 6 [.ref c, vi (t.length : Int)], aI g c 60 f] = A at *
  have hS : va_S A s.heap s.heap [] := va_S.rf
  suffices K : ∀ (H : Heap) (locs : List Loc), PP g [ob a 6 [.ref c, vi (t.length : Int)], aI g c 60 f] H → va_D A [ob a 6 [.ref c, vi (t.length : Int)], aI g c 60 f] → va_S A s.heap H locs → ∀ ls : Array Slot, lv_has ls 5 [(0, .ref a), (1, .ref b), (2, vi (n1 : Int)), (3, vi (n2 : Int))] → W p l e (rmm 1 0 0) s m ([.ref a, .ref b, vi (n1 : Int), vi (n2 : Int)] : List Value).toArray below meth cq H locs 0 0 (MQ below (jQv (fun H1 => ∃ f1 : Nat → Int, TT ((u.drop n1).take (n2 - n1)) f1 ∧ PP g [ob a 6 [.ref c, vi (((u.drop n1).take (n2 - n1)).length : Int)], aI g c 60 f1] H1) A) ([.ref a, .ref b, vi (n1 : Int), vi (n2 : Int)] : List Value).toArray s 0 0 A) (F0 m 0 ls []) from K _ _ hP hD hS _ hl
  clear hl; intro H locs hP hD hS ls hl
  refine lv_aload_n hx hb dX6_copyRange_0 rfl (lv_at hl 0 rfl) ?_
  refine jr_iconst hx hb dX6_copyRange_1 ?_
  refine va_put (D := gD g) (ci := 6) (v := vi 0) (ty := .int) (C := RX6) (T := TX6) (N := 2) hx hb htl ck_X6 tyX6 tyX6_ok nmX6 hown hKK.k hP hD hS 0 rfl rfl 1 (by decide) (htl _ wd_2_16) (fun _ h9 => h9) rfl (by decide +kernel) rfl rfl (Nat.le_of_ble_eq_true rfl) dX6_copyRange_2 (fun H locs hP hD hS => ?_)
  have hP : PP g [ob a 6 [.ref c, vi 0], aI g c 60 f] H := hP
  have hD : va_D A [ob a 6 [.ref c, vi 0], aI g c 60 f] := hD
  refine lv_iload_n hx hb dX6_copyRange_5 rfl (lv_at hl 2 rfl) ?_
  refine lv_istore (lv' := [(4, vi (n1 : Int)), (0, .ref a), (1, .ref b), (2, vi (n1 : Int)), (3, vi (n2 : Int))]) hx hb dX6_copyRange_6 hl (by decide) rfl (fun ls hl => ?_)
  have lp8 : ∀ (N : Nat) (i : Nat) (v : List Int) (f3 : Nat → Int), (n1 ≤ i) → (i ≤ n2) → (v = (u.drop n1).take (i - n1)) → (TT v f3) → n2 - i < N → ∀ (H : Heap) (locs : List Loc), PP g [ob a 6 [.ref c, vi (v.length : Int)], aI g c 60 f3] H → va_D A [ob a 6 [.ref c, vi (v.length : Int)], aI g c 60 f3] → va_S A s.heap H locs → ∀ ls : Array Slot, lv_has ls 5 [(4, vi (i : Int)), (0, .ref a), (1, .ref b), (2, vi (n1 : Int)), (3, vi (n2 : Int))] → W p l e (rmm 1 0 0) s m ([.ref a, .ref b, vi (n1 : Int), vi (n2 : Int)] : List Value).toArray below meth cq H locs 0 0 (MQ below (jQv (fun H1 => ∃ f1 : Nat → Int, TT ((u.drop n1).take (n2 - n1)) f1 ∧ PP g [ob a 6 [.ref c, vi (((u.drop n1).take (n2 - n1)).length : Int)], aI g c 60 f1] H1) A) ([.ref a, .ref b, vi (n1 : Int), vi (n2 : Int)] : List Value).toArray s 0 0 A) (F0 m 8 ls []) := by
    intro N
    induction N with
    | zero => intro i v f3 hi1 hi2 hv hf3 hM; exact absurd hM (Nat.not_lt_zero _)
    | succ N ih8 =>
      intro i v f3 hi1 hi2 hv hf3 hM H locs hP hD hS ls hl
      have hvl : v.length = i - n1 := by rw [hv]; exact tk_l (by omega) (by omega)
      refine lv_iload hx hb dX6_copyRange_8 (lv_at hl 0 rfl) ?_
      refine lv_iload_n hx hb dX6_copyRange_10 rfl (lv_at hl 4 rfl) ?_
      refine jr_ge (tgt := 30) hx hb dX6_copyRange_11 (by decide) ⟨by omega, by omega⟩ ⟨by omega, by omega⟩ (fun c11 => ?_) (fun c11 => ?_)
      · exact je_Qv hx hb hr hlk hS (by obtain rfl : i = n2 := (by omega); subst hv; exact ⟨f3, hf3, hP⟩) dX6_copyRange_30
      · refine lv_aload_n hx hb dX6_copyRange_14 rfl (lv_at hl 1 rfl) ?_
        refine lv_aload_n hx hb dX6_copyRange_15 rfl (lv_at hl 2 rfl) ?_
        refine lv_iload hx hb dX6_copyRange_16 (lv_at hl 0 rfl) ?_
        refine jk_Si (va_runV (As := [vi (i : Int)]) (rest := [.ref a]) ⟨hx, hb, hml, hown, htl⟩ (m_X6_at l g b d u f2 hf2 (i : Int) ⟨by omega, by omega⟩) (cwV 1 htl lk_X6_23 rfl rfl rfl cwV_X6_at ⟨Nat.le_of_ble_eq_true rfl, Nat.le_of_ble_eq_true rfl⟩) (jp_V hKK hS hAb (va_recv hKK.k (jat hP2 hS ap_hP2) (ci := 6) (q0 := 0) rfl rfl) (jat hP2 hS ap_hP2)) rfl rfl hl.1 rfl (lv_room (Nat.le_of_ble_eq_true rfl)) dX6_copyRange_18 ⟨Nat.le_of_ble_eq_true rfl, Nat.le_of_ble_eq_true rfl⟩) (fun z18 hz18 => ?_)
        subst hz18
        have ta := TT.tAt_b hf2 (i : Int)
        have tb := hf2.b (j := i) (by omega)
        rw [tAt_in (t := u) (j := i) (by omega)] at ta ⊢
        have hDc : va_D A [ob a 6 [.ref c, vi (v.length : Int)], aI g c 60 f3] := hD.sub [0, 1] (by decide) rfl
        refine jk_Qv (va_runV (As := [vi (u.getD i 0)]) (rest := []) ⟨hx, hb, hml, hown, htl⟩ (m_X6_put l g a c v f3 hf3 (u.getD i 0) (by omega) (by omega)) (cwV 1 htl lk_X6_27 rfl rfl rfl cwV_X6_put ⟨Nat.le_of_ble_eq_true rfl, Nat.le_of_ble_eq_true rfl⟩) (jp_V hKK hS hAb (va_recv hKK.k hP (ci := 6) (q0 := 0) rfl rfl) ⟨hP, hDc.weaken (fun _ q _ h => hAb _ h)⟩) rfl rfl hl.1 rfl (lv_room (Nat.le_of_ble_eq_true rfl)) dX6_copyRange_21 ⟨Nat.le_of_ble_eq_true rfl, Nat.le_of_ble_eq_true rfl⟩) hS (fun q _ h => hDc.inA h) (fun q h => hDc.inA h) (fun H1 locs hz21 hzs hks hS => ?_)
        obtain ⟨fn21, hfn21, hP1⟩ := hz21
        obtain ⟨hP, hD⟩ := jput (wc := [ob a 6 [.ref c, vi (v.length : Int)], aI g c 60 f3]) (w1 := [ob a 6 [.ref c, vi ((v ++ [(u.getD i 0)]).length : Int)], aI g c 60 fn21]) hP hD [0, 1] rfl rfl hks (fun q _ h => h) hP1
        clear hzs hks; generalize H1 = H at hP hD hS ⊢
        have hP : PP g [ob a 6 [.ref c, vi ((v ++ [(u.getD i 0)]).length : Int)], aI g c 60 fn21] H := hP
        have hD : va_D A [ob a 6 [.ref c, vi ((v ++ [(u.getD i 0)]).length : Int)], aI g c 60 fn21] := hD
        refine jr_iinc (lv' := [(4, vi ((i : Int) + 1)), (0, .ref a), (1, .ref b), (2, vi (n1 : Int)), (3, vi (n2 : Int))]) hx hb dX6_copyRange_24 hl (k := 0) rfl rfl (by decide) rfl (fun ls hl => ?_)
        refine lv_goto (tgt := 8) hx hb dX6_copyRange_27 (by decide) ?_
        exact ih8 (i + 1) _ fn21 (by omega) (by omega) (by rw [hv]; exact tk_s (by omega) (by omega)) (hfn21) (by omega) _ _ hP hD hS ls (lv_sub hl [0, 1, 2, 3, 4] rfl)
  exact lp8 _ n1 [] f (Nat.le_refl _) (h12) (by simp) (TT.nil f) (Nat.lt_succ_self _) _ _ hP hD hS ls (lv_sub hl [0, 1, 2, 3, 4] rfl)
set_option maxHeartbeats 4000000 in
set_option maxRecDepth 100000 in
theorem m_X6_copyAll (l : Launch) (g : GT) (a c : Nat) (t : List Int) (f : Nat → Int) (hf : TT t f) (b d : Nat) (u : List Int) (f2 : Nat → Int) (hf2 : TT u f2) (hne : ∀ x ∈ ([b, d] : List Nat), x ∉ ([a, c] : List Nat)) : Met l yX6_copyAll (ws_ yX6_copyAll cX6_copyAll 2 none) (rmm 2 0 0) (jPc g [.ref a, .ref b] (fun H => PP g [ob a 6 [.ref c, vi (t.length : Int)], aI g c 60 f] H ∧ va_D (fun q => gb g ≤ q) [ob a 6 [.ref c, vi (t.length : Int)], aI g c 60 f] ∧ PP g [ob b 6 [.ref d, vi (u.length : Int)], aI g d 60 f2] H)) (jQv (fun H1 => ∃ f1 : Nat → Int, TT u f1 ∧ PP g [ob a 6 [.ref c, vi (u.length : Int)], aI g c 60 f1] H1) (jA [ob a 6 [.ref c, vi (t.length : Int)], aI g c 60 f])) 0 0 (jA [ob a 6 [.ref c, vi (t.length : Int)], aI g c 60 f]) := by
  refine jb_M (by decide) (Nat.le_of_ble_eq_true rfl) ?_
  intro p e s m below meth cq hx hb hr hml hown htl hlk hnm hKK hpre ls hl
  have hown : s.vm.findClass RX6 = some m.cls := hown
  have hl : lv_has ls 2 [(0, .ref a), (1, .ref b)] := hl
  obtain ⟨hP, hD0, hP2⟩ := hpre
  have ap_hP2 : ∀ (k : Nat) (q : Nat × va_E), ([ob b 6 [.ref d, vi (u.length : Int)], aI g d 60 f2] : va_W)[k]? = some q → ¬ (jA [ob a 6 [.ref c, vi (t.length : Int)], aI g c 60 f]) q.1 := jap (hne)
  have hD : va_D (jA [ob a 6 [.ref c, vi (t.length : Int)], aI g c 60 f]) [ob a 6 [.ref c, vi (t.length : Int)], aI g c 60 f] := hD0.inD
  have hAb : ∀ q, (jA [ob a 6 [.ref c, vi (t.length : Int)], aI g c 60 f]) q → gb g ≤ q := fun q h => hD0.inA h
  generalize hAe : jA [ob a 6 [.ref c, vi (t.length : Int)], aI g c 60 f] = A at *
  have hS : va_S A s.heap s.heap [] := va_S.rf
  suffices K : ∀ (H : Heap) (locs : List Loc), PP g [ob a 6 [.ref c, vi (t.length : Int)], aI g c 60 f] H → va_D A [ob a 6 [.ref c, vi (t.length : Int)], aI g c 60 f] → va_S A s.heap H locs → ∀ ls : Array Slot, lv_has ls 2 [(0, .ref a), (1, .ref b)] → W p l e (rmm 2 0 0) s m ([.ref a, .ref b] : List Value).toArray below meth cq H locs 0 0 (MQ below (jQv (fun H1 => ∃ f1 : Nat → Int, TT u f1 ∧ PP g [ob a 6 [.ref c, vi (u.length : Int)], aI g c 60 f1] H1) A) ([.ref a, .ref b] : List Value).toArray s 0 0 A) (F0 m 0 ls []) from K _ _ hP hD hS _ hl
  clear hl; intro H locs hP hD hS ls hl
  refine lv_aload_n hx hb dX6_copyAll_0 rfl (lv_at hl 0 rfl) ?_
  refine lv_aload_n hx hb dX6_copyAll_1 rfl (lv_at hl 1 rfl) ?_
  refine jr_iconst hx hb dX6_copyAll_2 ?_
  refine lv_aload_n hx hb dX6_copyAll_3 rfl (lv_at hl 1 rfl) ?_
  refine jk_Si (va_runV (As := []) (rest := [vi 0, .ref b, .ref a]) ⟨hx, hb, hml, hown, htl⟩ (m_X6_size l g b d u f2 hf2  ) (cwV 0 htl lk_X6_31 rfl rfl rfl cwV_X6_size ⟨Nat.le_of_ble_eq_true rfl, Nat.le_of_ble_eq_true rfl⟩) (jp_V hKK hS hAb (va_recv hKK.k (jat hP2 hS ap_hP2) (ci := 6) (q0 := 0) rfl rfl) (jat hP2 hS ap_hP2)) rfl rfl hl.1 rfl (lv_room (Nat.le_of_ble_eq_true rfl)) dX6_copyAll_4 ⟨Nat.le_of_ble_eq_true rfl, Nat.le_of_ble_eq_true rfl⟩) (fun z4 hz4 => ?_)
  subst hz4
  have hDc : va_D A [ob a 6 [.ref c, vi (t.length : Int)], aI g c 60 f] := hD.sub [0, 1] (by decide) rfl
  refine jk_Qv (va_runV (As := [.ref b, vi 0, vi (u.length : Int)]) (rest := []) ⟨hx, hb, hml, hown, htl⟩ (m_X6_copyRange l g a c t f hf b d u f2 hf2 (jdisR hD ap_hP2 [0, 1] [0, 1] rfl rfl) 0 u.length (Nat.zero_le _) (Nat.le_refl _)) (cwV 3 htl lk_X6_35 rfl rfl rfl cwV_X6_copyRange ⟨Nat.le_of_ble_eq_true rfl, Nat.le_of_ble_eq_true rfl⟩) (jp_V hKK hS hAb (va_recv hKK.k hP (ci := 6) (q0 := 0) rfl rfl) ⟨hP, hDc.weaken (fun _ q _ h => hAb _ h), (jat hP2 hS ap_hP2)⟩) rfl rfl hl.1 rfl (lv_room (Nat.le_of_ble_eq_true rfl)) dX6_copyAll_7 ⟨Nat.le_of_ble_eq_true rfl, Nat.le_of_ble_eq_true rfl⟩) hS (fun q _ h => hDc.inA h) (fun q h => hDc.inA h) (fun H1 locs hz7 hzs hks hS => ?_)
  obtain ⟨fn7, hfn7, hP1⟩ := hz7
  obtain ⟨hP, hD⟩ := jput (wc := [ob a 6 [.ref c, vi (t.length : Int)], aI g c 60 f]) (w1 := [ob a 6 [.ref c, vi (((u.drop 0).take (u.length - 0)).length : Int)], aI g c 60 fn7]) hP hD [0, 1] rfl rfl hks (fun q _ h => h) hP1
  clear hzs hks; generalize H1 = H at hP hD hS ⊢
  have hP : PP g [ob a 6 [.ref c, vi (((u.drop 0).take (u.length - 0)).length : Int)], aI g c 60 fn7] H := hP
  have hD : va_D A [ob a 6 [.ref c, vi (((u.drop 0).take (u.length - 0)).length : Int)], aI g c 60 fn7] := hD
  exact je_Qv hx hb hr hlk hS (by rw [show (u.drop 0).take (u.length - 0) = u by simp] at hfn7 hP; exact ⟨fn7, hfn7, hP⟩) dX6_copyAll_10
set_option maxHeartbeats 4000000 in
set_option maxRecDepth 100000 in
theorem m_X6_takeAll (l : Launch) (g : GT) (a c : Nat) (t : List Int) (f : Nat → Int) (hf : TT t f) (b d : Nat) (u : List Int) (f2 : Nat → Int) (hf2 : TT u f2) : Met l yX6_takeAll (ws_ yX6_takeAll cX6_takeAll 2 none) (rmm 3 0 0) (jPc g [.ref a, .ref b] (fun H => PP g [ob a 6 [.ref c, vi (t.length : Int)], aI g c 60 f, ob b 6 [.ref d, vi (u.length : Int)], aI g d 60 f2] H ∧ va_D (fun q => gb g ≤ q) [ob a 6 [.ref c, vi (t.length : Int)], aI g c 60 f, ob b 6 [.ref d, vi (u.length : Int)], aI g d 60 f2])) (jQv (fun H1 => ∃ f1 fk : Nat → Int, TT u f1 ∧ PP g [ob a 6 [.ref c, vi (u.length : Int)], aI g c 60 f1, ob b 6 [.ref d, vi (([] : List Int).length : Int)], aI g d 60 fk] H1) (jA [ob a 6 [.ref c, vi (t.length : Int)], aI g c 60 f, ob b 6 [.ref d, vi (u.length : Int)], aI g d 60 f2])) 0 0 (jA [ob a 6 [.ref c, vi (t.length : Int)], aI g c 60 f, ob b 6 [.ref d, vi (u.length : Int)], aI g d 60 f2]) := by
  refine jb_M (by decide) (Nat.le_of_ble_eq_true rfl) ?_
  intro p e s m below meth cq hx hb hr hml hown htl hlk hnm hKK hpre ls hl
  have hown : s.vm.findClass RX6 = some m.cls := hown
  have hl : lv_has ls 2 [(0, .ref a), (1, .ref b)] := hl
  obtain ⟨hP, hD0⟩ := hpre
  have hD : va_D (jA [ob a 6 [.ref c, vi (t.length : Int)], aI g c 60 f, ob b 6 [.ref d, vi (u.length : Int)], aI g d 60 f2]) [ob a 6 [.ref c, vi (t.length : Int)], aI g c 60 f, ob b 6 [.ref d, vi (u.length : Int)], aI g d 60 f2] := hD0.inD
  have hAb : ∀ q, (jA [ob a 6 [.ref c, vi (t.length : Int)], aI g c 60 f, ob b 6 [.ref d, vi (u.length : Int)], aI g d 60 f2]) q → gb g ≤ q := fun q h => hD0.inA h
  generalize hAe : jA [ob a 6 [.ref c, vi (t.length : Int)], aI g c 60 f, ob b 6 [.ref d, vi (u.length : Int)], aI g d 60 f2] = A at *
  have hS : va_S A s.heap s.heap [] := va_S.rf
  suffices K : ∀ (H : Heap) (locs : List Loc), PP g [ob a 6 [.ref c, vi (t.length : Int)], aI g c 60 f, ob b 6 [.ref d, vi (u.length : Int)], aI g d 60 f2] H → va_D A [ob a 6 [.ref c, vi (t.length : Int)], aI g c 60 f, ob b 6 [.ref d, vi (u.length : Int)], aI g d 60 f2] → va_S A s.heap H locs → ∀ ls : Array Slot, lv_has ls 2 [(0, .ref a), (1, .ref b)] → W p l e (rmm 3 0 0) s m ([.ref a, .ref b] : List Value).toArray below meth cq H locs 0 0 (MQ below (jQv (fun H1 => ∃ f1 fk : Nat → Int, TT u f1 ∧ PP g [ob a 6 [.ref c, vi (u.length : Int)], aI g c 60 f1, ob b 6 [.ref d, vi (([] : List Int).length : Int)], aI g d 60 fk] H1) A) ([.ref a, .ref b] : List Value).toArray s 0 0 A) (F0 m 0 ls []) from K _ _ hP hD hS _ hl
  clear hl; intro H locs hP hD hS ls hl
  refine lv_aload_n hx hb dX6_takeAll_0 rfl (lv_at hl 0 rfl) ?_
  refine lv_aload_n hx hb dX6_takeAll_1 rfl (lv_at hl 1 rfl) ?_
  have hDc : va_D A [ob a 6 [.ref c, vi (t.length : Int)], aI g c 60 f] := hD.sub [0, 1] (by decide) rfl
  refine jk_Qv (va_runV (As := [.ref b]) (rest := []) ⟨hx, hb, hml, hown, htl⟩ (m_X6_copyAll l g a c t f hf b d u f2 hf2 (jdis hD [2, 3] [0, 1] rfl rfl (by decide))  ) (cwV 1 htl lk_X6_39 rfl rfl rfl cwV_X6_copyAll ⟨Nat.le_of_ble_eq_true rfl, Nat.le_of_ble_eq_true rfl⟩) (jp_V hKK hS hAb (va_recv hKK.k hP (ci := 6) (q0 := 0) rfl rfl) ⟨(va_P.sub hP [0, 1] rfl), hDc.weaken (fun _ q _ h => hAb _ h), (va_P.sub hP [2, 3] rfl)⟩) rfl rfl hl.1 rfl (lv_room (Nat.le_of_ble_eq_true rfl)) dX6_takeAll_2 ⟨Nat.le_of_ble_eq_true rfl, Nat.le_of_ble_eq_true rfl⟩) hS (fun q _ h => hDc.inA h) (fun q h => hDc.inA h) (fun H1 locs hz2 hzs hks hS => ?_)
  obtain ⟨fn2, hfn2, hP1⟩ := hz2
  obtain ⟨hP, hD⟩ := jput (wc := [ob a 6 [.ref c, vi (t.length : Int)], aI g c 60 f]) (w1 := [ob a 6 [.ref c, vi (u.length : Int)], aI g c 60 fn2]) hP hD [0, 1] rfl rfl hks (fun q _ h => h) hP1
  clear hzs hks; generalize H1 = H at hP hD hS ⊢
  have hP : PP g [ob a 6 [.ref c, vi (u.length : Int)], aI g c 60 fn2, ob b 6 [.ref d, vi (u.length : Int)], aI g d 60 f2] H := hP
  have hD : va_D A [ob a 6 [.ref c, vi (u.length : Int)], aI g c 60 fn2, ob b 6 [.ref d, vi (u.length : Int)], aI g d 60 f2] := hD
  refine lv_aload_n hx hb dX6_takeAll_5 rfl (lv_at hl 1 rfl) ?_
  have hDc : va_D A [ob b 6 [.ref d, vi (u.length : Int)], aI g d 60 f2] := hD.sub [2, 3] (by decide) rfl
  refine jk_Qv (va_runV (As := []) (rest := []) ⟨hx, hb, hml, hown, htl⟩ (m_X6_makeEmpty l g b d u f2 hf2  ) (cwV 0 htl lk_X6_43 rfl rfl rfl cwV_X6_makeEmpty ⟨Nat.le_of_ble_eq_true rfl, Nat.le_of_ble_eq_true rfl⟩) (jp_V hKK hS hAb (va_recv hKK.k hP (ci := 6) (q0 := 2) rfl rfl) ⟨(va_P.sub hP [2, 3] rfl), hDc.weaken (fun _ q _ h => hAb _ h)⟩) rfl rfl hl.1 rfl (lv_room (Nat.le_of_ble_eq_true rfl)) dX6_takeAll_6 ⟨Nat.le_of_ble_eq_true rfl, Nat.le_of_ble_eq_true rfl⟩) hS (fun q _ h => hDc.inA h) (fun q h => hDc.inA h) (fun H1 locs hz6 hzs hks hS => ?_)
  obtain ⟨fn6, hfn6, hP1⟩ := hz6
  obtain ⟨hP, hD⟩ := jput (wc := [ob b 6 [.ref d, vi (u.length : Int)], aI g d 60 f2]) (w1 := [ob b 6 [.ref d, vi (([] : List Int).length : Int)], aI g d 60 fn6]) hP hD [2, 3] rfl rfl hks (fun q _ h => h) hP1
  clear hzs hks; generalize H1 = H at hP hD hS ⊢
  have hP : PP g [ob a 6 [.ref c, vi (u.length : Int)], aI g c 60 fn2, ob b 6 [.ref d, vi (([] : List Int).length : Int)], aI g d 60 fn6] H := hP
  have hD : va_D A [ob a 6 [.ref c, vi (u.length : Int)], aI g c 60 fn2, ob b 6 [.ref d, vi (([] : List Int).length : Int)], aI g d 60 fn6] := hD
  exact je_Qv hx hb hr hlk hS (⟨fn2, fn6, hfn2, hP⟩) dX6_takeAll_9
