
theorem lk_X6_19 : GoodIn WSL (wsV RX6 19 RX6 yX6_hasPlace (ws_ yX6_hasPlace cX6_hasPlace 2 (some .boolean))) := gd_app (List.forall_mem_cons.mpr ⟨wd_38_9, List.forall_mem_cons.mpr ⟨wd_38_10, List.forall_mem_cons.mpr ⟨wd_38_11, List.forall_mem_cons.mpr ⟨wd_1_16, fun _ h => nomatch h⟩⟩⟩⟩) (gd_ wd_38_12)
theorem cwV_X6_hasPlace : yX6_hasPlace.cls = RX6 ∧ yX6_hasPlace.cls ≠ "java/lang/invoke/MethodHandle" ∧ yX6_hasPlace.cls ≠ "java/lang/invoke/VarHandle" ∧ (parseMethodDescriptor yX6_hasPlace.desc).map (fun d => d.parameters.length) = some 1 := by decide +kernel
set_option maxHeartbeats 4000000 in
set_option maxRecDepth 100000 in
theorem m_X6_makeEmpty (l : Launch) (g : GT) (a c : Nat) (t : List Int) (f : Nat → Int) (hf : TT t f) : Met l yX6_makeEmpty (ws_ yX6_makeEmpty cX6_makeEmpty 1 none) (rmm 0 0 0) (jPc g [.ref a] (fun H => PP g [ob a 6 [.ref c, vi (t.length : Int)], aI g c 60 f] H ∧ va_D (fun q => gb g ≤ q) [ob a 6 [.ref c, vi (t.length : Int)], aI g c 60 f])) (jQv (fun H1 => ∃ f1 : Nat → Int, TT ([] : List Int) f1 ∧ PP g [ob a 6 [.ref c, vi (([] : List Int).length : Int)], aI g c 60 f1] H1) (jA [ob a 6 [.ref c, vi (t.length : Int)], aI g c 60 f])) 0 0 (jA [ob a 6 [.ref c, vi (t.length : Int)], aI g c 60 f]) := by
  refine jb_M (by decide) (Nat.le_of_ble_eq_true rfl) ?_
  intro p e s m below meth cq hx hb hr hml hown htl hlk hnm hKK hpre ls hl
  have hown : s.vm.findClass RX6 = some m.cls := hown
  have hl : lv_has ls 1 [(0, .ref a)] := hl
  obtain ⟨hP, hD0⟩ := hpre
  have hD : va_D (jA [ob a 6 [.ref c, vi (t.length : Int)], aI g c 60 f]) [ob a 6 [.ref c, vi (t.length : Int)], aI g c 60 f] := hD0.inD
  have hAb : ∀ q, (jA [ob a 6 [.ref c, vi (t.length : Int)], aI g c 60 f]) q → gb g ≤ q := fun q h => hD0.inA h
  generalize hAe : jA [ob a 6 [.ref c, vi (t.length : Int)], aI g c 60 f] = A at *
  have hS : va_S A s.heap s.heap [] := va_S.rf
  suffices K : ∀ (H : Heap) (locs : List Loc), PP g [ob a 6 [.ref c, vi (t.length : Int)], aI g c 60 f] H → va_D A [ob a 6 [.ref c, vi (t.length : Int)], aI g c 60 f] → va_S A s.heap H locs → ∀ ls : Array Slot, lv_has ls 1 [(0, .ref a)] → W p l e (rmm 0 0 0) s m ([.ref a] : List Value).toArray below meth cq H locs 0 0 (MQ below (jQv (fun H1 => ∃ f1 : Nat → Int, TT ([] : List Int) f1 ∧ PP g [ob a 6 [.ref c, vi (([] : List Int).length : Int)], aI g c 60 f1] H1) A) ([.ref a] : List Value).toArray s 0 0 A) (F0 m 0 ls []) from K _ _ hP hD hS _ hl
  clear hl; intro H locs hP hD hS ls hl
  refine lv_aload_n hx hb dX6_makeEmpty_0 rfl (lv_at hl 0 rfl) ?_
  refine jr_iconst hx hb dX6_makeEmpty_1 ?_
  refine va_put (D := gD g) (ci := 6) (v := vi 0) (ty := .int) (C := RX6) (T := TX6) (N := 2) hx hb htl ck_X6 tyX6 tyX6_ok nmX6 hown hKK.k hP hD hS 0 rfl rfl 1 (by decide) (htl _ wd_2_20) (fun _ h9 => h9) rfl (by decide +kernel) rfl rfl (Nat.le_of_ble_eq_true rfl) dX6_makeEmpty_2 (fun H locs hP hD hS => ?_)
  have hP : PP g [ob a 6 [.ref c, vi 0], aI g c 60 f] H := hP
  have hD : va_D A [ob a 6 [.ref c, vi 0], aI g c 60 f] := hD
  exact je_Qv hx hb hr hlk hS (⟨f, TT.nil f, hP⟩) dX6_makeEmpty_5
set_option maxHeartbeats 4000000 in
set_option maxRecDepth 100000 in
theorem m_X6_put (l : Launch) (g : GT) (a c : Nat) (t : List Int) (f : Nat → Int) (hf : TT t f) (x : Int) (hl6 : t.length < 60) (hx6 : 0 ≤ x ∧ x < 40000) : Met l yX6_put (ws_ yX6_put cX6_put 2 none) (rmm 0 0 0) (jPc g [.ref a, vi x] (fun H => PP g [ob a 6 [.ref c, vi (t.length : Int)], aI g c 60 f] H ∧ va_D (fun q => gb g ≤ q) [ob a 6 [.ref c, vi (t.length : Int)], aI g c 60 f])) (jQv (fun H1 => ∃ f1 : Nat → Int, TT (t ++ [x]) f1 ∧ PP g [ob a 6 [.ref c, vi ((t ++ [x]).length : Int)], aI g c 60 f1] H1) (jA [ob a 6 [.ref c, vi (t.length : Int)], aI g c 60 f])) 0 0 (jA [ob a 6 [.ref c, vi (t.length : Int)], aI g c 60 f]) := by
  refine jb_M (by decide) (Nat.le_of_ble_eq_true rfl) ?_
  intro p e s m below meth cq hx hb hr hml hown htl hlk hnm hKK hpre ls hl
  have hown : s.vm.findClass RX6 = some m.cls := hown
  have hl : lv_has ls 2 [(0, .ref a), (1, vi x)] := hl
  obtain ⟨hP, hD0⟩ := hpre
  have hD : va_D (jA [ob a 6 [.ref c, vi (t.length : Int)], aI g c 60 f]) [ob a 6 [.ref c, vi (t.length : Int)], aI g c 60 f] := hD0.inD
  have hAb : ∀ q, (jA [ob a 6 [.ref c, vi (t.length : Int)], aI g c 60 f]) q → gb g ≤ q := fun q h => hD0.inA h
  generalize hAe : jA [ob a 6 [.ref c, vi (t.length : Int)], aI g c 60 f] = A at *
  have hS : va_S A s.heap s.heap [] := va_S.rf
  suffices K : ∀ (H : Heap) (locs : List Loc), PP g [ob a 6 [.ref c, vi (t.length : Int)], aI g c 60 f] H → va_D A [ob a 6 [.ref c, vi (t.length : Int)], aI g c 60 f] → va_S A s.heap H locs → ∀ ls : Array Slot, lv_has ls 2 [(0, .ref a), (1, vi x)] → W p l e (rmm 0 0 0) s m ([.ref a, vi x] : List Value).toArray below meth cq H locs 0 0 (MQ below (jQv (fun H1 => ∃ f1 : Nat → Int, TT (t ++ [x]) f1 ∧ PP g [ob a 6 [.ref c, vi ((t ++ [x]).length : Int)], aI g c 60 f1] H1) A) ([.ref a, vi x] : List Value).toArray s 0 0 A) (F0 m 0 ls []) from K _ _ hP hD hS _ hl
  clear hl; intro H locs hP hD hS ls hl
  refine lv_aload_n hx hb dX6_put_0 rfl (lv_at hl 0 rfl) ?_
  refine va_get (D := gD g) (ci := 6) (v := vi (t.length : Int)) (C := RX6) (T := TX6) (N := 2) hx hb htl ck_X6 hown hKK.k hP 0 rfl rfl 1 (by decide) (htl _ wd_2_20) (fun _ h9 => h9) rfl dX6_put_1 ?_
  refine lv_aload_n hx hb dX6_put_4 rfl (lv_at hl 0 rfl) ?_
  refine va_get (D := gD g) (ci := 6) (v := .ref c) (C := RX6) (T := TX6) (N := 2) hx hb htl ck_X6 hown hKK.k hP 0 rfl rfl 0 (by decide) (htl _ wd_2_19) (fun _ h9 => h9) rfl dX6_put_5 ?_
  refine va_alen (v := jI (60 : Nat)) hx hb hKK.k hP 1 0 rfl rfl (jI_nI _) dX6_put_8 ?_
  refine jr_ge (tgt := 32) hx hb dX6_put_9 (by decide) ⟨by omega, by omega⟩ ⟨by omega, by omega⟩ (fun c9 => absurd c9 (by omega)) (fun c9 => ?_)
  refine lv_aload_n hx hb dX6_put_12 rfl (lv_at hl 0 rfl) ?_
  refine va_get (D := gD g) (ci := 6) (v := .ref c) (C := RX6) (T := TX6) (N := 2) hx hb htl ck_X6 hown hKK.k hP 0 rfl rfl 0 (by decide) (htl _ wd_2_19) (fun _ h9 => h9) rfl dX6_put_13 ?_
  refine lv_aload_n hx hb dX6_put_16 rfl (lv_at hl 0 rfl) ?_
  refine va_get (D := gD g) (ci := 6) (v := vi (t.length : Int)) (C := RX6) (T := TX6) (N := 2) hx hb htl ck_X6 hown hKK.k hP 0 rfl rfl 1 (by decide) (htl _ wd_2_20) (fun _ h9 => h9) rfl dX6_put_17 ?_
  refine lv_iload_n hx hb dX6_put_20 rfl (lv_at hl 1 rfl) ?_
  refine jr_iast hx hb hKK.k hP hD hS 1 rfl t.length rfl (by omega) (by omega) dX6_put_21 (fun H locs hP hD hS => ?_)
  have hP : PP g [ob a 6 [.ref c, vi (t.length : Int)], aI g c 60 (ju f t.length x)] H := hP
  have hD : va_D A [ob a 6 [.ref c, vi (t.length : Int)], aI g c 60 (ju f t.length x)] := hD
  refine lv_aload_n hx hb dX6_put_22 rfl (lv_at hl 0 rfl) ?_
  refine lv_dup hx hb dX6_put_23 rfl ?_
  refine va_get (D := gD g) (ci := 6) (v := vi (t.length : Int)) (C := RX6) (T := TX6) (N := 2) hx hb htl ck_X6 hown hKK.k hP 0 rfl rfl 1 (by decide) (htl _ wd_2_20) (fun _ h9 => h9) rfl dX6_put_24 ?_
  refine jr_iconst hx hb dX6_put_27 ?_
  refine jr_iadd hx hb dX6_put_28 ?_
  refine va_put (D := gD g) (ci := 6) (v := vi ((t.length : Int) + 1)) (ty := .int) (C := RX6) (T := TX6) (N := 2) hx hb htl ck_X6 tyX6 tyX6_ok nmX6 hown hKK.k hP hD hS 0 rfl rfl 1 (by decide) (htl _ wd_2_20) (fun _ h9 => h9) rfl (by decide +kernel) rfl rfl (Nat.le_of_ble_eq_true rfl) dX6_put_29 (fun H locs hP hD hS => ?_)
  have hP : PP g [ob a 6 [.ref c, vi ((t.length : Int) + 1)], aI g c 60 (ju f t.length x)] H := hP
  have hD : va_D A [ob a 6 [.ref c, vi ((t.length : Int) + 1)], aI g c 60 (ju f t.length x)] := hD
  exact je_Qv hx hb hr hlk hS (⟨ju f t.length x, hf.push hl6 hx6, by rw [show (((t ++ [x] : List Int).length : Nat) : Int) = (t.length : Int) + 1 by simp]; exact hP⟩) dX6_put_32
set_option maxHeartbeats 4000000 in
set_option maxRecDepth 100000 in
theorem m_X6_replaceAt (l : Launch) (g : GT) (a c : Nat) (t : List Int) (f : Nat → Int) (hf : TT t f) (i x : Int) (hi6 : 0 ≤ i ∧ i < t.length) (hx6 : 0 ≤ x ∧ x < 40000) : Met l yX6_replaceAt (ws_ yX6_replaceAt cX6_replaceAt 3 none) (rmm 1 0 0) (jPc g [.ref a, vi i, vi x] (fun H => PP g [ob a 6 [.ref c, vi (t.length : Int)], aI g c 60 f] H ∧ va_D (fun q => gb g ≤ q) [ob a 6 [.ref c, vi (t.length : Int)], aI g c 60 f])) (jQv (fun H1 => ∃ f1 : Nat → Int, TT (t.set (i).toNat x) f1 ∧ PP g [ob a 6 [.ref c, vi ((t.set (i).toNat x).length : Int)], aI g c 60 f1] H1) (jA [ob a 6 [.ref c, vi (t.length : Int)], aI g c 60 f])) 0 0 (jA [ob a 6 [.ref c, vi (t.length : Int)], aI g c 60 f]) := by
  refine jb_M (by decide) (Nat.le_of_ble_eq_true rfl) ?_
  intro p e s m below meth cq hx hb hr hml hown htl hlk hnm hKK hpre ls hl
  have hown : s.vm.findClass RX6 = some m.cls := hown
  have hl : lv_has ls 3 [(0, .ref a), (1, vi i), (2, vi x)] := hl
  obtain ⟨hP, hD0⟩ := hpre
  have hL := hf.len
  have hD : va_D (jA [ob a 6 [.ref c, vi (t.length : Int)], aI g c 60 f]) [ob a 6 [.ref c, vi (t.length : Int)], aI g c 60 f] := hD0.inD
  have hAb : ∀ q, (jA [ob a 6 [.ref c, vi (t.length : Int)], aI g c 60 f]) q → gb g ≤ q := fun q h => hD0.inA h
  generalize hAe : jA [ob a 6 [.ref c, vi (t.length : Int)], aI g c 60 f] = A at *
  have hS : va_S A s.heap s.heap [] := va_S.rf
  suffices K : ∀ (H : Heap) (locs : List Loc), PP g [ob a 6 [.ref c, vi (t.length : Int)], aI g c 60 f] H → va_D A [ob a 6 [.ref c, vi (t.length : Int)], aI g c 60 f] → va_S A s.heap H locs → ∀ ls : Array Slot, lv_has ls 3 [(0, .ref a), (1, vi i), (2, vi x)] → W p l e (rmm 1 0 0) s m ([.ref a, vi i, vi x] : List Value).toArray below meth cq H locs 0 0 (MQ below (jQv (fun H1 => ∃ f1 : Nat → Int, TT (t.set (i).toNat x) f1 ∧ PP g [ob a 6 [.ref c, vi ((t.set (i).toNat x).length : Int)], aI g c 60 f1] H1) A) ([.ref a, vi i, vi x] : List Value).toArray s 0 0 A) (F0 m 0 ls []) from K _ _ hP hD hS _ hl
  clear hl; intro H locs hP hD hS ls hl
  refine lv_aload_n hx hb dX6_replaceAt_0 rfl (lv_at hl 0 rfl) ?_
  refine lv_iload_n hx hb dX6_replaceAt_1 rfl (lv_at hl 1 rfl) ?_
  refine jk_Si (va_runV (As := [vi i]) (rest := []) ⟨hx, hb, hml, hown, htl⟩ (m_X6_hasPlace l g a c t f hf i ⟨by omega, by omega⟩) (cwV 1 htl lk_X6_19 rfl rfl rfl cwV_X6_hasPlace ⟨Nat.le_of_ble_eq_true rfl, Nat.le_of_ble_eq_true rfl⟩) (jp_V hKK hS (va_recv hKK.k hP (ci := 6) (q0 := 0) rfl rfl) hP) rfl rfl hl.1 rfl (lv_room (Nat.le_of_ble_eq_true rfl)) dX6_replaceAt_2 ⟨Nat.le_of_ble_eq_true rfl, Nat.le_of_ble_eq_true rfl⟩) (fun z2 hz2 => ?_)
  subst hz2
  refine jr_nm (b := 1) (if_pos (by omega)) ?_
  refine jr_ifeq (tgt := 15) hx hb dX6_replaceAt_5 (by decide) ⟨by omega, by omega⟩ (fun c5 => absurd c5 (by omega)) (fun c5 => ?_)
  refine lv_aload_n hx hb dX6_replaceAt_8 rfl (lv_at hl 0 rfl) ?_
  refine va_get (D := gD g) (ci := 6) (v := .ref c) (C := RX6) (T := TX6) (N := 2) hx hb htl ck_X6 hown hKK.k hP 0 rfl rfl 0 (by decide) (htl _ wd_2_19) (fun _ h9 => h9) rfl dX6_replaceAt_9 ?_
  refine lv_iload_n hx hb dX6_replaceAt_12 rfl (lv_at hl 1 rfl) ?_
  refine lv_iload_n hx hb dX6_replaceAt_13 rfl (lv_at hl 2 rfl) ?_
  refine jr_iast hx hb hKK.k hP hD hS 1 rfl i.toNat (by omega) (by omega) (by omega) dX6_replaceAt_14 (fun H locs hP hD hS => ?_)
  have hP : PP g [ob a 6 [.ref c, vi (t.length : Int)], aI g c 60 (ju f i.toNat x)] H := hP
  have hD : va_D A [ob a 6 [.ref c, vi (t.length : Int)], aI g c 60 (ju f i.toNat x)] := hD
  exact je_Qv hx hb hr hlk hS (⟨ju f i.toNat x, hf.setAt _ hx6, by rw [List.length_set]; exact hP⟩) dX6_replaceAt_15
