
theorem cwS_X8_init : yX8_init.cls ≠ "java/lang/invoke/MethodHandle" ∧ yX8_init.cls ≠ "java/lang/invoke/VarHandle" ∧ (parseMethodDescriptor yX8_init.desc).map (fun d => d.parameters.length) = some 0 := by decide +kernel
theorem lk_X2_49 : GoodIn WSL (wsV RX2 49 RX6 yX6_copyAll (ws_ yX6_copyAll cX6_copyAll 2 none)) := gd_app (List.forall_mem_cons.mpr ⟨wd_14_12, List.forall_mem_cons.mpr ⟨wd_12_16, List.forall_mem_cons.mpr ⟨wd_12_17, List.forall_mem_cons.mpr ⟨wd_1_13, fun _ h => nomatch h⟩⟩⟩⟩) (gd_ wd_12_18)
theorem lkF_X2_58 : GoodIn WSL (va_wsF RX2 58 RJx4a65c ⟨"java/util/List", "add", "(Ljava/lang/Object;)Z"⟩ yJx4a65c_add_9ea2d (ws_ yJx4a65c_add_9ea2d cJx4a65c_add_9ea2d 2 (some .boolean))) := gd_app (List.forall_mem_cons.mpr ⟨wd_14_13, List.forall_mem_cons.mpr ⟨wd_14_14, List.forall_mem_cons.mpr ⟨wd_14_15, List.forall_mem_cons.mpr ⟨wd_3_6, fun _ h => nomatch h⟩⟩⟩⟩) (gd_ wd_14_16)
theorem cwF_2 : (⟨"java/util/List", "add", "(Ljava/lang/Object;)Z"⟩ : MethodName).cls ≠ "java/lang/invoke/MethodHandle" ∧ (⟨"java/util/List", "add", "(Ljava/lang/Object;)Z"⟩ : MethodName).cls ≠ "java/lang/invoke/VarHandle" ∧ (parseMethodDescriptor (⟨"java/util/List", "add", "(Ljava/lang/Object;)Z"⟩ : MethodName).desc).map (fun d => d.parameters.length) = some 1 := by decide +kernel
set_option maxHeartbeats 4000000 in
set_option maxRecDepth 100000 in
theorem m_X2_put_E (l : Launch) (g : GT) (me e9 t9 rows : Nat) (mc : Int) (xs : List Nat) (hx0 : xs = []) (hlen : xs.length < 60) (sz : Nat) (a c : Nat) (t : List Int) (f : Nat → Int) (hf : TT t f) (b d : Nat) (u : List Int) (f2 : Nat → Int) (hf2 : TT u f2) (hnq : ∀ x ∈ ([me] : List Nat), x ∉ ([rows] : List Nat)) (hnx : ∀ x ∈ ([a, c] : List Nat), x ∉ ([rows] : List Nat)) (hny : ∀ x ∈ ([b, d] : List Nat), x ∉ ([rows] : List Nat)) : Met l yX2_put (ws_ yX2_put cX2_put 4 (some .int)) (rmm 6 6 215) (jPc g [.ref me, .ref a, .ref b] (fun H => H.size = sz ∧ PP g [ob rows 11 [vi mc, .ref (gE g), vi 0]] H ∧ va_D (fun q => gb g ≤ q) [ob rows 11 [vi mc, .ref (gE g), vi 0]] ∧ PP g [ob me 2 [.ref e9, .ref t9, .ref rows]] H ∧ PP g [ob a 6 [.ref c, vi (t.length : Int)], aI g c 60 f] H ∧ PP g [ob b 6 [.ref d, vi (u.length : Int)], aI g d 60 f2] H ∧ EL g xs [rows] H)) (jQi (fun z H1 => z = (xs.length : Int) ∧ ∃ (q1 q2 q3 q4 q5 : Nat) (f3 f4 : Nat → Int) (lw1 : va_W), TT t f3 ∧ TT u f4 ∧ LW g rows (xs ++ [q1]) lw1 ∧ PP g ([ob q1 7 [.ref q2, .ref q4, vi 1], ob q2 6 [.ref q3, vi (t.length : Int)], aI g q3 60 f3, ob q4 6 [.ref q5, vi (u.length : Int)], aI g q5 60 f4] ++ lw1) H1 ∧ va_D (va_A [ob rows 11 [vi mc, .ref (gE g), vi 0]] sz) ([ob q1 7 [.ref q2, .ref q4, vi 1], ob q2 6 [.ref q3, vi (t.length : Int)], aI g q3 60 f3, ob q4 6 [.ref q5, vi (u.length : Int)], aI g q5 60 f4] ++ lw1)) (va_A [ob rows 11 [vi mc, .ref (gE g), vi 0]] sz)) 6 215 (va_A [ob rows 11 [vi mc, .ref (gE g), vi 0]] sz) := by
  refine jb_M (by decide) (Nat.le_of_ble_eq_true rfl) ?_
  intro p e s m below meth cq hx hb hr hml hown htl hlk hnm hKK hpre ls hl
  have hown : s.vm.findClass RX2 = some m.cls := hown
  have hl : lv_has ls 4 [(0, .ref me), (1, .ref a), (2, .ref b)] := hl
  obtain ⟨hsz, hP, hD0, hPm, hPx, hPy, hEL⟩ := hpre
  subst hsz
  have ap_hPm : ∀ (k : Nat) (q : Nat × va_E), ([ob me 2 [.ref e9, .ref t9, .ref rows]] : va_W)[k]? = some q → ¬ (va_A [ob rows 11 [vi mc, .ref (gE g), vi 0]] s.heap.size) q.1 := japS hPm rfl (hnq)
  have ap_hPx : ∀ (k : Nat) (q : Nat × va_E), ([ob a 6 [.ref c, vi (t.length : Int)], aI g c 60 f] : va_W)[k]? = some q → ¬ (va_A [ob rows 11 [vi mc, .ref (gE g), vi 0]] s.heap.size) q.1 := japS hPx rfl (hnx)
  have ap_hPy : ∀ (k : Nat) (q : Nat × va_E), ([ob b 6 [.ref d, vi (u.length : Int)], aI g d 60 f2] : va_W)[k]? = some q → ¬ (va_A [ob rows 11 [vi mc, .ref (gE g), vi 0]] s.heap.size) q.1 := japS hPy rfl (hny)
  have hD : va_D (va_A [ob rows 11 [vi mc, .ref (gE g), vi 0]] s.heap.size) [ob rows 11 [vi mc, .ref (gE g), vi 0]] := hD0.self
  have hAb : ∀ q, (va_A [ob rows 11 [vi mc, .ref (gE g), vi 0]] s.heap.size) q → gb g ≤ q := fun q h => h.elim (fun ⟨k, e, h⟩ => hD0.2 k _ h) (fun h => Nat.le_trans hKK.2.1 h)
  generalize hAe : va_A [ob rows 11 [vi mc, .ref (gE g), vi 0]] s.heap.size = A at *
  have hA : ∀ q, s.heap.size ≤ q → A q := fun q h => by rw [← hAe]; exact Or.inr h
  have hS : va_S A s.heap s.heap [] := va_S.rf
  suffices K : ∀ (H : Heap) (locs : List Loc), PP g [ob rows 11 [vi mc, .ref (gE g), vi 0]] H → va_D A [ob rows 11 [vi mc, .ref (gE g), vi 0]] → va_S A s.heap H locs → ∀ ls : Array Slot, lv_has ls 4 [(0, .ref me), (1, .ref a), (2, .ref b)] → W p l e (rmm 6 6 215) s m ([.ref me, .ref a, .ref b] : List Value).toArray below meth cq H locs 0 0 (MQ below (jQi (fun z H1 => z = (xs.length : Int) ∧ ∃ (q1 q2 q3 q4 q5 : Nat) (f3 f4 : Nat → Int) (lw1 : va_W), TT t f3 ∧ TT u f4 ∧ LW g rows (xs ++ [q1]) lw1 ∧ PP g ([ob q1 7 [.ref q2, .ref q4, vi 1], ob q2 6 [.ref q3, vi (t.length : Int)], aI g q3 60 f3, ob q4 6 [.ref q5, vi (u.length : Int)], aI g q5 60 f4] ++ lw1) H1 ∧ va_D (A) ([ob q1 7 [.ref q2, .ref q4, vi 1], ob q2 6 [.ref q3, vi (t.length : Int)], aI g q3 60 f3, ob q4 6 [.ref q5, vi (u.length : Int)], aI g q5 60 f4] ++ lw1)) A) ([.ref me, .ref a, .ref b] : List Value).toArray s 6 215 A) (F0 m 0 ls []) from K _ _ hP hD hS _ hl
  clear hl; intro H locs hP hD hS ls hl
  have hnA := nA_of hAe
  refine va_new (ci := 7) (fs := [.null, .null, vi 0]) (C := RX8) (T := TX8) (N := 3) hx hb htl ck_X8 tyX8 tyX8_ok hown (htl _ wd_17_12) (htl _ wd_14_1) (htl _ wd_14_2) hKK.k hP hD hS hA rfl (fun j hj => by rcases (show j = 0 ∨ j = 1 ∨ j = 2 by omega) with rfl | rfl | rfl <;> rfl) (Nat.le_of_ble_eq_true rfl) (Nat.le_of_ble_eq_true rfl) dX2_put_0 (fun q0 H hP hD hS => ?_)
  have hP : PP g [ob rows 11 [vi mc, .ref (gE g), vi 0], ob q0 7 [.null, .null, vi 0]] H := hP
  have hD : va_D A [ob rows 11 [vi mc, .ref (gE g), vi 0], ob q0 7 [.null, .null, vi 0]] := hD
  refine W.widen (k := 1) (n := 3) (by omega) (by omega) ?_
  refine lv_dup hx hb dX2_put_3 rfl ?_
  have hDc : va_D A [ob q0 7 [.null, .null, vi 0]] := hD.sub [1] (by decide) rfl
  have hFc := va_free (wc := [ob q0 7 [.null, .null, vi 0]]) hD hS hA [1] rfl
  refine jk_Qv (va_runIN (As := []) (rest := [.ref q0]) ⟨hx, hb, hml, hown, htl⟩ (m_X8_init l g q0 H.size) ⟨va_cnB 0 htl (gd_ wd_14_6) rfl rfl rfl (nst_8 hKK) (htl _ wd_14_2) cwS_X8_init ⟨Nat.le_of_ble_eq_true rfl, Nat.le_of_ble_eq_true rfl⟩, rfl, htl _ wd_14_5⟩ (jp_S hKK hS hAb ⟨rfl, (va_P.sub hP [1] rfl), hDc.weaken (fun _ q _ h => hAb _ h)⟩) rfl rfl hl.1 rfl (lv_room (Nat.le_of_ble_eq_true rfl)) dX2_put_4 ⟨Nat.le_of_ble_eq_true rfl, Nat.le_of_ble_eq_true rfl⟩) hS (fun q _ h => hFc q h) hFc (fun H1 locs hz4 hzs hks hS => ?_)
  obtain ⟨b_4, c_4, d_4, e1_4, hP1, hD1⟩ := hz4
  obtain ⟨hP, hD⟩ := va_join (wr := [ob rows 11 [vi mc, .ref (gE g), vi 0]]) (w1 := [ob q0 7 [.ref b_4, .ref d_4, vi 1], ob b_4 6 [.ref c_4, vi 0], aI g c_4 60 (fun _ => 0), ob d_4 6 [.ref e1_4, vi 0], aI g e1_4 60 (fun _ => 0)]) hP hD [1] [0] rfl rfl (by decide) (by decide) hks hFc hP1 hD1
  clear hzs hks; generalize H1 = H at hP hD hS ⊢
  have hP : PP g [ob rows 11 [vi mc, .ref (gE g), vi 0], ob q0 7 [.ref b_4, .ref d_4, vi 1], ob b_4 6 [.ref c_4, vi 0], aI g c_4 60 (fun _ => 0), ob d_4 6 [.ref e1_4, vi 0], aI g e1_4 60 (fun _ => 0)] H := hP
  have hD : va_D A [ob rows 11 [vi mc, .ref (gE g), vi 0], ob q0 7 [.ref b_4, .ref d_4, vi 1], ob b_4 6 [.ref c_4, vi 0], aI g c_4 60 (fun _ => 0), ob d_4 6 [.ref e1_4, vi 0], aI g e1_4 60 (fun _ => 0)] := hD
  refine W.widen (k := 5) (n := 127) (by omega) (by omega) ?_
  refine lv_astore_n (lv' := [(3, .ref q0), (0, .ref me), (1, .ref a), (2, .ref b)]) hx hb dX2_put_7 rfl hl (by decide) rfl (fun ls hl => ?_)
  refine lv_aload_n hx hb dX2_put_8 rfl (lv_at hl 0 rfl) ?_
  refine va_get (D := gD g) (ci := 7) (v := .ref b_4) (C := RX8) (T := TX8) (N := 3) hx hb htl ck_X8 hown hKK.k hP 1 rfl rfl 0 (by decide) (htl _ wd_14_3) (fun _ h9 => h9) rfl dX2_put_9 ?_
  refine lv_aload_n hx hb dX2_put_12 rfl (lv_at hl 2 rfl) ?_
  have hDc : va_D A [ob b_4 6 [.ref c_4, vi 0], aI g c_4 60 (fun _ => 0)] := hD.sub [2, 3] (by decide) rfl
  refine jk_Qv (va_runV (As := [.ref a]) (rest := []) ⟨hx, hb, hml, hown, htl⟩ (m_X6_copyAll l g b_4 c_4 ([] : List Int) (fun _ => 0) (TT.nil _) a c t f hf (jdisR hD ap_hPx [0, 1] [2, 3] rfl rfl)  ) (cwV 1 htl lk_X2_49 rfl rfl rfl cwV_X6_copyAll ⟨Nat.le_of_ble_eq_true rfl, Nat.le_of_ble_eq_true rfl⟩) (jp_V hKK hS hAb (va_recv hKK.k hP (ci := 6) (q0 := 2) rfl rfl) ⟨(va_P.sub hP [2, 3] rfl), hDc.weaken (fun _ q _ h => hAb _ h), (jat hPx hS ap_hPx)⟩) rfl rfl hl.1 rfl (lv_room (Nat.le_of_ble_eq_true rfl)) dX2_put_13 ⟨Nat.le_of_ble_eq_true rfl, Nat.le_of_ble_eq_true rfl⟩) hS (fun q _ h => hDc.inA h) (fun q h => hDc.inA h) (fun H1 locs hz13 hzs hks hS => ?_)
  obtain ⟨fn13, hfn13, hP1⟩ := hz13
  obtain ⟨hP, hD⟩ := jput (wc := [ob b_4 6 [.ref c_4, vi 0], aI g c_4 60 (fun _ => 0)]) (w1 := [ob b_4 6 [.ref c_4, vi (t.length : Int)], aI g c_4 60 fn13]) hP hD [2, 3] rfl rfl hks (fun q _ h => h) hP1
  clear hzs hks; generalize H1 = H at hP hD hS ⊢
  have hP : PP g [ob rows 11 [vi mc, .ref (gE g), vi 0], ob q0 7 [.ref b_4, .ref d_4, vi 1], ob b_4 6 [.ref c_4, vi (t.length : Int)], aI g c_4 60 fn13, ob d_4 6 [.ref e1_4, vi 0], aI g e1_4 60 (fun _ => 0)] H := hP
  have hD : va_D A [ob rows 11 [vi mc, .ref (gE g), vi 0], ob q0 7 [.ref b_4, .ref d_4, vi 1], ob b_4 6 [.ref c_4, vi (t.length : Int)], aI g c_4 60 fn13, ob d_4 6 [.ref e1_4, vi 0], aI g e1_4 60 (fun _ => 0)] := hD
  refine lv_aload_n hx hb dX2_put_16 rfl (lv_at hl 0 rfl) ?_
  refine va_get (D := gD g) (ci := 7) (v := .ref d_4) (C := RX8) (T := TX8) (N := 3) hx hb htl ck_X8 hown hKK.k hP 1 rfl rfl 1 (by decide) (htl _ wd_14_4) (fun _ h9 => h9) rfl dX2_put_17 ?_
  refine lv_aload_n hx hb dX2_put_20 rfl (lv_at hl 3 rfl) ?_
  have hDc : va_D A [ob d_4 6 [.ref e1_4, vi 0], aI g e1_4 60 (fun _ => 0)] := hD.sub [4, 5] (by decide) rfl
  refine jk_Qv (va_runV (As := [.ref b]) (rest := []) ⟨hx, hb, hml, hown, htl⟩ (m_X6_copyAll l g d_4 e1_4 ([] : List Int) (fun _ => 0) (TT.nil _) b d u f2 hf2 (jdisR hD ap_hPy [0, 1] [4, 5] rfl rfl)  ) (cwV 1 htl lk_X2_49 rfl rfl rfl cwV_X6_copyAll ⟨Nat.le_of_ble_eq_true rfl, Nat.le_of_ble_eq_true rfl⟩) (jp_V hKK hS hAb (va_recv hKK.k hP (ci := 6) (q0 := 4) rfl rfl) ⟨(va_P.sub hP [4, 5] rfl), hDc.weaken (fun _ q _ h => hAb _ h), (jat hPy hS ap_hPy)⟩) rfl rfl hl.1 rfl (lv_room (Nat.le_of_ble_eq_true rfl)) dX2_put_21 ⟨Nat.le_of_ble_eq_true rfl, Nat.le_of_ble_eq_true rfl⟩) hS (fun q _ h => hDc.inA h) (fun q h => hDc.inA h) (fun H1 locs hz21 hzs hks hS => ?_)
  obtain ⟨fn21, hfn21, hP1⟩ := hz21
  obtain ⟨hP, hD⟩ := jput (wc := [ob d_4 6 [.ref e1_4, vi 0], aI g e1_4 60 (fun _ => 0)]) (w1 := [ob d_4 6 [.ref e1_4, vi (u.length : Int)], aI g e1_4 60 fn21]) hP hD [4, 5] rfl rfl hks (fun q _ h => h) hP1
  clear hzs hks; generalize H1 = H at hP hD hS ⊢
  have hP : PP g [ob rows 11 [vi mc, .ref (gE g), vi 0], ob q0 7 [.ref b_4, .ref d_4, vi 1], ob b_4 6 [.ref c_4, vi (t.length : Int)], aI g c_4 60 fn13, ob d_4 6 [.ref e1_4, vi (u.length : Int)], aI g e1_4 60 fn21] H := hP
  have hD : va_D A [ob rows 11 [vi mc, .ref (gE g), vi 0], ob q0 7 [.ref b_4, .ref d_4, vi 1], ob b_4 6 [.ref c_4, vi (t.length : Int)], aI g c_4 60 fn13, ob d_4 6 [.ref e1_4, vi (u.length : Int)], aI g e1_4 60 fn21] := hD
  refine lv_aload_n hx hb dX2_put_24 rfl (lv_at hl 1 rfl) ?_
  refine va_get (D := gD g) (ci := 2) (v := .ref rows) (C := RX2) (T := TX2) (N := 3) hx hb htl ck_X2 hown hKK.k (jat hPm hS ap_hPm) 0 rfl rfl 2 (by decide) (htl _ wd_3_7) (fun _ h9 => h9) rfl dX2_put_25 ?_
  refine lv_aload_n hx hb dX2_put_28 rfl (lv_at hl 0 rfl) ?_
  have hDc : va_D A [ob rows 11 [vi mc, .ref (gE g), vi 0]] := hD.sub [0] (by decide) rfl
  have hFc := va_free (wc := [ob rows 11 [vi mc, .ref (gE g), vi 0]]) hD hS hA [0] rfl
  have hE1 : EL g (q0 :: xs) [rows] H := (hEL.kept hS hnA (fun _ h => h) (fun _ h => h)).cons (jdis (xs := [q0]) (ys := [rows]) hD [1] [0] rfl rfl (by decide) _ List.mem_cons_self) (Or.inl rfl) (va_P.sub hP [1] rfl)
  refine jk5_Qi (va_runF (As := [.ref q0]) (rest := []) (hKK.k.1 11 _ rfl).2 ⟨hx, hb, hml, hown, htl⟩ (m_Ladd l g rows xs [ob rows 11 [vi mc, .ref (gE g), vi 0]] q0 H.size (Or.inl ⟨hx0, mc, rfl⟩) hlen) (va_cwF 1 htl lkF_X2_58 rfl rfl rfl (fw_2 hKK) cwF_2 ⟨Nat.le_of_ble_eq_true rfl, Nat.le_of_ble_eq_true rfl⟩) (jp_V hKK hS hAb (va_recv hKK.k hP (ci := 11) (q0 := 0) rfl rfl) ⟨rfl, va_P.sub hP [0] rfl, hDc.weaken (fun _ q _ h => hAb _ h), hE1⟩) rfl rfl hl.1 rfl (lv_room (Nat.le_of_ble_eq_true rfl)) dX2_put_29 ⟨Nat.le_of_ble_eq_true rfl, Nat.le_of_ble_eq_true rfl⟩) hS (fun q _ h => hFc q h) hFc (fun z29 H1 locs hz29 hzs hks hS => ?_)
  obtain ⟨-, lw1, hL1, hP1, hD1⟩ := hz29
  obtain ⟨hP, hD⟩ := va_join (wr := [ob q0 7 [.ref b_4, .ref d_4, vi 1], ob b_4 6 [.ref c_4, vi (t.length : Int)], aI g c_4 60 fn13, ob d_4 6 [.ref e1_4, vi (u.length : Int)], aI g e1_4 60 fn21]) (w1 := lw1) hP hD [0] [1, 2, 3, 4, 5] rfl rfl (by decide) (by decide) hks hFc hP1 hD1
  clear hzs hks; generalize H1 = H at hP hD hS ⊢
  have hP : PP g ([ob q0 7 [.ref b_4, .ref d_4, vi 1], ob b_4 6 [.ref c_4, vi (t.length : Int)], aI g c_4 60 fn13, ob d_4 6 [.ref e1_4, vi (u.length : Int)], aI g e1_4 60 fn21] ++ lw1) H := hP
  have hD : va_D A ([ob q0 7 [.ref b_4, .ref d_4, vi 1], ob b_4 6 [.ref c_4, vi (t.length : Int)], aI g c_4 60 fn13, ob d_4 6 [.ref e1_4, vi (u.length : Int)], aI g e1_4 60 fn21] ++ lw1) := hD
  refine lv_pop hx hb dX2_put_34 rfl ?_
  refine lv_aload_n hx hb dX2_put_35 rfl (lv_at hl 1 rfl) ?_
  refine va_get (D := gD g) (ci := 2) (v := .ref rows) (C := RX2) (T := TX2) (N := 3) hx hb htl ck_X2 hown hKK.k (jat hPm hS ap_hPm) 0 rfl rfl 2 (by decide) (htl _ wd_3_7) (fun _ h9 => h9) rfl dX2_put_36 ?_
  refine jk5_Si (va_runF (As := []) (rest := []) (hKK.k.1 11 _ rfl).2 ⟨hx, hb, hml, hown, htl⟩ (m_Lsize l g rows (xs ++ [q0]) lw1 hL1) (va_cwF 0 htl lkF_X2_32 rfl rfl rfl (fw_0 hKK) cwF_0 ⟨Nat.le_of_ble_eq_true rfl, Nat.le_of_ble_eq_true rfl⟩) (jp_V hKK hS hAb (LW.recv hKK hL1 (hP.mem fun q h => List.mem_append_right _ h)) (hP.mem fun q h => List.mem_append_right _ h)) rfl rfl hl.1 rfl (lv_room (Nat.le_of_ble_eq_true rfl)) dX2_put_39 ⟨Nat.le_of_ble_eq_true rfl, Nat.le_of_ble_eq_true rfl⟩) (fun z39 hz39 => ?_)
  rw [List.length_append, List.length_singleton] at hz39; subst hz39
  refine jr_iconst hx hb dX2_put_44 ?_
  refine jr_isub hx hb dX2_put_45 ?_
  exact je_Qi hx hb hr hlk rfl hS (⟨by omega, q0, b_4, c_4, d_4, e1_4, fn13, fn21, lw1, hfn13, hfn21, hL1, hP, hD⟩) dX2_put_46
set_option maxHeartbeats 4000000 in
set_option maxRecDepth 100000 in
theorem m_X2_put_F (l : Launch) (g : GT) (me e9 t9 rows : Nat) (mc : Int) (ea cap n : Nat) (f9 : Nat → Option Nat) (xs : List Nat) (hn : xs.length = n) (h1 : n ≤ cap) (h2 : 10 ≤ cap) (h3 : cap ≤ 88) (hf9 : ∀ j, j < xs.length → f9 j = some (xs.getD j 0)) (hlen : xs.length < 60) (sz : Nat) (a c : Nat) (t : List Int) (f : Nat → Int) (hf : TT t f) (b d : Nat) (u : List Int) (f2 : Nat → Int) (hf2 : TT u f2) (hnq : ∀ x ∈ ([me] : List Nat), x ∉ ([rows, ea] : List Nat)) (hnx : ∀ x ∈ ([a, c] : List Nat), x ∉ ([rows, ea] : List Nat)) (hny : ∀ x ∈ ([b, d] : List Nat), x ∉ ([rows, ea] : List Nat)) : Met l yX2_put (ws_ yX2_put cX2_put 4 (some .int)) (rmm 6 6 215) (jPc g [.ref me, .ref a, .ref b] (fun H => H.size = sz ∧ PP g [ob rows 11 [vi mc, .ref ea, vi (n : Int)], aO g ea cap f9] H ∧ va_D (fun q => gb g ≤ q) [ob rows 11 [vi mc, .ref ea, vi (n : Int)], aO g ea cap f9] ∧ PP g [ob me 2 [.ref e9, .ref t9, .ref rows]] H ∧ PP g [ob a 6 [.ref c, vi (t.length : Int)], aI g c 60 f] H ∧ PP g [ob b 6 [.ref d, vi (u.length : Int)], aI g d 60 f2] H ∧ EL g xs [rows, ea] H)) (jQi (fun z H1 => z = (xs.length : Int) ∧ ∃ (q1 q2 q3 q4 q5 : Nat) (f3 f4 : Nat → Int) (lw1 : va_W), TT t f3 ∧ TT u f4 ∧ LW g rows (xs ++ [q1]) lw1 ∧ PP g ([ob q1 7 [.ref q2, .ref q4, vi 1], ob q2 6 [.ref q3, vi (t.length : Int)], aI g q3 60 f3, ob q4 6 [.ref q5, vi (u.length : Int)], aI g q5 60 f4] ++ lw1) H1 ∧ va_D (va_A [ob rows 11 [vi mc, .ref ea, vi (n : Int)], aO g ea cap f9] sz) ([ob q1 7 [.ref q2, .ref q4, vi 1], ob q2 6 [.ref q3, vi (t.length : Int)], aI g q3 60 f3, ob q4 6 [.ref q5, vi (u.length : Int)], aI g q5 60 f4] ++ lw1)) (va_A [ob rows 11 [vi mc, .ref ea, vi (n : Int)], aO g ea cap f9] sz)) 6 215 (va_A [ob rows 11 [vi mc, .ref ea, vi (n : Int)], aO g ea cap f9] sz) := by
  refine jb_M (by decide) (Nat.le_of_ble_eq_true rfl) ?_
  intro p e s m below meth cq hx hb hr hml hown htl hlk hnm hKK hpre ls hl
  have hown : s.vm.findClass RX2 = some m.cls := hown
  have hl : lv_has ls 4 [(0, .ref me), (1, .ref a), (2, .ref b)] := hl
  obtain ⟨hsz, hP, hD0, hPm, hPx, hPy, hEL⟩ := hpre
  subst hsz
  have ap_hPm : ∀ (k : Nat) (q : Nat × va_E), ([ob me 2 [.ref e9, .ref t9, .ref rows]] : va_W)[k]? = some q → ¬ (va_A [ob rows 11 [vi mc, .ref ea, vi (n : Int)], aO g ea cap f9] s.heap.size) q.1 := japS hPm rfl (hnq)
  have ap_hPx : ∀ (k : Nat) (q : Nat × va_E), ([ob a 6 [.ref c, vi (t.length : Int)], aI g c 60 f] : va_W)[k]? = some q → ¬ (va_A [ob rows 11 [vi mc, .ref ea, vi (n : Int)], aO g ea cap f9] s.heap.size) q.1 := japS hPx rfl (hnx)
  have ap_hPy : ∀ (k : Nat) (q : Nat × va_E), ([ob b 6 [.ref d, vi (u.length : Int)], aI g d 60 f2] : va_W)[k]? = some q → ¬ (va_A [ob rows 11 [vi mc, .ref ea, vi (n : Int)], aO g ea cap f9] s.heap.size) q.1 := japS hPy rfl (hny)
  have hD : va_D (va_A [ob rows 11 [vi mc, .ref ea, vi (n : Int)], aO g ea cap f9] s.heap.size) [ob rows 11 [vi mc, .ref ea, vi (n : Int)], aO g ea cap f9] := hD0.self
  have hAb : ∀ q, (va_A [ob rows 11 [vi mc, .ref ea, vi (n : Int)], aO g ea cap f9] s.heap.size) q → gb g ≤ q := fun q h => h.elim (fun ⟨k, e, h⟩ => hD0.2 k _ h) (fun h => Nat.le_trans hKK.2.1 h)
  generalize hAe : va_A [ob rows 11 [vi mc, .ref ea, vi (n : Int)], aO g ea cap f9] s.heap.size = A at *
  have hA : ∀ q, s.heap.size ≤ q → A q := fun q h => by rw [← hAe]; exact Or.inr h
  have hS : va_S A s.heap s.heap [] := va_S.rf
  suffices K : ∀ (H : Heap) (locs : List Loc), PP g [ob rows 11 [vi mc, .ref ea, vi (n : Int)], aO g ea cap f9] H → va_D A [ob rows 11 [vi mc, .ref ea, vi (n : Int)], aO g ea cap f9] → va_S A s.heap H locs → ∀ ls : Array Slot, lv_has ls 4 [(0, .ref me), (1, .ref a), (2, .ref b)] → W p l e (rmm 6 6 215) s m ([.ref me, .ref a, .ref b] : List Value).toArray below meth cq H locs 0 0 (MQ below (jQi (fun z H1 => z = (xs.length : Int) ∧ ∃ (q1 q2 q3 q4 q5 : Nat) (f3 f4 : Nat → Int) (lw1 : va_W), TT t f3 ∧ TT u f4 ∧ LW g rows (xs ++ [q1]) lw1 ∧ PP g ([ob q1 7 [.ref q2, .ref q4, vi 1], ob q2 6 [.ref q3, vi (t.length : Int)], aI g q3 60 f3, ob q4 6 [.ref q5, vi (u.length : Int)], aI g q5 60 f4] ++ lw1) H1 ∧ va_D (A) ([ob q1 7 [.ref q2, .ref q4, vi 1], ob q2 6 [.ref q3, vi (t.length : Int)], aI g q3 60 f3, ob q4 6 [.ref q5, vi (u.length : Int)], aI g q5 60 f4] ++ lw1)) A) ([.ref me, .ref a, .ref b] : List Value).toArray s 6 215 A) (F0 m 0 ls []) from K _ _ hP hD hS _ hl
  clear hl; intro H locs hP hD hS ls hl
  have hnA := nA_of hAe
  refine va_new (ci := 7) (fs := [.null, .null, vi 0]) (C := RX8) (T := TX8) (N := 3) hx hb htl ck_X8 tyX8 tyX8_ok hown (htl _ wd_17_12) (htl _ wd_14_1) (htl _ wd_14_2) hKK.k hP hD hS hA rfl (fun j hj => by rcases (show j = 0 ∨ j = 1 ∨ j = 2 by omega) with rfl | rfl | rfl <;> rfl) (Nat.le_of_ble_eq_true rfl) (Nat.le_of_ble_eq_true rfl) dX2_put_0 (fun q0 H hP hD hS => ?_)
  have hP : PP g [ob rows 11 [vi mc, .ref ea, vi (n : Int)], aO g ea cap f9, ob q0 7 [.null, .null, vi 0]] H := hP
  have hD : va_D A [ob rows 11 [vi mc, .ref ea, vi (n : Int)], aO g ea cap f9, ob q0 7 [.null, .null, vi 0]] := hD
  refine W.widen (k := 1) (n := 3) (by omega) (by omega) ?_
  refine lv_dup hx hb dX2_put_3 rfl ?_
  have hDc : va_D A [ob q0 7 [.null, .null, vi 0]] := hD.sub [2] (by decide) rfl
  have hFc := va_free (wc := [ob q0 7 [.null, .null, vi 0]]) hD hS hA [2] rfl
  refine jk_Qv (va_runIN (As := []) (rest := [.ref q0]) ⟨hx, hb, hml, hown, htl⟩ (m_X8_init l g q0 H.size) ⟨va_cnB 0 htl (gd_ wd_14_6) rfl rfl rfl (nst_8 hKK) (htl _ wd_14_2) cwS_X8_init ⟨Nat.le_of_ble_eq_true rfl, Nat.le_of_ble_eq_true rfl⟩, rfl, htl _ wd_14_5⟩ (jp_S hKK hS hAb ⟨rfl, (va_P.sub hP [2] rfl), hDc.weaken (fun _ q _ h => hAb _ h)⟩) rfl rfl hl.1 rfl (lv_room (Nat.le_of_ble_eq_true rfl)) dX2_put_4 ⟨Nat.le_of_ble_eq_true rfl, Nat.le_of_ble_eq_true rfl⟩) hS (fun q _ h => hFc q h) hFc (fun H1 locs hz4 hzs hks hS => ?_)
  obtain ⟨b_4, c_4, d_4, e1_4, hP1, hD1⟩ := hz4
  obtain ⟨hP, hD⟩ := va_join (wr := [ob rows 11 [vi mc, .ref ea, vi (n : Int)], aO g ea cap f9]) (w1 := [ob q0 7 [.ref b_4, .ref d_4, vi 1], ob b_4 6 [.ref c_4, vi 0], aI g c_4 60 (fun _ => 0), ob d_4 6 [.ref e1_4, vi 0], aI g e1_4 60 (fun _ => 0)]) hP hD [2] [0, 1] rfl rfl (by decide) (by decide) hks hFc hP1 hD1
  clear hzs hks; generalize H1 = H at hP hD hS ⊢
  have hP : PP g [ob rows 11 [vi mc, .ref ea, vi (n : Int)], aO g ea cap f9, ob q0 7 [.ref b_4, .ref d_4, vi 1], ob b_4 6 [.ref c_4, vi 0], aI g c_4 60 (fun _ => 0), ob d_4 6 [.ref e1_4, vi 0], aI g e1_4 60 (fun _ => 0)] H := hP
  have hD : va_D A [ob rows 11 [vi mc, .ref ea, vi (n : Int)], aO g ea cap f9, ob q0 7 [.ref b_4, .ref d_4, vi 1], ob b_4 6 [.ref c_4, vi 0], aI g c_4 60 (fun _ => 0), ob d_4 6 [.ref e1_4, vi 0], aI g e1_4 60 (fun _ => 0)] := hD
  refine W.widen (k := 5) (n := 127) (by omega) (by omega) ?_
  refine lv_astore_n (lv' := [(3, .ref q0), (0, .ref me), (1, .ref a), (2, .ref b)]) hx hb dX2_put_7 rfl hl (by decide) rfl (fun ls hl => ?_)
  refine lv_aload_n hx hb dX2_put_8 rfl (lv_at hl 0 rfl) ?_
  refine va_get (D := gD g) (ci := 7) (v := .ref b_4) (C := RX8) (T := TX8) (N := 3) hx hb htl ck_X8 hown hKK.k hP 2 rfl rfl 0 (by decide) (htl _ wd_14_3) (fun _ h9 => h9) rfl dX2_put_9 ?_
  refine lv_aload_n hx hb dX2_put_12 rfl (lv_at hl 2 rfl) ?_
  have hDc : va_D A [ob b_4 6 [.ref c_4, vi 0], aI g c_4 60 (fun _ => 0)] := hD.sub [3, 4] (by decide) rfl
  refine jk_Qv (va_runV (As := [.ref a]) (rest := []) ⟨hx, hb, hml, hown, htl⟩ (m_X6_copyAll l g b_4 c_4 ([] : List Int) (fun _ => 0) (TT.nil _) a c t f hf (jdisR hD ap_hPx [0, 1] [3, 4] rfl rfl)  ) (cwV 1 htl lk_X2_49 rfl rfl rfl cwV_X6_copyAll ⟨Nat.le_of_ble_eq_true rfl, Nat.le_of_ble_eq_true rfl⟩) (jp_V hKK hS hAb (va_recv hKK.k hP (ci := 6) (q0 := 3) rfl rfl) ⟨(va_P.sub hP [3, 4] rfl), hDc.weaken (fun _ q _ h => hAb _ h), (jat hPx hS ap_hPx)⟩) rfl rfl hl.1 rfl (lv_room (Nat.le_of_ble_eq_true rfl)) dX2_put_13 ⟨Nat.le_of_ble_eq_true rfl, Nat.le_of_ble_eq_true rfl⟩) hS (fun q _ h => hDc.inA h) (fun q h => hDc.inA h) (fun H1 locs hz13 hzs hks hS => ?_)
  obtain ⟨fn13, hfn13, hP1⟩ := hz13
  obtain ⟨hP, hD⟩ := jput (wc := [ob b_4 6 [.ref c_4, vi 0], aI g c_4 60 (fun _ => 0)]) (w1 := [ob b_4 6 [.ref c_4, vi (t.length : Int)], aI g c_4 60 fn13]) hP hD [3, 4] rfl rfl hks (fun q _ h => h) hP1
  clear hzs hks; generalize H1 = H at hP hD hS ⊢
  have hP : PP g [ob rows 11 [vi mc, .ref ea, vi (n : Int)], aO g ea cap f9, ob q0 7 [.ref b_4, .ref d_4, vi 1], ob b_4 6 [.ref c_4, vi (t.length : Int)], aI g c_4 60 fn13, ob d_4 6 [.ref e1_4, vi 0], aI g e1_4 60 (fun _ => 0)] H := hP
  have hD : va_D A [ob rows 11 [vi mc, .ref ea, vi (n : Int)], aO g ea cap f9, ob q0 7 [.ref b_4, .ref d_4, vi 1], ob b_4 6 [.ref c_4, vi (t.length : Int)], aI g c_4 60 fn13, ob d_4 6 [.ref e1_4, vi 0], aI g e1_4 60 (fun _ => 0)] := hD
  refine lv_aload_n hx hb dX2_put_16 rfl (lv_at hl 0 rfl) ?_
  refine va_get (D := gD g) (ci := 7) (v := .ref d_4) (C := RX8) (T := TX8) (N := 3) hx hb htl ck_X8 hown hKK.k hP 2 rfl rfl 1 (by decide) (htl _ wd_14_4) (fun _ h9 => h9) rfl dX2_put_17 ?_
  refine lv_aload_n hx hb dX2_put_20 rfl (lv_at hl 3 rfl) ?_
  have hDc : va_D A [ob d_4 6 [.ref e1_4, vi 0], aI g e1_4 60 (fun _ => 0)] := hD.sub [5, 6] (by decide) rfl
  refine jk_Qv (va_runV (As := [.ref b]) (rest := []) ⟨hx, hb, hml, hown, htl⟩ (m_X6_copyAll l g d_4 e1_4 ([] : List Int) (fun _ => 0) (TT.nil _) b d u f2 hf2 (jdisR hD ap_hPy [0, 1] [5, 6] rfl rfl)  ) (cwV 1 htl lk_X2_49 rfl rfl rfl cwV_X6_copyAll ⟨Nat.le_of_ble_eq_true rfl, Nat.le_of_ble_eq_true rfl⟩) (jp_V hKK hS hAb (va_recv hKK.k hP (ci := 6) (q0 := 5) rfl rfl) ⟨(va_P.sub hP [5, 6] rfl), hDc.weaken (fun _ q _ h => hAb _ h), (jat hPy hS ap_hPy)⟩) rfl rfl hl.1 rfl (lv_room (Nat.le_of_ble_eq_true rfl)) dX2_put_21 ⟨Nat.le_of_ble_eq_true rfl, Nat.le_of_ble_eq_true rfl⟩) hS (fun q _ h => hDc.inA h) (fun q h => hDc.inA h) (fun H1 locs hz21 hzs hks hS => ?_)
  obtain ⟨fn21, hfn21, hP1⟩ := hz21
  obtain ⟨hP, hD⟩ := jput (wc := [ob d_4 6 [.ref e1_4, vi 0], aI g e1_4 60 (fun _ => 0)]) (w1 := [ob d_4 6 [.ref e1_4, vi (u.length : Int)], aI g e1_4 60 fn21]) hP hD [5, 6] rfl rfl hks (fun q _ h => h) hP1
  clear hzs hks; generalize H1 = H at hP hD hS ⊢
  have hP : PP g [ob rows 11 [vi mc, .ref ea, vi (n : Int)], aO g ea cap f9, ob q0 7 [.ref b_4, .ref d_4, vi 1], ob b_4 6 [.ref c_4, vi (t.length : Int)], aI g c_4 60 fn13, ob d_4 6 [.ref e1_4, vi (u.length : Int)], aI g e1_4 60 fn21] H := hP
  have hD : va_D A [ob rows 11 [vi mc, .ref ea, vi (n : Int)], aO g ea cap f9, ob q0 7 [.ref b_4, .ref d_4, vi 1], ob b_4 6 [.ref c_4, vi (t.length : Int)], aI g c_4 60 fn13, ob d_4 6 [.ref e1_4, vi (u.length : Int)], aI g e1_4 60 fn21] := hD
  refine lv_aload_n hx hb dX2_put_24 rfl (lv_at hl 1 rfl) ?_
  refine va_get (D := gD g) (ci := 2) (v := .ref rows) (C := RX2) (T := TX2) (N := 3) hx hb htl ck_X2 hown hKK.k (jat hPm hS ap_hPm) 0 rfl rfl 2 (by decide) (htl _ wd_3_7) (fun _ h9 => h9) rfl dX2_put_25 ?_
  refine lv_aload_n hx hb dX2_put_28 rfl (lv_at hl 0 rfl) ?_
  have hDc : va_D A [ob rows 11 [vi mc, .ref ea, vi (n : Int)], aO g ea cap f9] := hD.sub [0, 1] (by decide) rfl
  have hFc := va_free (wc := [ob rows 11 [vi mc, .ref ea, vi (n : Int)], aO g ea cap f9]) hD hS hA [0, 1] rfl
  have hE1 : EL g (q0 :: xs) [rows, ea] H := (hEL.kept hS hnA (fun _ h => h) (fun _ h => h)).cons (jdis (xs := [q0]) (ys := [rows, ea]) hD [2] [0, 1] rfl rfl (by decide) _ List.mem_cons_self) (Or.inl rfl) (va_P.sub hP [2] rfl)
  refine jk5_Qi (va_runF (As := [.ref q0]) (rest := []) (hKK.k.1 11 _ rfl).2 ⟨hx, hb, hml, hown, htl⟩ (m_Ladd l g rows xs [ob rows 11 [vi mc, .ref ea, vi (n : Int)], aO g ea cap f9] q0 H.size (Or.inr ⟨mc, ea, cap, f9, by rw [hn], by omega, h2, h3, hf9⟩) hlen) (va_cwF 1 htl lkF_X2_58 rfl rfl rfl (fw_2 hKK) cwF_2 ⟨Nat.le_of_ble_eq_true rfl, Nat.le_of_ble_eq_true rfl⟩) (jp_V hKK hS hAb (va_recv hKK.k hP (ci := 11) (q0 := 0) rfl rfl) ⟨rfl, va_P.sub hP [0, 1] rfl, hDc.weaken (fun _ q _ h => hAb _ h), hE1⟩) rfl rfl hl.1 rfl (lv_room (Nat.le_of_ble_eq_true rfl)) dX2_put_29 ⟨Nat.le_of_ble_eq_true rfl, Nat.le_of_ble_eq_true rfl⟩) hS (fun q _ h => hFc q h) hFc (fun z29 H1 locs hz29 hzs hks hS => ?_)
  obtain ⟨-, lw1, hL1, hP1, hD1⟩ := hz29
  obtain ⟨hP, hD⟩ := va_join (wr := [ob q0 7 [.ref b_4, .ref d_4, vi 1], ob b_4 6 [.ref c_4, vi (t.length : Int)], aI g c_4 60 fn13, ob d_4 6 [.ref e1_4, vi (u.length : Int)], aI g e1_4 60 fn21]) (w1 := lw1) hP hD [0, 1] [2, 3, 4, 5, 6] rfl rfl (by decide) (by decide) hks hFc hP1 hD1
  clear hzs hks; generalize H1 = H at hP hD hS ⊢
  have hP : PP g ([ob q0 7 [.ref b_4, .ref d_4, vi 1], ob b_4 6 [.ref c_4, vi (t.length : Int)], aI g c_4 60 fn13, ob d_4 6 [.ref e1_4, vi (u.length : Int)], aI g e1_4 60 fn21] ++ lw1) H := hP
  have hD : va_D A ([ob q0 7 [.ref b_4, .ref d_4, vi 1], ob b_4 6 [.ref c_4, vi (t.length : Int)], aI g c_4 60 fn13, ob d_4 6 [.ref e1_4, vi (u.length : Int)], aI g e1_4 60 fn21] ++ lw1) := hD
  refine lv_pop hx hb dX2_put_34 rfl ?_
  refine lv_aload_n hx hb dX2_put_35 rfl (lv_at hl 1 rfl) ?_
  refine va_get (D := gD g) (ci := 2) (v := .ref rows) (C := RX2) (T := TX2) (N := 3) hx hb htl ck_X2 hown hKK.k (jat hPm hS ap_hPm) 0 rfl rfl 2 (by decide) (htl _ wd_3_7) (fun _ h9 => h9) rfl dX2_put_36 ?_
  refine jk5_Si (va_runF (As := []) (rest := []) (hKK.k.1 11 _ rfl).2 ⟨hx, hb, hml, hown, htl⟩ (m_Lsize l g rows (xs ++ [q0]) lw1 hL1) (va_cwF 0 htl lkF_X2_32 rfl rfl rfl (fw_0 hKK) cwF_0 ⟨Nat.le_of_ble_eq_true rfl, Nat.le_of_ble_eq_true rfl⟩) (jp_V hKK hS hAb (LW.recv hKK hL1 (hP.mem fun q h => List.mem_append_right _ h)) (hP.mem fun q h => List.mem_append_right _ h)) rfl rfl hl.1 rfl (lv_room (Nat.le_of_ble_eq_true rfl)) dX2_put_39 ⟨Nat.le_of_ble_eq_true rfl, Nat.le_of_ble_eq_true rfl⟩) (fun z39 hz39 => ?_)
  rw [List.length_append, List.length_singleton] at hz39; subst hz39
  refine jr_iconst hx hb dX2_put_44 ?_
  refine jr_isub hx hb dX2_put_45 ?_
  exact je_Qi hx hb hr hlk rfl hS (⟨by omega, q0, b_4, c_4, d_4, e1_4, fn13, fn21, lw1, hfn13, hfn21, hL1, hP, hD⟩) dX2_put_46
theorem m_X2_put (l : Launch) (g : GT) (me e9 t9 rows : Nat) (xs : List Nat) (lw : va_W) (h : LW g rows xs lw) (hlen : xs.length < 60) (sz : Nat) (a c : Nat) (t : List Int) (f : Nat → Int) (hf : TT t f) (b d : Nat) (u : List Int) (f2 : Nat → Int) (hf2 : TT u f2) (hnq : ∀ x ∈ ([me] : List Nat), x ∉ lw.map (·.1)) (hnx : ∀ x ∈ ([a, c] : List Nat), x ∉ lw.map (·.1)) (hny : ∀ x ∈ ([b, d] : List Nat), x ∉ lw.map (·.1)) :
    Met l yX2_put (ws_ yX2_put cX2_put 4 (some .int)) (rmm 6 6 215) (jPc g [.ref me, .ref a, .ref b] (fun H => H.size = sz ∧ PP g lw H ∧ va_D (fun q => gb g ≤ q) lw ∧ PP g [ob me 2 [.ref e9, .ref t9, .ref rows]] H ∧ PP g [ob a 6 [.ref c, vi (t.length : Int)], aI g c 60 f] H ∧ PP g [ob b 6 [.ref d, vi (u.length : Int)], aI g d 60 f2] H ∧ EL g xs (lw.map (·.1)) H)) (jQi (fun z H1 => z = (xs.length : Int) ∧ ∃ (q1 q2 q3 q4 q5 : Nat) (f3 f4 : Nat → Int) (lw1 : va_W), TT t f3 ∧ TT u f4 ∧ LW g rows (xs ++ [q1]) lw1 ∧ PP g ([ob q1 7 [.ref q2, .ref q4, vi 1], ob q2 6 [.ref q3, vi (t.length : Int)], aI g q3 60 f3, ob q4 6 [.ref q5, vi (u.length : Int)], aI g q5 60 f4] ++ lw1) H1 ∧ va_D (va_A lw sz) ([ob q1 7 [.ref q2, .ref q4, vi 1], ob q2 6 [.ref q3, vi (t.length : Int)], aI g q3 60 f3, ob q4 6 [.ref q5, vi (u.length : Int)], aI g q5 60 f4] ++ lw1)) (va_A lw sz)) 6 215 (va_A lw sz) := by
  rcases h with ⟨rfl, mc, rfl⟩ | ⟨mc, ea, cap, f9, rfl, h1, h2, h3, h4⟩
  · exact m_X2_put_E l g me e9 t9 rows mc [] rfl hlen sz a c t f hf b d u f2 hf2 hnq hnx hny
  · exact m_X2_put_F l g me e9 t9 rows mc ea cap xs.length f9 xs rfl h1 h2 h3 h4 hlen sz a c t f hf b d u f2 hf2 hnq hnx hny
