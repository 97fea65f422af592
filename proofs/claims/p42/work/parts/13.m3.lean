
theorem lk_X9_15 : GoodIn WSL (va_wsS RX9 15 yX7_kindIn (ws_ yX7_kindIn cX7_kindIn 1 (some .int))) := gd_app (List.forall_mem_cons.mpr ⟨wd_8_7, List.forall_mem_cons.mpr ⟨wd_8_8, List.forall_mem_cons.mpr ⟨wd_8_9, fun _ h => nomatch h⟩⟩⟩) (gd_ wd_8_10)
theorem lk_X9_21 : GoodIn WSL (wsV RX9 21 RX9 yX9_ofKind (ws_ yX9_ofKind cX9_ofKind 2 (some .int))) := gd_app (List.forall_mem_cons.mpr ⟨wd_8_11, List.forall_mem_cons.mpr ⟨wd_8_12, List.forall_mem_cons.mpr ⟨wd_8_13, List.forall_mem_cons.mpr ⟨wd_3_13, fun _ h => nomatch h⟩⟩⟩⟩) (gd_ wd_8_14)
theorem cwV_X9_ofKind : yX9_ofKind.cls = RX9 ∧ yX9_ofKind.cls ≠ "java/lang/invoke/MethodHandle" ∧ yX9_ofKind.cls ≠ "java/lang/invoke/VarHandle" ∧ (parseMethodDescriptor yX9_ofKind.desc).map (fun d => d.parameters.length) = some 1 := by decide +kernel
theorem lk_X9_24 : GoodIn WSL (wsV RX9 24 RX6 yX6_size (ws_ yX6_size cX6_size 1 (some .int))) := gd_app (List.forall_mem_cons.mpr ⟨wd_8_2, List.forall_mem_cons.mpr ⟨wd_8_3, List.forall_mem_cons.mpr ⟨wd_8_4, List.forall_mem_cons.mpr ⟨wd_1_13, fun _ h => nomatch h⟩⟩⟩⟩) (gd_ wd_8_5)
theorem lk_X9_30 : GoodIn WSL (wsV RX9 30 RX6 yX6_at (ws_ yX6_at cX6_at 2 (some .int))) := gd_app (List.forall_mem_cons.mpr ⟨wd_8_6, List.forall_mem_cons.mpr ⟨wd_7_7, List.forall_mem_cons.mpr ⟨wd_7_8, List.forall_mem_cons.mpr ⟨wd_1_13, fun _ h => nomatch h⟩⟩⟩⟩) (gd_ wd_7_9)
theorem lk_X9_34 : GoodIn WSL (va_wsS RX9 34 yX7_stemIn (ws_ yX7_stemIn cX7_stemIn 1 (some .int))) := gd_app (List.forall_mem_cons.mpr ⟨wd_23_2, List.forall_mem_cons.mpr ⟨wd_23_3, List.forall_mem_cons.mpr ⟨wd_8_9, fun _ h => nomatch h⟩⟩⟩) (gd_ wd_23_4)
theorem cwS_X7_stemIn : yX7_stemIn.cls ≠ "java/lang/invoke/MethodHandle" ∧ yX7_stemIn.cls ≠ "java/lang/invoke/VarHandle" ∧ (parseMethodDescriptor yX7_stemIn.desc).map (fun d => d.parameters.length) = some 1 := by decide +kernel
theorem lk_X5_22 : GoodIn WSL (va_wsS RX5 22 yX7_codeOf (ws_ yX7_codeOf cX7_codeOf 2 (some .int))) := gd_app (List.forall_mem_cons.mpr ⟨wd_20_19, List.forall_mem_cons.mpr ⟨wd_9_20, List.forall_mem_cons.mpr ⟨wd_8_9, fun _ h => nomatch h⟩⟩⟩) (gd_ wd_9_21)
theorem cwS_X7_codeOf : yX7_codeOf.cls ≠ "java/lang/invoke/MethodHandle" ∧ yX7_codeOf.cls ≠ "java/lang/invoke/VarHandle" ∧ (parseMethodDescriptor yX7_codeOf.desc).map (fun d => d.parameters.length) = some 2 := by decide +kernel
theorem lk_X5_28 : GoodIn WSL (wsV RX5 28 RX6 yX6_has (ws_ yX6_has cX6_has 3 (some .boolean))) := gd_app (List.forall_mem_cons.mpr ⟨wd_20_20, List.forall_mem_cons.mpr ⟨wd_20_21, List.forall_mem_cons.mpr ⟨wd_20_22, List.forall_mem_cons.mpr ⟨wd_1_13, fun _ h => nomatch h⟩⟩⟩⟩) (gd_ wd_20_23)
theorem cwV_X6_has : yX6_has.cls = RX6 ∧ yX6_has.cls ≠ "java/lang/invoke/MethodHandle" ∧ yX6_has.cls ≠ "java/lang/invoke/VarHandle" ∧ (parseMethodDescriptor yX6_has.desc).map (fun d => d.parameters.length) = some 1 := by decide +kernel
set_option maxHeartbeats 4000000 in
set_option maxRecDepth 100000 in
theorem m_X9_init (l : Launch) (g : GT) (a sz : Nat) : Met l yX9_init (ws_ yX9_init cX9_init 1 none) (rmm 0 1 4) (jPc g [.ref a] (fun H => H.size = sz ∧ PP g [ob a 8 [.null]] H ∧ va_D (fun q => gb g ≤ q) [ob a 8 [.null]])) (jQv (fun H1 => ∃ c : Nat, PP g [ob a 8 [.ref c], aI g c 4 w0] H1 ∧ va_D (va_A [ob a 8 [.null]] sz) [ob a 8 [.ref c], aI g c 4 w0]) (va_A [ob a 8 [.null]] sz)) 1 4 (va_A [ob a 8 [.null]] sz) := by
  refine jb_M (by decide) (Nat.le_of_ble_eq_true rfl) ?_
  intro p e s m below meth cq hx hb hr hml hown htl hlk hnm hKK hpre ls hl
  have hown : s.vm.findClass RX9 = some m.cls := hown
  have hl : lv_has ls 1 [(0, .ref a)] := hl
  obtain ⟨hsz, hP, hD0⟩ := hpre
  subst hsz
  have hD : va_D (va_A [ob a 8 [.null]] s.heap.size) [ob a 8 [.null]] := hD0.self
  have hAb : ∀ q, (va_A [ob a 8 [.null]] s.heap.size) q → gb g ≤ q := fun q h => h.elim (fun ⟨k, e, h⟩ => hD0.2 k _ h) (fun h => Nat.le_trans hKK.2.1 h)
  generalize hAe : va_A [ob a 8 [.null]] s.heap.size = A at *
  have hA : ∀ q, s.heap.size ≤ q → A q := fun q h => by rw [← hAe]; exact Or.inr h
  have hS : va_S A s.heap s.heap [] := va_S.rf
  suffices K : ∀ (H : Heap) (locs : List Loc), PP g [ob a 8 [.null]] H → va_D A [ob a 8 [.null]] → va_S A s.heap H locs → ∀ ls : Array Slot, lv_has ls 1 [(0, .ref a)] → W p l e (rmm 0 1 4) s m ([.ref a] : List Value).toArray below meth cq H locs 0 0 (MQ below (jQv (fun H1 => ∃ c : Nat, PP g [ob a 8 [.ref c], aI g c 4 w0] H1 ∧ va_D (A) [ob a 8 [.ref c], aI g c 4 w0]) A) ([.ref a] : List Value).toArray s 1 4 A) (F0 m 0 ls []) from K _ _ hP hD hS _ hl
  clear hl; intro H locs hP hD hS ls hl
  refine lv_aload_n hx hb dX9_init_0 rfl (lv_at hl 0 rfl) ?_
  refine W.objInit hx hb hown (htl _ wd_3_20) (htl _ wd_1_9) (htl _ wd_1_10) rfl (by rw [hml]; exact hl.1) rfl dX9_init_1 (Nat.le_of_ble_eq_true rfl) (Nat.le_of_ble_eq_true rfl) ?_
  refine W.eq (g2 := F0 m 4 ls []) rfl ?_
  refine lv_aload_n hx hb dX9_init_4 rfl (lv_at hl 0 rfl) ?_
  refine jr_iconst hx hb dX9_init_5 ?_
  refine va_newaK (atype := .int) hx hb (htl _ wd_1_4) (g := F0 m 6 ls [vi 4, .ref a]) rfl dX9_init_6 rfl (N := 4) (by decide) (by decide) (by decide) (Nat.le_of_ble_eq_true rfl) (Nat.le_of_ble_eq_true rfl) rfl (fun H1 cA e1 z1 o1 hAr hNm => ?_)
  obtain rfl : cA = gI g := Option.some.inj (hNm.symm.trans (hKK.k.2 0 _ rfl).2)
  obtain ⟨q6, hq6⟩ : ∃ q, q = H.size := ⟨_, rfl⟩
  rw [← hq6] at e1 ⊢
  obtain ⟨hP, hD, hS⟩ : PP g [ob a 8 [.null], aI g q6 4 (fun _ => 0)] H1 ∧ va_D A [ob a 8 [.null], aI g q6 4 (fun _ => 0)] ∧ va_S A s.heap H1 locs := jnew hP hD hS hA hq6 (by exact e1) z1 o1
  clear e1 z1 o1; generalize H1 = H at hP hD hS ⊢
  have hP : PP g [ob a 8 [.null], aI g q6 4 (fun _ => 0)] H := hP
  refine W.widen (k := 1) (n := 4) (by omega) (by omega) ?_
  refine W.eq (g2 := F0 m 8 ls [.ref q6, .ref a]) rfl ?_
  refine lv_dup hx hb dX9_init_8 rfl ?_
  refine jr_iconst hx hb dX9_init_9 ?_
  refine jr_iconst hx hb dX9_init_10 ?_
  refine jr_iast hx hb hKK.k hP hD hS 1 rfl 0 rfl (by omega) (by omega) dX9_init_11 (fun H locs hP hD hS => ?_)
  have hP : PP g [ob a 8 [.null], aI g q6 4 (ju (fun _ => 0) 0 4)] H := hP
  have hD : va_D A [ob a 8 [.null], aI g q6 4 (ju (fun _ => 0) 0 4)] := hD
  refine lv_dup hx hb dX9_init_12 rfl ?_
  refine jr_iconst hx hb dX9_init_13 ?_
  refine jr_iconst hx hb dX9_init_14 ?_
  refine jr_iast hx hb hKK.k hP hD hS 1 rfl 1 rfl (by omega) (by omega) dX9_init_15 (fun H locs hP hD hS => ?_)
  have hP : PP g [ob a 8 [.null], aI g q6 4 (ju (ju (fun _ => 0) 0 4) 1 2)] H := hP
  have hD : va_D A [ob a 8 [.null], aI g q6 4 (ju (ju (fun _ => 0) 0 4) 1 2)] := hD
  refine lv_dup hx hb dX9_init_16 rfl ?_
  refine jr_iconst hx hb dX9_init_17 ?_
  refine jr_iconst hx hb dX9_init_18 ?_
  refine jr_iast hx hb hKK.k hP hD hS 1 rfl 2 rfl (by omega) (by omega) dX9_init_19 (fun H locs hP hD hS => ?_)
  have hP : PP g [ob a 8 [.null], aI g q6 4 (ju (ju (ju (fun _ => 0) 0 4) 1 2) 2 1)] H := hP
  have hD : va_D A [ob a 8 [.null], aI g q6 4 (ju (ju (ju (fun _ => 0) 0 4) 1 2) 2 1)] := hD
  refine lv_dup hx hb dX9_init_20 rfl ?_
  refine jr_iconst hx hb dX9_init_21 ?_
  refine jr_iconst hx hb dX9_init_22 ?_
  refine jr_iast hx hb hKK.k hP hD hS 1 rfl 3 rfl (by omega) (by omega) dX9_init_23 (fun H locs hP hD hS => ?_)
  have hP : PP g [ob a 8 [.null], aI g q6 4 (ju (ju (ju (ju (fun _ => 0) 0 4) 1 2) 2 1) 3 1)] H := hP
  have hD : va_D A [ob a 8 [.null], aI g q6 4 (ju (ju (ju (ju (fun _ => 0) 0 4) 1 2) 2 1) 3 1)] := hD
  refine va_putF (D := gD g) (ci := 8) (v := .ref q6) (ty := .array .int) (C := RX9) (T := TX9) (N := 1) hx hb htl ck_X9 tyX9 tyX9_ok nmX9 hown hKK.k hP hD hS 0 rfl rfl 0 (by decide) (htl _ wd_3_21) (fun _ h9 => h9) rfl hnm rfl (by decide +kernel) rfl rfl (Nat.le_of_ble_eq_true rfl) dX9_init_24 (fun H locs hP hD hS => ?_)
  have hP : PP g [ob a 8 [.ref q6], aI g q6 4 (ju (ju (ju (ju (fun _ => 0) 0 4) 1 2) 2 1) 3 1)] H := hP
  have hD : va_D A [ob a 8 [.ref q6], aI g q6 4 (ju (ju (ju (ju (fun _ => 0) 0 4) 1 2) 2 1) 3 1)] := hD
  exact je_Qv hx hb hr hlk hS (⟨q6, hP, hD⟩) dX9_init_27
set_option maxHeartbeats 4000000 in
set_option maxRecDepth 100000 in
theorem m_X9_ofKind (l : Launch) (g : GT) (a c : Nat) (w : Nat → Int) (k : Int) (hk : jR k) : Met l yX9_ofKind (ws_ yX9_ofKind cX9_ofKind 2 (some .int)) (rmm 0 0 0) (jPc g [.ref a, vi k] (fun H => PP g [ob a 8 [.ref c], aI g c 4 w] H)) (jSi (fun z => z = wk w k)) 0 0 jN := by
  refine jb_M (by decide) (Nat.le_of_ble_eq_true rfl) ?_
  intro p e s m below meth cq hx hb hr hml hown htl hlk hnm hKK hpre ls hl
  have hown : s.vm.findClass RX9 = some m.cls := hown
  have hl : lv_has ls 2 [(0, .ref a), (1, vi k)] := hl
  have hP : PP g [ob a 8 [.ref c], aI g c 4 w] s.heap := hpre
  refine lv_iload_n hx hb dX9_ofKind_0 rfl (lv_at hl 1 rfl) ?_
  refine jr_iflt (tgt := 22) hx hb dX9_ofKind_1 (by decide) ⟨by omega, by omega⟩ (fun c1 => ?_) (fun c1 => ?_)
  · refine jr_iconst hx hb dX9_ofKind_22 ?_
    exact je_Si hx hb hr hlk rfl (by unfold wk; first | rw [if_pos ⟨by omega, by omega⟩] | rw [if_neg (by omega)]) dX9_ofKind_23
  · refine lv_iload_n hx hb dX9_ofKind_4 rfl (lv_at hl 1 rfl) ?_
    refine lv_aload_n hx hb dX9_ofKind_5 rfl (lv_at hl 0 rfl) ?_
    refine va_get (D := gD g) (ci := 8) (v := .ref c) (C := RX9) (T := TX9) (N := 1) hx hb htl ck_X9 hown hKK.k hP 0 rfl rfl 0 (by decide) (htl _ wd_3_21) (fun _ h9 => h9) rfl dX9_ofKind_6 ?_
    refine va_alen (v := jI (4 : Nat)) hx hb hKK.k hP 1 0 rfl rfl (jI_nI _) dX9_ofKind_9 ?_
    refine jr_ge (tgt := 22) hx hb dX9_ofKind_10 (by decide) ⟨by omega, by omega⟩ ⟨by omega, by omega⟩ (fun c10 => ?_) (fun c10 => ?_)
    · refine jr_iconst hx hb dX9_ofKind_22 ?_
      exact je_Si hx hb hr hlk rfl (by unfold wk; first | rw [if_pos ⟨by omega, by omega⟩] | rw [if_neg (by omega)]) dX9_ofKind_23
    · refine lv_aload_n hx hb dX9_ofKind_13 rfl (lv_at hl 0 rfl) ?_
      refine va_get (D := gD g) (ci := 8) (v := .ref c) (C := RX9) (T := TX9) (N := 1) hx hb htl ck_X9 hown hKK.k hP 0 rfl rfl 0 (by decide) (htl _ wd_3_21) (fun _ h9 => h9) rfl dX9_ofKind_14 ?_
      refine lv_iload_n hx hb dX9_ofKind_17 rfl (lv_at hl 1 rfl) ?_
      refine jr_iald hx hb hKK.k hP 1 rfl k.toNat (by omega) (by omega) (by omega) dX9_ofKind_18 ?_
      refine lv_goto (tgt := 23) hx hb dX9_ofKind_19 (by decide) ?_
      exact je_Si hx hb hr hlk rfl (by unfold wk; first | rw [if_pos ⟨by omega, by omega⟩] | rw [if_neg (by omega)]) dX9_ofKind_23
set_option maxHeartbeats 4000000 in
set_option maxRecDepth 100000 in
theorem m_X9_ofToken (l : Launch) (g : GT) (a c : Nat) (w : Nat → Int) (x : Int) (hx0 : jR x) : Met l yX9_ofToken (ws_ yX9_ofToken cX9_ofToken 2 (some .int)) (rmm 1 0 0) (jPc g [.ref a, vi x] (fun H => PP g [ob a 8 [.ref c], aI g c 4 w] H)) (jSi (fun z => z = wk w (kd x))) 0 0 jN := by
  refine jb_M (by decide) (Nat.le_of_ble_eq_true rfl) ?_
  intro p e s m below meth cq hx hb hr hml hown htl hlk hnm hKK hpre ls hl
  have hown : s.vm.findClass RX9 = some m.cls := hown
  have hl : lv_has ls 2 [(0, .ref a), (1, vi x)] := hl
  have hP : PP g [ob a 8 [.ref c], aI g c 4 w] s.heap := hpre
  refine lv_aload_n hx hb dX9_ofToken_0 rfl (lv_at hl 0 rfl) ?_
  refine lv_iload_n hx hb dX9_ofToken_1 rfl (lv_at hl 1 rfl) ?_
  refine jk_Si (va_runS (As := [vi x]) (rest := [.ref a]) ⟨hx, hb, hml, hown, htl⟩ (m_X7_kindIn l g x hx0) (va_cwS 1 htl lk_X9_15 rfl rfl rfl cwS_X7_kindIn ⟨Nat.le_of_ble_eq_true rfl, Nat.le_of_ble_eq_true rfl⟩) (jp_S hKK (va_S.rf (A := jN)) jNb trivial) rfl rfl hl.1 rfl (lv_room (Nat.le_of_ble_eq_true rfl)) dX9_ofToken_2 ⟨Nat.le_of_ble_eq_true rfl, Nat.le_of_ble_eq_true rfl⟩) (fun z2 hz2 => ?_)
  subst hz2
  refine jk_Si (va_runV (As := [vi (kd x)]) (rest := []) ⟨hx, hb, hml, hown, htl⟩ (m_X9_ofKind l g a c w (kd x) (kd_R hx0)) (cwV 1 htl lk_X9_21 rfl rfl rfl cwV_X9_ofKind ⟨Nat.le_of_ble_eq_true rfl, Nat.le_of_ble_eq_true rfl⟩) (jp_V hKK (va_S.rf (A := jN)) jNb (va_recv hKK.k hP (ci := 8) (q0 := 0) rfl rfl) hP) rfl rfl hl.1 rfl (lv_room (Nat.le_of_ble_eq_true rfl)) dX9_ofToken_5 ⟨Nat.le_of_ble_eq_true rfl, Nat.le_of_ble_eq_true rfl⟩) (fun z5 hz5 => ?_)
  subst hz5
  exact je_Si hx hb hr hlk rfl (rfl) dX9_ofToken_8
set_option maxHeartbeats 4000000 in
set_option maxRecDepth 100000 in
theorem m_X9_ofText (l : Launch) (g : GT) (a c : Nat) (w : Nat → Int) (hw : WB w) (b d : Nat) (t : List Int) (f : Nat → Int) (hf : TT t f) : Met l yX9_ofText (ws_ yX9_ofText cX9_ofText 4 (some .int)) (rmm 2 0 0) (jPc g [.ref a, .ref b] (fun H => PP g [ob a 8 [.ref c], aI g c 4 w] H ∧ PP g [ob b 6 [.ref d, vi (t.length : Int)], aI g d 60 f] H)) (jSi (fun z => z = wtA w t 0)) 0 0 jN := by
  refine jb_M (by decide) (Nat.le_of_ble_eq_true rfl) ?_
  intro p e s m below meth cq hx hb hr hml hown htl hlk hnm hKK hpre ls hl
  have hown : s.vm.findClass RX9 = some m.cls := hown
  have hl : lv_has ls 4 [(0, .ref a), (1, .ref b)] := hl
  obtain ⟨hP, hP2⟩ := hpre
  have hL := hf.len
  refine jr_iconst hx hb dX9_ofText_0 ?_
  refine lv_istore_n (lv' := [(2, vi 0), (0, .ref a), (1, .ref b)]) hx hb dX9_ofText_1 rfl hl (by decide) rfl (fun ls hl => ?_)
  refine jr_iconst hx hb dX9_ofText_2 ?_
  refine lv_istore_n (lv' := [(3, vi 0), (2, vi 0), (0, .ref a), (1, .ref b)]) hx hb dX9_ofText_3 rfl hl (by decide) rfl (fun ls hl => ?_)
  have lp4 : ∀ (N : Nat) (i : Nat) (n : Int), (i ≤ t.length) → (wtA w (t.drop i) n = wtA w t 0) → t.length - i < N → ∀ ls : Array Slot, lv_has ls 4 [(3, vi (i : Int)), (2, vi n), (0, .ref a), (1, .ref b)] → W p l e (rmm 2 0 0) s m ([.ref a, .ref b] : List Value).toArray below meth cq s.heap [] 0 0 (MQ below (jSi (fun z => z = wtA w t 0)) ([.ref a, .ref b] : List Value).toArray s 0 0 jN) (F0 m 4 ls []) := by
    intro N
    induction N with
    | zero => intro i n hi hF hM; exact absurd hM (Nat.not_lt_zero _)
    | succ N ih4 =>
      intro i n hi hF hM ls hl
      refine lv_iload_n hx hb dX9_ofText_4 rfl (lv_at hl 0 rfl) ?_
      refine lv_aload_n hx hb dX9_ofText_5 rfl (lv_at hl 3 rfl) ?_
      refine jk_Si (va_runV (As := []) (rest := [vi (i : Int)]) ⟨hx, hb, hml, hown, htl⟩ (m_X6_size l g b d t f hf  ) (cwV 0 htl lk_X9_24 rfl rfl rfl cwV_X6_size ⟨Nat.le_of_ble_eq_true rfl, Nat.le_of_ble_eq_true rfl⟩) (jp_V hKK (va_S.rf (A := jN)) jNb (va_recv hKK.k hP2 (ci := 6) (q0 := 0) rfl rfl) hP2) rfl rfl hl.1 rfl (lv_room (Nat.le_of_ble_eq_true rfl)) dX9_ofText_6 ⟨Nat.le_of_ble_eq_true rfl, Nat.le_of_ble_eq_true rfl⟩) (fun z6 hz6 => ?_)
      subst hz6
      refine jr_ge (tgt := 33) hx hb dX9_ofText_9 (by decide) ⟨by omega, by omega⟩ ⟨by omega, by omega⟩ (fun c9 => ?_) (fun c9 => ?_)
      · refine lv_iload_n hx hb dX9_ofText_33 rfl (lv_at hl 1 rfl) ?_
        exact je_Si hx hb hr hlk rfl (by rw [← hF, dr_e (by omega)]; rfl) dX9_ofText_34
      · refine lv_iload_n hx hb dX9_ofText_12 rfl (lv_at hl 1 rfl) ?_
        refine lv_aload_n hx hb dX9_ofText_13 rfl (lv_at hl 2 rfl) ?_
        refine lv_aload_n hx hb dX9_ofText_14 rfl (lv_at hl 3 rfl) ?_
        refine lv_iload_n hx hb dX9_ofText_15 rfl (lv_at hl 0 rfl) ?_
        refine jk_Si (va_runV (As := [vi (i : Int)]) (rest := [.ref a, vi n]) ⟨hx, hb, hml, hown, htl⟩ (m_X6_at l g b d t f hf (i : Int) ⟨by omega, by omega⟩) (cwV 1 htl lk_X9_30 rfl rfl rfl cwV_X6_at ⟨Nat.le_of_ble_eq_true rfl, Nat.le_of_ble_eq_true rfl⟩) (jp_V hKK (va_S.rf (A := jN)) jNb (va_recv hKK.k hP2 (ci := 6) (q0 := 0) rfl rfl) hP2) rfl rfl hl.1 rfl (lv_room (Nat.le_of_ble_eq_true rfl)) dX9_ofText_16 ⟨Nat.le_of_ble_eq_true rfl, Nat.le_of_ble_eq_true rfl⟩) (fun z16 hz16 => ?_)
        subst hz16
        have ta := TT.tAt_b hf (i : Int)
        have e16 := tAt_in (t := t) (j := i) (by omega)
        rw [e16] at ta ⊢
        refine jk_Si (va_runS (As := [vi (t.getD i 0)]) (rest := [.ref a, vi n]) ⟨hx, hb, hml, hown, htl⟩ (m_X7_kindIn l g (t.getD i 0) ⟨by omega, by omega⟩) (va_cwS 1 htl lk_X9_15 rfl rfl rfl cwS_X7_kindIn ⟨Nat.le_of_ble_eq_true rfl, Nat.le_of_ble_eq_true rfl⟩) (jp_S hKK (va_S.rf (A := jN)) jNb trivial) rfl rfl hl.1 rfl (lv_room (Nat.le_of_ble_eq_true rfl)) dX9_ofText_19 ⟨Nat.le_of_ble_eq_true rfl, Nat.le_of_ble_eq_true rfl⟩) (fun z19 hz19 => ?_)
        subst hz19
        have tk := kd_b (c := t.getD i 0) ⟨by omega, by omega⟩
        refine jk_Si (va_runV (As := [vi (kd (t.getD i 0))]) (rest := [vi n]) ⟨hx, hb, hml, hown, htl⟩ (m_X9_ofKind l g a c w (kd (t.getD i 0)) ⟨by omega, by omega⟩) (cwV 1 htl lk_X9_21 rfl rfl rfl cwV_X9_ofKind ⟨Nat.le_of_ble_eq_true rfl, Nat.le_of_ble_eq_true rfl⟩) (jp_V hKK (va_S.rf (A := jN)) jNb (va_recv hKK.k hP (ci := 8) (q0 := 0) rfl rfl) hP) rfl rfl hl.1 rfl (lv_room (Nat.le_of_ble_eq_true rfl)) dX9_ofText_22 ⟨Nat.le_of_ble_eq_true rfl, Nat.le_of_ble_eq_true rfl⟩) (fun z22 hz22 => ?_)
        subst hz22
        have tw := wk_b hw (kd (t.getD i 0))
        refine jr_iadd hx hb dX9_ofText_25 ?_
        refine lv_istore_n (lv' := [(2, vi (n + (wk w (kd (t.getD i 0))))), (3, vi (i : Int)), (0, .ref a), (1, .ref b)]) hx hb dX9_ofText_26 rfl hl (by decide) rfl (fun ls hl => ?_)
        refine jr_iinc (lv' := [(3, vi ((i : Int) + 1)), (2, vi (n + (wk w (kd (t.getD i 0))))), (0, .ref a), (1, .ref b)]) hx hb dX9_ofText_27 hl (k := 1) rfl rfl (by decide) rfl (fun ls hl => ?_)
        refine lv_goto (tgt := 4) hx hb dX9_ofText_30 (by decide) ?_
        exact ih4 (i + 1) _ (by omega) (by rw [← hF, dr_c (i := i) (by omega), wtA]) (by omega) ls (lv_sub hl [0, 1, 2, 3] rfl)
  exact lp4 _ 0 0 (Nat.zero_le _) (rfl) (Nat.lt_succ_self _) ls (lv_sub hl [0, 1, 2, 3] rfl)
set_option maxHeartbeats 4000000 in
set_option maxRecDepth 100000 in
theorem m_X9_ofReplacing (l : Launch) (g : GT) (a c : Nat) (w : Nat → Int) (hw : WB w) (x y : Int) (hx0 : jR x) (hy0 : jR y) : Met l yX9_ofReplacing (ws_ yX9_ofReplacing cX9_ofReplacing 6 (some .int)) (rmm 1 0 0) (jPc g [.ref a, vi x, vi y] (fun H => PP g [ob a 8 [.ref c], aI g c 4 w] H)) (jSi (fun z => z = rp w x y)) 0 0 jN := by
  refine jb_M (by decide) (Nat.le_of_ble_eq_true rfl) ?_
  intro p e s m below meth cq hx hb hr hml hown htl hlk hnm hKK hpre ls hl
  have hown : s.vm.findClass RX9 = some m.cls := hown
  have hl : lv_has ls 6 [(0, .ref a), (1, vi x), (2, vi y)] := hl
  have hP : PP g [ob a 8 [.ref c], aI g c 4 w] s.heap := hpre
  have hkx := kd_R hx0
  have hky := kd_R hy0
  have hsx : jR (sm x) := by unfold sm; split <;> omega
  have hsy : jR (sm y) := by unfold sm; split <;> omega
  refine lv_iload_n hx hb dX9_ofReplacing_0 rfl (lv_at hl 1 rfl) ?_
  refine lv_iload_n hx hb dX9_ofReplacing_1 rfl (lv_at hl 2 rfl) ?_
  refine jr_ne (tgt := 7) hx hb dX9_ofReplacing_2 (by decide) ⟨by omega, by omega⟩ ⟨by omega, by omega⟩ (fun c2 => ?_) (fun c2 => ?_)
  · refine lv_iload_n hx hb dX9_ofReplacing_7 rfl (lv_at hl 1 rfl) ?_
    refine jk_Si (va_runS (As := [vi x]) (rest := []) ⟨hx, hb, hml, hown, htl⟩ (m_X7_kindIn l g x ⟨by omega, by omega⟩) (va_cwS 1 htl lk_X9_15 rfl rfl rfl cwS_X7_kindIn ⟨Nat.le_of_ble_eq_true rfl, Nat.le_of_ble_eq_true rfl⟩) (jp_S hKK (va_S.rf (A := jN)) jNb trivial) rfl rfl hl.1 rfl (lv_room (Nat.le_of_ble_eq_true rfl)) dX9_ofReplacing_8 ⟨Nat.le_of_ble_eq_true rfl, Nat.le_of_ble_eq_true rfl⟩) (fun z8 hz8 => ?_)
    subst hz8
    refine lv_istore_n (lv' := [(3, vi (kd x)), (0, .ref a), (1, vi x), (2, vi y)]) hx hb dX9_ofReplacing_11 rfl hl (by decide) rfl (fun ls hl => ?_)
    refine lv_iload_n hx hb dX9_ofReplacing_12 rfl (lv_at hl 0 rfl) ?_
    refine lv_iload_n hx hb dX9_ofReplacing_13 rfl (lv_at hl 3 rfl) ?_
    refine jk_Si (va_runS (As := [vi y]) (rest := [vi (kd x)]) ⟨hx, hb, hml, hown, htl⟩ (m_X7_kindIn l g y ⟨by omega, by omega⟩) (va_cwS 1 htl lk_X9_15 rfl rfl rfl cwS_X7_kindIn ⟨Nat.le_of_ble_eq_true rfl, Nat.le_of_ble_eq_true rfl⟩) (jp_S hKK (va_S.rf (A := jN)) jNb trivial) rfl rfl hl.1 rfl (lv_room (Nat.le_of_ble_eq_true rfl)) dX9_ofReplacing_14 ⟨Nat.le_of_ble_eq_true rfl, Nat.le_of_ble_eq_true rfl⟩) (fun z14 hz14 => ?_)
    subst hz14
    refine jr_eq (tgt := 23) hx hb dX9_ofReplacing_17 (by decide) ⟨by omega, by omega⟩ ⟨by omega, by omega⟩ (fun c17 => ?_) (fun c17 => ?_)
    · refine lv_aload_n hx hb dX9_ofReplacing_23 rfl (lv_at hl 1 rfl) ?_
      refine lv_iload_n hx hb dX9_ofReplacing_24 rfl (lv_at hl 0 rfl) ?_
      refine jk_Si (va_runV (As := [vi (kd x)]) (rest := []) ⟨hx, hb, hml, hown, htl⟩ (m_X9_ofKind l g a c w (kd x) ⟨by omega, by omega⟩) (cwV 1 htl lk_X9_21 rfl rfl rfl cwV_X9_ofKind ⟨Nat.le_of_ble_eq_true rfl, Nat.le_of_ble_eq_true rfl⟩) (jp_V hKK (va_S.rf (A := jN)) jNb (va_recv hKK.k hP (ci := 8) (q0 := 0) rfl rfl) hP) rfl rfl hl.1 rfl (lv_room (Nat.le_of_ble_eq_true rfl)) dX9_ofReplacing_25 ⟨Nat.le_of_ble_eq_true rfl, Nat.le_of_ble_eq_true rfl⟩) (fun z25 hz25 => ?_)
      subst hz25
      have tw := wk_b hw (kd x)
      refine lv_istore (lv' := [(4, vi (wk w (kd x))), (3, vi (kd x)), (0, .ref a), (1, vi x), (2, vi y)]) hx hb dX9_ofReplacing_28 hl (by decide) rfl (fun ls hl => ?_)
      refine lv_iload_n hx hb dX9_ofReplacing_30 rfl (lv_at hl 1 rfl) ?_
      refine jr_iconst hx hb dX9_ofReplacing_31 ?_
      refine jr_eq (tgt := 50) hx hb dX9_ofReplacing_32 (by decide) ⟨by omega, by omega⟩ ⟨by omega, by omega⟩ (fun c32 => ?_) (fun c32 => ?_)
      · refine jr_iconst hx hb dX9_ofReplacing_50 ?_
        refine lv_goto (tgt := 55) hx hb dX9_ofReplacing_51 (by decide) ?_
        refine lv_istore (lv' := [(5, vi 1), (4, vi (wk w (kd x))), (3, vi (kd x)), (0, .ref a), (1, vi x), (2, vi y)]) hx hb dX9_ofReplacing_55 hl (by decide) rfl (fun ls hl => ?_)
        refine lv_iload hx hb dX9_ofReplacing_57 (lv_at hl 0 rfl) ?_
        refine jr_ifeq (tgt := 71) hx hb dX9_ofReplacing_59 (by decide) ⟨by omega, by omega⟩ (fun c59 => absurd c59 (by omega)) (fun c59 => ?_)
        refine lv_iload hx hb dX9_ofReplacing_62 (lv_at hl 1 rfl) ?_
        refine jr_iconst hx hb dX9_ofReplacing_64 ?_
        refine jr_iadd hx hb dX9_ofReplacing_65 ?_
        refine jr_iconst hx hb dX9_ofReplacing_66 ?_
        refine jr_idiv hx hb (by omega) (by omega) (by omega) (by omega) dX9_ofReplacing_67 ?_
        refine lv_goto (tgt := 73) hx hb dX9_ofReplacing_68 (by decide) ?_
        exact je_Si hx hb hr hlk rfl (by unfold rp; (repeat' split) <;> first | rfl | omega) dX9_ofReplacing_73
      · refine lv_iload_n hx hb dX9_ofReplacing_35 rfl (lv_at hl 1 rfl) ?_
        refine jr_ifne (tgt := 54) hx hb dX9_ofReplacing_36 (by decide) ⟨by omega, by omega⟩ (fun c36 => ?_) (fun c36 => ?_)
        · refine jr_iconst hx hb dX9_ofReplacing_54 ?_
          refine lv_istore (lv' := [(5, vi 0), (4, vi (wk w (kd x))), (3, vi (kd x)), (0, .ref a), (1, vi x), (2, vi y)]) hx hb dX9_ofReplacing_55 hl (by decide) rfl (fun ls hl => ?_)
          refine lv_iload hx hb dX9_ofReplacing_57 (lv_at hl 0 rfl) ?_
          refine jr_ifeq (tgt := 71) hx hb dX9_ofReplacing_59 (by decide) ⟨by omega, by omega⟩ (fun c59 => ?_) (fun c59 => absurd c59 (by omega))
          refine lv_iload hx hb dX9_ofReplacing_71 (lv_at hl 1 rfl) ?_
          exact je_Si hx hb hr hlk rfl (by unfold rp; (repeat' split) <;> first | rfl | omega) dX9_ofReplacing_73
        · refine lv_iload_n hx hb dX9_ofReplacing_39 rfl (lv_at hl 3 rfl) ?_
          refine jk_Si (va_runS (As := [vi x]) (rest := []) ⟨hx, hb, hml, hown, htl⟩ (m_X7_stemIn l g x ⟨by omega, by omega⟩) (va_cwS 1 htl lk_X9_34 rfl rfl rfl cwS_X7_stemIn ⟨Nat.le_of_ble_eq_true rfl, Nat.le_of_ble_eq_true rfl⟩) (jp_S hKK (va_S.rf (A := jN)) jNb trivial) rfl rfl hl.1 rfl (lv_room (Nat.le_of_ble_eq_true rfl)) dX9_ofReplacing_40 ⟨Nat.le_of_ble_eq_true rfl, Nat.le_of_ble_eq_true rfl⟩) (fun z40 hz40 => ?_)
          subst hz40
          refine lv_iload_n hx hb dX9_ofReplacing_43 rfl (lv_at hl 4 rfl) ?_
          refine jk_Si (va_runS (As := [vi y]) (rest := [vi (sm x)]) ⟨hx, hb, hml, hown, htl⟩ (m_X7_stemIn l g y ⟨by omega, by omega⟩) (va_cwS 1 htl lk_X9_34 rfl rfl rfl cwS_X7_stemIn ⟨Nat.le_of_ble_eq_true rfl, Nat.le_of_ble_eq_true rfl⟩) (jp_S hKK (va_S.rf (A := jN)) jNb trivial) rfl rfl hl.1 rfl (lv_room (Nat.le_of_ble_eq_true rfl)) dX9_ofReplacing_44 ⟨Nat.le_of_ble_eq_true rfl, Nat.le_of_ble_eq_true rfl⟩) (fun z44 hz44 => ?_)
          subst hz44
          refine jr_ne (tgt := 54) hx hb dX9_ofReplacing_47 (by decide) ⟨by omega, by omega⟩ ⟨by omega, by omega⟩ (fun c47 => ?_) (fun c47 => ?_)
          · refine jr_iconst hx hb dX9_ofReplacing_54 ?_
            refine lv_istore (lv' := [(5, vi 0), (4, vi (wk w (kd x))), (3, vi (kd x)), (0, .ref a), (1, vi x), (2, vi y)]) hx hb dX9_ofReplacing_55 hl (by decide) rfl (fun ls hl => ?_)
            refine lv_iload hx hb dX9_ofReplacing_57 (lv_at hl 0 rfl) ?_
            refine jr_ifeq (tgt := 71) hx hb dX9_ofReplacing_59 (by decide) ⟨by omega, by omega⟩ (fun c59 => ?_) (fun c59 => absurd c59 (by omega))
            refine lv_iload hx hb dX9_ofReplacing_71 (lv_at hl 1 rfl) ?_
            exact je_Si hx hb hr hlk rfl (by unfold rp; (repeat' split) <;> first | rfl | omega) dX9_ofReplacing_73
          · refine jr_iconst hx hb dX9_ofReplacing_50 ?_
            refine lv_goto (tgt := 55) hx hb dX9_ofReplacing_51 (by decide) ?_
            refine lv_istore (lv' := [(5, vi 1), (4, vi (wk w (kd x))), (3, vi (kd x)), (0, .ref a), (1, vi x), (2, vi y)]) hx hb dX9_ofReplacing_55 hl (by decide) rfl (fun ls hl => ?_)
            refine lv_iload hx hb dX9_ofReplacing_57 (lv_at hl 0 rfl) ?_
            refine jr_ifeq (tgt := 71) hx hb dX9_ofReplacing_59 (by decide) ⟨by omega, by omega⟩ (fun c59 => absurd c59 (by omega)) (fun c59 => ?_)
            refine lv_iload hx hb dX9_ofReplacing_62 (lv_at hl 1 rfl) ?_
            refine jr_iconst hx hb dX9_ofReplacing_64 ?_
            refine jr_iadd hx hb dX9_ofReplacing_65 ?_
            refine jr_iconst hx hb dX9_ofReplacing_66 ?_
            refine jr_idiv hx hb (by omega) (by omega) (by omega) (by omega) dX9_ofReplacing_67 ?_
            refine lv_goto (tgt := 73) hx hb dX9_ofReplacing_68 (by decide) ?_
            exact je_Si hx hb hr hlk rfl (by unfold rp; (repeat' split) <;> first | rfl | omega) dX9_ofReplacing_73
    · refine lv_ldc (v := jI 1000000) hx hb hown (htl _ wd_23_1) dX9_ofReplacing_20 ?_
      exact je_Si hx hb hr hlk rfl (by unfold rp; (repeat' split) <;> first | rfl | omega) dX9_ofReplacing_22
  · refine jr_iconst hx hb dX9_ofReplacing_5 ?_
    exact je_Si hx hb hr hlk rfl (by unfold rp; (repeat' split) <;> first | rfl | omega) dX9_ofReplacing_6
set_option maxHeartbeats 4000000 in
set_option maxRecDepth 100000 in
theorem m_X9_change (l : Launch) (g : GT) (a c : Nat) (w : Nat → Int) (k : Nat) (x : Int) (hk : k < 4) : Met l yX9_change (ws_ yX9_change cX9_change 3 none) (rmm 0 0 0) (jPc g [.ref a, vi (k : Int), vi x] (fun H => PP g [ob a 8 [.ref c], aI g c 4 w] H ∧ va_D (fun q => gb g ≤ q) [ob a 8 [.ref c], aI g c 4 w])) (jQv (fun H1 => PP g [ob a 8 [.ref c], aI g c 4 (ju w k x)] H1) (jA [ob a 8 [.ref c], aI g c 4 w])) 0 0 (jA [ob a 8 [.ref c], aI g c 4 w]) := by
  refine jb_M (by decide) (Nat.le_of_ble_eq_true rfl) ?_
  intro p e s m below meth cq hx hb hr hml hown htl hlk hnm hKK hpre ls hl
  have hown : s.vm.findClass RX9 = some m.cls := hown
  have hl : lv_has ls 3 [(0, .ref a), (1, vi (k : Int)), (2, vi x)] := hl
  obtain ⟨hP, hD0⟩ := hpre
  have hD : va_D (jA [ob a 8 [.ref c], aI g c 4 w]) [ob a 8 [.ref c], aI g c 4 w] := hD0.inD
  have hAb : ∀ q, (jA [ob a 8 [.ref c], aI g c 4 w]) q → gb g ≤ q := fun q h => hD0.inA h
  generalize hAe : jA [ob a 8 [.ref c], aI g c 4 w] = A at *
  have hS : va_S A s.heap s.heap [] := va_S.rf
  suffices K : ∀ (H : Heap) (locs : List Loc), PP g [ob a 8 [.ref c], aI g c 4 w] H → va_D A [ob a 8 [.ref c], aI g c 4 w] → va_S A s.heap H locs → ∀ ls : Array Slot, lv_has ls 3 [(0, .ref a), (1, vi (k : Int)), (2, vi x)] → W p l e (rmm 0 0 0) s m ([.ref a, vi (k : Int), vi x] : List Value).toArray below meth cq H locs 0 0 (MQ below (jQv (fun H1 => PP g [ob a 8 [.ref c], aI g c 4 (ju w k x)] H1) A) ([.ref a, vi (k : Int), vi x] : List Value).toArray s 0 0 A) (F0 m 0 ls []) from K _ _ hP hD hS _ hl
  clear hl; intro H locs hP hD hS ls hl
  refine lv_iload_n hx hb dX9_change_0 rfl (lv_at hl 1 rfl) ?_
  refine jr_iflt (tgt := 20) hx hb dX9_change_1 (by decide) ⟨by omega, by omega⟩ (fun c1 => absurd c1 (by omega)) (fun c1 => ?_)
  refine lv_iload_n hx hb dX9_change_4 rfl (lv_at hl 1 rfl) ?_
  refine lv_aload_n hx hb dX9_change_5 rfl (lv_at hl 0 rfl) ?_
  refine va_get (D := gD g) (ci := 8) (v := .ref c) (C := RX9) (T := TX9) (N := 1) hx hb htl ck_X9 hown hKK.k hP 0 rfl rfl 0 (by decide) (htl _ wd_3_21) (fun _ h9 => h9) rfl dX9_change_6 ?_
  refine va_alen (v := jI (4 : Nat)) hx hb hKK.k hP 1 0 rfl rfl (jI_nI _) dX9_change_9 ?_
  refine jr_ge (tgt := 20) hx hb dX9_change_10 (by decide) ⟨by omega, by omega⟩ ⟨by omega, by omega⟩ (fun c10 => absurd c10 (by omega)) (fun c10 => ?_)
  refine lv_aload_n hx hb dX9_change_13 rfl (lv_at hl 0 rfl) ?_
  refine va_get (D := gD g) (ci := 8) (v := .ref c) (C := RX9) (T := TX9) (N := 1) hx hb htl ck_X9 hown hKK.k hP 0 rfl rfl 0 (by decide) (htl _ wd_3_21) (fun _ h9 => h9) rfl dX9_change_14 ?_
  refine lv_iload_n hx hb dX9_change_17 rfl (lv_at hl 1 rfl) ?_
  refine lv_iload_n hx hb dX9_change_18 rfl (lv_at hl 2 rfl) ?_
  refine jr_iast hx hb hKK.k hP hD hS 1 rfl k rfl (by omega) (by omega) dX9_change_19 (fun H locs hP hD hS => ?_)
  have hP : PP g [ob a 8 [.ref c], aI g c 4 (ju w k x)] H := hP
  have hD : va_D A [ob a 8 [.ref c], aI g c 4 (ju w k x)] := hD
  exact je_Qv hx hb hr hlk hS (hP) dX9_change_20
set_option maxHeartbeats 4000000 in
set_option maxRecDepth 100000 in
theorem m_X5_init (l : Launch) (g : GT) (a sz : Nat) : Met l yX5_init (ws_ yX5_init cX5_init 1 none) (rmm 0 2 40) (jPc g [.ref a] (fun H => H.size = sz ∧ PP g [ob a 5 [.null, .null, vi 0]] H ∧ va_D (fun q => gb g ≤ q) [ob a 5 [.null, .null, vi 0]])) (jQv (fun H1 => ∃ b c : Nat, PP g [ob a 5 [.ref b, .ref c, vi 0], aI g b 20 (fun _ => 0), aI g c 20 (fun _ => 0)] H1 ∧ va_D (va_A [ob a 5 [.null, .null, vi 0]] sz) [ob a 5 [.ref b, .ref c, vi 0], aI g b 20 (fun _ => 0), aI g c 20 (fun _ => 0)]) (va_A [ob a 5 [.null, .null, vi 0]] sz)) 2 40 (va_A [ob a 5 [.null, .null, vi 0]] sz) := by
  refine jb_M (by decide) (Nat.le_of_ble_eq_true rfl) ?_
  intro p e s m below meth cq hx hb hr hml hown htl hlk hnm hKK hpre ls hl
  have hown : s.vm.findClass RX5 = some m.cls := hown
  have hl : lv_has ls 1 [(0, .ref a)] := hl
  obtain ⟨hsz, hP, hD0⟩ := hpre
  subst hsz
  have hD : va_D (va_A [ob a 5 [.null, .null, vi 0]] s.heap.size) [ob a 5 [.null, .null, vi 0]] := hD0.self
  have hAb : ∀ q, (va_A [ob a 5 [.null, .null, vi 0]] s.heap.size) q → gb g ≤ q := fun q h => h.elim (fun ⟨k, e, h⟩ => hD0.2 k _ h) (fun h => Nat.le_trans hKK.2.1 h)
  generalize hAe : va_A [ob a 5 [.null, .null, vi 0]] s.heap.size = A at *
  have hA : ∀ q, s.heap.size ≤ q → A q := fun q h => by rw [← hAe]; exact Or.inr h
  have hS : va_S A s.heap s.heap [] := va_S.rf
  suffices K : ∀ (H : Heap) (locs : List Loc), PP g [ob a 5 [.null, .null, vi 0]] H → va_D A [ob a 5 [.null, .null, vi 0]] → va_S A s.heap H locs → ∀ ls : Array Slot, lv_has ls 1 [(0, .ref a)] → W p l e (rmm 0 2 40) s m ([.ref a] : List Value).toArray below meth cq H locs 0 0 (MQ below (jQv (fun H1 => ∃ b c : Nat, PP g [ob a 5 [.ref b, .ref c, vi 0], aI g b 20 (fun _ => 0), aI g c 20 (fun _ => 0)] H1 ∧ va_D (A) [ob a 5 [.ref b, .ref c, vi 0], aI g b 20 (fun _ => 0), aI g c 20 (fun _ => 0)]) A) ([.ref a] : List Value).toArray s 2 40 A) (F0 m 0 ls []) from K _ _ hP hD hS _ hl
  clear hl; intro H locs hP hD hS ls hl
  refine lv_aload_n hx hb dX5_init_0 rfl (lv_at hl 0 rfl) ?_
  refine W.objInit hx hb hown (htl _ wd_4_0) (htl _ wd_1_9) (htl _ wd_1_10) rfl (by rw [hml]; exact hl.1) rfl dX5_init_1 (Nat.le_of_ble_eq_true rfl) (Nat.le_of_ble_eq_true rfl) ?_
  refine W.eq (g2 := F0 m 4 ls []) rfl ?_
  refine lv_aload_n hx hb dX5_init_4 rfl (lv_at hl 0 rfl) ?_
  refine jr_bipush hx hb dX5_init_5 (by decide) ?_
  refine va_newaK (atype := .int) hx hb (htl _ wd_1_4) (g := F0 m 7 ls [vi 20, .ref a]) rfl dX5_init_7 rfl (N := 20) (by decide) (by decide) (by decide) (Nat.le_of_ble_eq_true rfl) (Nat.le_of_ble_eq_true rfl) rfl (fun H1 cA e1 z1 o1 hAr hNm => ?_)
  obtain rfl : cA = gI g := Option.some.inj (hNm.symm.trans (hKK.k.2 0 _ rfl).2)
  obtain ⟨q7, hq7⟩ : ∃ q, q = H.size := ⟨_, rfl⟩
  rw [← hq7] at e1 ⊢
  obtain ⟨hP, hD, hS⟩ : PP g [ob a 5 [.null, .null, vi 0], aI g q7 20 (fun _ => 0)] H1 ∧ va_D A [ob a 5 [.null, .null, vi 0], aI g q7 20 (fun _ => 0)] ∧ va_S A s.heap H1 locs := jnew hP hD hS hA hq7 (by exact e1) z1 o1
  clear e1 z1 o1; generalize H1 = H at hP hD hS ⊢
  have hP : PP g [ob a 5 [.null, .null, vi 0], aI g q7 20 (fun _ => 0)] H := hP
  refine W.widen (k := 1) (n := 20) (by omega) (by omega) ?_
  refine W.eq (g2 := F0 m 9 ls [.ref q7, .ref a]) rfl ?_
  refine va_putF (D := gD g) (ci := 5) (v := .ref q7) (ty := .array .int) (C := RX5) (T := TX5) (N := 3) hx hb htl ck_X5 tyX5 tyX5_ok nmX5 hown hKK.k hP hD hS 0 rfl rfl 0 (by decide) (htl _ wd_4_1) (fun _ h9 => h9) rfl hnm rfl (by decide +kernel) rfl rfl (Nat.le_of_ble_eq_true rfl) dX5_init_9 (fun H locs hP hD hS => ?_)
  have hP : PP g [ob a 5 [.ref q7, .null, vi 0], aI g q7 20 (fun _ => 0)] H := hP
  have hD : va_D A [ob a 5 [.ref q7, .null, vi 0], aI g q7 20 (fun _ => 0)] := hD
  refine lv_aload_n hx hb dX5_init_12 rfl (lv_at hl 0 rfl) ?_
  refine jr_bipush hx hb dX5_init_13 (by decide) ?_
  refine va_newaK (atype := .int) hx hb (htl _ wd_1_4) (g := F0 m 15 ls [vi 20, .ref a]) rfl dX5_init_15 rfl (N := 20) (by decide) (by decide) (by decide) (Nat.le_of_ble_eq_true rfl) (Nat.le_of_ble_eq_true rfl) rfl (fun H1 cA e1 z1 o1 hAr hNm => ?_)
  obtain rfl : cA = gI g := Option.some.inj (hNm.symm.trans (hKK.k.2 0 _ rfl).2)
  obtain ⟨q15, hq15⟩ : ∃ q, q = H.size := ⟨_, rfl⟩
  rw [← hq15] at e1 ⊢
  obtain ⟨hP, hD, hS⟩ : PP g [ob a 5 [.ref q7, .null, vi 0], aI g q7 20 (fun _ => 0), aI g q15 20 (fun _ => 0)] H1 ∧ va_D A [ob a 5 [.ref q7, .null, vi 0], aI g q7 20 (fun _ => 0), aI g q15 20 (fun _ => 0)] ∧ va_S A s.heap H1 locs := jnew hP hD hS hA hq15 (by exact e1) z1 o1
  clear e1 z1 o1; generalize H1 = H at hP hD hS ⊢
  have hP : PP g [ob a 5 [.ref q7, .null, vi 0], aI g q7 20 (fun _ => 0), aI g q15 20 (fun _ => 0)] H := hP
  refine W.widen (k := 2) (n := 40) (by omega) (by omega) ?_
  refine W.eq (g2 := F0 m 17 ls [.ref q15, .ref a]) rfl ?_
  refine va_putF (D := gD g) (ci := 5) (v := .ref q15) (ty := .array .int) (C := RX5) (T := TX5) (N := 3) hx hb htl ck_X5 tyX5 tyX5_ok nmX5 hown hKK.k hP hD hS 0 rfl rfl 1 (by decide) (htl _ wd_4_2) (fun _ h9 => h9) rfl hnm rfl (by decide +kernel) rfl rfl (Nat.le_of_ble_eq_true rfl) dX5_init_17 (fun H locs hP hD hS => ?_)
  have hP : PP g [ob a 5 [.ref q7, .ref q15, vi 0], aI g q7 20 (fun _ => 0), aI g q15 20 (fun _ => 0)] H := hP
  have hD : va_D A [ob a 5 [.ref q7, .ref q15, vi 0], aI g q7 20 (fun _ => 0), aI g q15 20 (fun _ => 0)] := hD
  refine lv_aload_n hx hb dX5_init_20 rfl (lv_at hl 0 rfl) ?_
  refine jr_iconst hx hb dX5_init_21 ?_
  refine va_put (D := gD g) (ci := 5) (v := vi 0) (ty := .int) (C := RX5) (T := TX5) (N := 3) hx hb htl ck_X5 tyX5 tyX5_ok nmX5 hown hKK.k hP hD hS 0 rfl rfl 2 (by decide) (htl _ wd_4_3) (fun _ h9 => h9) rfl (by decide +kernel) rfl rfl (Nat.le_of_ble_eq_true rfl) dX5_init_22 (fun H locs hP hD hS => ?_)
  have hP : PP g [ob a 5 [.ref q7, .ref q15, vi 0], aI g q7 20 (fun _ => 0), aI g q15 20 (fun _ => 0)] H := hP
  have hD : va_D A [ob a 5 [.ref q7, .ref q15, vi 0], aI g q7 20 (fun _ => 0), aI g q15 20 (fun _ => 0)] := hD
  exact je_Qv hx hb hr hlk hS (⟨q7, q15, hP, hD⟩) dX5_init_25
set_option maxHeartbeats 4000000 in
set_option maxRecDepth 100000 in
theorem m_X5_size (l : Launch) (g : GT) (a b c n : Nat) (fs ft : Nat → Int) (ht : TB n fs ft) : Met l yX5_size (ws_ yX5_size cX5_size 1 (some .int)) (rmm 0 0 0) (jPc g [.ref a] (fun H => PP g [ob a 5 [.ref b, .ref c, vi (n : Int)], aI g b 20 fs, aI g c 20 ft] H)) (jSi (fun z => z = (n : Int))) 0 0 jN := by
  refine jb_M (by decide) (Nat.le_of_ble_eq_true rfl) ?_
  intro p e s m below meth cq hx hb hr hml hown htl hlk hnm hKK hpre ls hl
  have hown : s.vm.findClass RX5 = some m.cls := hown
  have hl : lv_has ls 1 [(0, .ref a)] := hl
  have hP : PP g [ob a 5 [.ref b, .ref c, vi (n : Int)], aI g b 20 fs, aI g c 20 ft] s.heap := hpre
  refine lv_aload_n hx hb dX5_size_0 rfl (lv_at hl 0 rfl) ?_
  refine va_get (D := gD g) (ci := 5) (v := vi (n : Int)) (C := RX5) (T := TX5) (N := 3) hx hb htl ck_X5 hown hKK.k hP 0 rfl rfl 2 (by decide) (htl _ wd_4_3) (fun _ h9 => h9) rfl dX5_size_1 ?_
  exact je_Si hx hb hr hlk rfl (rfl) dX5_size_4
set_option maxHeartbeats 4000000 in
set_option maxRecDepth 100000 in
theorem m_X5_has (l : Launch) (g : GT) (a b c n : Nat) (fs ft : Nat → Int) (ht : TB n fs ft) (x y : Int) (hx0 : jR x) (hy0 : jR y) : Met l yX5_has (ws_ yX5_has cX5_has 4 (some .boolean)) (rmm 0 0 0) (jPc g [.ref a, vi x, vi y] (fun H => PP g [ob a 5 [.ref b, .ref c, vi (n : Int)], aI g b 20 fs, aI g c 20 ft] H)) (jSi (fun z => z = i01 (thas fs ft n x y = true))) 0 0 jN := by
  refine jb_M (by decide) (Nat.le_of_ble_eq_true rfl) ?_
  intro p e s m below meth cq hx hb hr hml hown htl hlk hnm hKK hpre ls hl
  have hown : s.vm.findClass RX5 = some m.cls := hown
  have hl : lv_has ls 4 [(0, .ref a), (1, vi x), (2, vi y)] := hl
  have hP : PP g [ob a 5 [.ref b, .ref c, vi (n : Int)], aI g b 20 fs, aI g c 20 ft] s.heap := hpre
  have hn := ht.1
  refine jr_iconst hx hb dX5_has_0 ?_
  refine lv_istore_n (lv' := [(3, vi 0), (0, .ref a), (1, vi x), (2, vi y)]) hx hb dX5_has_1 rfl hl (by decide) rfl (fun ls hl => ?_)
  have lp2 : ∀ (N : Nat) (i : Nat), (i ≤ n) → (∀ j, j < i → ¬ (fs j = x ∧ ft j = y)) → n - i < N → ∀ ls : Array Slot, lv_has ls 4 [(3, vi (i : Int)), (0, .ref a), (1, vi x), (2, vi y)] → W p l e (rmm 0 0 0) s m ([.ref a, vi x, vi y] : List Value).toArray below meth cq s.heap [] 0 0 (MQ below (jSi (fun z => z = i01 (thas fs ft n x y = true))) ([.ref a, vi x, vi y] : List Value).toArray s 0 0 jN) (F0 m 2 ls []) := by
    intro N
    induction N with
    | zero => intro i hi hF hM; exact absurd hM (Nat.not_lt_zero _)
    | succ N ih2 =>
      intro i hi hF hM ls hl
      have hb9 := fun h => ht.2 i h
      refine lv_iload_n hx hb dX5_has_2 rfl (lv_at hl 0 rfl) ?_
      refine lv_aload_n hx hb dX5_has_3 rfl (lv_at hl 1 rfl) ?_
      refine va_get (D := gD g) (ci := 5) (v := vi (n : Int)) (C := RX5) (T := TX5) (N := 3) hx hb htl ck_X5 hown hKK.k hP 0 rfl rfl 2 (by decide) (htl _ wd_4_3) (fun _ h9 => h9) rfl dX5_has_4 ?_
      refine jr_ge (tgt := 38) hx hb dX5_has_7 (by decide) ⟨by omega, by omega⟩ ⟨by omega, by omega⟩ (fun c7 => ?_) (fun c7 => ?_)
      · refine jr_iconst hx hb dX5_has_38 ?_
        exact je_Si hx hb hr hlk (nz_b (by omega)).1 ((if_neg (fun q => by obtain ⟨j, h1, h2⟩ := thas_iff.mp q; exact hF j (by omega) h2)).symm) dX5_has_39
      · have hb8 := hb9 (by omega)
        refine lv_aload_n hx hb dX5_has_10 rfl (lv_at hl 1 rfl) ?_
        refine va_get (D := gD g) (ci := 5) (v := .ref b) (C := RX5) (T := TX5) (N := 3) hx hb htl ck_X5 hown hKK.k hP 0 rfl rfl 0 (by decide) (htl _ wd_4_1) (fun _ h9 => h9) rfl dX5_has_11 ?_
        refine lv_iload_n hx hb dX5_has_14 rfl (lv_at hl 0 rfl) ?_
        refine jr_iald hx hb hKK.k hP 1 rfl i rfl (by omega) (by omega) dX5_has_15 ?_
        refine lv_iload_n hx hb dX5_has_16 rfl (lv_at hl 2 rfl) ?_
        refine jr_ne (tgt := 32) hx hb dX5_has_17 (by decide) ⟨by omega, by omega⟩ ⟨by omega, by omega⟩ (fun c17 => ?_) (fun c17 => ?_)
        · refine jr_iinc (lv' := [(3, vi ((i : Int) + 1)), (0, .ref a), (1, vi x), (2, vi y)]) hx hb dX5_has_32 hl (k := 0) rfl rfl (by decide) rfl (fun ls hl => ?_)
          refine lv_goto (tgt := 2) hx hb dX5_has_35 (by decide) ?_
          exact ih2 (i + 1) (by omega) (fun j hj => by rcases Nat.lt_or_ge j i with q | q; exact hF j q; obtain rfl : j = i := (by omega); exact fun z => by omega) (by omega) ls (lv_sub hl [0, 1, 2, 3] rfl)
        · refine lv_aload_n hx hb dX5_has_20 rfl (lv_at hl 1 rfl) ?_
          refine va_get (D := gD g) (ci := 5) (v := .ref c) (C := RX5) (T := TX5) (N := 3) hx hb htl ck_X5 hown hKK.k hP 0 rfl rfl 1 (by decide) (htl _ wd_4_2) (fun _ h9 => h9) rfl dX5_has_21 ?_
          refine lv_iload_n hx hb dX5_has_24 rfl (lv_at hl 0 rfl) ?_
          refine jr_iald hx hb hKK.k hP 2 rfl i rfl (by omega) (by omega) dX5_has_25 ?_
          refine lv_iload_n hx hb dX5_has_26 rfl (lv_at hl 3 rfl) ?_
          refine jr_ne (tgt := 32) hx hb dX5_has_27 (by decide) ⟨by omega, by omega⟩ ⟨by omega, by omega⟩ (fun c27 => ?_) (fun c27 => ?_)
          · refine jr_iinc (lv' := [(3, vi ((i : Int) + 1)), (0, .ref a), (1, vi x), (2, vi y)]) hx hb dX5_has_32 hl (k := 0) rfl rfl (by decide) rfl (fun ls hl => ?_)
            refine lv_goto (tgt := 2) hx hb dX5_has_35 (by decide) ?_
            exact ih2 (i + 1) (by omega) (fun j hj => by rcases Nat.lt_or_ge j i with q | q; exact hF j q; obtain rfl : j = i := (by omega); exact fun z => by omega) (by omega) ls (lv_sub hl [0, 1, 2, 3] rfl)
          · refine jr_iconst hx hb dX5_has_30 ?_
            exact je_Si hx hb hr hlk (nz_b (by omega)).1 ((if_pos (thas_iff.mpr ⟨i, by omega, c17, c27⟩)).symm) dX5_has_31
  exact lp2 _ 0 (Nat.zero_le _) (fun j hj => absurd hj (Nat.not_lt_zero _)) (Nat.lt_succ_self _) ls (lv_sub hl [0, 1, 2, 3] rfl)
set_option maxHeartbeats 4000000 in
set_option maxRecDepth 100000 in
theorem m_X5_put (l : Launch) (g : GT) (a b c n : Nat) (fs ft : Nat → Int) (ht : TB n fs ft) (x y : Int) (hn20 : n < 20) : Met l yX5_put (ws_ yX5_put cX5_put 3 none) (rmm 0 0 0) (jPc g [.ref a, vi x, vi y] (fun H => PP g [ob a 5 [.ref b, .ref c, vi (n : Int)], aI g b 20 fs, aI g c 20 ft] H ∧ va_D (fun q => gb g ≤ q) [ob a 5 [.ref b, .ref c, vi (n : Int)], aI g b 20 fs, aI g c 20 ft])) (jQv (fun H1 => PP g [ob a 5 [.ref b, .ref c, vi ((n + 1 : Nat) : Int)], aI g b 20 (ju fs n x), aI g c 20 (ju ft n y)] H1) (jA [ob a 5 [.ref b, .ref c, vi (n : Int)], aI g b 20 fs, aI g c 20 ft])) 0 0 (jA [ob a 5 [.ref b, .ref c, vi (n : Int)], aI g b 20 fs, aI g c 20 ft]) := by
  refine jb_M (by decide) (Nat.le_of_ble_eq_true rfl) ?_
  intro p e s m below meth cq hx hb hr hml hown htl hlk hnm hKK hpre ls hl
  have hown : s.vm.findClass RX5 = some m.cls := hown
  have hl : lv_has ls 3 [(0, .ref a), (1, vi x), (2, vi y)] := hl
  obtain ⟨hP, hD0⟩ := hpre
  have hn := ht.1
  have hD : va_D (jA [ob a 5 [.ref b, .ref c, vi (n : Int)], aI g b 20 fs, aI g c 20 ft]) [ob a 5 [.ref b, .ref c, vi (n : Int)], aI g b 20 fs, aI g c 20 ft] := hD0.inD
  have hAb : ∀ q, (jA [ob a 5 [.ref b, .ref c, vi (n : Int)], aI g b 20 fs, aI g c 20 ft]) q → gb g ≤ q := fun q h => hD0.inA h
  generalize hAe : jA [ob a 5 [.ref b, .ref c, vi (n : Int)], aI g b 20 fs, aI g c 20 ft] = A at *
  have hS : va_S A s.heap s.heap [] := va_S.rf
  suffices K : ∀ (H : Heap) (locs : List Loc), PP g [ob a 5 [.ref b, .ref c, vi (n : Int)], aI g b 20 fs, aI g c 20 ft] H → va_D A [ob a 5 [.ref b, .ref c, vi (n : Int)], aI g b 20 fs, aI g c 20 ft] → va_S A s.heap H locs → ∀ ls : Array Slot, lv_has ls 3 [(0, .ref a), (1, vi x), (2, vi y)] → W p l e (rmm 0 0 0) s m ([.ref a, vi x, vi y] : List Value).toArray below meth cq H locs 0 0 (MQ below (jQv (fun H1 => PP g [ob a 5 [.ref b, .ref c, vi ((n + 1 : Nat) : Int)], aI g b 20 (ju fs n x), aI g c 20 (ju ft n y)] H1) A) ([.ref a, vi x, vi y] : List Value).toArray s 0 0 A) (F0 m 0 ls []) from K _ _ hP hD hS _ hl
  clear hl; intro H locs hP hD hS ls hl
  refine lv_aload_n hx hb dX5_put_0 rfl (lv_at hl 0 rfl) ?_
  refine va_get (D := gD g) (ci := 5) (v := vi (n : Int)) (C := RX5) (T := TX5) (N := 3) hx hb htl ck_X5 hown hKK.k hP 0 rfl rfl 2 (by decide) (htl _ wd_4_3) (fun _ h9 => h9) rfl dX5_put_1 ?_
  refine jr_bipush hx hb dX5_put_4 (by decide) ?_
  refine jr_ge (tgt := 39) hx hb dX5_put_6 (by decide) ⟨by omega, by omega⟩ ⟨by omega, by omega⟩ (fun c6 => absurd c6 (by omega)) (fun c6 => ?_)
  refine lv_aload_n hx hb dX5_put_9 rfl (lv_at hl 0 rfl) ?_
  refine va_get (D := gD g) (ci := 5) (v := .ref b) (C := RX5) (T := TX5) (N := 3) hx hb htl ck_X5 hown hKK.k hP 0 rfl rfl 0 (by decide) (htl _ wd_4_1) (fun _ h9 => h9) rfl dX5_put_10 ?_
  refine lv_aload_n hx hb dX5_put_13 rfl (lv_at hl 0 rfl) ?_
  refine va_get (D := gD g) (ci := 5) (v := vi (n : Int)) (C := RX5) (T := TX5) (N := 3) hx hb htl ck_X5 hown hKK.k hP 0 rfl rfl 2 (by decide) (htl _ wd_4_3) (fun _ h9 => h9) rfl dX5_put_14 ?_
  refine lv_iload_n hx hb dX5_put_17 rfl (lv_at hl 1 rfl) ?_
  refine jr_iast hx hb hKK.k hP hD hS 1 rfl n rfl (by omega) (by omega) dX5_put_18 (fun H locs hP hD hS => ?_)
  have hP : PP g [ob a 5 [.ref b, .ref c, vi (n : Int)], aI g b 20 (ju fs n x), aI g c 20 ft] H := hP
  have hD : va_D A [ob a 5 [.ref b, .ref c, vi (n : Int)], aI g b 20 (ju fs n x), aI g c 20 ft] := hD
  refine lv_aload_n hx hb dX5_put_19 rfl (lv_at hl 0 rfl) ?_
  refine va_get (D := gD g) (ci := 5) (v := .ref c) (C := RX5) (T := TX5) (N := 3) hx hb htl ck_X5 hown hKK.k hP 0 rfl rfl 1 (by decide) (htl _ wd_4_2) (fun _ h9 => h9) rfl dX5_put_20 ?_
  refine lv_aload_n hx hb dX5_put_23 rfl (lv_at hl 0 rfl) ?_
  refine va_get (D := gD g) (ci := 5) (v := vi (n : Int)) (C := RX5) (T := TX5) (N := 3) hx hb htl ck_X5 hown hKK.k hP 0 rfl rfl 2 (by decide) (htl _ wd_4_3) (fun _ h9 => h9) rfl dX5_put_24 ?_
  refine lv_iload_n hx hb dX5_put_27 rfl (lv_at hl 2 rfl) ?_
  refine jr_iast hx hb hKK.k hP hD hS 2 rfl n rfl (by omega) (by omega) dX5_put_28 (fun H locs hP hD hS => ?_)
  have hP : PP g [ob a 5 [.ref b, .ref c, vi (n : Int)], aI g b 20 (ju fs n x), aI g c 20 (ju ft n y)] H := hP
  have hD : va_D A [ob a 5 [.ref b, .ref c, vi (n : Int)], aI g b 20 (ju fs n x), aI g c 20 (ju ft n y)] := hD
  refine lv_aload_n hx hb dX5_put_29 rfl (lv_at hl 0 rfl) ?_
  refine lv_dup hx hb dX5_put_30 rfl ?_
  refine va_get (D := gD g) (ci := 5) (v := vi (n : Int)) (C := RX5) (T := TX5) (N := 3) hx hb htl ck_X5 hown hKK.k hP 0 rfl rfl 2 (by decide) (htl _ wd_4_3) (fun _ h9 => h9) rfl dX5_put_31 ?_
  refine jr_iconst hx hb dX5_put_34 ?_
  refine jr_iadd hx hb dX5_put_35 ?_
  refine va_put (D := gD g) (ci := 5) (v := vi ((n : Int) + 1)) (ty := .int) (C := RX5) (T := TX5) (N := 3) hx hb htl ck_X5 tyX5 tyX5_ok nmX5 hown hKK.k hP hD hS 0 rfl rfl 2 (by decide) (htl _ wd_4_3) (fun _ h9 => h9) rfl (by decide +kernel) rfl rfl (Nat.le_of_ble_eq_true rfl) dX5_put_36 (fun H locs hP hD hS => ?_)
  have hP : PP g [ob a 5 [.ref b, .ref c, vi ((n : Int) + 1)], aI g b 20 (ju fs n x), aI g c 20 (ju ft n y)] H := hP
  have hD : va_D A [ob a 5 [.ref b, .ref c, vi ((n : Int) + 1)], aI g b 20 (ju fs n x), aI g c 20 (ju ft n y)] := hD
  exact je_Qv hx hb hr hlk hS (hP) dX5_put_39
set_option maxHeartbeats 4000000 in
set_option maxRecDepth 100000 in
theorem m_X5_countMissed (l : Launch) (g : GT) (a b c n : Nat) (fs ft : Nat → Int) (ht : TB n fs ft) (d e2 : Nat) (t : List Int) (f : Nat → Int) (hf : TT t f) (d2 e3 : Nat) (u : List Int) (f2 : Nat → Int) (hf2 : TT u f2) : Met l yX5_countMissed (ws_ yX5_countMissed cX5_countMissed 5 (some .int)) (rmm 2 0 0) (jPc g [.ref a, .ref d, .ref d2] (fun H => PP g [ob a 5 [.ref b, .ref c, vi (n : Int)], aI g b 20 fs, aI g c 20 ft] H ∧ PP g [ob d 6 [.ref e2, vi (t.length : Int)], aI g e2 60 f] H ∧ PP g [ob d2 6 [.ref e3, vi (u.length : Int)], aI g e3 60 f2] H)) (jSi (fun z => z = cm fs ft t u n)) 0 0 jN := by
  refine jb_M (by decide) (Nat.le_of_ble_eq_true rfl) ?_
  intro p e s m below meth cq hx hb hr hml hown htl hlk hnm hKK hpre ls hl
  have hown : s.vm.findClass RX5 = some m.cls := hown
  have hl : lv_has ls 5 [(0, .ref a), (1, .ref d), (2, .ref d2)] := hl
  obtain ⟨hP, hP2, hP3⟩ := hpre
  have hn := ht.1
  refine jr_iconst hx hb dX5_countMissed_0 ?_
  refine lv_istore_n (lv' := [(3, vi 0), (0, .ref a), (1, .ref d), (2, .ref d2)]) hx hb dX5_countMissed_1 rfl hl (by decide) rfl (fun ls hl => ?_)
  refine jr_iconst hx hb dX5_countMissed_2 ?_
  refine lv_istore (lv' := [(4, vi 0), (3, vi 0), (0, .ref a), (1, .ref d), (2, .ref d2)]) hx hb dX5_countMissed_3 hl (by decide) rfl (fun ls hl => ?_)
  have lp5 : ∀ (N : Nat) (i : Nat) (k : Int), (i ≤ n) → (k = cm fs ft t u i) → n - i < N → ∀ ls : Array Slot, lv_has ls 5 [(4, vi (i : Int)), (3, vi k), (0, .ref a), (1, .ref d), (2, .ref d2)] → W p l e (rmm 2 0 0) s m ([.ref a, .ref d, .ref d2] : List Value).toArray below meth cq s.heap [] 0 0 (MQ below (jSi (fun z => z = cm fs ft t u n)) ([.ref a, .ref d, .ref d2] : List Value).toArray s 0 0 jN) (F0 m 5 ls []) := by
    intro N
    induction N with
    | zero => intro i k hi hF hM; exact absurd hM (Nat.not_lt_zero _)
    | succ N ih5 =>
      intro i k hi hF hM ls hl
      have hb9 := fun h => ht.2 i h
      refine lv_iload hx hb dX5_countMissed_5 (lv_at hl 0 rfl) ?_
      refine lv_aload_n hx hb dX5_countMissed_7 rfl (lv_at hl 2 rfl) ?_
      refine va_get (D := gD g) (ci := 5) (v := vi (n : Int)) (C := RX5) (T := TX5) (N := 3) hx hb htl ck_X5 hown hKK.k hP 0 rfl rfl 2 (by decide) (htl _ wd_4_3) (fun _ h9 => h9) rfl dX5_countMissed_8 ?_
      refine jr_ge (tgt := 59) hx hb dX5_countMissed_11 (by decide) ⟨by omega, by omega⟩ ⟨by omega, by omega⟩ (fun c11 => ?_) (fun c11 => ?_)
      · refine lv_iload_n hx hb dX5_countMissed_59 rfl (lv_at hl 1 rfl) ?_
        exact je_Si hx hb hr hlk rfl (by obtain rfl : i = n := (by omega); exact hF) dX5_countMissed_60
      · have hb8 := hb9 (by omega)
        refine lv_aload_n hx hb dX5_countMissed_14 rfl (lv_at hl 3 rfl) ?_
        refine jr_iconst hx hb dX5_countMissed_15 ?_
        refine lv_aload_n hx hb dX5_countMissed_16 rfl (lv_at hl 2 rfl) ?_
        refine va_get (D := gD g) (ci := 5) (v := .ref b) (C := RX5) (T := TX5) (N := 3) hx hb htl ck_X5 hown hKK.k hP 0 rfl rfl 0 (by decide) (htl _ wd_4_1) (fun _ h9 => h9) rfl dX5_countMissed_17 ?_
        refine lv_iload hx hb dX5_countMissed_20 (lv_at hl 0 rfl) ?_
        refine jr_iald hx hb hKK.k hP 1 rfl i rfl (by omega) (by omega) dX5_countMissed_22 ?_
        refine jk_Si (va_runS (As := [vi 0, vi (fs i)]) (rest := [.ref d]) ⟨hx, hb, hml, hown, htl⟩ (m_X7_codeOf l g 0 (fs i)) (va_cwS 2 htl lk_X5_22 rfl rfl rfl cwS_X7_codeOf ⟨Nat.le_of_ble_eq_true rfl, Nat.le_of_ble_eq_true rfl⟩) (jp_S hKK (va_S.rf (A := jN)) jNb trivial) rfl rfl hl.1 rfl (lv_room (Nat.le_of_ble_eq_true rfl)) dX5_countMissed_23 ⟨Nat.le_of_ble_eq_true rfl, Nat.le_of_ble_eq_true rfl⟩) (fun z23 hz23 => ?_)
        subst hz23
        refine jr_nm (b := (fs i)) (by omega) ?_
        refine jk_Si (va_runV (As := [vi (fs i)]) (rest := []) ⟨hx, hb, hml, hown, htl⟩ (m_X6_has l g d e2 t f hf (fs i) ⟨by omega, by omega⟩) (cwV 1 htl lk_X5_28 rfl rfl rfl cwV_X6_has ⟨Nat.le_of_ble_eq_true rfl, Nat.le_of_ble_eq_true rfl⟩) (jp_V hKK (va_S.rf (A := jN)) jNb (va_recv hKK.k hP2 (ci := 6) (q0 := 0) rfl rfl) hP2) rfl rfl hl.1 rfl (lv_room (Nat.le_of_ble_eq_true rfl)) dX5_countMissed_26 ⟨Nat.le_of_ble_eq_true rfl, Nat.le_of_ble_eq_true rfl⟩) (fun z26 hz26 => ?_)
        subst hz26
        refine jr_ifeq (tgt := 53) hx hb dX5_countMissed_29 (by decide) (i01R _) (fun c29 => ?_) (fun c29 => ?_)
        · have c29 := i01f c29
          refine jr_iinc (lv' := [(4, vi ((i : Int) + 1)), (3, vi k), (0, .ref a), (1, .ref d), (2, .ref d2)]) hx hb dX5_countMissed_53 hl (k := 0) rfl rfl (by decide) rfl (fun ls hl => ?_)
          refine lv_goto (tgt := 5) hx hb dX5_countMissed_56 (by decide) ?_
          exact ih5 (i + 1) _ (by omega) (by rw [cm, hF]; rw [if_neg (fun q => c29 q.1), Int.add_zero]) (by omega) ls (lv_sub hl [0, 1, 2, 3, 4] rfl)
        · have c29 := i01t c29
          refine lv_aload_n hx hb dX5_countMissed_32 rfl (lv_at hl 4 rfl) ?_
          refine jr_iconst hx hb dX5_countMissed_33 ?_
          refine lv_aload_n hx hb dX5_countMissed_34 rfl (lv_at hl 2 rfl) ?_
          refine va_get (D := gD g) (ci := 5) (v := .ref c) (C := RX5) (T := TX5) (N := 3) hx hb htl ck_X5 hown hKK.k hP 0 rfl rfl 1 (by decide) (htl _ wd_4_2) (fun _ h9 => h9) rfl dX5_countMissed_35 ?_
          refine lv_iload hx hb dX5_countMissed_38 (lv_at hl 0 rfl) ?_
          refine jr_iald hx hb hKK.k hP 2 rfl i rfl (by omega) (by omega) dX5_countMissed_40 ?_
          refine jk_Si (va_runS (As := [vi 0, vi (ft i)]) (rest := [.ref d2]) ⟨hx, hb, hml, hown, htl⟩ (m_X7_codeOf l g 0 (ft i)) (va_cwS 2 htl lk_X5_22 rfl rfl rfl cwS_X7_codeOf ⟨Nat.le_of_ble_eq_true rfl, Nat.le_of_ble_eq_true rfl⟩) (jp_S hKK (va_S.rf (A := jN)) jNb trivial) rfl rfl hl.1 rfl (lv_room (Nat.le_of_ble_eq_true rfl)) dX5_countMissed_41 ⟨Nat.le_of_ble_eq_true rfl, Nat.le_of_ble_eq_true rfl⟩) (fun z41 hz41 => ?_)
          subst hz41
          refine jr_nm (b := (ft i)) (by omega) ?_
          refine jk_Si (va_runV (As := [vi (ft i)]) (rest := []) ⟨hx, hb, hml, hown, htl⟩ (m_X6_has l g d2 e3 u f2 hf2 (ft i) ⟨by omega, by omega⟩) (cwV 1 htl lk_X5_28 rfl rfl rfl cwV_X6_has ⟨Nat.le_of_ble_eq_true rfl, Nat.le_of_ble_eq_true rfl⟩) (jp_V hKK (va_S.rf (A := jN)) jNb (va_recv hKK.k hP3 (ci := 6) (q0 := 0) rfl rfl) hP3) rfl rfl hl.1 rfl (lv_room (Nat.le_of_ble_eq_true rfl)) dX5_countMissed_44 ⟨Nat.le_of_ble_eq_true rfl, Nat.le_of_ble_eq_true rfl⟩) (fun z44 hz44 => ?_)
          subst hz44
          refine jr_ifne (tgt := 53) hx hb dX5_countMissed_47 (by decide) (i01R _) (fun c47 => ?_) (fun c47 => ?_)
          · have c47 := i01t c47
            refine jr_iinc (lv' := [(4, vi ((i : Int) + 1)), (3, vi k), (0, .ref a), (1, .ref d), (2, .ref d2)]) hx hb dX5_countMissed_53 hl (k := 0) rfl rfl (by decide) rfl (fun ls hl => ?_)
            refine lv_goto (tgt := 5) hx hb dX5_countMissed_56 (by decide) ?_
            exact ih5 (i + 1) _ (by omega) (by rw [cm, hF]; rw [if_neg (fun q => q.2 c47), Int.add_zero]) (by omega) ls (lv_sub hl [0, 1, 2, 3, 4] rfl)
          · have c47 := i01f c47
            refine jr_iinc (lv' := [(3, vi (k + 1)), (4, vi (i : Int)), (0, .ref a), (1, .ref d), (2, .ref d2)]) hx hb dX5_countMissed_50 hl (k := 1) rfl rfl (by decide) rfl (fun ls hl => ?_)
            refine jr_iinc (lv' := [(4, vi ((i : Int) + 1)), (3, vi (k + 1)), (0, .ref a), (1, .ref d), (2, .ref d2)]) hx hb dX5_countMissed_53 hl (k := 1) rfl rfl (by decide) rfl (fun ls hl => ?_)
            refine lv_goto (tgt := 5) hx hb dX5_countMissed_56 (by decide) ?_
            exact ih5 (i + 1) _ (by omega) (by rw [cm, hF]; rw [if_pos ⟨c29, c47⟩]) (by omega) ls (lv_sub hl [0, 1, 2, 3, 4] rfl)
  exact lp5 _ 0 0 (Nat.zero_le _) (rfl) (Nat.lt_succ_self _) ls (lv_sub hl [0, 1, 2, 3, 4] rfl)
