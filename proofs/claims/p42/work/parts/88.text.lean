
theorem lk_L_146 : GoodIn WSL (va_wsS RL 146 yL_token (ws_ yL_token cL_token 4 (some .int))) := gd_app (List.forall_mem_cons.mpr ⟨wd_25_23, List.forall_mem_cons.mpr ⟨wd_26_0, List.forall_mem_cons.mpr ⟨wd_8_17, fun _ h => nomatch h⟩⟩⟩) (gd_ wd_26_1)
theorem cwS_L_token : yL_token.cls ≠ "java/lang/invoke/MethodHandle" ∧ yL_token.cls ≠ "java/lang/invoke/VarHandle" ∧ (parseMethodDescriptor yL_token.desc).map (fun d => d.parameters.length) = some 2 := by decide +kernel
abbrev XF := List Int × (Nat → Int)
/-- a text in a row of 61 -/
abbrev aT (g : GT) (a : Nat) (x : XF) : Nat × va_E := aI g a 61 x.2
set_option maxHeartbeats 4000000 in
set_option maxRecDepth 100000 in
theorem m_L_text (l : Launch) (g : GT) (b0 n9 : Nat) (xs : Nat → Int32) (hn9 : n9 ≤ 260) (i : Nat) (hi : i < 800000) (v0 : Int) (hm : 0 < v0 ∧ v0 ≤ 60) (sz : Nat) : Met l yL_text (ws_ yL_text cL_text 5 (some (.array .int))) (rmm 5 1 61) (jPs g b0 n9 xs [.ref b0, vi (i : Int), vi v0] (fun H => H.size = sz ∧ PP g [] H ∧ va_D (fun q => gb g ≤ q) [])) (jQr (fun a9 H1 => ∃ x : XF, (AT x.1 x.2 ∧ 1 ≤ x.1.length ∧ (x.1.length : Int) ≤ v0) ∧ PP g [aT g a9 x] H1 ∧ va_D (va_A [] sz) [aT g a9 x]) (va_A [] sz)) 1 61 (va_A [] sz) := by
  refine js_M (by decide) (Nat.le_of_ble_eq_true rfl) ?_
  intro p e s m below meth cq hx hb hr hml hown htl hlk hnm hKK hX hpre ls hl
  have hbl := hX.lt
  have hown : s.vm.findClass RL = some m.cls := hown
  have hl : lv_has ls 5 [(0, .ref b0), (1, vi (i : Int)), (2, vi v0)] := hl
  obtain ⟨hsz, hP, hD0⟩ := hpre
  subst hsz
  have hbA := scr_nA hbl
  have hD : va_D (va_A [] s.heap.size) [] := hD0.self
  have hAb : ∀ q, (va_A [] s.heap.size) q → gb g ≤ q := fun q h => h.elim (fun ⟨k, e, h⟩ => hD0.2 k _ h) (fun h => Nat.le_trans hKK.2.1 h)
  generalize hAe : va_A [] s.heap.size = A at *
  have hA : ∀ q, s.heap.size ≤ q → A q := fun q h => by rw [← hAe]; exact Or.inr h
  have hS : va_S A s.heap s.heap [] := va_S.rf
  suffices K : ∀ (H : Heap) (locs : List Loc), PP g [] H → va_D A [] → va_S A s.heap H locs → ∀ ls : Array Slot, lv_has ls 5 [(0, .ref b0), (1, vi (i : Int)), (2, vi v0)] → W p l e (rmm 5 1 61) s m ([.ref b0, vi (i : Int), vi v0] : List Value).toArray below meth cq H locs 0 0 (MQ below (jQr (fun a9 H1 => ∃ x : XF, (AT x.1 x.2 ∧ 1 ≤ x.1.length ∧ (x.1.length : Int) ≤ v0) ∧ PP g [aT g a9 x] H1 ∧ va_D (A) [aT g a9 x]) A) ([.ref b0, vi (i : Int), vi v0] : List Value).toArray s 1 61 A) (F0 m 0 ls []) from K _ _ hP hD hS _ hl
  clear hl; intro H locs hP hD hS ls hl
  refine jr_bipush hx hb dL_text_0 (by decide) ?_
  refine va_newaK (atype := .int) hx hb (htl _ wd_1_4) (g := F0 m 2 ls [vi 61]) rfl dL_text_2 rfl (N := 61) (by decide) (by decide) (by decide) (Nat.le_of_ble_eq_true rfl) (Nat.le_of_ble_eq_true rfl) rfl (fun H1 cA e1 z1 o1 hAr hNm => ?_)
  obtain rfl : cA = gI g := Option.some.inj (hNm.symm.trans (hKK.k.2 0 _ rfl).2)
  obtain ⟨q2, hq2⟩ : ∃ q, q = H.size := ⟨_, rfl⟩
  rw [← hq2] at e1 ⊢
  obtain ⟨hP, hD, hS⟩ : PP g [aI g q2 61 (fun _ => 0)] H1 ∧ va_D A [aI g q2 61 (fun _ => 0)] ∧ va_S A s.heap H1 locs := jnew hP hD hS hA hq2 (by exact e1) z1 o1
  clear e1 z1 o1; generalize H1 = H at hP hD hS ⊢
  have hP : PP g [aI g q2 61 (fun _ => 0)] H := hP
  refine W.widen (k := 1) (n := 61) (by omega) (by omega) ?_
  refine W.eq (g2 := F0 m 4 ls [.ref q2]) rfl ?_
  refine lv_astore_n (lv' := [(3, .ref q2), (0, .ref b0), (1, vi (i : Int)), (2, vi v0)]) hx hb dL_text_4 rfl hl (by decide) rfl (fun ls hl => ?_)
  refine lv_aload_n hx hb dL_text_5 rfl (lv_at hl 0 rfl) ?_
  refine jr_iconst hx hb dL_text_6 ?_
  refine jr_iconst hx hb dL_text_7 ?_
  refine lv_aload_n hx hb dL_text_8 rfl (lv_at hl 1 rfl) ?_
  refine lv_iload_n hx hb dL_text_9 rfl (lv_at hl 2 rfl) ?_
  refine lv_iload_n hx hb dL_text_10 rfl (lv_at hl 3 rfl) ?_
  refine jk_Si (va_runS (As := [.ref b0, vi (i : Int), vi v0]) (rest := [vi 1, vi 0, .ref q2]) ⟨hx, hb, hml, hown, htl⟩ (m_L_pick l g b0 n9 xs hn9 i (by omega) v0 ⟨by omega, by omega⟩) (va_cwS 3 htl lk_L_140 rfl rfl rfl cwS_L_pick ⟨Nat.le_of_ble_eq_true rfl, Nat.le_of_ble_eq_true rfl⟩) (jp_X hKK hX hbl hbA hS hAb trivial) rfl rfl hl.1 rfl (lv_room (Nat.le_of_ble_eq_true rfl)) dL_text_11 ⟨Nat.le_of_ble_eq_true rfl, Nat.le_of_ble_eq_true rfl⟩) (fun z11 hz11 => ?_)
  refine jr_iadd hx hb dL_text_14 ?_
  obtain ⟨n, hn⟩ : ∃ n : Nat, (1 : Int) + z11 = (n : Int) := ⟨((1 : Int) + z11).toNat, by omega⟩
  refine jr_nm (b := (n : Int)) (hn) ?_
  refine jr_iast hx hb hKK.k hP hD hS 0 rfl 0 (by omega) (by omega) (by omega) dL_text_15 (fun H locs hP hD hS => ?_)
  have hP : PP g [aI g q2 61 (ju (fun _ => 0) 0 (n : Int))] H := hP
  have hD : va_D A [aI g q2 61 (ju (fun _ => 0) 0 (n : Int))] := hD
  refine jr_iconst hx hb dL_text_16 ?_
  refine lv_istore (lv' := [(4, vi 1), (3, .ref q2), (0, .ref b0), (1, vi (i : Int)), (2, vi v0)]) hx hb dL_text_17 hl (by decide) rfl (fun ls hl => ?_)
  have lp19 : ∀ (N : Nat) (k : Nat) (x : List Int) (f : Nat → Int), (k ≤ n) → (ATp k (n : Int) x f) → n - k < N → ∀ (H : Heap) (locs : List Loc), PP g [aI g q2 61 f] H → va_D A [aI g q2 61 f] → va_S A s.heap H locs → ∀ ls : Array Slot, lv_has ls 5 [(4, vi ((k : Int) + 1)), (3, .ref q2), (0, .ref b0), (1, vi (i : Int)), (2, vi v0)] → W p l e (rmm 5 1 61) s m ([.ref b0, vi (i : Int), vi v0] : List Value).toArray below meth cq H locs 1 61 (MQ below (jQr (fun a9 H1 => ∃ x : XF, (AT x.1 x.2 ∧ 1 ≤ x.1.length ∧ (x.1.length : Int) ≤ v0) ∧ PP g [aT g a9 x] H1 ∧ va_D (A) [aT g a9 x]) A) ([.ref b0, vi (i : Int), vi v0] : List Value).toArray s 1 61 A) (F0 m 19 ls []) := by
    intro N
    induction N with
    | zero => intro k x f hi hf hM; exact absurd hM (Nat.not_lt_zero _)
    | succ N ih19 =>
      intro k x f hi hf hM H locs hP hD hS ls hl
      refine lv_iload hx hb dL_text_19 (lv_at hl 0 rfl) ?_
      refine lv_aload_n hx hb dL_text_21 rfl (lv_at hl 1 rfl) ?_
      refine jr_iconst hx hb dL_text_22 ?_
      refine jr_iald hx hb hKK.k hP 0 rfl 0 rfl (by omega) (by omega) dL_text_23 ?_
      refine jr_nm (b := (n : Int)) (hf.1) ?_
      refine jr_gt (tgt := 48) hx hb dL_text_24 (by decide) ⟨by omega, by omega⟩ ⟨by omega, by omega⟩ (fun c24 => ?_) (fun c24 => ?_)
      · refine lv_aload_n hx hb dL_text_48 rfl (lv_at hl 1 rfl) ?_
        exact je_QrA hx hb hr hlk hS (⟨(x, f), ⟨ATp.at (i := n) (by obtain rfl : k = n := (by omega); exact hf) (by omega), by have := hf.2.1; show 1 ≤ x.length; omega, by have := hf.2.1; show (x.length : Int) ≤ v0; omega⟩, hP, hD⟩) dL_text_49
      · refine lv_aload_n hx hb dL_text_27 rfl (lv_at hl 1 rfl) ?_
        refine lv_iload hx hb dL_text_28 (lv_at hl 0 rfl) ?_
        refine lv_aload_n hx hb dL_text_30 rfl (lv_at hl 2 rfl) ?_
        refine lv_iload_n hx hb dL_text_31 rfl (lv_at hl 3 rfl) ?_
        refine jr_bipush hx hb dL_text_32 (by decide) ?_
        refine lv_iload hx hb dL_text_34 (lv_at hl 0 rfl) ?_
        refine jr_imul hx hb dL_text_36 ?_
        refine jr_iadd hx hb dL_text_37 ?_
        refine jr_nm (b := ((i + 7 * (k + 1) : Nat) : Int)) (by omega) ?_
        refine jk_Si (va_runS (As := [.ref b0, vi ((i + 7 * (k + 1) : Nat) : Int)]) (rest := [vi ((k : Int) + 1), .ref q2]) ⟨hx, hb, hml, hown, htl⟩ (m_L_token l g b0 n9 xs hn9 (i + 7 * (k + 1)) (by omega)) (va_cwS 2 htl lk_L_146 rfl rfl rfl cwS_L_token ⟨Nat.le_of_ble_eq_true rfl, Nat.le_of_ble_eq_true rfl⟩) (jp_X hKK hX hbl hbA hS hAb trivial) rfl rfl hl.1 rfl (lv_room (Nat.le_of_ble_eq_true rfl)) dL_text_38 ⟨Nat.le_of_ble_eq_true rfl, Nat.le_of_ble_eq_true rfl⟩) (fun z38 hz38 => ?_)
        refine jr_iast hx hb hKK.k hP hD hS 0 rfl (k + 1) (by omega) (by omega) (by omega) dL_text_41 (fun H locs hP hD hS => ?_)
        have hP : PP g [aI g q2 61 (ju f (k + 1) z38)] H := hP
        have hD : va_D A [aI g q2 61 (ju f (k + 1) z38)] := hD
        refine jr_iinc (lv' := [(4, vi (((k : Int) + 1) + 1)), (3, .ref q2), (0, .ref b0), (1, vi (i : Int)), (2, vi v0)]) hx hb dL_text_42 hl (k := 0) rfl rfl (by decide) rfl (fun ls hl => ?_)
        refine lv_goto (tgt := 19) hx hb dL_text_45 (by decide) ?_
        exact ih19 (k + 1) (x ++ [z38]) _ (by omega) (hf.push hz38) (by omega) _ _ hP hD hS ls (lv_sub hl [0, 1, 2, 3, 4] rfl)
  exact lp19 _ 0 [] _ (Nat.zero_le _) (ATp.z (ju_s _ _ _)) (Nat.lt_succ_self _) _ _ hP hD hS ls (lv_sub hl [0, 1, 2, 3, 4] rfl)
set_option maxHeartbeats 4000000 in
set_option maxRecDepth 100000 in
theorem m_L_like (l : Launch) (g : GT) (a1 : Nat) (x1 : List Int) (f1 : Nat → Int) (hx1 : AT x1 f1) (hx0 : 1 ≤ x1.length) (b0 n9 : Nat) (xs : Nat → Int32) (hn9 : n9 ≤ 260) (i : Nat) (hi : i < 800000) (sz : Nat) : Met l yL_like (ws_ yL_like cL_like 6 (some (.array .int))) (rmm 5 1 61) (jPs g b0 n9 xs [.ref a1, .ref b0, vi (i : Int)] (fun H => H.size = sz ∧ PP g [] H ∧ va_D (fun q => gb g ≤ q) [] ∧ PP g [aI g a1 61 f1] H)) (jQr (fun a9 H1 => ∃ x : XF, (AT x.1 x.2 ∧ 1 ≤ x.1.length ∧ x.1.length ≤ x1.length) ∧ PP g [aT g a9 x] H1 ∧ va_D (va_A [] sz) [aT g a9 x]) (va_A [] sz)) 1 61 (va_A [] sz) := by
  refine js_M (by decide) (Nat.le_of_ble_eq_true rfl) ?_
  intro p e s m below meth cq hx hb hr hml hown htl hlk hnm hKK hX hpre ls hl
  have hbl := hX.lt
  have hown : s.vm.findClass RL = some m.cls := hown
  have hl : lv_has ls 6 [(0, .ref a1), (1, .ref b0), (2, vi (i : Int))] := hl
  obtain ⟨hsz, hP, hD0, hP1⟩ := hpre
  subst hsz
  have hl1 := hx1.len
  have hbA := scr_nA hbl
  have ap_hP1 : ∀ (k : Nat) (q : Nat × va_E), ([aI g a1 61 f1] : va_W)[k]? = some q → ¬ (va_A [] s.heap.size) q.1 := japS hP1 rfl ((fun _ _ h => nomatch h))
  have hD : va_D (va_A [] s.heap.size) [] := hD0.self
  have hAb : ∀ q, (va_A [] s.heap.size) q → gb g ≤ q := fun q h => h.elim (fun ⟨k, e, h⟩ => hD0.2 k _ h) (fun h => Nat.le_trans hKK.2.1 h)
  generalize hAe : va_A [] s.heap.size = A at *
  have hA : ∀ q, s.heap.size ≤ q → A q := fun q h => by rw [← hAe]; exact Or.inr h
  have hS : va_S A s.heap s.heap [] := va_S.rf
  suffices K : ∀ (H : Heap) (locs : List Loc), PP g [] H → va_D A [] → va_S A s.heap H locs → ∀ ls : Array Slot, lv_has ls 6 [(0, .ref a1), (1, .ref b0), (2, vi (i : Int))] → W p l e (rmm 5 1 61) s m ([.ref a1, .ref b0, vi (i : Int)] : List Value).toArray below meth cq H locs 0 0 (MQ below (jQr (fun a9 H1 => ∃ x : XF, (AT x.1 x.2 ∧ 1 ≤ x.1.length ∧ x.1.length ≤ x1.length) ∧ PP g [aT g a9 x] H1 ∧ va_D (A) [aT g a9 x]) A) ([.ref a1, .ref b0, vi (i : Int)] : List Value).toArray s 1 61 A) (F0 m 0 ls []) from K _ _ hP hD hS _ hl
  clear hl; intro H locs hP hD hS ls hl
  refine jr_bipush hx hb dL_like_0 (by decide) ?_
  refine va_newaK (atype := .int) hx hb (htl _ wd_1_4) (g := F0 m 2 ls [vi 61]) rfl dL_like_2 rfl (N := 61) (by decide) (by decide) (by decide) (Nat.le_of_ble_eq_true rfl) (Nat.le_of_ble_eq_true rfl) rfl (fun H1 cA e1 z1 o1 hAr hNm => ?_)
  obtain rfl : cA = gI g := Option.some.inj (hNm.symm.trans (hKK.k.2 0 _ rfl).2)
  obtain ⟨q2, hq2⟩ : ∃ q, q = H.size := ⟨_, rfl⟩
  rw [← hq2] at e1 ⊢
  obtain ⟨hP, hD, hS⟩ : PP g [aI g q2 61 (fun _ => 0)] H1 ∧ va_D A [aI g q2 61 (fun _ => 0)] ∧ va_S A s.heap H1 locs := jnew hP hD hS hA hq2 (by exact e1) z1 o1
  clear e1 z1 o1; generalize H1 = H at hP hD hS ⊢
  have hP : PP g [aI g q2 61 (fun _ => 0)] H := hP
  refine W.widen (k := 1) (n := 61) (by omega) (by omega) ?_
  refine W.eq (g2 := F0 m 4 ls [.ref q2]) rfl ?_
  refine lv_astore_n (lv' := [(3, .ref q2), (0, .ref a1), (1, .ref b0), (2, vi (i : Int))]) hx hb dL_like_4 rfl hl (by decide) rfl (fun ls hl => ?_)
  refine jr_iconst hx hb dL_like_5 ?_
  refine lv_istore (lv' := [(4, vi 1), (3, .ref q2), (0, .ref a1), (1, .ref b0), (2, vi (i : Int))]) hx hb dL_like_6 hl (by decide) rfl (fun ls hl => ?_)
  have lp8 : ∀ (N : Nat) (k : Nat) (x : List Int) (f : Nat → Int), (k ≤ x1.length) → (AT x f) → (x.length ≤ k ∧ (1 ≤ k → 1 ≤ x.length)) → x1.length - k < N → ∀ (H : Heap) (locs : List Loc), PP g [aI g q2 61 f] H → va_D A [aI g q2 61 f] → va_S A s.heap H locs → ∀ ls : Array Slot, lv_has ls 6 [(4, vi ((k : Int) + 1)), (3, .ref q2), (0, .ref a1), (1, .ref b0), (2, vi (i : Int))] → W p l e (rmm 5 1 61) s m ([.ref a1, .ref b0, vi (i : Int)] : List Value).toArray below meth cq H locs 1 61 (MQ below (jQr (fun a9 H1 => ∃ x : XF, (AT x.1 x.2 ∧ 1 ≤ x.1.length ∧ x.1.length ≤ x1.length) ∧ PP g [aT g a9 x] H1 ∧ va_D (A) [aT g a9 x]) A) ([.ref a1, .ref b0, vi (i : Int)] : List Value).toArray s 1 61 A) (F0 m 8 ls []) := by
    intro N
    induction N with
    | zero => intro k x f hi hf hxl hM; exact absurd hM (Nat.not_lt_zero _)
    | succ N ih8 =>
      intro k x f hi hf hxl hM H locs hP hD hS ls hl
      refine lv_iload hx hb dL_like_8 (lv_at hl 0 rfl) ?_
      refine lv_aload_n hx hb dL_like_10 rfl (lv_at hl 2 rfl) ?_
      refine jr_iconst hx hb dL_like_11 ?_
      refine jr_iald hx hb hKK.k (jat hP1 hS ap_hP1) 0 rfl 0 (by omega) (by omega) (by omega) dL_like_12 ?_
      refine jr_nm (b := (x1.length : Int)) (by rw [hx1.n]) ?_
      refine jr_gt (tgt := 80) hx hb dL_like_13 (by decide) ⟨by omega, by omega⟩ ⟨by omega, by omega⟩ (fun c13 => ?_) (fun c13 => ?_)
      · refine lv_aload_n hx hb dL_like_80 rfl (lv_at hl 1 rfl) ?_
        exact je_QrA hx hb hr hlk hS (⟨(x, f), ⟨hf, (show 1 ≤ x.length by omega), (show x.length ≤ x1.length by omega)⟩, hP, hD⟩) dL_like_81
      · refine lv_aload_n hx hb dL_like_16 rfl (lv_at hl 3 rfl) ?_
        refine lv_iload_n hx hb dL_like_17 rfl (lv_at hl 4 rfl) ?_
        refine lv_iload hx hb dL_like_18 (lv_at hl 0 rfl) ?_
        refine jr_iadd hx hb dL_like_20 ?_
        refine jr_nm (b := ((i + (k + 1) : Nat) : Int)) (by omega) ?_
        refine jr_bipush hx hb dL_like_21 (by decide) ?_
        refine jk_Si (va_runS (As := [.ref b0, vi ((i + (k + 1) : Nat) : Int), vi 7]) (rest := []) ⟨hx, hb, hml, hown, htl⟩ (m_L_pick l g b0 n9 xs hn9 (i + (k + 1)) (by omega) 7 (by decide)) (va_cwS 3 htl lk_L_140 rfl rfl rfl cwS_L_pick ⟨Nat.le_of_ble_eq_true rfl, Nat.le_of_ble_eq_true rfl⟩) (jp_X hKK hX hbl hbA hS hAb trivial) rfl rfl hl.1 rfl (lv_room (Nat.le_of_ble_eq_true rfl)) dL_like_23 ⟨Nat.le_of_ble_eq_true rfl, Nat.le_of_ble_eq_true rfl⟩) (fun z23 hz23 => ?_)
        refine lv_istore (lv' := [(5, vi z23), (4, vi ((k : Int) + 1)), (3, .ref q2), (0, .ref a1), (1, .ref b0), (2, vi (i : Int))]) hx hb dL_like_26 hl (by decide) rfl (fun ls hl => ?_)
        refine lv_iload hx hb dL_like_28 (lv_at hl 0 rfl) ?_
        refine jr_ifgt (tgt := 39) hx hb dL_like_30 (by decide) ⟨by omega, by omega⟩ (fun c30 => ?_) (fun c30 => ?_)
        · refine lv_aload_n hx hb dL_like_39 rfl (lv_at hl 2 rfl) ?_
          refine jr_iconst hx hb dL_like_40 ?_
          refine lv_dup2_11 hx hb dL_like_41 rfl rfl ?_
          refine jr_iald hx hb hKK.k hP 0 rfl 0 (by omega) (by omega) (by omega) dL_like_42 ?_
          refine jr_nm (b := (x.length : Int)) (hf.n) ?_
          refine jr_iconst hx hb dL_like_43 ?_
          refine jr_iadd hx hb dL_like_44 ?_
          refine jr_iast hx hb hKK.k hP hD hS 0 rfl 0 (by omega) (by omega) (by omega) dL_like_45 (fun H locs hP hD hS => ?_)
          have hP : PP g [aI g q2 61 (ju f 0 ((x.length : Int) + 1))] H := hP
          have hD : va_D A [aI g q2 61 (ju f 0 ((x.length : Int) + 1))] := hD
          refine lv_aload_n hx hb dL_like_46 rfl (lv_at hl 2 rfl) ?_
          refine lv_aload_n hx hb dL_like_47 rfl (lv_at hl 2 rfl) ?_
          refine jr_iconst hx hb dL_like_48 ?_
          refine jr_iald hx hb hKK.k hP 0 rfl 0 (by omega) (by omega) (by omega) dL_like_49 ?_
          refine jr_nm (b := ((x.length + 1 : Nat) : Int)) ((ju_s _ _ _).trans (by omega)) ?_
          refine lv_iload hx hb dL_like_50 (lv_at hl 0 rfl) ?_
          refine jr_iconst hx hb dL_like_52 ?_
          refine jr_ne (tgt := 69) hx hb dL_like_53 (by decide) ⟨by omega, by omega⟩ ⟨by omega, by omega⟩ (fun c53 => ?_) (fun c53 => ?_)
          · refine lv_aload_n hx hb dL_like_69 rfl (lv_at hl 3 rfl) ?_
            refine lv_iload hx hb dL_like_70 (lv_at hl 1 rfl) ?_
            refine jr_iald hx hb hKK.k (jat hP1 hS ap_hP1) 0 rfl (k + 1) (by omega) (by omega) (by omega) dL_like_72 ?_
            refine jr_iast hx hb hKK.k hP hD hS 0 rfl (x.length + 1) (by omega) (by omega) (by omega) dL_like_73 (fun H locs hP hD hS => ?_)
            have hP : PP g [aI g q2 61 (ju (ju f 0 ((x.length : Int) + 1)) (x.length + 1) (f1 (k + 1)))] H := hP
            have hD : va_D A [aI g q2 61 (ju (ju f 0 ((x.length : Int) + 1)) (x.length + 1) (f1 (k + 1)))] := hD
            refine jr_iinc (lv' := [(4, vi (((k : Int) + 1) + 1)), (5, vi z23), (3, .ref q2), (0, .ref a1), (1, .ref b0), (2, vi (i : Int))]) hx hb dL_like_74 hl (k := 1) rfl rfl (by decide) rfl (fun ls hl => ?_)
            refine lv_goto (tgt := 8) hx hb dL_like_77 (by decide) ?_
            exact ih8 (k + 1) (x ++ [f1 (k + 1)]) _ (by omega) (hf.push (by omega) (by rw [hx1.s (by omega)]; exact hx1.v (by omega))) (by rw [List.length_append, List.length_singleton]; omega) (by omega) _ _ hP hD hS ls (lv_sub hl [0, 2, 3, 4, 5] rfl)
          · refine lv_aload_n hx hb dL_like_56 rfl (lv_at hl 4 rfl) ?_
            refine lv_iload_n hx hb dL_like_57 rfl (lv_at hl 5 rfl) ?_
            refine jr_iconst hx hb dL_like_58 ?_
            refine lv_iload hx hb dL_like_59 (lv_at hl 1 rfl) ?_
            refine jr_imul hx hb dL_like_61 ?_
            refine jr_iadd hx hb dL_like_62 ?_
            refine jr_nm (b := ((i + 5 * (k + 1) : Nat) : Int)) (by omega) ?_
            refine jk_Si (va_runS (As := [.ref b0, vi ((i + 5 * (k + 1) : Nat) : Int)]) (rest := [vi ((x.length + 1 : Nat) : Int), .ref q2]) ⟨hx, hb, hml, hown, htl⟩ (m_L_token l g b0 n9 xs hn9 (i + 5 * (k + 1)) (by omega)) (va_cwS 2 htl lk_L_146 rfl rfl rfl cwS_L_token ⟨Nat.le_of_ble_eq_true rfl, Nat.le_of_ble_eq_true rfl⟩) (jp_X hKK hX hbl hbA hS hAb trivial) rfl rfl hl.1 rfl (lv_room (Nat.le_of_ble_eq_true rfl)) dL_like_63 ⟨Nat.le_of_ble_eq_true rfl, Nat.le_of_ble_eq_true rfl⟩) (fun z63 hz63 => ?_)
            refine lv_goto (tgt := 73) hx hb dL_like_66 (by decide) ?_
            refine jr_iast hx hb hKK.k hP hD hS 0 rfl (x.length + 1) (by omega) (by omega) (by omega) dL_like_73 (fun H locs hP hD hS => ?_)
            have hP : PP g [aI g q2 61 (ju (ju f 0 ((x.length : Int) + 1)) (x.length + 1) z63)] H := hP
            have hD : va_D A [aI g q2 61 (ju (ju f 0 ((x.length : Int) + 1)) (x.length + 1) z63)] := hD
            refine jr_iinc (lv' := [(4, vi (((k : Int) + 1) + 1)), (5, vi z23), (3, .ref q2), (0, .ref a1), (1, .ref b0), (2, vi (i : Int))]) hx hb dL_like_74 hl (k := 1) rfl rfl (by decide) rfl (fun ls hl => ?_)
            refine lv_goto (tgt := 8) hx hb dL_like_77 (by decide) ?_
            exact ih8 (k + 1) (x ++ [z63]) _ (by omega) (hf.push (by omega) hz63) (by rw [List.length_append, List.length_singleton]; omega) (by omega) _ _ hP hD hS ls (lv_sub hl [0, 2, 3, 4, 5] rfl)
        · refine lv_iload hx hb dL_like_33 (lv_at hl 1 rfl) ?_
          refine jr_iconst hx hb dL_like_35 ?_
          refine jr_ne (tgt := 74) hx hb dL_like_36 (by decide) ⟨by omega, by omega⟩ ⟨by omega, by omega⟩ (fun c36 => ?_) (fun c36 => ?_)
          · refine jr_iinc (lv' := [(4, vi (((k : Int) + 1) + 1)), (5, vi z23), (3, .ref q2), (0, .ref a1), (1, .ref b0), (2, vi (i : Int))]) hx hb dL_like_74 hl (k := 1) rfl rfl (by decide) rfl (fun ls hl => ?_)
            refine lv_goto (tgt := 8) hx hb dL_like_77 (by decide) ?_
            exact ih8 (k + 1) x _ (by omega) (hf) (by omega) (by omega) _ _ hP hD hS ls (lv_sub hl [0, 2, 3, 4, 5] rfl)
          · refine lv_aload_n hx hb dL_like_39 rfl (lv_at hl 2 rfl) ?_
            refine jr_iconst hx hb dL_like_40 ?_
            refine lv_dup2_11 hx hb dL_like_41 rfl rfl ?_
            refine jr_iald hx hb hKK.k hP 0 rfl 0 (by omega) (by omega) (by omega) dL_like_42 ?_
            refine jr_nm (b := (x.length : Int)) (hf.n) ?_
            refine jr_iconst hx hb dL_like_43 ?_
            refine jr_iadd hx hb dL_like_44 ?_
            refine jr_iast hx hb hKK.k hP hD hS 0 rfl 0 (by omega) (by omega) (by omega) dL_like_45 (fun H locs hP hD hS => ?_)
            have hP : PP g [aI g q2 61 (ju f 0 ((x.length : Int) + 1))] H := hP
            have hD : va_D A [aI g q2 61 (ju f 0 ((x.length : Int) + 1))] := hD
            refine lv_aload_n hx hb dL_like_46 rfl (lv_at hl 2 rfl) ?_
            refine lv_aload_n hx hb dL_like_47 rfl (lv_at hl 2 rfl) ?_
            refine jr_iconst hx hb dL_like_48 ?_
            refine jr_iald hx hb hKK.k hP 0 rfl 0 (by omega) (by omega) (by omega) dL_like_49 ?_
            refine jr_nm (b := ((x.length + 1 : Nat) : Int)) ((ju_s _ _ _).trans (by omega)) ?_
            refine lv_iload hx hb dL_like_50 (lv_at hl 0 rfl) ?_
            refine jr_iconst hx hb dL_like_52 ?_
            refine jr_ne (tgt := 69) hx hb dL_like_53 (by decide) ⟨by omega, by omega⟩ ⟨by omega, by omega⟩ (fun c53 => ?_) (fun c53 => ?_)
            · refine lv_aload_n hx hb dL_like_69 rfl (lv_at hl 3 rfl) ?_
              refine lv_iload hx hb dL_like_70 (lv_at hl 1 rfl) ?_
              refine jr_iald hx hb hKK.k (jat hP1 hS ap_hP1) 0 rfl (k + 1) (by omega) (by omega) (by omega) dL_like_72 ?_
              refine jr_iast hx hb hKK.k hP hD hS 0 rfl (x.length + 1) (by omega) (by omega) (by omega) dL_like_73 (fun H locs hP hD hS => ?_)
              have hP : PP g [aI g q2 61 (ju (ju f 0 ((x.length : Int) + 1)) (x.length + 1) (f1 (k + 1)))] H := hP
              have hD : va_D A [aI g q2 61 (ju (ju f 0 ((x.length : Int) + 1)) (x.length + 1) (f1 (k + 1)))] := hD
              refine jr_iinc (lv' := [(4, vi (((k : Int) + 1) + 1)), (5, vi z23), (3, .ref q2), (0, .ref a1), (1, .ref b0), (2, vi (i : Int))]) hx hb dL_like_74 hl (k := 1) rfl rfl (by decide) rfl (fun ls hl => ?_)
              refine lv_goto (tgt := 8) hx hb dL_like_77 (by decide) ?_
              exact ih8 (k + 1) (x ++ [f1 (k + 1)]) _ (by omega) (hf.push (by omega) (by rw [hx1.s (by omega)]; exact hx1.v (by omega))) (by rw [List.length_append, List.length_singleton]; omega) (by omega) _ _ hP hD hS ls (lv_sub hl [0, 2, 3, 4, 5] rfl)
            · refine lv_aload_n hx hb dL_like_56 rfl (lv_at hl 4 rfl) ?_
              refine lv_iload_n hx hb dL_like_57 rfl (lv_at hl 5 rfl) ?_
              refine jr_iconst hx hb dL_like_58 ?_
              refine lv_iload hx hb dL_like_59 (lv_at hl 1 rfl) ?_
              refine jr_imul hx hb dL_like_61 ?_
              refine jr_iadd hx hb dL_like_62 ?_
              refine jr_nm (b := ((i + 5 * (k + 1) : Nat) : Int)) (by omega) ?_
              refine jk_Si (va_runS (As := [.ref b0, vi ((i + 5 * (k + 1) : Nat) : Int)]) (rest := [vi ((x.length + 1 : Nat) : Int), .ref q2]) ⟨hx, hb, hml, hown, htl⟩ (m_L_token l g b0 n9 xs hn9 (i + 5 * (k + 1)) (by omega)) (va_cwS 2 htl lk_L_146 rfl rfl rfl cwS_L_token ⟨Nat.le_of_ble_eq_true rfl, Nat.le_of_ble_eq_true rfl⟩) (jp_X hKK hX hbl hbA hS hAb trivial) rfl rfl hl.1 rfl (lv_room (Nat.le_of_ble_eq_true rfl)) dL_like_63 ⟨Nat.le_of_ble_eq_true rfl, Nat.le_of_ble_eq_true rfl⟩) (fun z63 hz63 => ?_)
              refine lv_goto (tgt := 73) hx hb dL_like_66 (by decide) ?_
              refine jr_iast hx hb hKK.k hP hD hS 0 rfl (x.length + 1) (by omega) (by omega) (by omega) dL_like_73 (fun H locs hP hD hS => ?_)
              have hP : PP g [aI g q2 61 (ju (ju f 0 ((x.length : Int) + 1)) (x.length + 1) z63)] H := hP
              have hD : va_D A [aI g q2 61 (ju (ju f 0 ((x.length : Int) + 1)) (x.length + 1) z63)] := hD
              refine jr_iinc (lv' := [(4, vi (((k : Int) + 1) + 1)), (5, vi z23), (3, .ref q2), (0, .ref a1), (1, .ref b0), (2, vi (i : Int))]) hx hb dL_like_74 hl (k := 1) rfl rfl (by decide) rfl (fun ls hl => ?_)
              refine lv_goto (tgt := 8) hx hb dL_like_77 (by decide) ?_
              exact ih8 (k + 1) (x ++ [z63]) _ (by omega) (hf.push (by omega) hz63) (by rw [List.length_append, List.length_singleton]; omega) (by omega) _ _ hP hD hS ls (lv_sub hl [0, 2, 3, 4, 5] rfl)
  exact lp8 _ 0 [] _ (Nat.zero_le _) (AT.nil) (by constructor <;> simp) (Nat.lt_succ_self _) _ _ hP hD hS ls (lv_sub hl [0, 1, 2, 3, 4] rfl)
