
theorem lkH_L_ask : GoodIn WSL (va_wsS RL 159 yL_ask ((Cond.codeWith yL_ask cL_ask 5 (some .int) [(0, 7, 8, 73), (0, 7, 14, 77), (0, 7, 20, 81)]) :: WSL)) := gd_app (List.forall_mem_cons.mpr ⟨wd_27_1, List.forall_mem_cons.mpr ⟨wd_27_2, List.forall_mem_cons.mpr ⟨wd_8_17, fun _ h => nomatch h⟩⟩⟩) (gdw wd_27_3)
theorem cwS_L_ask : yL_ask.cls ≠ "java/lang/invoke/MethodHandle" ∧ yL_ask.cls ≠ "java/lang/invoke/VarHandle" ∧ (parseMethodDescriptor yL_ask.desc).map (fun d => d.parameters.length) = some 4 := by decide +kernel
theorem pf_le {v : Nat → SV} {i n : Nat} (h : i ≤ n) : pf v i ≤ pf v n := by
  induction n with
  | zero => obtain rfl : i = 0 := by omega
            exact Nat.le_refl _
  | succ n ih =>
    rcases Nat.lt_or_ge i (n + 1) with q | q
    · have := ih (by omega); rw [pf]; omega
    · obtain rfl : i = n + 1 := by omega
      exact Nat.le_refl _
theorem pf_b {S : SGM} {doc : List Int} {i : Nat} (hd : DOC S doc) (h : i ≤ nS S) (hl : doc.length ≤ 60) : pf (sS S) i ≤ 60 := by
  have h1 := pf_le (v := sS S) h
  have h2 := hd.2
  omega
set_option maxHeartbeats 4000000 in
set_option maxRecDepth 100000 in
theorem m_L_segment (l : Launch) (hsT : l.stackTraces = false) (g : GT) (o : Nat) (S : SGM) (W9 : va_W) (hCW : CW g o S W9) (sz : Nat) (a1 : Nat) (x1 : List Int) (f1 : Nat → Int) (hx1 : AT x1 f1) (k : Nat) (hk : k < nS S) (hd : DOC S x1) (hd_hP1 : ∀ x ∈ ([aI g a1 61 f1] : va_W).map (·.1), x ∉ W9.map (·.1)) : Met l yL_segment (ws_ yL_segment cL_segment 6 (some (.array .int))) (rmm 10 62 427) (jPc g [.ref o, .ref a1, vi (k : Int)] (fun H => H.size = sz ∧ PP g W9 H ∧ va_D (fun q => gb g ≤ q) W9 ∧ PP g [aI g a1 61 f1] H)) (jQr (fun a9 H1 => ∃ (x : XF) (w1 : va_W), (AT x.1 x.2 ∧ x.1 = (sS S k).1) ∧ CW g o S w1 ∧ PP g (aT g a9 x :: w1) H1 ∧ va_D (va_A W9 sz) (aT g a9 x :: w1)) (va_A W9 sz)) 62 427 (va_A W9 sz) := by
  refine jb_M (by decide) (Nat.le_of_ble_eq_true rfl) ?_
  intro p e s m below meth cq hx hb hr hml hown htl hlk hnm hKK hpre ls hl
  have hown : s.vm.findClass RL = some m.cls := hown
  obtain ⟨hsz, hP, hD0, hP1⟩ := hpre
  subst hsz
  have hAb : ∀ q, (va_A W9 s.heap.size) q → gb g ≤ q := fun q h => h.elim (fun ⟨k, e, h⟩ => hD0.2 k _ h) (fun h => Nat.le_trans hKK.2.1 h)
  have hD : va_D (va_A W9 s.heap.size) W9 := hD0.self
  have ap_hP1 := japS hP1 rfl hd_hP1
  generalize hAe : va_A W9 s.heap.size = A at *
  have hA : ∀ q, s.heap.size ≤ q → A q := fun q h => by rw [← hAe]; exact Or.inr h
  have hS : va_S A s.heap s.heap [] := va_S.rf
  have hl : lv_has ls 6 [(0, .ref o), (1, .ref a1), (2, vi (k : Int))] := hl
  have hd60 := CW.d60 hCW
  have hn60 := CW.n60 hCW
  have hl1 := hx1.len
  have hdk := hd.1 k hk
  suffices K : ∀ (w9 : va_W) (H : Heap) (locs : List Loc), CW g o S w9 → PP g w9 H → va_D A w9 → va_S A s.heap H locs → ∀ ls : Array Slot, lv_has ls 6 [(0, .ref o), (1, .ref a1), (2, vi (k : Int))] → W p l e (rmm 10 62 427) s m ([.ref o, .ref a1, vi (k : Int)] : List Value).toArray below meth cq H locs 0 0 (MQ below (jQr (fun a9 H1 => ∃ (x : XF) (w1 : va_W), (AT x.1 x.2 ∧ x.1 = (sS S k).1) ∧ CW g o S w1 ∧ PP g (aT g a9 x :: w1) H1 ∧ va_D A (aT g a9 x :: w1)) A) ([.ref o, .ref a1, vi (k : Int)] : List Value).toArray s 62 427 A) (F0 m 0 ls []) from K _ _ _ hCW hP hD hS _ hl
  clear hl hP hD hS; intro w9 H locs hC hP hD hS ls hl
  refine jr_iconst hx hb dL_segment_0 ?_
  refine lv_istore_n (lv' := [(3, vi 1), (0, .ref o), (1, .ref a1), (2, vi (k : Int))]) hx hb dL_segment_1 rfl hl (by decide) rfl (fun ls hl => ?_)
  refine jr_iconst hx hb dL_segment_2 ?_
  refine lv_istore (lv' := [(4, vi 0), (3, vi 1), (0, .ref o), (1, .ref a1), (2, vi (k : Int))]) hx hb dL_segment_3 hl (by decide) rfl (fun ls hl => ?_)
  have lp5 : ∀ (N : Nat) (i : Nat) (w5 : va_W), (i ≤ k) → (CW g o S w5) → k - i < N → ∀ (H : Heap) (locs : List Loc), PP g w5 H → va_D A w5 → va_S A s.heap H locs → ∀ ls : Array Slot, lv_has ls 6 [(4, vi (i : Int)), (3, vi ((pf (sS S) i + 1 : Nat) : Int)), (0, .ref o), (1, .ref a1), (2, vi (k : Int))] → W p l e (rmm 10 62 427) s m ([.ref o, .ref a1, vi (k : Int)] : List Value).toArray below meth cq H locs (0 + 1 * i) (0 + 6 * i) (MQ below (jQr (fun a9 H1 => ∃ (x : XF) (w1 : va_W), (AT x.1 x.2 ∧ x.1 = (sS S k).1) ∧ CW g o S w1 ∧ PP g (aT g a9 x :: w1) H1 ∧ va_D A (aT g a9 x :: w1)) A) ([.ref o, .ref a1, vi (k : Int)] : List Value).toArray s 62 427 A) (F0 m 5 ls []) := by
    intro N
    induction N with
    | zero => intro i w5 hi hC hM; exact absurd hM (Nat.not_lt_zero _)
    | succ N ih5 =>
      intro i w5 hi hC hM H locs hP hD hS ls hl
      have hpb : pf (sS S) i ≤ 60 := pf_b hd (by omega) hl1
      refine lv_iload hx hb dL_segment_5 (lv_at hl 0 rfl) ?_
      refine lv_iload_n hx hb dL_segment_7 rfl (lv_at hl 4 rfl) ?_
      refine jr_ge (tgt := 29) hx hb dL_segment_8 (by decide) ⟨by omega, by omega⟩ ⟨by omega, by omega⟩ (fun c8 => ?_) (fun c8 => ?_)
      · have hik : i = k := by omega
        have hl : lv_has ls 6 [(4, vi (i : Int)), (3, vi ((pf (sS S) k + 1 : Nat) : Int)), (0, .ref o), (1, .ref a1), (2, vi (k : Int))] := (show (((pf (sS S) i + 1 : Nat) : Int) : Int) = ((pf (sS S) k + 1 : Nat) : Int) from by rw [hik]) ▸ hl
        have hlk9 := (CW.sct hC k).1.1
        refine jr_bipush hx hb dL_segment_29 (by decide) ?_
        refine va_newaK (atype := .int) hx hb (htl _ wd_1_4) (g := F0 m 31 ls [vi 61]) rfl dL_segment_31 rfl (N := 61) (by decide) (by decide) (by decide) (by show _ ≤ 62; omega) (by show _ ≤ 427; omega) rfl (fun H1 cA e1 z1 o1 hAr hNm => ?_)
        obtain rfl : cA = gI g := Option.some.inj (hNm.symm.trans (hKK.k.2 0 _ rfl).2)
        obtain ⟨q31, hq31⟩ : ∃ q, q = H.size := ⟨_, rfl⟩
        rw [← hq31] at e1 ⊢
        obtain ⟨hP, hD, hS⟩ : PP g (w5 ++ [aI g q31 61 (fun _ => 0)]) H1 ∧ va_D A (w5 ++ [aI g q31 61 (fun _ => 0)]) ∧ va_S A s.heap H1 locs := jnew hP hD hS hA hq31 (by exact e1) z1 o1
        clear e1 z1 o1; generalize H1 = H at hP hD hS ⊢
        have hP : PP g ([aI g q31 61 (fun _ => 0)] ++ w5) H := hP.perm (List.perm_append_singleton _ _)
        have hD : va_D A ([aI g q31 61 (fun _ => 0)] ++ w5) := hD.perm (List.perm_append_singleton _ _)
        refine W.widen (k := ((0 + 1 * i) + 1)) (n := ((0 + 6 * i) + 61)) (by omega) (by omega) ?_
        refine W.eq (g2 := F0 m 33 ls [.ref q31]) rfl ?_
        refine lv_astore (lv' := [(4, .ref q31), (3, vi ((pf (sS S) k + 1 : Nat) : Int)), (0, .ref o), (1, .ref a1), (2, vi (k : Int))]) hx hb dL_segment_33 hl (by decide) rfl (fun ls hl => ?_)
        refine lv_aload hx hb dL_segment_35 (lv_at hl 0 rfl) ?_
        refine jr_iconst hx hb dL_segment_37 ?_
        refine lv_aload_n hx hb dL_segment_38 rfl (lv_at hl 2 rfl) ?_
        refine jr_bipush hx hb dL_segment_39 (by decide) ?_
        refine lv_iload_n hx hb dL_segment_41 rfl (lv_at hl 4 rfl) ?_
        refine jr_iconst hx hb dL_segment_42 ?_
        refine kl_Qi (cs := [aI g q31 61 (fun _ => 0)]) (vx_runSW (As := [.ref o, vi 12, vi (k : Int), vi 0]) (rest := [vi 0, .ref q31]) ⟨hx, hb, hml, hown, htl⟩ (m_L_ask_segmentLength l hsT g o S w5 hC H.size (k : Int) ⟨by omega, by omega⟩ 0) (vx_cwSW 4 htl lkH_L_ask rfl rfl rfl cwS_L_ask ⟨Nat.le_of_ble_eq_true rfl, Nat.le_of_ble_eq_true rfl⟩) (jp_S hKK hS hAb ⟨rfl, (kw_P (cs := [aI g q31 61 (fun _ => 0)]) hP), (hD.right (a := [aI g q31 61 (fun _ => 0)])).weaken (fun _ q _ h => hAb _ h)⟩) rfl rfl hl.1 rfl (lv_room (Nat.le_of_ble_eq_true rfl)) dL_segment_43 ⟨by show _ ≤ 62; omega, by show _ ≤ 427; omega⟩) hP hD hS hA ?_
        clear hP hD hS hC; intro z43 H locs w43 hz43 hC hP hD hS
        have hP : PP g ([aI g q31 61 (fun _ => 0)] ++ w43) H := hP
        have hD : va_D A ([aI g q31 61 (fun _ => 0)] ++ w43) := hD
        refine W.widen (k := ((0 + 1 * i) + 2)) (n := ((0 + 6 * i) + 67)) (by omega) (by omega) ?_
        have hz43 : z43 = ((sS S k).1.length : Int) := hz43.trans (aq12 hk)
        subst hz43
        refine jr_iast hx hb hKK.k hP hD hS 0 rfl 0 (by omega) (by omega) (by omega) dL_segment_46 (fun H locs hP hD hS => ?_)
        have hP : PP g ([aI g q31 61 (ju (fun _ => 0) 0 ((sS S k).1.length : Int))] ++ w43) H := hP
        have hD : va_D A ([aI g q31 61 (ju (fun _ => 0) 0 ((sS S k).1.length : Int))] ++ w43) := hD
        refine jr_iconst hx hb dL_segment_47 ?_
        refine lv_istore (lv' := [(5, vi 0), (4, .ref q31), (3, vi ((pf (sS S) k + 1 : Nat) : Int)), (0, .ref o), (1, .ref a1), (2, vi (k : Int))]) hx hb dL_segment_48 hl (by decide) rfl (fun ls hl => ?_)
        have lp50 : ∀ (N : Nat) (j : Nat) (f : Nat → Int) (w50 : va_W), (j ≤ (sS S k).1.length) → (ATp j ((sS S k).1.length : Int) ((sS S k).1.take j) f) → (CW g o S w50) → (sS S k).1.length - j < N → ∀ (H : Heap) (locs : List Loc), PP g ([aI g q31 61 f] ++ w50) H → va_D A ([aI g q31 61 f] ++ w50) → va_S A s.heap H locs → ∀ ls : Array Slot, lv_has ls 6 [(5, vi (j : Int)), (4, .ref q31), (3, vi ((pf (sS S) k + 1 : Nat) : Int)), (0, .ref o), (1, .ref a1), (2, vi (k : Int))] → W p l e (rmm 10 62 427) s m ([.ref o, .ref a1, vi (k : Int)] : List Value).toArray below meth cq H locs ((0 + 1 * i) + 2) ((0 + 6 * i) + 67) (MQ below (jQr (fun a9 H1 => ∃ (x : XF) (w1 : va_W), (AT x.1 x.2 ∧ x.1 = (sS S k).1) ∧ CW g o S w1 ∧ PP g (aT g a9 x :: w1) H1 ∧ va_D A (aT g a9 x :: w1)) A) ([.ref o, .ref a1, vi (k : Int)] : List Value).toArray s 62 427 A) (F0 m 50 ls []) := by
          intro N
          induction N with
          | zero => intro j f w50 hj hf hC hM; exact absurd hM (Nat.not_lt_zero _)
          | succ N ih50 =>
            intro j f w50 hj hf hC hM H locs hP hD hS ls hl
            refine lv_iload hx hb dL_segment_50 (lv_at hl 0 rfl) ?_
            refine lv_aload hx hb dL_segment_52 (lv_at hl 1 rfl) ?_
            refine jr_iconst hx hb dL_segment_54 ?_
            refine jr_iald hx hb hKK.k hP 0 rfl 0 (by omega) (by omega) (by omega) dL_segment_55 ?_
            refine jr_nm (b := ((sS S k).1.length : Int)) (hf.1) ?_
            refine jr_ge (tgt := 78) hx hb dL_segment_56 (by decide) ⟨by omega, by omega⟩ ⟨by omega, by omega⟩ (fun c56 => ?_) (fun c56 => ?_)
            · refine lv_aload hx hb dL_segment_78 (lv_at hl 1 rfl) ?_
              refine W.widen (k := 62) (n := 427) (by omega) (by omega) ?_
              exact je_QrA hx hb hr hlk hS (⟨((sS S k).1, f), w50, ⟨by have h9 := hf; rw [show j = (sS S k).1.length by omega, List.take_length] at h9; exact ATp.at h9 (by omega), rfl⟩, hC, hP, hD⟩) dL_segment_80
            · refine lv_aload hx hb dL_segment_59 (lv_at hl 1 rfl) ?_
              refine jr_iconst hx hb dL_segment_61 ?_
              refine lv_iload hx hb dL_segment_62 (lv_at hl 0 rfl) ?_
              refine jr_iadd hx hb dL_segment_64 ?_
              refine lv_aload_n hx hb dL_segment_65 rfl (lv_at hl 4 rfl) ?_
              refine lv_iload_n hx hb dL_segment_66 rfl (lv_at hl 2 rfl) ?_
              refine lv_iload hx hb dL_segment_67 (lv_at hl 0 rfl) ?_
              refine jr_iadd hx hb dL_segment_69 ?_
              refine jr_iald hx hb hKK.k (jat hP1 hS ap_hP1) 0 rfl (pf (sS S) k + j + 1) (by omega) (by omega) (by omega) dL_segment_70 ?_
              refine jr_nm (b := (sS S k).1.getD j 0) ((hx1.s (by omega)).trans (hdk.2 j (by omega)).symm) ?_
              have hvj : VT ((sS S k).1.getD j 0) := by rw [hdk.2 j (by omega)]; exact hx1.v (by omega)
              refine jr_iast hx hb hKK.k hP hD hS 0 rfl (j + 1) (by omega) (by omega) (by omega) dL_segment_71 (fun H locs hP hD hS => ?_)
              have hP : PP g ([aI g q31 61 (ju f (j + 1) ((sS S k).1.getD j 0))] ++ w50) H := hP
              have hD : va_D A ([aI g q31 61 (ju f (j + 1) ((sS S k).1.getD j 0))] ++ w50) := hD
              refine jr_iinc (lv' := [(5, vi ((j : Int) + 1)), (4, .ref q31), (3, vi ((pf (sS S) k + 1 : Nat) : Int)), (0, .ref o), (1, .ref a1), (2, vi (k : Int))]) hx hb dL_segment_72 hl (k := 0) rfl rfl (by decide) rfl (fun ls hl => ?_)
              refine lv_goto (tgt := 50) hx hb dL_segment_75 (by decide) ?_
              exact ih50 (j + 1) _ _ (by omega) (by rw [tk_s1 (by omega)]; exact hf.push hvj) (hC) (by omega) _ _ hP hD hS ls (lv_sub hl [0, 1, 2, 3, 4, 5] rfl)
        exact lp50 _ 0 _ _ (Nat.zero_le _) (ATp.z (ju_s _ _ _)) (hC) (Nat.lt_succ_self _) _ _ hP hD hS ls (lv_sub hl [0, 1, 2, 3, 4, 5] rfl)
      · refine lv_iload_n hx hb dL_segment_11 rfl (lv_at hl 1 rfl) ?_
        refine lv_aload_n hx hb dL_segment_12 rfl (lv_at hl 2 rfl) ?_
        refine jr_bipush hx hb dL_segment_13 (by decide) ?_
        refine lv_iload hx hb dL_segment_15 (lv_at hl 0 rfl) ?_
        refine jr_iconst hx hb dL_segment_17 ?_
        refine kl_Qi (cs := []) (vx_runSW (As := [.ref o, vi 12, vi (i : Int), vi 0]) (rest := [vi ((pf (sS S) i + 1 : Nat) : Int)]) ⟨hx, hb, hml, hown, htl⟩ (m_L_ask_segmentLength l hsT g o S w5 hC H.size (i : Int) ⟨by omega, by omega⟩ 0) (vx_cwSW 4 htl lkH_L_ask rfl rfl rfl cwS_L_ask ⟨Nat.le_of_ble_eq_true rfl, Nat.le_of_ble_eq_true rfl⟩) (jp_S hKK hS hAb ⟨rfl, (kw_P (cs := []) hP), hD.weaken (fun _ q _ h => hAb _ h)⟩) rfl rfl hl.1 rfl (lv_room (Nat.le_of_ble_eq_true rfl)) dL_segment_18 ⟨by show _ ≤ 62; omega, by show _ ≤ 427; omega⟩) hP hD hS hA ?_
        clear hP hD hS hC; intro z18 H locs w18 hz18 hC hP hD hS
        have hP : PP g w18 H := hP
        have hD : va_D A w18 := hD
        refine W.widen (k := ((0 + 1 * i) + 1)) (n := ((0 + 6 * i) + 6)) (by omega) (by omega) ?_
        have hz18 : z18 = ((sS S i).1.length : Int) := hz18.trans (aq12 (by omega))
        subst hz18
        refine jr_iadd hx hb dL_segment_21 ?_
        refine lv_istore_n (lv' := [(3, vi (((pf (sS S) i + 1 : Nat) : Int) + ((sS S i).1.length : Int))), (4, vi (i : Int)), (0, .ref o), (1, .ref a1), (2, vi (k : Int))]) hx hb dL_segment_22 rfl hl (by decide) rfl (fun ls hl => ?_)
        refine jr_iinc (lv' := [(4, vi ((i : Int) + 1)), (3, vi (((pf (sS S) i + 1 : Nat) : Int) + ((sS S i).1.length : Int))), (0, .ref o), (1, .ref a1), (2, vi (k : Int))]) hx hb dL_segment_23 hl (k := 1) rfl rfl (by decide) rfl (fun ls hl => ?_)
        have hl : lv_has ls 6 [(4, vi ((i : Int) + 1)), (3, vi ((pf (sS S) (i + 1) + 1 : Nat) : Int)), (0, .ref o), (1, .ref a1), (2, vi (k : Int))] := (show ((((pf (sS S) i + 1 : Nat) : Int) + ((sS S i).1.length : Int)) : Int) = ((pf (sS S) (i + 1) + 1 : Nat) : Int) from by rw [pf]; omega) ▸ hl
        refine lv_goto (tgt := 5) hx hb dL_segment_26 (by decide) ?_
        refine W.widen (k := (0 + 1 * (i + 1))) (n := (0 + 6 * (i + 1))) (by omega) (by omega) ?_
        exact ih5 (i + 1) _ (by omega) (hC) (by omega) _ _ hP hD hS ls (lv_sub hl [0, 1, 2, 3, 4] rfl)
  refine W.widen (k := 0 + 1 * 0) (n := 0 + 6 * 0) (by omega) (by omega) ?_
  exact lp5 _ 0 _ (Nat.zero_le _) (hC) (Nat.lt_succ_self _) _ _ hP hD hS ls (lv_sub hl [0, 1, 2, 3, 4] rfl)
