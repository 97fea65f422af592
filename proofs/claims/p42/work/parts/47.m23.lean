
theorem lkF_X0_30 : GoodIn WSL (va_wsF RX0 30 RJx4a65c ⟨"java/util/List", "clear", "()V"⟩ yJx4a65c_clear_da8c8 (ws_ yJx4a65c_clear_da8c8 cJx4a65c_clear_da8c8 4 none)) := gd_app (List.forall_mem_cons.mpr ⟨wd_18_9, List.forall_mem_cons.mpr ⟨wd_18_10, List.forall_mem_cons.mpr ⟨wd_18_11, List.forall_mem_cons.mpr ⟨wd_3_6, fun _ h => nomatch h⟩⟩⟩⟩) (gd_ wd_18_12)
theorem cwF_3 : (⟨"java/util/List", "clear", "()V"⟩ : MethodName).cls ≠ "java/lang/invoke/MethodHandle" ∧ (⟨"java/util/List", "clear", "()V"⟩ : MethodName).cls ≠ "java/lang/invoke/VarHandle" ∧ (parseMethodDescriptor (⟨"java/util/List", "clear", "()V"⟩ : MethodName).desc).map (fun d => d.parameters.length) = some 0 := by decide +kernel
theorem lk_X0_33 : GoodIn WSL (wsV RX0 33 RX6 yX6_size (ws_ yX6_size cX6_size 1 (some .int))) := gd_app (List.forall_mem_cons.mpr ⟨wd_18_13, List.forall_mem_cons.mpr ⟨wd_8_3, List.forall_mem_cons.mpr ⟨wd_8_4, List.forall_mem_cons.mpr ⟨wd_1_13, fun _ h => nomatch h⟩⟩⟩⟩) (gd_ wd_8_5)
theorem cwS_X4_init : yX4_init.cls ≠ "java/lang/invoke/MethodHandle" ∧ yX4_init.cls ≠ "java/lang/invoke/VarHandle" ∧ (parseMethodDescriptor yX4_init.desc).map (fun d => d.parameters.length) = some 0 := by decide +kernel
theorem lk_X0_54 : GoodIn WSL (wsV RX0 54 RX6 yX6_copyRange (ws_ yX6_copyRange cX6_copyRange 5 none)) := gd_app (List.forall_mem_cons.mpr ⟨wd_19_10, List.forall_mem_cons.mpr ⟨wd_12_21, List.forall_mem_cons.mpr ⟨wd_12_22, List.forall_mem_cons.mpr ⟨wd_1_13, fun _ h => nomatch h⟩⟩⟩⟩) (gd_ wd_12_23)
theorem lkF_X0_58 : GoodIn WSL (va_wsF RX0 58 RJx4a65c ⟨"java/util/List", "add", "(Ljava/lang/Object;)Z"⟩ yJx4a65c_add_9ea2d (ws_ yJx4a65c_add_9ea2d cJx4a65c_add_9ea2d 2 (some .boolean))) := gd_app (List.forall_mem_cons.mpr ⟨wd_19_11, List.forall_mem_cons.mpr ⟨wd_14_14, List.forall_mem_cons.mpr ⟨wd_14_15, List.forall_mem_cons.mpr ⟨wd_3_6, fun _ h => nomatch h⟩⟩⟩⟩) (gd_ wd_14_16)
theorem lk_X0_36 : GoodIn WSL (va_wsS RX0 36 yX0_isEnd (ws_ yX0_isEnd cX0_isEnd 7 (some .boolean))) := gd_app (List.forall_mem_cons.mpr ⟨wd_18_14, List.forall_mem_cons.mpr ⟨wd_18_15, List.forall_mem_cons.mpr ⟨wd_2_10, fun _ h => nomatch h⟩⟩⟩) (gd_ wd_18_16)
theorem cwS_X0_isEnd : yX0_isEnd.cls ≠ "java/lang/invoke/MethodHandle" ∧ yX0_isEnd.cls ≠ "java/lang/invoke/VarHandle" ∧ (parseMethodDescriptor yX0_isEnd.desc).map (fun d => d.parameters.length) = some 3 := by decide +kernel
set_option maxHeartbeats 4000000 in
set_option maxRecDepth 100000 in
theorem m_X0_cut (l : Launch) (g : GT) (d rows : Nat) (xs : List Nat) (lw : va_W) (hL : LW g rows xs lw) (a c : Nat) (t : List Int) (f : Nat → Int) (hf : TT t f) (ba : Nat) (ab : Nat → Int) (hab : ∀ j, j < 100 → ab j = 0 ∨ ab j = 1) (sz : Nat) (hnx : ∀ x ∈ ([a, c] : List Nat), x ∉ ([ob d 0 [.ref rows]] ++ lw).map (·.1)) (hnb : ∀ x ∈ ([ba] : List Nat), x ∉ ([ob d 0 [.ref rows]] ++ lw).map (·.1)) : Met l yX0_cut (ws_ yX0_cut cX0_cut 8 none) (rmm 7 360 13020) (jPc g [.ref d, .ref a, .ref ba] (fun H => H.size = sz ∧ PP g ([ob d 0 [.ref rows]] ++ lw) H ∧ va_D (fun q => gb g ≤ q) ([ob d 0 [.ref rows]] ++ lw) ∧ PP g [ob a 6 [.ref c, vi (t.length : Int)], aI g c 60 f] H ∧ PP g [aZ g ba 100 ab] H)) (jQv (fun H1 => ∃ (ss1 : List SR) (lw3 : va_W), LW g rows (ss1.map sA) lw3 ∧ (∀ u ∈ ss1, SOK u) ∧ ss1.map sV = (ctP ab t t.length).1.map s0v ∧ ss1.length ≤ 60 ∧ PP g ([ob d 0 [.ref rows]] ++ DR g ss1 lw3) H1 ∧ va_D (va_A ([ob d 0 [.ref rows]] ++ lw) sz) ([ob d 0 [.ref rows]] ++ DR g ss1 lw3)) (va_A ([ob d 0 [.ref rows]] ++ lw) sz)) 360 13020 (va_A ([ob d 0 [.ref rows]] ++ lw) sz) := by
  refine jb_M (by decide) (Nat.le_of_ble_eq_true rfl) ?_
  intro p e s m below meth cq hx hb hr hml hown htl hlk hnm hKK hpre ls hl
  have hown : s.vm.findClass RX0 = some m.cls := hown
  have hl : lv_has ls 8 [(0, .ref d), (1, .ref a), (2, .ref ba)] := hl
  obtain ⟨hsz, hP, hD0, hPx, hPab⟩ := hpre
  subst hsz
  have hfl := hf.len
  have ap_hPx : ∀ (k : Nat) (q : Nat × va_E), ([ob a 6 [.ref c, vi (t.length : Int)], aI g c 60 f] : va_W)[k]? = some q → ¬ (va_A ([ob d 0 [.ref rows]] ++ lw) s.heap.size) q.1 := japS hPx rfl (hnx)
  have ap_hPab : ∀ (k : Nat) (q : Nat × va_E), ([aZ g ba 100 ab] : va_W)[k]? = some q → ¬ (va_A ([ob d 0 [.ref rows]] ++ lw) s.heap.size) q.1 := japS hPab rfl (hnb)
  have hD : va_D (va_A ([ob d 0 [.ref rows]] ++ lw) s.heap.size) ([ob d 0 [.ref rows]] ++ lw) := hD0.self
  have hAb : ∀ q, (va_A ([ob d 0 [.ref rows]] ++ lw) s.heap.size) q → gb g ≤ q := fun q h => h.elim (fun ⟨k, e, h⟩ => hD0.2 k _ h) (fun h => Nat.le_trans hKK.2.1 h)
  generalize hAe : va_A ([ob d 0 [.ref rows]] ++ lw) s.heap.size = A at *
  have hA : ∀ q, s.heap.size ≤ q → A q := fun q h => by rw [← hAe]; exact Or.inr h
  have hS : va_S A s.heap s.heap [] := va_S.rf
  suffices K : ∀ (H : Heap) (locs : List Loc), PP g ([ob d 0 [.ref rows]] ++ lw) H → va_D A ([ob d 0 [.ref rows]] ++ lw) → va_S A s.heap H locs → ∀ ls : Array Slot, lv_has ls 8 [(0, .ref d), (1, .ref a), (2, .ref ba)] → W p l e (rmm 7 360 13020) s m ([.ref d, .ref a, .ref ba] : List Value).toArray below meth cq H locs 0 0 (MQ below (jQv (fun H1 => ∃ (ss1 : List SR) (lw3 : va_W), LW g rows (ss1.map sA) lw3 ∧ (∀ u ∈ ss1, SOK u) ∧ ss1.map sV = (ctP ab t t.length).1.map s0v ∧ ss1.length ≤ 60 ∧ PP g ([ob d 0 [.ref rows]] ++ DR g ss1 lw3) H1 ∧ va_D (A) ([ob d 0 [.ref rows]] ++ DR g ss1 lw3)) A) ([.ref d, .ref a, .ref ba] : List Value).toArray s 360 13020 A) (F0 m 0 ls []) from K _ _ hP hD hS _ hl
  clear hl; intro H locs hP hD hS ls hl
  refine lv_aload_n hx hb dX0_cut_0 rfl (lv_at hl 0 rfl) ?_
  refine va_get (D := gD g) (ci := 0) (v := .ref rows) (C := RX0) (T := TX0) (N := 1) hx hb htl ck_X0 hown hKK.k hP 0 rfl rfl 0 (by decide) (htl _ wd_5_5) (fun _ h9 => h9) rfl dX0_cut_1 ?_
  have hpm : ([ob d 0 [.ref rows]] ++ lw).Perm (lw ++ [ob d 0 [.ref rows]]) := List.perm_append_comm
  have hPl : PP g lw H := hP.mem fun q h => List.mem_append_right _ h
  have hDl : va_D A lw := hD.right
  have hFl := va_A_sub hDl hS.1 hA
  refine jk5_Qv (va_runF (As := []) (rest := []) (hKK.k.1 11 _ rfl).2 ⟨hx, hb, hml, hown, htl⟩ (m_Lclear l g rows xs lw H.size hL) (va_cwF 0 htl lkF_X0_30 rfl rfl rfl (fw_3 hKK) cwF_3 ⟨Nat.le_of_ble_eq_true rfl, Nat.le_of_ble_eq_true rfl⟩) (jp_V hKK hS hAb (LW.recv hKK hL hPl) ⟨rfl, hPl, hDl.weaken (fun _ q _ h => hAb _ h)⟩) rfl rfl hl.1 rfl (lv_room (Nat.le_of_ble_eq_true rfl)) dX0_cut_4 ⟨Nat.le_of_ble_eq_true rfl, Nat.le_of_ble_eq_true rfl⟩) hS (fun q _ h => hFl q h) hFl (fun H1 locs hz4 hzs hks hS => ?_)
  obtain ⟨lw3, hL3, hP1, hD1⟩ := hz4
  obtain ⟨hP, hD⟩ := jjoin hP hD hpm hks hFl hP1 hD1
  clear hpm hzs hks; generalize H1 = H at hP hD hS hP1 ⊢
  have hpn : (lw3 ++ [ob d 0 [.ref rows]]).Perm ([ob d 0 [.ref rows]] ++ DR g [] lw3) := by unfold DR; rw [List.flatMap_nil, List.append_nil]; exact List.perm_append_comm
  have hP : PP g ([ob d 0 [.ref rows]] ++ DR g [] lw3) H := hP.perm hpn
  have hD : va_D A ([ob d 0 [.ref rows]] ++ DR g [] lw3) := hD.perm hpn
  clear hpn hPl hDl hFl hP1 hD1
  refine jr_iconst hx hb dX0_cut_9 ?_
  refine lv_istore_n (lv' := [(3, vi 0), (0, .ref d), (1, .ref a), (2, .ref ba)]) hx hb dX0_cut_10 rfl hl (by decide) rfl (fun ls hl => ?_)
  refine jr_iconst hx hb dX0_cut_11 ?_
  refine lv_istore (lv' := [(4, vi 0), (3, vi 0), (0, .ref d), (1, .ref a), (2, .ref ba)]) hx hb dX0_cut_12 hl (by decide) rfl (fun ls hl => ?_)
  refine jr_iconst hx hb dX0_cut_14 ?_
  refine lv_istore (lv' := [(5, vi 0), (4, vi 0), (3, vi 0), (0, .ref d), (1, .ref a), (2, .ref ba)]) hx hb dX0_cut_15 hl (by decide) rfl (fun ls hl => ?_)
  have lp17 : ∀ (N : Nat) (i b : Nat) (ce : Int) (ss1 : List SR) (lw3 : va_W), (i ≤ t.length) → (b = (ctP ab t i).2.1) → (ce = i01 ((ctP ab t i).2.2 = true)) → (ce = 0 ∨ ce = 1) → (LW g rows (ss1.map sA) lw3) → (∀ u ∈ ss1, SOK u) → (ss1.map sV = (ctP ab t i).1.map s0v) → t.length - i < N → ∀ (H : Heap) (locs : List Loc), PP g ([ob d 0 [.ref rows]] ++ DR g ss1 lw3) H → va_D A ([ob d 0 [.ref rows]] ++ DR g ss1 lw3) → va_S A s.heap H locs → ∀ ls : Array Slot, lv_has ls 8 [(5, vi (i : Int)), (4, vi ce), (3, vi (b : Int)), (0, .ref d), (1, .ref a), (2, .ref ba)] → W p l e (rmm 7 360 13020) s m ([.ref d, .ref a, .ref ba] : List Value).toArray below meth cq H locs (6 * i) (217 * i) (MQ below (jQv (fun H1 => ∃ (ss1 : List SR) (lw3 : va_W), LW g rows (ss1.map sA) lw3 ∧ (∀ u ∈ ss1, SOK u) ∧ ss1.map sV = (ctP ab t t.length).1.map s0v ∧ ss1.length ≤ 60 ∧ PP g ([ob d 0 [.ref rows]] ++ DR g ss1 lw3) H1 ∧ va_D (A) ([ob d 0 [.ref rows]] ++ DR g ss1 lw3)) A) ([.ref d, .ref a, .ref ba] : List Value).toArray s 360 13020 A) (F0 m 17 ls []) := by
    intro N
    induction N with
    | zero => intro i b ce ss1 lw3 hi hb9 hce hcb hL3 hSO1 hF hM; exact absurd hM (Nat.not_lt_zero _)
    | succ N ih17 =>
      intro i b ce ss1 lw3 hi hb9 hce hcb hL3 hSO1 hF hM H locs hP hD hS ls hl
      have hctb := ctP_b ab t i
      have hbi : b ≤ i := by rw [hb9]; exact hctb.1
      have hsl : ss1.length ≤ i := by have h := congrArg List.length hF; rw [List.length_map, List.length_map] at h; omega
      refine lv_iload hx hb dX0_cut_17 (lv_at hl 0 rfl) ?_
      refine lv_aload_n hx hb dX0_cut_19 rfl (lv_at hl 4 rfl) ?_
      refine jk_Si (va_runV (As := []) (rest := [vi (i : Int)]) ⟨hx, hb, hml, hown, htl⟩ (m_X6_size l g a c t f hf  ) (cwV 0 htl lk_X0_33 rfl rfl rfl cwV_X6_size ⟨Nat.le_of_ble_eq_true rfl, Nat.le_of_ble_eq_true rfl⟩) (jp_V hKK hS hAb (va_recv hKK.k (jat hPx hS ap_hPx) (ci := 6) (q0 := 0) rfl rfl) (jat hPx hS ap_hPx)) rfl rfl hl.1 rfl (lv_room (Nat.le_of_ble_eq_true rfl)) dX0_cut_20 ⟨by show _ ≤ 360; omega, by show _ ≤ 13020; omega⟩) (fun z20 hz20 => ?_)
      subst hz20
      refine jr_ge (tgt := 140) hx hb dX0_cut_23 (by decide) ⟨by omega, by omega⟩ ⟨by omega, by omega⟩ (fun c23 => ?_) (fun c23 => ?_)
      · refine W.widen (k := 360) (n := 13020) (by omega) (by omega) ?_
        exact je_Qv hx hb hr hlk hS (by obtain rfl : i = t.length := (by omega); exact ⟨ss1, lw3, hL3, hSO1, hF, by omega, hP, hD⟩) dX0_cut_140
      · refine lv_iload hx hb dX0_cut_26 (lv_at hl 1 rfl) ?_
        refine jr_ifne (tgt := 41) hx hb dX0_cut_28 (by decide) ⟨by omega, by omega⟩ (fun c28 => ?_) (fun c28 => ?_)
        · have hor : ((ctP ab t i).2.2 || isE ab t (i : Int)) = true := by rw [hce] at c28; rw [i01t c28]; rfl
          refine jr_iconst hx hb dX0_cut_41 ?_
          refine lv_goto (tgt := 46) hx hb dX0_cut_42 (by decide) ?_
          refine lv_istore (lv' := [(4, vi 1), (5, vi (i : Int)), (3, vi (b : Int)), (0, .ref d), (1, .ref a), (2, .ref ba)]) hx hb dX0_cut_46 hl (by decide) rfl (fun ls hl => ?_)
          refine lv_iload hx hb dX0_cut_48 (lv_at hl 1 rfl) ?_
          refine jr_iconst hx hb dX0_cut_50 ?_
          refine jr_iadd hx hb dX0_cut_51 ?_
          refine lv_aload_n hx hb dX0_cut_52 rfl (lv_at hl 4 rfl) ?_
          refine jk_Si (va_runV (As := []) (rest := [vi ((i : Int) + 1)]) ⟨hx, hb, hml, hown, htl⟩ (m_X6_size l g a c t f hf  ) (cwV 0 htl lk_X0_33 rfl rfl rfl cwV_X6_size ⟨Nat.le_of_ble_eq_true rfl, Nat.le_of_ble_eq_true rfl⟩) (jp_V hKK hS hAb (va_recv hKK.k (jat hPx hS ap_hPx) (ci := 6) (q0 := 0) rfl rfl) (jat hPx hS ap_hPx)) rfl rfl hl.1 rfl (lv_room (Nat.le_of_ble_eq_true rfl)) dX0_cut_53 ⟨by show _ ≤ 360; omega, by show _ ≤ 13020; omega⟩) (fun z53 hz53 => ?_)
          subst hz53
          refine jr_ne (tgt := 63) hx hb dX0_cut_56 (by decide) ⟨by omega, by omega⟩ ⟨by omega, by omega⟩ (fun c56 => ?_) (fun c56 => ?_)
          · refine jr_iconst hx hb dX0_cut_63 ?_
            refine lv_istore (lv' := [(6, vi 0), (4, vi 1), (5, vi (i : Int)), (3, vi (b : Int)), (0, .ref d), (1, .ref a), (2, .ref ba)]) hx hb dX0_cut_64 hl (by decide) rfl (fun ls hl => ?_)
            refine lv_iload hx hb dX0_cut_66 (lv_at hl 0 rfl) ?_
            refine jr_ifne (tgt := 91) hx hb dX0_cut_68 (by decide) ⟨by omega, by omega⟩ (fun c68 => absurd c68 (by omega)) (fun c68 => ?_)
            refine lv_iload hx hb dX0_cut_71 (lv_at hl 1 rfl) ?_
            refine jr_ifeq (tgt := 134) hx hb dX0_cut_73 (by decide) ⟨by omega, by omega⟩ (fun c73 => absurd c73 (by omega)) (fun c73 => ?_)
            refine lv_aload_n hx hb dX0_cut_76 rfl (lv_at hl 5 rfl) ?_
            refine lv_iload hx hb dX0_cut_77 (lv_at hl 2 rfl) ?_
            refine jr_iconst hx hb dX0_cut_79 ?_
            refine jr_iadd hx hb dX0_cut_80 ?_
            refine jk_Si (va_runV (As := [vi ((i : Int) + 1)]) (rest := []) ⟨hx, hb, hml, hown, htl⟩ (m_X6_at l g a c t f hf ((i : Int) + 1) ⟨by omega, by omega⟩) (cwV 1 htl lk_X0_40 rfl rfl rfl cwV_X6_at ⟨Nat.le_of_ble_eq_true rfl, Nat.le_of_ble_eq_true rfl⟩) (jp_V hKK hS hAb (va_recv hKK.k (jat hPx hS ap_hPx) (ci := 6) (q0 := 0) rfl rfl) (jat hPx hS ap_hPx)) rfl rfl hl.1 rfl (lv_room (Nat.le_of_ble_eq_true rfl)) dX0_cut_81 ⟨by show _ ≤ 360; omega, by show _ ≤ 13020; omega⟩) (fun z81 hz81 => ?_)
            subst hz81
            have ta := TT.tAt_b hf ((i : Int) + 1)
            have tk9 := kd_b ta
            refine jk_Si (va_runS (As := [vi (tAt t ((i : Int) + 1))]) (rest := []) ⟨hx, hb, hml, hown, htl⟩ (m_X7_kindIn l g (tAt t ((i : Int) + 1)) ⟨by omega, by omega⟩) (va_cwS 1 htl lk_X0_44 rfl rfl rfl cwS_X7_kindIn ⟨Nat.le_of_ble_eq_true rfl, Nat.le_of_ble_eq_true rfl⟩) (jp_S hKK hS hAb trivial) rfl rfl hl.1 rfl (lv_room (Nat.le_of_ble_eq_true rfl)) dX0_cut_84 ⟨by show _ ≤ 360; omega, by show _ ≤ 13020; omega⟩) (fun z84 hz84 => ?_)
            subst hz84
            refine jr_iconst hx hb dX0_cut_87 ?_
            refine jr_eq (tgt := 134) hx hb dX0_cut_88 (by decide) ⟨by omega, by omega⟩ ⟨by omega, by omega⟩ (fun c88 => ?_) (fun c88 => ?_)
            · refine jr_iinc (lv' := [(5, vi ((i : Int) + 1)), (6, vi 0), (4, vi 1), (3, vi (b : Int)), (0, .ref d), (1, .ref a), (2, .ref ba)]) hx hb dX0_cut_134 hl (k := 2) rfl rfl (by decide) rfl (fun ls hl => ?_)
              refine lv_goto (tgt := 17) hx hb dX0_cut_137 (by decide) ?_
              have hcy := ctP_n (ab := ab) (t := t) (n := i) (by omega) (fun _ => c88)
              refine W.widen (k := (6 * (i + 1))) (n := (217 * (i + 1))) (by omega) (by omega) ?_
              exact ih17 (i + 1) b 1 ss1 lw3 (by omega) (by rw [hcy]; exact hb9) (by rw [hcy]; exact (if_pos hor).symm) (by omega) (hL3) (hSO1) (by rw [hcy]; exact hF) (by omega) _ _ hP hD hS ls (lv_sub hl [0, 2, 3, 4, 5, 6] rfl)
            · refine va_new (ci := 4) (fs := [.null, .null, vi 0, vi 0, vi 0]) (C := RX4) (T := TX4) (N := 5) hx hb htl ck_X4 tyX4 tyX4_ok hown (htl _ wd_18_7) (htl _ wd_18_8) (htl _ wd_7_19) hKK.k hP hD hS hA rfl (fun j hj => by rcases (show j = 0 ∨ j = 1 ∨ j = 2 ∨ j = 3 ∨ j = 4 by omega) with rfl | rfl | rfl | rfl | rfl <;> rfl) (by show _ ≤ 360; omega) (by show _ ≤ 13020; omega) dX0_cut_91 (fun q91 H hP hD hS => ?_)
              have hP : PP g ([ob d 0 [.ref rows], ob q91 4 [.null, .null, vi 0, vi 0, vi 0]] ++ DR g ss1 lw3) H := PP.perm (g := g) hP pm_new1
              have hD : va_D A ([ob d 0 [.ref rows], ob q91 4 [.null, .null, vi 0, vi 0, vi 0]] ++ DR g ss1 lw3) := va_D.perm hD pm_new1
              refine W.widen (k := ((6 * i) + 1)) (n := ((217 * i) + 5)) (by omega) (by omega) ?_
              refine lv_dup hx hb dX0_cut_94 rfl ?_
              have hpm : ([ob d 0 [.ref rows], ob q91 4 [.null, .null, vi 0, vi 0, vi 0]] ++ DR g ss1 lw3).Perm ([ob q91 4 [.null, .null, vi 0, vi 0, vi 0]] ++ ([ob d 0 [.ref rows]] ++ DR g ss1 lw3)) := pm_last (wr := [ob d 0 [.ref rows]]) (wc := [ob q91 4 [.null, .null, vi 0, vi 0, vi 0]]) (tl := DR g ss1 lw3)
              have hDc : va_D A [ob q91 4 [.null, .null, vi 0, vi 0, vi 0]] := (hD.perm hpm).left
              have hFc := va_A_sub hDc hS.1 hA
              refine jk_Qv (va_runIN (As := []) (rest := [.ref q91]) ⟨hx, hb, hml, hown, htl⟩ (m_X4_init l g q91 H.size) ⟨va_cnB 0 htl (gd_ wd_19_3) rfl rfl rfl (nst_4 hKK) (htl _ wd_7_19) cwS_X4_init ⟨Nat.le_of_ble_eq_true rfl, Nat.le_of_ble_eq_true rfl⟩, rfl, htl _ wd_19_2⟩ (jp_S hKK hS hAb ⟨rfl, (va_P.sub hP [1] rfl), hDc.weaken (fun _ q _ h => hAb _ h)⟩) rfl rfl hl.1 rfl (lv_room (Nat.le_of_ble_eq_true rfl)) dX0_cut_95 ⟨by show _ ≤ 360; omega, by show _ ≤ 13020; omega⟩) hS (fun q _ h => hFc q h) hFc (fun H1 locs hz95 hzs hks hS => ?_)
              obtain ⟨b_95, c_95, d_95, e1_95, hP1, hD1⟩ := hz95
              obtain ⟨hP, hD⟩ := jjoin (w1 := [ob q91 4 [.ref b_95, .ref d_95, vi 101, vi (-1), vi 0], ob b_95 6 [.ref c_95, vi 0], aI g c_95 60 (fun _ => 0), ob d_95 6 [.ref e1_95, vi 0], aI g e1_95 60 (fun _ => 0)]) hP hD hpm hks hFc hP1 hD1
              clear hpm hzs hks; generalize H1 = H at hP hD hS ⊢
              have hP : PP g ([ob d 0 [.ref rows], ob q91 4 [.ref b_95, .ref d_95, vi 101, vi (-1), vi 0], ob b_95 6 [.ref c_95, vi 0], aI g c_95 60 (fun _ => 0), ob d_95 6 [.ref e1_95, vi 0], aI g e1_95 60 (fun _ => 0)] ++ DR g ss1 lw3) H := hP.perm (pm_last (wr := [ob d 0 [.ref rows]]) (wc := [ob q91 4 [.ref b_95, .ref d_95, vi 101, vi (-1), vi 0], ob b_95 6 [.ref c_95, vi 0], aI g c_95 60 (fun _ => 0), ob d_95 6 [.ref e1_95, vi 0], aI g e1_95 60 (fun _ => 0)])).symm
              have hD : va_D A ([ob d 0 [.ref rows], ob q91 4 [.ref b_95, .ref d_95, vi 101, vi (-1), vi 0], ob b_95 6 [.ref c_95, vi 0], aI g c_95 60 (fun _ => 0), ob d_95 6 [.ref e1_95, vi 0], aI g e1_95 60 (fun _ => 0)] ++ DR g ss1 lw3) := hD.perm (pm_last (wr := [ob d 0 [.ref rows]]) (wc := [ob q91 4 [.ref b_95, .ref d_95, vi 101, vi (-1), vi 0], ob b_95 6 [.ref c_95, vi 0], aI g c_95 60 (fun _ => 0), ob d_95 6 [.ref e1_95, vi 0], aI g e1_95 60 (fun _ => 0)])).symm
              refine W.widen (k := ((6 * i) + 5)) (n := ((217 * i) + 129)) (by omega) (by omega) ?_
              refine lv_astore (lv' := [(7, .ref q91), (6, vi 0), (4, vi 1), (5, vi (i : Int)), (3, vi (b : Int)), (0, .ref d), (1, .ref a), (2, .ref ba)]) hx hb dX0_cut_98 hl (by decide) rfl (fun ls hl => ?_)
              refine lv_aload hx hb dX0_cut_100 (lv_at hl 0 rfl) ?_
              refine va_get (D := gD g) (ci := 4) (v := .ref b_95) (C := RX4) (T := TX4) (N := 5) hx hb htl ck_X4 hown hKK.k hP 1 rfl rfl 0 (by decide) (htl _ wd_6_4) (fun _ h9 => h9) rfl dX0_cut_102 ?_
              refine lv_aload_n hx hb dX0_cut_105 rfl (lv_at hl 6 rfl) ?_
              refine lv_iload_n hx hb dX0_cut_106 rfl (lv_at hl 4 rfl) ?_
              refine lv_iload hx hb dX0_cut_107 (lv_at hl 3 rfl) ?_
              refine jr_iconst hx hb dX0_cut_109 ?_
              refine jr_iadd hx hb dX0_cut_110 ?_
              refine jr_nm (b := ((i + 1 : Nat) : Int)) (by omega) ?_
              have hDc : va_D A [ob b_95 6 [.ref c_95, vi 0], aI g c_95 60 (fun _ => 0)] := hD.sub [2, 3] (by decide) rfl
              refine jk_Qv (va_runV (As := [.ref a, vi (b : Int), vi ((i + 1 : Nat) : Int)]) (rest := []) ⟨hx, hb, hml, hown, htl⟩ (m_X6_copyRange l g b_95 c_95 ([] : List Int) (fun _ => 0) (TT.nil _) a c t f hf (jdisR hD ap_hPx [0, 1] [2, 3] rfl rfl) b (i + 1) (by omega) (by omega)) (cwV 3 htl lk_X0_54 rfl rfl rfl cwV_X6_copyRange ⟨Nat.le_of_ble_eq_true rfl, Nat.le_of_ble_eq_true rfl⟩) (jp_V hKK hS hAb (va_recv hKK.k hP (ci := 6) (q0 := 2) rfl rfl) ⟨(va_P.sub hP [2, 3] rfl), hDc.weaken (fun _ q _ h => hAb _ h), (jat hPx hS ap_hPx)⟩) rfl rfl hl.1 rfl (lv_room (Nat.le_of_ble_eq_true rfl)) dX0_cut_111 ⟨by show _ ≤ 360; omega, by show _ ≤ 13020; omega⟩) hS (fun q _ h => hDc.inA h) (fun q h => hDc.inA h) (fun H1 locs hz111 hzs hks hS => ?_)
              obtain ⟨fn111, hfn111, hP1⟩ := hz111
              obtain ⟨hP, hD⟩ := jput (wc := [ob b_95 6 [.ref c_95, vi 0], aI g c_95 60 (fun _ => 0)]) (w1 := [ob b_95 6 [.ref c_95, vi (((t.drop b).take ((i + 1) - b)).length : Int)], aI g c_95 60 fn111]) hP hD [2, 3] rfl rfl hks (fun q _ h => h) hP1
              clear hzs hks; generalize H1 = H at hP hD hS ⊢
              have hP : PP g ([ob d 0 [.ref rows], ob q91 4 [.ref b_95, .ref d_95, vi 101, vi (-1), vi 0], ob b_95 6 [.ref c_95, vi (((t.drop b).take ((i + 1) - b)).length : Int)], aI g c_95 60 fn111, ob d_95 6 [.ref e1_95, vi 0], aI g e1_95 60 (fun _ => 0)] ++ DR g ss1 lw3) H := hP
              have hD : va_D A ([ob d 0 [.ref rows], ob q91 4 [.ref b_95, .ref d_95, vi 101, vi (-1), vi 0], ob b_95 6 [.ref c_95, vi (((t.drop b).take ((i + 1) - b)).length : Int)], aI g c_95 60 fn111, ob d_95 6 [.ref e1_95, vi 0], aI g e1_95 60 (fun _ => 0)] ++ DR g ss1 lw3) := hD
              refine lv_aload_n hx hb dX0_cut_114 rfl (lv_at hl 5 rfl) ?_
              refine va_get (D := gD g) (ci := 0) (v := .ref rows) (C := RX0) (T := TX0) (N := 1) hx hb htl ck_X0 hown hKK.k hP 0 rfl rfl 0 (by decide) (htl _ wd_5_5) (fun _ h9 => h9) rfl dX0_cut_115 ?_
              refine lv_aload hx hb dX0_cut_118 (lv_at hl 0 rfl) ?_
              have hpm : ([ob d 0 [.ref rows], ob q91 4 [.ref b_95, .ref d_95, vi 101, vi (-1), vi 0], ob b_95 6 [.ref c_95, vi (((t.drop b).take ((i + 1) - b)).length : Int)], aI g c_95 60 fn111, ob d_95 6 [.ref e1_95, vi 0], aI g e1_95 60 (fun _ => 0)] ++ (lw3 ++ ss1.flatMap (sC g))).Perm (lw3 ++ ([ob d 0 [.ref rows], ob q91 4 [.ref b_95, .ref d_95, vi 101, vi (-1), vi 0], ob b_95 6 [.ref c_95, vi (((t.drop b).take ((i + 1) - b)).length : Int)], aI g c_95 60 fn111, ob d_95 6 [.ref e1_95, vi 0], aI g e1_95 60 (fun _ => 0)] ++ ss1.flatMap (sC g))) := pm3 _ _ _
              have hPl : PP g lw3 H := hP.mem fun q h => List.mem_append_right _ (DR.l q h)
              have hDl : va_D A lw3 := (hD.perm hpm).left
              have hFl := va_A_sub hDl hS.1 hA
              have hEl : EL g (q91 :: ss1.map sA) (lw3.map (·.1)) H := (EL.ofS (hP.mem fun q h => List.mem_append_right _ h) hD.right).cons (jdisT2 (ys := [q91]) hD (fun q h => DR.l q h) [1] rfl q91 List.mem_cons_self) (Or.inr rfl) (va_P.sub hP [1] rfl)
              refine jk5_Qi (va_runF (As := [.ref q91]) (rest := []) (hKK.k.1 11 _ rfl).2 ⟨hx, hb, hml, hown, htl⟩ (m_Ladd l g rows (ss1.map sA) lw3 q91 H.size hL3 (by rw [List.length_map]; omega)) (va_cwF 1 htl lkF_X0_58 rfl rfl rfl (fw_2 hKK) cwF_2 ⟨Nat.le_of_ble_eq_true rfl, Nat.le_of_ble_eq_true rfl⟩) (jp_V hKK hS hAb (LW.recv hKK hL3 hPl) ⟨rfl, hPl, hDl.weaken (fun _ q _ h => hAb _ h), hEl⟩) rfl rfl hl.1 rfl (lv_room (Nat.le_of_ble_eq_true rfl)) dX0_cut_120 ⟨by show _ ≤ 360; omega, by show _ ≤ 13020; omega⟩) hS (fun q _ h => hFl q h) hFl (fun z120 H1 locs hz120 hzs hks hS => ?_)
              obtain ⟨-, lw4, hL4, hP1, hD1⟩ := hz120
              obtain ⟨hP, hD⟩ := jjoin hP hD hpm hks hFl hP1 hD1
              obtain ⟨ss9, hss9⟩ : ∃ q : List SR, q = ss1 ++ [(q91, b_95, c_95, d_95, e1_95, ((t.drop b).take (i + 1 - b)), fn111, [], (fun _ => 0), 101, (-1), 0)] := ⟨_, rfl⟩
              have hpm2 := DR.push (g := g) (ss := ss1) (u := (q91, b_95, c_95, d_95, e1_95, ((t.drop b).take (i + 1 - b)), fn111, [], (fun _ => 0), 101, (-1), 0)) (lw := lw4) (ls := [ob d 0 [.ref rows]])
              rw [← hss9] at hpm2
              clear hpm hzs hks; generalize H1 = H at hP hD hS hP1 ⊢
              have hP : PP g ([ob d 0 [.ref rows]] ++ DR g ss9 lw4) H := hP.perm hpm2
              have hD : va_D A ([ob d 0 [.ref rows]] ++ DR g ss9 lw4) := hD.perm hpm2
              clear hpm2 hPl hDl hFl hEl hP1 hD1
              have hL9 : LW g rows (ss9.map sA) lw4 := by rw [hss9, List.map_append]; exact hL4
              have hSO9 : ∀ u ∈ ss9, SOK u := by rw [hss9]; intro u hu; rcases List.mem_append.mp hu with h | h; exact hSO1 u h; rw [List.mem_singleton.mp h]; exact ⟨hfn111, TT.nil _, by omega, by omega, by omega⟩
              refine W.widen (k := ((6 * i) + 6)) (n := ((217 * i) + 217)) (by omega) (by omega) ?_
              refine lv_pop hx hb dX0_cut_125 rfl ?_
              refine lv_iload hx hb dX0_cut_126 (lv_at hl 3 rfl) ?_
              refine jr_iconst hx hb dX0_cut_128 ?_
              refine jr_iadd hx hb dX0_cut_129 ?_
              refine jr_nm (b := ((i + 1 : Nat) : Int)) (by omega) ?_
              refine lv_istore_n (lv' := [(3, vi ((i + 1 : Nat) : Int)), (7, .ref q91), (6, vi 0), (4, vi 1), (5, vi (i : Int)), (0, .ref d), (1, .ref a), (2, .ref ba)]) hx hb dX0_cut_130 rfl hl (by decide) rfl (fun ls hl => ?_)
              refine jr_iconst hx hb dX0_cut_131 ?_
              refine lv_istore (lv' := [(4, vi 0), (3, vi ((i + 1 : Nat) : Int)), (7, .ref q91), (6, vi 0), (5, vi (i : Int)), (0, .ref d), (1, .ref a), (2, .ref ba)]) hx hb dX0_cut_132 hl (by decide) rfl (fun ls hl => ?_)
              refine jr_iinc (lv' := [(5, vi ((i : Int) + 1)), (4, vi 0), (3, vi ((i + 1 : Nat) : Int)), (7, .ref q91), (6, vi 0), (0, .ref d), (1, .ref a), (2, .ref ba)]) hx hb dX0_cut_134 hl (k := 4) rfl rfl (by decide) rfl (fun ls hl => ?_)
              refine lv_goto (tgt := 17) hx hb dX0_cut_137 (by decide) ?_
              have hcy := ctP_y (ab := ab) (t := t) (n := i) (Or.inr ⟨hor, c88⟩)
              refine W.widen (k := (6 * (i + 1))) (n := (217 * (i + 1))) (by omega) (by omega) ?_
              exact ih17 (i + 1) (i + 1) 0 ss9 lw4 (by omega) (by rw [hcy]) (by rw [hcy]; rfl) (by omega) (hL9) (hSO9) (by rw [hcy, hss9, List.map_append, List.map_append, hF, ← hb9]; rfl) (by omega) _ _ hP hD hS ls (lv_sub hl [0, 1, 2, 5, 6, 7] rfl)
          · refine jr_iconst hx hb dX0_cut_59 ?_
            refine lv_goto (tgt := 64) hx hb dX0_cut_60 (by decide) ?_
            refine lv_istore (lv' := [(6, vi 1), (4, vi 1), (5, vi (i : Int)), (3, vi (b : Int)), (0, .ref d), (1, .ref a), (2, .ref ba)]) hx hb dX0_cut_64 hl (by decide) rfl (fun ls hl => ?_)
            refine lv_iload hx hb dX0_cut_66 (lv_at hl 0 rfl) ?_
            refine jr_ifne (tgt := 91) hx hb dX0_cut_68 (by decide) ⟨by omega, by omega⟩ (fun c68 => ?_) (fun c68 => absurd c68 (by omega))
            refine va_new (ci := 4) (fs := [.null, .null, vi 0, vi 0, vi 0]) (C := RX4) (T := TX4) (N := 5) hx hb htl ck_X4 tyX4 tyX4_ok hown (htl _ wd_18_7) (htl _ wd_18_8) (htl _ wd_7_19) hKK.k hP hD hS hA rfl (fun j hj => by rcases (show j = 0 ∨ j = 1 ∨ j = 2 ∨ j = 3 ∨ j = 4 by omega) with rfl | rfl | rfl | rfl | rfl <;> rfl) (by show _ ≤ 360; omega) (by show _ ≤ 13020; omega) dX0_cut_91 (fun q91 H hP hD hS => ?_)
            have hP : PP g ([ob d 0 [.ref rows], ob q91 4 [.null, .null, vi 0, vi 0, vi 0]] ++ DR g ss1 lw3) H := PP.perm (g := g) hP pm_new1
            have hD : va_D A ([ob d 0 [.ref rows], ob q91 4 [.null, .null, vi 0, vi 0, vi 0]] ++ DR g ss1 lw3) := va_D.perm hD pm_new1
            refine W.widen (k := ((6 * i) + 1)) (n := ((217 * i) + 5)) (by omega) (by omega) ?_
            refine lv_dup hx hb dX0_cut_94 rfl ?_
            have hpm : ([ob d 0 [.ref rows], ob q91 4 [.null, .null, vi 0, vi 0, vi 0]] ++ DR g ss1 lw3).Perm ([ob q91 4 [.null, .null, vi 0, vi 0, vi 0]] ++ ([ob d 0 [.ref rows]] ++ DR g ss1 lw3)) := pm_last (wr := [ob d 0 [.ref rows]]) (wc := [ob q91 4 [.null, .null, vi 0, vi 0, vi 0]]) (tl := DR g ss1 lw3)
            have hDc : va_D A [ob q91 4 [.null, .null, vi 0, vi 0, vi 0]] := (hD.perm hpm).left
            have hFc := va_A_sub hDc hS.1 hA
            refine jk_Qv (va_runIN (As := []) (rest := [.ref q91]) ⟨hx, hb, hml, hown, htl⟩ (m_X4_init l g q91 H.size) ⟨va_cnB 0 htl (gd_ wd_19_3) rfl rfl rfl (nst_4 hKK) (htl _ wd_7_19) cwS_X4_init ⟨Nat.le_of_ble_eq_true rfl, Nat.le_of_ble_eq_true rfl⟩, rfl, htl _ wd_19_2⟩ (jp_S hKK hS hAb ⟨rfl, (va_P.sub hP [1] rfl), hDc.weaken (fun _ q _ h => hAb _ h)⟩) rfl rfl hl.1 rfl (lv_room (Nat.le_of_ble_eq_true rfl)) dX0_cut_95 ⟨by show _ ≤ 360; omega, by show _ ≤ 13020; omega⟩) hS (fun q _ h => hFc q h) hFc (fun H1 locs hz95 hzs hks hS => ?_)
            obtain ⟨b_95, c_95, d_95, e1_95, hP1, hD1⟩ := hz95
            obtain ⟨hP, hD⟩ := jjoin (w1 := [ob q91 4 [.ref b_95, .ref d_95, vi 101, vi (-1), vi 0], ob b_95 6 [.ref c_95, vi 0], aI g c_95 60 (fun _ => 0), ob d_95 6 [.ref e1_95, vi 0], aI g e1_95 60 (fun _ => 0)]) hP hD hpm hks hFc hP1 hD1
            clear hpm hzs hks; generalize H1 = H at hP hD hS ⊢
            have hP : PP g ([ob d 0 [.ref rows], ob q91 4 [.ref b_95, .ref d_95, vi 101, vi (-1), vi 0], ob b_95 6 [.ref c_95, vi 0], aI g c_95 60 (fun _ => 0), ob d_95 6 [.ref e1_95, vi 0], aI g e1_95 60 (fun _ => 0)] ++ DR g ss1 lw3) H := hP.perm (pm_last (wr := [ob d 0 [.ref rows]]) (wc := [ob q91 4 [.ref b_95, .ref d_95, vi 101, vi (-1), vi 0], ob b_95 6 [.ref c_95, vi 0], aI g c_95 60 (fun _ => 0), ob d_95 6 [.ref e1_95, vi 0], aI g e1_95 60 (fun _ => 0)])).symm
            have hD : va_D A ([ob d 0 [.ref rows], ob q91 4 [.ref b_95, .ref d_95, vi 101, vi (-1), vi 0], ob b_95 6 [.ref c_95, vi 0], aI g c_95 60 (fun _ => 0), ob d_95 6 [.ref e1_95, vi 0], aI g e1_95 60 (fun _ => 0)] ++ DR g ss1 lw3) := hD.perm (pm_last (wr := [ob d 0 [.ref rows]]) (wc := [ob q91 4 [.ref b_95, .ref d_95, vi 101, vi (-1), vi 0], ob b_95 6 [.ref c_95, vi 0], aI g c_95 60 (fun _ => 0), ob d_95 6 [.ref e1_95, vi 0], aI g e1_95 60 (fun _ => 0)])).symm
            refine W.widen (k := ((6 * i) + 5)) (n := ((217 * i) + 129)) (by omega) (by omega) ?_
            refine lv_astore (lv' := [(7, .ref q91), (6, vi 1), (4, vi 1), (5, vi (i : Int)), (3, vi (b : Int)), (0, .ref d), (1, .ref a), (2, .ref ba)]) hx hb dX0_cut_98 hl (by decide) rfl (fun ls hl => ?_)
            refine lv_aload hx hb dX0_cut_100 (lv_at hl 0 rfl) ?_
            refine va_get (D := gD g) (ci := 4) (v := .ref b_95) (C := RX4) (T := TX4) (N := 5) hx hb htl ck_X4 hown hKK.k hP 1 rfl rfl 0 (by decide) (htl _ wd_6_4) (fun _ h9 => h9) rfl dX0_cut_102 ?_
            refine lv_aload_n hx hb dX0_cut_105 rfl (lv_at hl 6 rfl) ?_
            refine lv_iload_n hx hb dX0_cut_106 rfl (lv_at hl 4 rfl) ?_
            refine lv_iload hx hb dX0_cut_107 (lv_at hl 3 rfl) ?_
            refine jr_iconst hx hb dX0_cut_109 ?_
            refine jr_iadd hx hb dX0_cut_110 ?_
            refine jr_nm (b := ((i + 1 : Nat) : Int)) (by omega) ?_
            have hDc : va_D A [ob b_95 6 [.ref c_95, vi 0], aI g c_95 60 (fun _ => 0)] := hD.sub [2, 3] (by decide) rfl
            refine jk_Qv (va_runV (As := [.ref a, vi (b : Int), vi ((i + 1 : Nat) : Int)]) (rest := []) ⟨hx, hb, hml, hown, htl⟩ (m_X6_copyRange l g b_95 c_95 ([] : List Int) (fun _ => 0) (TT.nil _) a c t f hf (jdisR hD ap_hPx [0, 1] [2, 3] rfl rfl) b (i + 1) (by omega) (by omega)) (cwV 3 htl lk_X0_54 rfl rfl rfl cwV_X6_copyRange ⟨Nat.le_of_ble_eq_true rfl, Nat.le_of_ble_eq_true rfl⟩) (jp_V hKK hS hAb (va_recv hKK.k hP (ci := 6) (q0 := 2) rfl rfl) ⟨(va_P.sub hP [2, 3] rfl), hDc.weaken (fun _ q _ h => hAb _ h), (jat hPx hS ap_hPx)⟩) rfl rfl hl.1 rfl (lv_room (Nat.le_of_ble_eq_true rfl)) dX0_cut_111 ⟨by show _ ≤ 360; omega, by show _ ≤ 13020; omega⟩) hS (fun q _ h => hDc.inA h) (fun q h => hDc.inA h) (fun H1 locs hz111 hzs hks hS => ?_)
            obtain ⟨fn111, hfn111, hP1⟩ := hz111
            obtain ⟨hP, hD⟩ := jput (wc := [ob b_95 6 [.ref c_95, vi 0], aI g c_95 60 (fun _ => 0)]) (w1 := [ob b_95 6 [.ref c_95, vi (((t.drop b).take ((i + 1) - b)).length : Int)], aI g c_95 60 fn111]) hP hD [2, 3] rfl rfl hks (fun q _ h => h) hP1
            clear hzs hks; generalize H1 = H at hP hD hS ⊢
            have hP : PP g ([ob d 0 [.ref rows], ob q91 4 [.ref b_95, .ref d_95, vi 101, vi (-1), vi 0], ob b_95 6 [.ref c_95, vi (((t.drop b).take ((i + 1) - b)).length : Int)], aI g c_95 60 fn111, ob d_95 6 [.ref e1_95, vi 0], aI g e1_95 60 (fun _ => 0)] ++ DR g ss1 lw3) H := hP
            have hD : va_D A ([ob d 0 [.ref rows], ob q91 4 [.ref b_95, .ref d_95, vi 101, vi (-1), vi 0], ob b_95 6 [.ref c_95, vi (((t.drop b).take ((i + 1) - b)).length : Int)], aI g c_95 60 fn111, ob d_95 6 [.ref e1_95, vi 0], aI g e1_95 60 (fun _ => 0)] ++ DR g ss1 lw3) := hD
            refine lv_aload_n hx hb dX0_cut_114 rfl (lv_at hl 5 rfl) ?_
            refine va_get (D := gD g) (ci := 0) (v := .ref rows) (C := RX0) (T := TX0) (N := 1) hx hb htl ck_X0 hown hKK.k hP 0 rfl rfl 0 (by decide) (htl _ wd_5_5) (fun _ h9 => h9) rfl dX0_cut_115 ?_
            refine lv_aload hx hb dX0_cut_118 (lv_at hl 0 rfl) ?_
            have hpm : ([ob d 0 [.ref rows], ob q91 4 [.ref b_95, .ref d_95, vi 101, vi (-1), vi 0], ob b_95 6 [.ref c_95, vi (((t.drop b).take ((i + 1) - b)).length : Int)], aI g c_95 60 fn111, ob d_95 6 [.ref e1_95, vi 0], aI g e1_95 60 (fun _ => 0)] ++ (lw3 ++ ss1.flatMap (sC g))).Perm (lw3 ++ ([ob d 0 [.ref rows], ob q91 4 [.ref b_95, .ref d_95, vi 101, vi (-1), vi 0], ob b_95 6 [.ref c_95, vi (((t.drop b).take ((i + 1) - b)).length : Int)], aI g c_95 60 fn111, ob d_95 6 [.ref e1_95, vi 0], aI g e1_95 60 (fun _ => 0)] ++ ss1.flatMap (sC g))) := pm3 _ _ _
            have hPl : PP g lw3 H := hP.mem fun q h => List.mem_append_right _ (DR.l q h)
            have hDl : va_D A lw3 := (hD.perm hpm).left
            have hFl := va_A_sub hDl hS.1 hA
            have hEl : EL g (q91 :: ss1.map sA) (lw3.map (·.1)) H := (EL.ofS (hP.mem fun q h => List.mem_append_right _ h) hD.right).cons (jdisT2 (ys := [q91]) hD (fun q h => DR.l q h) [1] rfl q91 List.mem_cons_self) (Or.inr rfl) (va_P.sub hP [1] rfl)
            refine jk5_Qi (va_runF (As := [.ref q91]) (rest := []) (hKK.k.1 11 _ rfl).2 ⟨hx, hb, hml, hown, htl⟩ (m_Ladd l g rows (ss1.map sA) lw3 q91 H.size hL3 (by rw [List.length_map]; omega)) (va_cwF 1 htl lkF_X0_58 rfl rfl rfl (fw_2 hKK) cwF_2 ⟨Nat.le_of_ble_eq_true rfl, Nat.le_of_ble_eq_true rfl⟩) (jp_V hKK hS hAb (LW.recv hKK hL3 hPl) ⟨rfl, hPl, hDl.weaken (fun _ q _ h => hAb _ h), hEl⟩) rfl rfl hl.1 rfl (lv_room (Nat.le_of_ble_eq_true rfl)) dX0_cut_120 ⟨by show _ ≤ 360; omega, by show _ ≤ 13020; omega⟩) hS (fun q _ h => hFl q h) hFl (fun z120 H1 locs hz120 hzs hks hS => ?_)
            obtain ⟨-, lw4, hL4, hP1, hD1⟩ := hz120
            obtain ⟨hP, hD⟩ := jjoin hP hD hpm hks hFl hP1 hD1
            obtain ⟨ss9, hss9⟩ : ∃ q : List SR, q = ss1 ++ [(q91, b_95, c_95, d_95, e1_95, ((t.drop b).take (i + 1 - b)), fn111, [], (fun _ => 0), 101, (-1), 0)] := ⟨_, rfl⟩
            have hpm2 := DR.push (g := g) (ss := ss1) (u := (q91, b_95, c_95, d_95, e1_95, ((t.drop b).take (i + 1 - b)), fn111, [], (fun _ => 0), 101, (-1), 0)) (lw := lw4) (ls := [ob d 0 [.ref rows]])
            rw [← hss9] at hpm2
            clear hpm hzs hks; generalize H1 = H at hP hD hS hP1 ⊢
            have hP : PP g ([ob d 0 [.ref rows]] ++ DR g ss9 lw4) H := hP.perm hpm2
            have hD : va_D A ([ob d 0 [.ref rows]] ++ DR g ss9 lw4) := hD.perm hpm2
            clear hpm2 hPl hDl hFl hEl hP1 hD1
            have hL9 : LW g rows (ss9.map sA) lw4 := by rw [hss9, List.map_append]; exact hL4
            have hSO9 : ∀ u ∈ ss9, SOK u := by rw [hss9]; intro u hu; rcases List.mem_append.mp hu with h | h; exact hSO1 u h; rw [List.mem_singleton.mp h]; exact ⟨hfn111, TT.nil _, by omega, by omega, by omega⟩
            refine W.widen (k := ((6 * i) + 6)) (n := ((217 * i) + 217)) (by omega) (by omega) ?_
            refine lv_pop hx hb dX0_cut_125 rfl ?_
            refine lv_iload hx hb dX0_cut_126 (lv_at hl 3 rfl) ?_
            refine jr_iconst hx hb dX0_cut_128 ?_
            refine jr_iadd hx hb dX0_cut_129 ?_
            refine jr_nm (b := ((i + 1 : Nat) : Int)) (by omega) ?_
            refine lv_istore_n (lv' := [(3, vi ((i + 1 : Nat) : Int)), (7, .ref q91), (6, vi 1), (4, vi 1), (5, vi (i : Int)), (0, .ref d), (1, .ref a), (2, .ref ba)]) hx hb dX0_cut_130 rfl hl (by decide) rfl (fun ls hl => ?_)
            refine jr_iconst hx hb dX0_cut_131 ?_
            refine lv_istore (lv' := [(4, vi 0), (3, vi ((i + 1 : Nat) : Int)), (7, .ref q91), (6, vi 1), (5, vi (i : Int)), (0, .ref d), (1, .ref a), (2, .ref ba)]) hx hb dX0_cut_132 hl (by decide) rfl (fun ls hl => ?_)
            refine jr_iinc (lv' := [(5, vi ((i : Int) + 1)), (4, vi 0), (3, vi ((i + 1 : Nat) : Int)), (7, .ref q91), (6, vi 1), (0, .ref d), (1, .ref a), (2, .ref ba)]) hx hb dX0_cut_134 hl (k := 4) rfl rfl (by decide) rfl (fun ls hl => ?_)
            refine lv_goto (tgt := 17) hx hb dX0_cut_137 (by decide) ?_
            have hcy := ctP_y (ab := ab) (t := t) (n := i) (Or.inl (by omega))
            refine W.widen (k := (6 * (i + 1))) (n := (217 * (i + 1))) (by omega) (by omega) ?_
            exact ih17 (i + 1) (i + 1) 0 ss9 lw4 (by omega) (by rw [hcy]) (by rw [hcy]; rfl) (by omega) (hL9) (hSO9) (by rw [hcy, hss9, List.map_append, List.map_append, hF, ← hb9]; rfl) (by omega) _ _ hP hD hS ls (lv_sub hl [0, 1, 2, 5, 6, 7] rfl)
        · have hcf : (ctP ab t i).2.2 = false := by rw [hce] at c28; have h9 := i01f c28; simpa using h9
          refine lv_aload_n hx hb dX0_cut_31 rfl (lv_at hl 4 rfl) ?_
          refine lv_iload hx hb dX0_cut_32 (lv_at hl 0 rfl) ?_
          refine lv_aload_n hx hb dX0_cut_34 rfl (lv_at hl 5 rfl) ?_
          refine jk_Si (va_runS (As := [.ref a, vi (i : Int), .ref ba]) (rest := []) ⟨hx, hb, hml, hown, htl⟩ (m_X0_isEnd l g a c t f hf ba ab hab (i : Int) (by omega)) (va_cwS 3 htl lk_X0_36 rfl rfl rfl cwS_X0_isEnd ⟨Nat.le_of_ble_eq_true rfl, Nat.le_of_ble_eq_true rfl⟩) (jp_S hKK hS hAb ⟨(jat hPx hS ap_hPx), (jat hPab hS ap_hPab)⟩) rfl rfl hl.1 rfl (lv_room (Nat.le_of_ble_eq_true rfl)) dX0_cut_35 ⟨by show _ ≤ 360; omega, by show _ ≤ 13020; omega⟩) (fun z35 hz35 => ?_)
          subst hz35
          refine jr_ifeq (tgt := 45) hx hb dX0_cut_38 (by decide) (i01R _) (fun c38 => ?_) (fun c38 => ?_)
          · have c38 := i01f c38
            have hor : ((ctP ab t i).2.2 || isE ab t (i : Int)) = false := by rw [hcf]; simpa using c38
            refine jr_iconst hx hb dX0_cut_45 ?_
            refine lv_istore (lv' := [(4, vi 0), (5, vi (i : Int)), (3, vi (b : Int)), (0, .ref d), (1, .ref a), (2, .ref ba)]) hx hb dX0_cut_46 hl (by decide) rfl (fun ls hl => ?_)
            refine lv_iload hx hb dX0_cut_48 (lv_at hl 1 rfl) ?_
            refine jr_iconst hx hb dX0_cut_50 ?_
            refine jr_iadd hx hb dX0_cut_51 ?_
            refine lv_aload_n hx hb dX0_cut_52 rfl (lv_at hl 4 rfl) ?_
            refine jk_Si (va_runV (As := []) (rest := [vi ((i : Int) + 1)]) ⟨hx, hb, hml, hown, htl⟩ (m_X6_size l g a c t f hf  ) (cwV 0 htl lk_X0_33 rfl rfl rfl cwV_X6_size ⟨Nat.le_of_ble_eq_true rfl, Nat.le_of_ble_eq_true rfl⟩) (jp_V hKK hS hAb (va_recv hKK.k (jat hPx hS ap_hPx) (ci := 6) (q0 := 0) rfl rfl) (jat hPx hS ap_hPx)) rfl rfl hl.1 rfl (lv_room (Nat.le_of_ble_eq_true rfl)) dX0_cut_53 ⟨by show _ ≤ 360; omega, by show _ ≤ 13020; omega⟩) (fun z53 hz53 => ?_)
            subst hz53
            refine jr_ne (tgt := 63) hx hb dX0_cut_56 (by decide) ⟨by omega, by omega⟩ ⟨by omega, by omega⟩ (fun c56 => ?_) (fun c56 => ?_)
            · refine jr_iconst hx hb dX0_cut_63 ?_
              refine lv_istore (lv' := [(6, vi 0), (4, vi 0), (5, vi (i : Int)), (3, vi (b : Int)), (0, .ref d), (1, .ref a), (2, .ref ba)]) hx hb dX0_cut_64 hl (by decide) rfl (fun ls hl => ?_)
              refine lv_iload hx hb dX0_cut_66 (lv_at hl 0 rfl) ?_
              refine jr_ifne (tgt := 91) hx hb dX0_cut_68 (by decide) ⟨by omega, by omega⟩ (fun c68 => absurd c68 (by omega)) (fun c68 => ?_)
              refine lv_iload hx hb dX0_cut_71 (lv_at hl 1 rfl) ?_
              refine jr_ifeq (tgt := 134) hx hb dX0_cut_73 (by decide) ⟨by omega, by omega⟩ (fun c73 => ?_) (fun c73 => absurd c73 (by omega))
              refine jr_iinc (lv' := [(5, vi ((i : Int) + 1)), (6, vi 0), (4, vi 0), (3, vi (b : Int)), (0, .ref d), (1, .ref a), (2, .ref ba)]) hx hb dX0_cut_134 hl (k := 2) rfl rfl (by decide) rfl (fun ls hl => ?_)
              refine lv_goto (tgt := 17) hx hb dX0_cut_137 (by decide) ?_
              have hcy := ctP_n (ab := ab) (t := t) (n := i) (by omega) (fun q => absurd (hor.symm.trans q) Bool.false_ne_true)
              refine W.widen (k := (6 * (i + 1))) (n := (217 * (i + 1))) (by omega) (by omega) ?_
              exact ih17 (i + 1) b 0 ss1 lw3 (by omega) (by rw [hcy]; exact hb9) (by rw [hcy]; exact (if_neg (by show ¬ ((ctP ab t i).2.2 || isE ab t (i : Int)) = true; rw [hor]; decide)).symm) (by omega) (hL3) (hSO1) (by rw [hcy]; exact hF) (by omega) _ _ hP hD hS ls (lv_sub hl [0, 2, 3, 4, 5, 6] rfl)
            · refine jr_iconst hx hb dX0_cut_59 ?_
              refine lv_goto (tgt := 64) hx hb dX0_cut_60 (by decide) ?_
              refine lv_istore (lv' := [(6, vi 1), (4, vi 0), (5, vi (i : Int)), (3, vi (b : Int)), (0, .ref d), (1, .ref a), (2, .ref ba)]) hx hb dX0_cut_64 hl (by decide) rfl (fun ls hl => ?_)
              refine lv_iload hx hb dX0_cut_66 (lv_at hl 0 rfl) ?_
              refine jr_ifne (tgt := 91) hx hb dX0_cut_68 (by decide) ⟨by omega, by omega⟩ (fun c68 => ?_) (fun c68 => absurd c68 (by omega))
              refine va_new (ci := 4) (fs := [.null, .null, vi 0, vi 0, vi 0]) (C := RX4) (T := TX4) (N := 5) hx hb htl ck_X4 tyX4 tyX4_ok hown (htl _ wd_18_7) (htl _ wd_18_8) (htl _ wd_7_19) hKK.k hP hD hS hA rfl (fun j hj => by rcases (show j = 0 ∨ j = 1 ∨ j = 2 ∨ j = 3 ∨ j = 4 by omega) with rfl | rfl | rfl | rfl | rfl <;> rfl) (by show _ ≤ 360; omega) (by show _ ≤ 13020; omega) dX0_cut_91 (fun q91 H hP hD hS => ?_)
              have hP : PP g ([ob d 0 [.ref rows], ob q91 4 [.null, .null, vi 0, vi 0, vi 0]] ++ DR g ss1 lw3) H := PP.perm (g := g) hP pm_new1
              have hD : va_D A ([ob d 0 [.ref rows], ob q91 4 [.null, .null, vi 0, vi 0, vi 0]] ++ DR g ss1 lw3) := va_D.perm hD pm_new1
              refine W.widen (k := ((6 * i) + 1)) (n := ((217 * i) + 5)) (by omega) (by omega) ?_
              refine lv_dup hx hb dX0_cut_94 rfl ?_
              have hpm : ([ob d 0 [.ref rows], ob q91 4 [.null, .null, vi 0, vi 0, vi 0]] ++ DR g ss1 lw3).Perm ([ob q91 4 [.null, .null, vi 0, vi 0, vi 0]] ++ ([ob d 0 [.ref rows]] ++ DR g ss1 lw3)) := pm_last (wr := [ob d 0 [.ref rows]]) (wc := [ob q91 4 [.null, .null, vi 0, vi 0, vi 0]]) (tl := DR g ss1 lw3)
              have hDc : va_D A [ob q91 4 [.null, .null, vi 0, vi 0, vi 0]] := (hD.perm hpm).left
              have hFc := va_A_sub hDc hS.1 hA
              refine jk_Qv (va_runIN (As := []) (rest := [.ref q91]) ⟨hx, hb, hml, hown, htl⟩ (m_X4_init l g q91 H.size) ⟨va_cnB 0 htl (gd_ wd_19_3) rfl rfl rfl (nst_4 hKK) (htl _ wd_7_19) cwS_X4_init ⟨Nat.le_of_ble_eq_true rfl, Nat.le_of_ble_eq_true rfl⟩, rfl, htl _ wd_19_2⟩ (jp_S hKK hS hAb ⟨rfl, (va_P.sub hP [1] rfl), hDc.weaken (fun _ q _ h => hAb _ h)⟩) rfl rfl hl.1 rfl (lv_room (Nat.le_of_ble_eq_true rfl)) dX0_cut_95 ⟨by show _ ≤ 360; omega, by show _ ≤ 13020; omega⟩) hS (fun q _ h => hFc q h) hFc (fun H1 locs hz95 hzs hks hS => ?_)
              obtain ⟨b_95, c_95, d_95, e1_95, hP1, hD1⟩ := hz95
              obtain ⟨hP, hD⟩ := jjoin (w1 := [ob q91 4 [.ref b_95, .ref d_95, vi 101, vi (-1), vi 0], ob b_95 6 [.ref c_95, vi 0], aI g c_95 60 (fun _ => 0), ob d_95 6 [.ref e1_95, vi 0], aI g e1_95 60 (fun _ => 0)]) hP hD hpm hks hFc hP1 hD1
              clear hpm hzs hks; generalize H1 = H at hP hD hS ⊢
              have hP : PP g ([ob d 0 [.ref rows], ob q91 4 [.ref b_95, .ref d_95, vi 101, vi (-1), vi 0], ob b_95 6 [.ref c_95, vi 0], aI g c_95 60 (fun _ => 0), ob d_95 6 [.ref e1_95, vi 0], aI g e1_95 60 (fun _ => 0)] ++ DR g ss1 lw3) H := hP.perm (pm_last (wr := [ob d 0 [.ref rows]]) (wc := [ob q91 4 [.ref b_95, .ref d_95, vi 101, vi (-1), vi 0], ob b_95 6 [.ref c_95, vi 0], aI g c_95 60 (fun _ => 0), ob d_95 6 [.ref e1_95, vi 0], aI g e1_95 60 (fun _ => 0)])).symm
              have hD : va_D A ([ob d 0 [.ref rows], ob q91 4 [.ref b_95, .ref d_95, vi 101, vi (-1), vi 0], ob b_95 6 [.ref c_95, vi 0], aI g c_95 60 (fun _ => 0), ob d_95 6 [.ref e1_95, vi 0], aI g e1_95 60 (fun _ => 0)] ++ DR g ss1 lw3) := hD.perm (pm_last (wr := [ob d 0 [.ref rows]]) (wc := [ob q91 4 [.ref b_95, .ref d_95, vi 101, vi (-1), vi 0], ob b_95 6 [.ref c_95, vi 0], aI g c_95 60 (fun _ => 0), ob d_95 6 [.ref e1_95, vi 0], aI g e1_95 60 (fun _ => 0)])).symm
              refine W.widen (k := ((6 * i) + 5)) (n := ((217 * i) + 129)) (by omega) (by omega) ?_
              refine lv_astore (lv' := [(7, .ref q91), (6, vi 1), (4, vi 0), (5, vi (i : Int)), (3, vi (b : Int)), (0, .ref d), (1, .ref a), (2, .ref ba)]) hx hb dX0_cut_98 hl (by decide) rfl (fun ls hl => ?_)
              refine lv_aload hx hb dX0_cut_100 (lv_at hl 0 rfl) ?_
              refine va_get (D := gD g) (ci := 4) (v := .ref b_95) (C := RX4) (T := TX4) (N := 5) hx hb htl ck_X4 hown hKK.k hP 1 rfl rfl 0 (by decide) (htl _ wd_6_4) (fun _ h9 => h9) rfl dX0_cut_102 ?_
              refine lv_aload_n hx hb dX0_cut_105 rfl (lv_at hl 6 rfl) ?_
              refine lv_iload_n hx hb dX0_cut_106 rfl (lv_at hl 4 rfl) ?_
              refine lv_iload hx hb dX0_cut_107 (lv_at hl 3 rfl) ?_
              refine jr_iconst hx hb dX0_cut_109 ?_
              refine jr_iadd hx hb dX0_cut_110 ?_
              refine jr_nm (b := ((i + 1 : Nat) : Int)) (by omega) ?_
              have hDc : va_D A [ob b_95 6 [.ref c_95, vi 0], aI g c_95 60 (fun _ => 0)] := hD.sub [2, 3] (by decide) rfl
              refine jk_Qv (va_runV (As := [.ref a, vi (b : Int), vi ((i + 1 : Nat) : Int)]) (rest := []) ⟨hx, hb, hml, hown, htl⟩ (m_X6_copyRange l g b_95 c_95 ([] : List Int) (fun _ => 0) (TT.nil _) a c t f hf (jdisR hD ap_hPx [0, 1] [2, 3] rfl rfl) b (i + 1) (by omega) (by omega)) (cwV 3 htl lk_X0_54 rfl rfl rfl cwV_X6_copyRange ⟨Nat.le_of_ble_eq_true rfl, Nat.le_of_ble_eq_true rfl⟩) (jp_V hKK hS hAb (va_recv hKK.k hP (ci := 6) (q0 := 2) rfl rfl) ⟨(va_P.sub hP [2, 3] rfl), hDc.weaken (fun _ q _ h => hAb _ h), (jat hPx hS ap_hPx)⟩) rfl rfl hl.1 rfl (lv_room (Nat.le_of_ble_eq_true rfl)) dX0_cut_111 ⟨by show _ ≤ 360; omega, by show _ ≤ 13020; omega⟩) hS (fun q _ h => hDc.inA h) (fun q h => hDc.inA h) (fun H1 locs hz111 hzs hks hS => ?_)
              obtain ⟨fn111, hfn111, hP1⟩ := hz111
              obtain ⟨hP, hD⟩ := jput (wc := [ob b_95 6 [.ref c_95, vi 0], aI g c_95 60 (fun _ => 0)]) (w1 := [ob b_95 6 [.ref c_95, vi (((t.drop b).take ((i + 1) - b)).length : Int)], aI g c_95 60 fn111]) hP hD [2, 3] rfl rfl hks (fun q _ h => h) hP1
              clear hzs hks; generalize H1 = H at hP hD hS ⊢
              have hP : PP g ([ob d 0 [.ref rows], ob q91 4 [.ref b_95, .ref d_95, vi 101, vi (-1), vi 0], ob b_95 6 [.ref c_95, vi (((t.drop b).take ((i + 1) - b)).length : Int)], aI g c_95 60 fn111, ob d_95 6 [.ref e1_95, vi 0], aI g e1_95 60 (fun _ => 0)] ++ DR g ss1 lw3) H := hP
              have hD : va_D A ([ob d 0 [.ref rows], ob q91 4 [.ref b_95, .ref d_95, vi 101, vi (-1), vi 0], ob b_95 6 [.ref c_95, vi (((t.drop b).take ((i + 1) - b)).length : Int)], aI g c_95 60 fn111, ob d_95 6 [.ref e1_95, vi 0], aI g e1_95 60 (fun _ => 0)] ++ DR g ss1 lw3) := hD
              refine lv_aload_n hx hb dX0_cut_114 rfl (lv_at hl 5 rfl) ?_
              refine va_get (D := gD g) (ci := 0) (v := .ref rows) (C := RX0) (T := TX0) (N := 1) hx hb htl ck_X0 hown hKK.k hP 0 rfl rfl 0 (by decide) (htl _ wd_5_5) (fun _ h9 => h9) rfl dX0_cut_115 ?_
              refine lv_aload hx hb dX0_cut_118 (lv_at hl 0 rfl) ?_
              have hpm : ([ob d 0 [.ref rows], ob q91 4 [.ref b_95, .ref d_95, vi 101, vi (-1), vi 0], ob b_95 6 [.ref c_95, vi (((t.drop b).take ((i + 1) - b)).length : Int)], aI g c_95 60 fn111, ob d_95 6 [.ref e1_95, vi 0], aI g e1_95 60 (fun _ => 0)] ++ (lw3 ++ ss1.flatMap (sC g))).Perm (lw3 ++ ([ob d 0 [.ref rows], ob q91 4 [.ref b_95, .ref d_95, vi 101, vi (-1), vi 0], ob b_95 6 [.ref c_95, vi (((t.drop b).take ((i + 1) - b)).length : Int)], aI g c_95 60 fn111, ob d_95 6 [.ref e1_95, vi 0], aI g e1_95 60 (fun _ => 0)] ++ ss1.flatMap (sC g))) := pm3 _ _ _
              have hPl : PP g lw3 H := hP.mem fun q h => List.mem_append_right _ (DR.l q h)
              have hDl : va_D A lw3 := (hD.perm hpm).left
              have hFl := va_A_sub hDl hS.1 hA
              have hEl : EL g (q91 :: ss1.map sA) (lw3.map (·.1)) H := (EL.ofS (hP.mem fun q h => List.mem_append_right _ h) hD.right).cons (jdisT2 (ys := [q91]) hD (fun q h => DR.l q h) [1] rfl q91 List.mem_cons_self) (Or.inr rfl) (va_P.sub hP [1] rfl)
              refine jk5_Qi (va_runF (As := [.ref q91]) (rest := []) (hKK.k.1 11 _ rfl).2 ⟨hx, hb, hml, hown, htl⟩ (m_Ladd l g rows (ss1.map sA) lw3 q91 H.size hL3 (by rw [List.length_map]; omega)) (va_cwF 1 htl lkF_X0_58 rfl rfl rfl (fw_2 hKK) cwF_2 ⟨Nat.le_of_ble_eq_true rfl, Nat.le_of_ble_eq_true rfl⟩) (jp_V hKK hS hAb (LW.recv hKK hL3 hPl) ⟨rfl, hPl, hDl.weaken (fun _ q _ h => hAb _ h), hEl⟩) rfl rfl hl.1 rfl (lv_room (Nat.le_of_ble_eq_true rfl)) dX0_cut_120 ⟨by show _ ≤ 360; omega, by show _ ≤ 13020; omega⟩) hS (fun q _ h => hFl q h) hFl (fun z120 H1 locs hz120 hzs hks hS => ?_)
              obtain ⟨-, lw4, hL4, hP1, hD1⟩ := hz120
              obtain ⟨hP, hD⟩ := jjoin hP hD hpm hks hFl hP1 hD1
              obtain ⟨ss9, hss9⟩ : ∃ q : List SR, q = ss1 ++ [(q91, b_95, c_95, d_95, e1_95, ((t.drop b).take (i + 1 - b)), fn111, [], (fun _ => 0), 101, (-1), 0)] := ⟨_, rfl⟩
              have hpm2 := DR.push (g := g) (ss := ss1) (u := (q91, b_95, c_95, d_95, e1_95, ((t.drop b).take (i + 1 - b)), fn111, [], (fun _ => 0), 101, (-1), 0)) (lw := lw4) (ls := [ob d 0 [.ref rows]])
              rw [← hss9] at hpm2
              clear hpm hzs hks; generalize H1 = H at hP hD hS hP1 ⊢
              have hP : PP g ([ob d 0 [.ref rows]] ++ DR g ss9 lw4) H := hP.perm hpm2
              have hD : va_D A ([ob d 0 [.ref rows]] ++ DR g ss9 lw4) := hD.perm hpm2
              clear hpm2 hPl hDl hFl hEl hP1 hD1
              have hL9 : LW g rows (ss9.map sA) lw4 := by rw [hss9, List.map_append]; exact hL4
              have hSO9 : ∀ u ∈ ss9, SOK u := by rw [hss9]; intro u hu; rcases List.mem_append.mp hu with h | h; exact hSO1 u h; rw [List.mem_singleton.mp h]; exact ⟨hfn111, TT.nil _, by omega, by omega, by omega⟩
              refine W.widen (k := ((6 * i) + 6)) (n := ((217 * i) + 217)) (by omega) (by omega) ?_
              refine lv_pop hx hb dX0_cut_125 rfl ?_
              refine lv_iload hx hb dX0_cut_126 (lv_at hl 3 rfl) ?_
              refine jr_iconst hx hb dX0_cut_128 ?_
              refine jr_iadd hx hb dX0_cut_129 ?_
              refine jr_nm (b := ((i + 1 : Nat) : Int)) (by omega) ?_
              refine lv_istore_n (lv' := [(3, vi ((i + 1 : Nat) : Int)), (7, .ref q91), (6, vi 1), (4, vi 0), (5, vi (i : Int)), (0, .ref d), (1, .ref a), (2, .ref ba)]) hx hb dX0_cut_130 rfl hl (by decide) rfl (fun ls hl => ?_)
              refine jr_iconst hx hb dX0_cut_131 ?_
              refine lv_istore (lv' := [(4, vi 0), (3, vi ((i + 1 : Nat) : Int)), (7, .ref q91), (6, vi 1), (5, vi (i : Int)), (0, .ref d), (1, .ref a), (2, .ref ba)]) hx hb dX0_cut_132 hl (by decide) rfl (fun ls hl => ?_)
              refine jr_iinc (lv' := [(5, vi ((i : Int) + 1)), (4, vi 0), (3, vi ((i + 1 : Nat) : Int)), (7, .ref q91), (6, vi 1), (0, .ref d), (1, .ref a), (2, .ref ba)]) hx hb dX0_cut_134 hl (k := 4) rfl rfl (by decide) rfl (fun ls hl => ?_)
              refine lv_goto (tgt := 17) hx hb dX0_cut_137 (by decide) ?_
              have hcy := ctP_y (ab := ab) (t := t) (n := i) (Or.inl (by omega))
              refine W.widen (k := (6 * (i + 1))) (n := (217 * (i + 1))) (by omega) (by omega) ?_
              exact ih17 (i + 1) (i + 1) 0 ss9 lw4 (by omega) (by rw [hcy]) (by rw [hcy]; rfl) (by omega) (hL9) (hSO9) (by rw [hcy, hss9, List.map_append, List.map_append, hF, ← hb9]; rfl) (by omega) _ _ hP hD hS ls (lv_sub hl [0, 1, 2, 5, 6, 7] rfl)
          · have c38 := i01t c38
            have hor : ((ctP ab t i).2.2 || isE ab t (i : Int)) = true := by rw [c38, Bool.or_true]
            refine jr_iconst hx hb dX0_cut_41 ?_
            refine lv_goto (tgt := 46) hx hb dX0_cut_42 (by decide) ?_
            refine lv_istore (lv' := [(4, vi 1), (5, vi (i : Int)), (3, vi (b : Int)), (0, .ref d), (1, .ref a), (2, .ref ba)]) hx hb dX0_cut_46 hl (by decide) rfl (fun ls hl => ?_)
            refine lv_iload hx hb dX0_cut_48 (lv_at hl 1 rfl) ?_
            refine jr_iconst hx hb dX0_cut_50 ?_
            refine jr_iadd hx hb dX0_cut_51 ?_
            refine lv_aload_n hx hb dX0_cut_52 rfl (lv_at hl 4 rfl) ?_
            refine jk_Si (va_runV (As := []) (rest := [vi ((i : Int) + 1)]) ⟨hx, hb, hml, hown, htl⟩ (m_X6_size l g a c t f hf  ) (cwV 0 htl lk_X0_33 rfl rfl rfl cwV_X6_size ⟨Nat.le_of_ble_eq_true rfl, Nat.le_of_ble_eq_true rfl⟩) (jp_V hKK hS hAb (va_recv hKK.k (jat hPx hS ap_hPx) (ci := 6) (q0 := 0) rfl rfl) (jat hPx hS ap_hPx)) rfl rfl hl.1 rfl (lv_room (Nat.le_of_ble_eq_true rfl)) dX0_cut_53 ⟨by show _ ≤ 360; omega, by show _ ≤ 13020; omega⟩) (fun z53 hz53 => ?_)
            subst hz53
            refine jr_ne (tgt := 63) hx hb dX0_cut_56 (by decide) ⟨by omega, by omega⟩ ⟨by omega, by omega⟩ (fun c56 => ?_) (fun c56 => ?_)
            · refine jr_iconst hx hb dX0_cut_63 ?_
              refine lv_istore (lv' := [(6, vi 0), (4, vi 1), (5, vi (i : Int)), (3, vi (b : Int)), (0, .ref d), (1, .ref a), (2, .ref ba)]) hx hb dX0_cut_64 hl (by decide) rfl (fun ls hl => ?_)
              refine lv_iload hx hb dX0_cut_66 (lv_at hl 0 rfl) ?_
              refine jr_ifne (tgt := 91) hx hb dX0_cut_68 (by decide) ⟨by omega, by omega⟩ (fun c68 => absurd c68 (by omega)) (fun c68 => ?_)
              refine lv_iload hx hb dX0_cut_71 (lv_at hl 1 rfl) ?_
              refine jr_ifeq (tgt := 134) hx hb dX0_cut_73 (by decide) ⟨by omega, by omega⟩ (fun c73 => absurd c73 (by omega)) (fun c73 => ?_)
              refine lv_aload_n hx hb dX0_cut_76 rfl (lv_at hl 5 rfl) ?_
              refine lv_iload hx hb dX0_cut_77 (lv_at hl 2 rfl) ?_
              refine jr_iconst hx hb dX0_cut_79 ?_
              refine jr_iadd hx hb dX0_cut_80 ?_
              refine jk_Si (va_runV (As := [vi ((i : Int) + 1)]) (rest := []) ⟨hx, hb, hml, hown, htl⟩ (m_X6_at l g a c t f hf ((i : Int) + 1) ⟨by omega, by omega⟩) (cwV 1 htl lk_X0_40 rfl rfl rfl cwV_X6_at ⟨Nat.le_of_ble_eq_true rfl, Nat.le_of_ble_eq_true rfl⟩) (jp_V hKK hS hAb (va_recv hKK.k (jat hPx hS ap_hPx) (ci := 6) (q0 := 0) rfl rfl) (jat hPx hS ap_hPx)) rfl rfl hl.1 rfl (lv_room (Nat.le_of_ble_eq_true rfl)) dX0_cut_81 ⟨by show _ ≤ 360; omega, by show _ ≤ 13020; omega⟩) (fun z81 hz81 => ?_)
              subst hz81
              have ta := TT.tAt_b hf ((i : Int) + 1)
              have tk9 := kd_b ta
              refine jk_Si (va_runS (As := [vi (tAt t ((i : Int) + 1))]) (rest := []) ⟨hx, hb, hml, hown, htl⟩ (m_X7_kindIn l g (tAt t ((i : Int) + 1)) ⟨by omega, by omega⟩) (va_cwS 1 htl lk_X0_44 rfl rfl rfl cwS_X7_kindIn ⟨Nat.le_of_ble_eq_true rfl, Nat.le_of_ble_eq_true rfl⟩) (jp_S hKK hS hAb trivial) rfl rfl hl.1 rfl (lv_room (Nat.le_of_ble_eq_true rfl)) dX0_cut_84 ⟨by show _ ≤ 360; omega, by show _ ≤ 13020; omega⟩) (fun z84 hz84 => ?_)
              subst hz84
              refine jr_iconst hx hb dX0_cut_87 ?_
              refine jr_eq (tgt := 134) hx hb dX0_cut_88 (by decide) ⟨by omega, by omega⟩ ⟨by omega, by omega⟩ (fun c88 => ?_) (fun c88 => ?_)
              · refine jr_iinc (lv' := [(5, vi ((i : Int) + 1)), (6, vi 0), (4, vi 1), (3, vi (b : Int)), (0, .ref d), (1, .ref a), (2, .ref ba)]) hx hb dX0_cut_134 hl (k := 2) rfl rfl (by decide) rfl (fun ls hl => ?_)
                refine lv_goto (tgt := 17) hx hb dX0_cut_137 (by decide) ?_
                have hcy := ctP_n (ab := ab) (t := t) (n := i) (by omega) (fun _ => c88)
                refine W.widen (k := (6 * (i + 1))) (n := (217 * (i + 1))) (by omega) (by omega) ?_
                exact ih17 (i + 1) b 1 ss1 lw3 (by omega) (by rw [hcy]; exact hb9) (by rw [hcy]; exact (if_pos hor).symm) (by omega) (hL3) (hSO1) (by rw [hcy]; exact hF) (by omega) _ _ hP hD hS ls (lv_sub hl [0, 2, 3, 4, 5, 6] rfl)
              · refine va_new (ci := 4) (fs := [.null, .null, vi 0, vi 0, vi 0]) (C := RX4) (T := TX4) (N := 5) hx hb htl ck_X4 tyX4 tyX4_ok hown (htl _ wd_18_7) (htl _ wd_18_8) (htl _ wd_7_19) hKK.k hP hD hS hA rfl (fun j hj => by rcases (show j = 0 ∨ j = 1 ∨ j = 2 ∨ j = 3 ∨ j = 4 by omega) with rfl | rfl | rfl | rfl | rfl <;> rfl) (by show _ ≤ 360; omega) (by show _ ≤ 13020; omega) dX0_cut_91 (fun q91 H hP hD hS => ?_)
                have hP : PP g ([ob d 0 [.ref rows], ob q91 4 [.null, .null, vi 0, vi 0, vi 0]] ++ DR g ss1 lw3) H := PP.perm (g := g) hP pm_new1
                have hD : va_D A ([ob d 0 [.ref rows], ob q91 4 [.null, .null, vi 0, vi 0, vi 0]] ++ DR g ss1 lw3) := va_D.perm hD pm_new1
                refine W.widen (k := ((6 * i) + 1)) (n := ((217 * i) + 5)) (by omega) (by omega) ?_
                refine lv_dup hx hb dX0_cut_94 rfl ?_
                have hpm : ([ob d 0 [.ref rows], ob q91 4 [.null, .null, vi 0, vi 0, vi 0]] ++ DR g ss1 lw3).Perm ([ob q91 4 [.null, .null, vi 0, vi 0, vi 0]] ++ ([ob d 0 [.ref rows]] ++ DR g ss1 lw3)) := pm_last (wr := [ob d 0 [.ref rows]]) (wc := [ob q91 4 [.null, .null, vi 0, vi 0, vi 0]]) (tl := DR g ss1 lw3)
                have hDc : va_D A [ob q91 4 [.null, .null, vi 0, vi 0, vi 0]] := (hD.perm hpm).left
                have hFc := va_A_sub hDc hS.1 hA
                refine jk_Qv (va_runIN (As := []) (rest := [.ref q91]) ⟨hx, hb, hml, hown, htl⟩ (m_X4_init l g q91 H.size) ⟨va_cnB 0 htl (gd_ wd_19_3) rfl rfl rfl (nst_4 hKK) (htl _ wd_7_19) cwS_X4_init ⟨Nat.le_of_ble_eq_true rfl, Nat.le_of_ble_eq_true rfl⟩, rfl, htl _ wd_19_2⟩ (jp_S hKK hS hAb ⟨rfl, (va_P.sub hP [1] rfl), hDc.weaken (fun _ q _ h => hAb _ h)⟩) rfl rfl hl.1 rfl (lv_room (Nat.le_of_ble_eq_true rfl)) dX0_cut_95 ⟨by show _ ≤ 360; omega, by show _ ≤ 13020; omega⟩) hS (fun q _ h => hFc q h) hFc (fun H1 locs hz95 hzs hks hS => ?_)
                obtain ⟨b_95, c_95, d_95, e1_95, hP1, hD1⟩ := hz95
                obtain ⟨hP, hD⟩ := jjoin (w1 := [ob q91 4 [.ref b_95, .ref d_95, vi 101, vi (-1), vi 0], ob b_95 6 [.ref c_95, vi 0], aI g c_95 60 (fun _ => 0), ob d_95 6 [.ref e1_95, vi 0], aI g e1_95 60 (fun _ => 0)]) hP hD hpm hks hFc hP1 hD1
                clear hpm hzs hks; generalize H1 = H at hP hD hS ⊢
                have hP : PP g ([ob d 0 [.ref rows], ob q91 4 [.ref b_95, .ref d_95, vi 101, vi (-1), vi 0], ob b_95 6 [.ref c_95, vi 0], aI g c_95 60 (fun _ => 0), ob d_95 6 [.ref e1_95, vi 0], aI g e1_95 60 (fun _ => 0)] ++ DR g ss1 lw3) H := hP.perm (pm_last (wr := [ob d 0 [.ref rows]]) (wc := [ob q91 4 [.ref b_95, .ref d_95, vi 101, vi (-1), vi 0], ob b_95 6 [.ref c_95, vi 0], aI g c_95 60 (fun _ => 0), ob d_95 6 [.ref e1_95, vi 0], aI g e1_95 60 (fun _ => 0)])).symm
                have hD : va_D A ([ob d 0 [.ref rows], ob q91 4 [.ref b_95, .ref d_95, vi 101, vi (-1), vi 0], ob b_95 6 [.ref c_95, vi 0], aI g c_95 60 (fun _ => 0), ob d_95 6 [.ref e1_95, vi 0], aI g e1_95 60 (fun _ => 0)] ++ DR g ss1 lw3) := hD.perm (pm_last (wr := [ob d 0 [.ref rows]]) (wc := [ob q91 4 [.ref b_95, .ref d_95, vi 101, vi (-1), vi 0], ob b_95 6 [.ref c_95, vi 0], aI g c_95 60 (fun _ => 0), ob d_95 6 [.ref e1_95, vi 0], aI g e1_95 60 (fun _ => 0)])).symm
                refine W.widen (k := ((6 * i) + 5)) (n := ((217 * i) + 129)) (by omega) (by omega) ?_
                refine lv_astore (lv' := [(7, .ref q91), (6, vi 0), (4, vi 1), (5, vi (i : Int)), (3, vi (b : Int)), (0, .ref d), (1, .ref a), (2, .ref ba)]) hx hb dX0_cut_98 hl (by decide) rfl (fun ls hl => ?_)
                refine lv_aload hx hb dX0_cut_100 (lv_at hl 0 rfl) ?_
                refine va_get (D := gD g) (ci := 4) (v := .ref b_95) (C := RX4) (T := TX4) (N := 5) hx hb htl ck_X4 hown hKK.k hP 1 rfl rfl 0 (by decide) (htl _ wd_6_4) (fun _ h9 => h9) rfl dX0_cut_102 ?_
                refine lv_aload_n hx hb dX0_cut_105 rfl (lv_at hl 6 rfl) ?_
                refine lv_iload_n hx hb dX0_cut_106 rfl (lv_at hl 4 rfl) ?_
                refine lv_iload hx hb dX0_cut_107 (lv_at hl 3 rfl) ?_
                refine jr_iconst hx hb dX0_cut_109 ?_
                refine jr_iadd hx hb dX0_cut_110 ?_
                refine jr_nm (b := ((i + 1 : Nat) : Int)) (by omega) ?_
                have hDc : va_D A [ob b_95 6 [.ref c_95, vi 0], aI g c_95 60 (fun _ => 0)] := hD.sub [2, 3] (by decide) rfl
                refine jk_Qv (va_runV (As := [.ref a, vi (b : Int), vi ((i + 1 : Nat) : Int)]) (rest := []) ⟨hx, hb, hml, hown, htl⟩ (m_X6_copyRange l g b_95 c_95 ([] : List Int) (fun _ => 0) (TT.nil _) a c t f hf (jdisR hD ap_hPx [0, 1] [2, 3] rfl rfl) b (i + 1) (by omega) (by omega)) (cwV 3 htl lk_X0_54 rfl rfl rfl cwV_X6_copyRange ⟨Nat.le_of_ble_eq_true rfl, Nat.le_of_ble_eq_true rfl⟩) (jp_V hKK hS hAb (va_recv hKK.k hP (ci := 6) (q0 := 2) rfl rfl) ⟨(va_P.sub hP [2, 3] rfl), hDc.weaken (fun _ q _ h => hAb _ h), (jat hPx hS ap_hPx)⟩) rfl rfl hl.1 rfl (lv_room (Nat.le_of_ble_eq_true rfl)) dX0_cut_111 ⟨by show _ ≤ 360; omega, by show _ ≤ 13020; omega⟩) hS (fun q _ h => hDc.inA h) (fun q h => hDc.inA h) (fun H1 locs hz111 hzs hks hS => ?_)
                obtain ⟨fn111, hfn111, hP1⟩ := hz111
                obtain ⟨hP, hD⟩ := jput (wc := [ob b_95 6 [.ref c_95, vi 0], aI g c_95 60 (fun _ => 0)]) (w1 := [ob b_95 6 [.ref c_95, vi (((t.drop b).take ((i + 1) - b)).length : Int)], aI g c_95 60 fn111]) hP hD [2, 3] rfl rfl hks (fun q _ h => h) hP1
                clear hzs hks; generalize H1 = H at hP hD hS ⊢
                have hP : PP g ([ob d 0 [.ref rows], ob q91 4 [.ref b_95, .ref d_95, vi 101, vi (-1), vi 0], ob b_95 6 [.ref c_95, vi (((t.drop b).take ((i + 1) - b)).length : Int)], aI g c_95 60 fn111, ob d_95 6 [.ref e1_95, vi 0], aI g e1_95 60 (fun _ => 0)] ++ DR g ss1 lw3) H := hP
                have hD : va_D A ([ob d 0 [.ref rows], ob q91 4 [.ref b_95, .ref d_95, vi 101, vi (-1), vi 0], ob b_95 6 [.ref c_95, vi (((t.drop b).take ((i + 1) - b)).length : Int)], aI g c_95 60 fn111, ob d_95 6 [.ref e1_95, vi 0], aI g e1_95 60 (fun _ => 0)] ++ DR g ss1 lw3) := hD
                refine lv_aload_n hx hb dX0_cut_114 rfl (lv_at hl 5 rfl) ?_
                refine va_get (D := gD g) (ci := 0) (v := .ref rows) (C := RX0) (T := TX0) (N := 1) hx hb htl ck_X0 hown hKK.k hP 0 rfl rfl 0 (by decide) (htl _ wd_5_5) (fun _ h9 => h9) rfl dX0_cut_115 ?_
                refine lv_aload hx hb dX0_cut_118 (lv_at hl 0 rfl) ?_
                have hpm : ([ob d 0 [.ref rows], ob q91 4 [.ref b_95, .ref d_95, vi 101, vi (-1), vi 0], ob b_95 6 [.ref c_95, vi (((t.drop b).take ((i + 1) - b)).length : Int)], aI g c_95 60 fn111, ob d_95 6 [.ref e1_95, vi 0], aI g e1_95 60 (fun _ => 0)] ++ (lw3 ++ ss1.flatMap (sC g))).Perm (lw3 ++ ([ob d 0 [.ref rows], ob q91 4 [.ref b_95, .ref d_95, vi 101, vi (-1), vi 0], ob b_95 6 [.ref c_95, vi (((t.drop b).take ((i + 1) - b)).length : Int)], aI g c_95 60 fn111, ob d_95 6 [.ref e1_95, vi 0], aI g e1_95 60 (fun _ => 0)] ++ ss1.flatMap (sC g))) := pm3 _ _ _
                have hPl : PP g lw3 H := hP.mem fun q h => List.mem_append_right _ (DR.l q h)
                have hDl : va_D A lw3 := (hD.perm hpm).left
                have hFl := va_A_sub hDl hS.1 hA
                have hEl : EL g (q91 :: ss1.map sA) (lw3.map (·.1)) H := (EL.ofS (hP.mem fun q h => List.mem_append_right _ h) hD.right).cons (jdisT2 (ys := [q91]) hD (fun q h => DR.l q h) [1] rfl q91 List.mem_cons_self) (Or.inr rfl) (va_P.sub hP [1] rfl)
                refine jk5_Qi (va_runF (As := [.ref q91]) (rest := []) (hKK.k.1 11 _ rfl).2 ⟨hx, hb, hml, hown, htl⟩ (m_Ladd l g rows (ss1.map sA) lw3 q91 H.size hL3 (by rw [List.length_map]; omega)) (va_cwF 1 htl lkF_X0_58 rfl rfl rfl (fw_2 hKK) cwF_2 ⟨Nat.le_of_ble_eq_true rfl, Nat.le_of_ble_eq_true rfl⟩) (jp_V hKK hS hAb (LW.recv hKK hL3 hPl) ⟨rfl, hPl, hDl.weaken (fun _ q _ h => hAb _ h), hEl⟩) rfl rfl hl.1 rfl (lv_room (Nat.le_of_ble_eq_true rfl)) dX0_cut_120 ⟨by show _ ≤ 360; omega, by show _ ≤ 13020; omega⟩) hS (fun q _ h => hFl q h) hFl (fun z120 H1 locs hz120 hzs hks hS => ?_)
                obtain ⟨-, lw4, hL4, hP1, hD1⟩ := hz120
                obtain ⟨hP, hD⟩ := jjoin hP hD hpm hks hFl hP1 hD1
                obtain ⟨ss9, hss9⟩ : ∃ q : List SR, q = ss1 ++ [(q91, b_95, c_95, d_95, e1_95, ((t.drop b).take (i + 1 - b)), fn111, [], (fun _ => 0), 101, (-1), 0)] := ⟨_, rfl⟩
                have hpm2 := DR.push (g := g) (ss := ss1) (u := (q91, b_95, c_95, d_95, e1_95, ((t.drop b).take (i + 1 - b)), fn111, [], (fun _ => 0), 101, (-1), 0)) (lw := lw4) (ls := [ob d 0 [.ref rows]])
                rw [← hss9] at hpm2
                clear hpm hzs hks; generalize H1 = H at hP hD hS hP1 ⊢
                have hP : PP g ([ob d 0 [.ref rows]] ++ DR g ss9 lw4) H := hP.perm hpm2
                have hD : va_D A ([ob d 0 [.ref rows]] ++ DR g ss9 lw4) := hD.perm hpm2
                clear hpm2 hPl hDl hFl hEl hP1 hD1
                have hL9 : LW g rows (ss9.map sA) lw4 := by rw [hss9, List.map_append]; exact hL4
                have hSO9 : ∀ u ∈ ss9, SOK u := by rw [hss9]; intro u hu; rcases List.mem_append.mp hu with h | h; exact hSO1 u h; rw [List.mem_singleton.mp h]; exact ⟨hfn111, TT.nil _, by omega, by omega, by omega⟩
                refine W.widen (k := ((6 * i) + 6)) (n := ((217 * i) + 217)) (by omega) (by omega) ?_
                refine lv_pop hx hb dX0_cut_125 rfl ?_
                refine lv_iload hx hb dX0_cut_126 (lv_at hl 3 rfl) ?_
                refine jr_iconst hx hb dX0_cut_128 ?_
                refine jr_iadd hx hb dX0_cut_129 ?_
                refine jr_nm (b := ((i + 1 : Nat) : Int)) (by omega) ?_
                refine lv_istore_n (lv' := [(3, vi ((i + 1 : Nat) : Int)), (7, .ref q91), (6, vi 0), (4, vi 1), (5, vi (i : Int)), (0, .ref d), (1, .ref a), (2, .ref ba)]) hx hb dX0_cut_130 rfl hl (by decide) rfl (fun ls hl => ?_)
                refine jr_iconst hx hb dX0_cut_131 ?_
                refine lv_istore (lv' := [(4, vi 0), (3, vi ((i + 1 : Nat) : Int)), (7, .ref q91), (6, vi 0), (5, vi (i : Int)), (0, .ref d), (1, .ref a), (2, .ref ba)]) hx hb dX0_cut_132 hl (by decide) rfl (fun ls hl => ?_)
                refine jr_iinc (lv' := [(5, vi ((i : Int) + 1)), (4, vi 0), (3, vi ((i + 1 : Nat) : Int)), (7, .ref q91), (6, vi 0), (0, .ref d), (1, .ref a), (2, .ref ba)]) hx hb dX0_cut_134 hl (k := 4) rfl rfl (by decide) rfl (fun ls hl => ?_)
                refine lv_goto (tgt := 17) hx hb dX0_cut_137 (by decide) ?_
                have hcy := ctP_y (ab := ab) (t := t) (n := i) (Or.inr ⟨hor, c88⟩)
                refine W.widen (k := (6 * (i + 1))) (n := (217 * (i + 1))) (by omega) (by omega) ?_
                exact ih17 (i + 1) (i + 1) 0 ss9 lw4 (by omega) (by rw [hcy]) (by rw [hcy]; rfl) (by omega) (hL9) (hSO9) (by rw [hcy, hss9, List.map_append, List.map_append, hF, ← hb9]; rfl) (by omega) _ _ hP hD hS ls (lv_sub hl [0, 1, 2, 5, 6, 7] rfl)
            · refine jr_iconst hx hb dX0_cut_59 ?_
              refine lv_goto (tgt := 64) hx hb dX0_cut_60 (by decide) ?_
              refine lv_istore (lv' := [(6, vi 1), (4, vi 1), (5, vi (i : Int)), (3, vi (b : Int)), (0, .ref d), (1, .ref a), (2, .ref ba)]) hx hb dX0_cut_64 hl (by decide) rfl (fun ls hl => ?_)
              refine lv_iload hx hb dX0_cut_66 (lv_at hl 0 rfl) ?_
              refine jr_ifne (tgt := 91) hx hb dX0_cut_68 (by decide) ⟨by omega, by omega⟩ (fun c68 => ?_) (fun c68 => absurd c68 (by omega))
              refine va_new (ci := 4) (fs := [.null, .null, vi 0, vi 0, vi 0]) (C := RX4) (T := TX4) (N := 5) hx hb htl ck_X4 tyX4 tyX4_ok hown (htl _ wd_18_7) (htl _ wd_18_8) (htl _ wd_7_19) hKK.k hP hD hS hA rfl (fun j hj => by rcases (show j = 0 ∨ j = 1 ∨ j = 2 ∨ j = 3 ∨ j = 4 by omega) with rfl | rfl | rfl | rfl | rfl <;> rfl) (by show _ ≤ 360; omega) (by show _ ≤ 13020; omega) dX0_cut_91 (fun q91 H hP hD hS => ?_)
              have hP : PP g ([ob d 0 [.ref rows], ob q91 4 [.null, .null, vi 0, vi 0, vi 0]] ++ DR g ss1 lw3) H := PP.perm (g := g) hP pm_new1
              have hD : va_D A ([ob d 0 [.ref rows], ob q91 4 [.null, .null, vi 0, vi 0, vi 0]] ++ DR g ss1 lw3) := va_D.perm hD pm_new1
              refine W.widen (k := ((6 * i) + 1)) (n := ((217 * i) + 5)) (by omega) (by omega) ?_
              refine lv_dup hx hb dX0_cut_94 rfl ?_
              have hpm : ([ob d 0 [.ref rows], ob q91 4 [.null, .null, vi 0, vi 0, vi 0]] ++ DR g ss1 lw3).Perm ([ob q91 4 [.null, .null, vi 0, vi 0, vi 0]] ++ ([ob d 0 [.ref rows]] ++ DR g ss1 lw3)) := pm_last (wr := [ob d 0 [.ref rows]]) (wc := [ob q91 4 [.null, .null, vi 0, vi 0, vi 0]]) (tl := DR g ss1 lw3)
              have hDc : va_D A [ob q91 4 [.null, .null, vi 0, vi 0, vi 0]] := (hD.perm hpm).left
              have hFc := va_A_sub hDc hS.1 hA
              refine jk_Qv (va_runIN (As := []) (rest := [.ref q91]) ⟨hx, hb, hml, hown, htl⟩ (m_X4_init l g q91 H.size) ⟨va_cnB 0 htl (gd_ wd_19_3) rfl rfl rfl (nst_4 hKK) (htl _ wd_7_19) cwS_X4_init ⟨Nat.le_of_ble_eq_true rfl, Nat.le_of_ble_eq_true rfl⟩, rfl, htl _ wd_19_2⟩ (jp_S hKK hS hAb ⟨rfl, (va_P.sub hP [1] rfl), hDc.weaken (fun _ q _ h => hAb _ h)⟩) rfl rfl hl.1 rfl (lv_room (Nat.le_of_ble_eq_true rfl)) dX0_cut_95 ⟨by show _ ≤ 360; omega, by show _ ≤ 13020; omega⟩) hS (fun q _ h => hFc q h) hFc (fun H1 locs hz95 hzs hks hS => ?_)
              obtain ⟨b_95, c_95, d_95, e1_95, hP1, hD1⟩ := hz95
              obtain ⟨hP, hD⟩ := jjoin (w1 := [ob q91 4 [.ref b_95, .ref d_95, vi 101, vi (-1), vi 0], ob b_95 6 [.ref c_95, vi 0], aI g c_95 60 (fun _ => 0), ob d_95 6 [.ref e1_95, vi 0], aI g e1_95 60 (fun _ => 0)]) hP hD hpm hks hFc hP1 hD1
              clear hpm hzs hks; generalize H1 = H at hP hD hS ⊢
              have hP : PP g ([ob d 0 [.ref rows], ob q91 4 [.ref b_95, .ref d_95, vi 101, vi (-1), vi 0], ob b_95 6 [.ref c_95, vi 0], aI g c_95 60 (fun _ => 0), ob d_95 6 [.ref e1_95, vi 0], aI g e1_95 60 (fun _ => 0)] ++ DR g ss1 lw3) H := hP.perm (pm_last (wr := [ob d 0 [.ref rows]]) (wc := [ob q91 4 [.ref b_95, .ref d_95, vi 101, vi (-1), vi 0], ob b_95 6 [.ref c_95, vi 0], aI g c_95 60 (fun _ => 0), ob d_95 6 [.ref e1_95, vi 0], aI g e1_95 60 (fun _ => 0)])).symm
              have hD : va_D A ([ob d 0 [.ref rows], ob q91 4 [.ref b_95, .ref d_95, vi 101, vi (-1), vi 0], ob b_95 6 [.ref c_95, vi 0], aI g c_95 60 (fun _ => 0), ob d_95 6 [.ref e1_95, vi 0], aI g e1_95 60 (fun _ => 0)] ++ DR g ss1 lw3) := hD.perm (pm_last (wr := [ob d 0 [.ref rows]]) (wc := [ob q91 4 [.ref b_95, .ref d_95, vi 101, vi (-1), vi 0], ob b_95 6 [.ref c_95, vi 0], aI g c_95 60 (fun _ => 0), ob d_95 6 [.ref e1_95, vi 0], aI g e1_95 60 (fun _ => 0)])).symm
              refine W.widen (k := ((6 * i) + 5)) (n := ((217 * i) + 129)) (by omega) (by omega) ?_
              refine lv_astore (lv' := [(7, .ref q91), (6, vi 1), (4, vi 1), (5, vi (i : Int)), (3, vi (b : Int)), (0, .ref d), (1, .ref a), (2, .ref ba)]) hx hb dX0_cut_98 hl (by decide) rfl (fun ls hl => ?_)
              refine lv_aload hx hb dX0_cut_100 (lv_at hl 0 rfl) ?_
              refine va_get (D := gD g) (ci := 4) (v := .ref b_95) (C := RX4) (T := TX4) (N := 5) hx hb htl ck_X4 hown hKK.k hP 1 rfl rfl 0 (by decide) (htl _ wd_6_4) (fun _ h9 => h9) rfl dX0_cut_102 ?_
              refine lv_aload_n hx hb dX0_cut_105 rfl (lv_at hl 6 rfl) ?_
              refine lv_iload_n hx hb dX0_cut_106 rfl (lv_at hl 4 rfl) ?_
              refine lv_iload hx hb dX0_cut_107 (lv_at hl 3 rfl) ?_
              refine jr_iconst hx hb dX0_cut_109 ?_
              refine jr_iadd hx hb dX0_cut_110 ?_
              refine jr_nm (b := ((i + 1 : Nat) : Int)) (by omega) ?_
              have hDc : va_D A [ob b_95 6 [.ref c_95, vi 0], aI g c_95 60 (fun _ => 0)] := hD.sub [2, 3] (by decide) rfl
              refine jk_Qv (va_runV (As := [.ref a, vi (b : Int), vi ((i + 1 : Nat) : Int)]) (rest := []) ⟨hx, hb, hml, hown, htl⟩ (m_X6_copyRange l g b_95 c_95 ([] : List Int) (fun _ => 0) (TT.nil _) a c t f hf (jdisR hD ap_hPx [0, 1] [2, 3] rfl rfl) b (i + 1) (by omega) (by omega)) (cwV 3 htl lk_X0_54 rfl rfl rfl cwV_X6_copyRange ⟨Nat.le_of_ble_eq_true rfl, Nat.le_of_ble_eq_true rfl⟩) (jp_V hKK hS hAb (va_recv hKK.k hP (ci := 6) (q0 := 2) rfl rfl) ⟨(va_P.sub hP [2, 3] rfl), hDc.weaken (fun _ q _ h => hAb _ h), (jat hPx hS ap_hPx)⟩) rfl rfl hl.1 rfl (lv_room (Nat.le_of_ble_eq_true rfl)) dX0_cut_111 ⟨by show _ ≤ 360; omega, by show _ ≤ 13020; omega⟩) hS (fun q _ h => hDc.inA h) (fun q h => hDc.inA h) (fun H1 locs hz111 hzs hks hS => ?_)
              obtain ⟨fn111, hfn111, hP1⟩ := hz111
              obtain ⟨hP, hD⟩ := jput (wc := [ob b_95 6 [.ref c_95, vi 0], aI g c_95 60 (fun _ => 0)]) (w1 := [ob b_95 6 [.ref c_95, vi (((t.drop b).take ((i + 1) - b)).length : Int)], aI g c_95 60 fn111]) hP hD [2, 3] rfl rfl hks (fun q _ h => h) hP1
              clear hzs hks; generalize H1 = H at hP hD hS ⊢
              have hP : PP g ([ob d 0 [.ref rows], ob q91 4 [.ref b_95, .ref d_95, vi 101, vi (-1), vi 0], ob b_95 6 [.ref c_95, vi (((t.drop b).take ((i + 1) - b)).length : Int)], aI g c_95 60 fn111, ob d_95 6 [.ref e1_95, vi 0], aI g e1_95 60 (fun _ => 0)] ++ DR g ss1 lw3) H := hP
              have hD : va_D A ([ob d 0 [.ref rows], ob q91 4 [.ref b_95, .ref d_95, vi 101, vi (-1), vi 0], ob b_95 6 [.ref c_95, vi (((t.drop b).take ((i + 1) - b)).length : Int)], aI g c_95 60 fn111, ob d_95 6 [.ref e1_95, vi 0], aI g e1_95 60 (fun _ => 0)] ++ DR g ss1 lw3) := hD
              refine lv_aload_n hx hb dX0_cut_114 rfl (lv_at hl 5 rfl) ?_
              refine va_get (D := gD g) (ci := 0) (v := .ref rows) (C := RX0) (T := TX0) (N := 1) hx hb htl ck_X0 hown hKK.k hP 0 rfl rfl 0 (by decide) (htl _ wd_5_5) (fun _ h9 => h9) rfl dX0_cut_115 ?_
              refine lv_aload hx hb dX0_cut_118 (lv_at hl 0 rfl) ?_
              have hpm : ([ob d 0 [.ref rows], ob q91 4 [.ref b_95, .ref d_95, vi 101, vi (-1), vi 0], ob b_95 6 [.ref c_95, vi (((t.drop b).take ((i + 1) - b)).length : Int)], aI g c_95 60 fn111, ob d_95 6 [.ref e1_95, vi 0], aI g e1_95 60 (fun _ => 0)] ++ (lw3 ++ ss1.flatMap (sC g))).Perm (lw3 ++ ([ob d 0 [.ref rows], ob q91 4 [.ref b_95, .ref d_95, vi 101, vi (-1), vi 0], ob b_95 6 [.ref c_95, vi (((t.drop b).take ((i + 1) - b)).length : Int)], aI g c_95 60 fn111, ob d_95 6 [.ref e1_95, vi 0], aI g e1_95 60 (fun _ => 0)] ++ ss1.flatMap (sC g))) := pm3 _ _ _
              have hPl : PP g lw3 H := hP.mem fun q h => List.mem_append_right _ (DR.l q h)
              have hDl : va_D A lw3 := (hD.perm hpm).left
              have hFl := va_A_sub hDl hS.1 hA
              have hEl : EL g (q91 :: ss1.map sA) (lw3.map (·.1)) H := (EL.ofS (hP.mem fun q h => List.mem_append_right _ h) hD.right).cons (jdisT2 (ys := [q91]) hD (fun q h => DR.l q h) [1] rfl q91 List.mem_cons_self) (Or.inr rfl) (va_P.sub hP [1] rfl)
              refine jk5_Qi (va_runF (As := [.ref q91]) (rest := []) (hKK.k.1 11 _ rfl).2 ⟨hx, hb, hml, hown, htl⟩ (m_Ladd l g rows (ss1.map sA) lw3 q91 H.size hL3 (by rw [List.length_map]; omega)) (va_cwF 1 htl lkF_X0_58 rfl rfl rfl (fw_2 hKK) cwF_2 ⟨Nat.le_of_ble_eq_true rfl, Nat.le_of_ble_eq_true rfl⟩) (jp_V hKK hS hAb (LW.recv hKK hL3 hPl) ⟨rfl, hPl, hDl.weaken (fun _ q _ h => hAb _ h), hEl⟩) rfl rfl hl.1 rfl (lv_room (Nat.le_of_ble_eq_true rfl)) dX0_cut_120 ⟨by show _ ≤ 360; omega, by show _ ≤ 13020; omega⟩) hS (fun q _ h => hFl q h) hFl (fun z120 H1 locs hz120 hzs hks hS => ?_)
              obtain ⟨-, lw4, hL4, hP1, hD1⟩ := hz120
              obtain ⟨hP, hD⟩ := jjoin hP hD hpm hks hFl hP1 hD1
              obtain ⟨ss9, hss9⟩ : ∃ q : List SR, q = ss1 ++ [(q91, b_95, c_95, d_95, e1_95, ((t.drop b).take (i + 1 - b)), fn111, [], (fun _ => 0), 101, (-1), 0)] := ⟨_, rfl⟩
              have hpm2 := DR.push (g := g) (ss := ss1) (u := (q91, b_95, c_95, d_95, e1_95, ((t.drop b).take (i + 1 - b)), fn111, [], (fun _ => 0), 101, (-1), 0)) (lw := lw4) (ls := [ob d 0 [.ref rows]])
              rw [← hss9] at hpm2
              clear hpm hzs hks; generalize H1 = H at hP hD hS hP1 ⊢
              have hP : PP g ([ob d 0 [.ref rows]] ++ DR g ss9 lw4) H := hP.perm hpm2
              have hD : va_D A ([ob d 0 [.ref rows]] ++ DR g ss9 lw4) := hD.perm hpm2
              clear hpm2 hPl hDl hFl hEl hP1 hD1
              have hL9 : LW g rows (ss9.map sA) lw4 := by rw [hss9, List.map_append]; exact hL4
              have hSO9 : ∀ u ∈ ss9, SOK u := by rw [hss9]; intro u hu; rcases List.mem_append.mp hu with h | h; exact hSO1 u h; rw [List.mem_singleton.mp h]; exact ⟨hfn111, TT.nil _, by omega, by omega, by omega⟩
              refine W.widen (k := ((6 * i) + 6)) (n := ((217 * i) + 217)) (by omega) (by omega) ?_
              refine lv_pop hx hb dX0_cut_125 rfl ?_
              refine lv_iload hx hb dX0_cut_126 (lv_at hl 3 rfl) ?_
              refine jr_iconst hx hb dX0_cut_128 ?_
              refine jr_iadd hx hb dX0_cut_129 ?_
              refine jr_nm (b := ((i + 1 : Nat) : Int)) (by omega) ?_
              refine lv_istore_n (lv' := [(3, vi ((i + 1 : Nat) : Int)), (7, .ref q91), (6, vi 1), (4, vi 1), (5, vi (i : Int)), (0, .ref d), (1, .ref a), (2, .ref ba)]) hx hb dX0_cut_130 rfl hl (by decide) rfl (fun ls hl => ?_)
              refine jr_iconst hx hb dX0_cut_131 ?_
              refine lv_istore (lv' := [(4, vi 0), (3, vi ((i + 1 : Nat) : Int)), (7, .ref q91), (6, vi 1), (5, vi (i : Int)), (0, .ref d), (1, .ref a), (2, .ref ba)]) hx hb dX0_cut_132 hl (by decide) rfl (fun ls hl => ?_)
              refine jr_iinc (lv' := [(5, vi ((i : Int) + 1)), (4, vi 0), (3, vi ((i + 1 : Nat) : Int)), (7, .ref q91), (6, vi 1), (0, .ref d), (1, .ref a), (2, .ref ba)]) hx hb dX0_cut_134 hl (k := 4) rfl rfl (by decide) rfl (fun ls hl => ?_)
              refine lv_goto (tgt := 17) hx hb dX0_cut_137 (by decide) ?_
              have hcy := ctP_y (ab := ab) (t := t) (n := i) (Or.inl (by omega))
              refine W.widen (k := (6 * (i + 1))) (n := (217 * (i + 1))) (by omega) (by omega) ?_
              exact ih17 (i + 1) (i + 1) 0 ss9 lw4 (by omega) (by rw [hcy]) (by rw [hcy]; rfl) (by omega) (hL9) (hSO9) (by rw [hcy, hss9, List.map_append, List.map_append, hF, ← hb9]; rfl) (by omega) _ _ hP hD hS ls (lv_sub hl [0, 1, 2, 5, 6, 7] rfl)
  exact lp17 _ 0 0 0 [] lw3 (Nat.zero_le _) (rfl) (rfl) (by omega) (hL3) (fun _ h => nomatch h) (rfl) (Nat.lt_succ_self _) _ _ hP hD hS ls (lv_sub hl [0, 1, 2, 3, 4, 5] rfl)
