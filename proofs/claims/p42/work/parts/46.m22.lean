
theorem lk_X0_91 : GoodIn WSL (wsV RX0 91 RX4 yX4_setRepeat (ws_ yX4_setRepeat cX4_setRepeat 2 none)) := gd_app (List.forall_mem_cons.mpr ⟨wd_25_11, List.forall_mem_cons.mpr ⟨wd_20_3, List.forall_mem_cons.mpr ⟨wd_20_4, List.forall_mem_cons.mpr ⟨wd_7_19, fun _ h => nomatch h⟩⟩⟩⟩) (gd_ wd_20_5)
theorem cwV_X4_setRepeat : yX4_setRepeat.cls = RX4 ∧ yX4_setRepeat.cls ≠ "java/lang/invoke/MethodHandle" ∧ yX4_setRepeat.cls ≠ "java/lang/invoke/VarHandle" ∧ (parseMethodDescriptor yX4_setRepeat.desc).map (fun d => d.parameters.length) = some 1 := by decide +kernel
set_option maxHeartbeats 4000000 in
set_option maxRecDepth 100000 in
theorem m_X0_spreadAnswer (l : Launch) (g : GT) (d rows : Nat) (ss : List SR) (lw : va_W) (hL : LW g rows (ss.map sA) lw) (hSO : ∀ u ∈ ss, SOK u) (h60 : ss.length ≤ 60) (k : Nat) (hk : k < ss.length) : Met l yX0_spreadAnswer (ws_ yX0_spreadAnswer cX0_spreadAnswer 7 (some .int)) (rmm 6 0 0) (jPc g [.ref d, vi (k : Int)] (fun H => PP g ([ob d 0 [.ref rows]] ++ DR g ss lw) H ∧ va_D (fun q => gb g ≤ q) ([ob d 0 [.ref rows]] ++ DR g ss lw))) (jQi (fun z H1 => ∃ ss1 : List SR, ss1.map sA = ss.map sA ∧ (∀ u ∈ ss1, SOK u) ∧ ss1.map sV = (spP (ss.map sV) k (sv ss k).1 (sv ss k).2.1 ss.length).1 ∧ z = (spP (ss.map sV) k (sv ss k).1 (sv ss k).2.1 ss.length).2 ∧ PP g ([ob d 0 [.ref rows]] ++ DR g ss1 lw) H1 ∧ va_D (jA ([ob d 0 [.ref rows]] ++ DR g ss lw)) ([ob d 0 [.ref rows]] ++ DR g ss1 lw)) (jA ([ob d 0 [.ref rows]] ++ DR g ss lw))) 0 0 (jA ([ob d 0 [.ref rows]] ++ DR g ss lw)) := by
  refine jb_M (by decide) (Nat.le_of_ble_eq_true rfl) ?_
  intro p e s m below meth cq hx hb hr hml hown htl hlk hnm hKK hpre ls hl
  have hown : s.vm.findClass RX0 = some m.cls := hown
  have hl : lv_has ls 7 [(0, .ref d), (1, vi (k : Int))] := hl
  obtain ⟨hP, hD0⟩ := hpre
  have hD : va_D (jA ([ob d 0 [.ref rows]] ++ DR g ss lw)) ([ob d 0 [.ref rows]] ++ DR g ss lw) := hD0.inD
  have hAb : ∀ q, (jA ([ob d 0 [.ref rows]] ++ DR g ss lw)) q → gb g ≤ q := fun q h => hD0.inA h
  generalize hAe : jA ([ob d 0 [.ref rows]] ++ DR g ss lw) = A at *
  have hS : va_S A s.heap s.heap [] := va_S.rf
  suffices K : ∀ (H : Heap) (locs : List Loc), PP g ([ob d 0 [.ref rows]] ++ DR g ss lw) H → va_D A ([ob d 0 [.ref rows]] ++ DR g ss lw) → va_S A s.heap H locs → ∀ ls : Array Slot, lv_has ls 7 [(0, .ref d), (1, vi (k : Int))] → W p l e (rmm 6 0 0) s m ([.ref d, vi (k : Int)] : List Value).toArray below meth cq H locs 0 0 (MQ below (jQi (fun z H1 => ∃ ss1 : List SR, ss1.map sA = ss.map sA ∧ (∀ u ∈ ss1, SOK u) ∧ ss1.map sV = (spP (ss.map sV) k (sv ss k).1 (sv ss k).2.1 ss.length).1 ∧ z = (spP (ss.map sV) k (sv ss k).1 (sv ss k).2.1 ss.length).2 ∧ PP g ([ob d 0 [.ref rows]] ++ DR g ss1 lw) H1 ∧ va_D (A) ([ob d 0 [.ref rows]] ++ DR g ss1 lw)) A) ([.ref d, vi (k : Int)] : List Value).toArray s 0 0 A) (F0 m 0 ls []) from K _ _ hP hD hS _ hl
  clear hl; intro H locs hP hD hS ls hl
  refine lv_aload_n hx hb dX0_spreadAnswer_0 rfl (lv_at hl 0 rfl) ?_
  refine lv_iload_n hx hb dX0_spreadAnswer_1 rfl (lv_at hl 1 rfl) ?_
  refine jk_Sr (va_runV (As := [vi (k : Int)]) (rest := []) ⟨hx, hb, hml, hown, htl⟩ (m_X0_at l g d rows ss lw hL hSO h60 k (by omega)) (cwV 1 htl lk_X0_73 rfl rfl rfl cwV_X0_at ⟨Nat.le_of_ble_eq_true rfl, Nat.le_of_ble_eq_true rfl⟩) (jp_V hKK hS hAb (va_recv hKK.k hP (ci := 0) (q0 := 0) rfl rfl) ⟨(va_P.sub hP [0] rfl), (hP.mem fun q h => List.mem_append_right _ h)⟩) rfl rfl hl.1 rfl (lv_room (Nat.le_of_ble_eq_true rfl)) dX0_spreadAnswer_2 ⟨Nat.le_of_ble_eq_true rfl, Nat.le_of_ble_eq_true rfl⟩) (fun z2 hz2 => ?_)
  obtain ⟨ka, hka⟩ : ∃ a, a = (ss.map sA).getD k 0 := ⟨_, rfl⟩
  rw [← hka] at hz2
  rw [hz2]
  refine lv_astore_n (lv' := [(2, .ref ka), (0, .ref d), (1, vi (k : Int))]) hx hb dX0_spreadAnswer_5 rfl hl (by decide) rfl (fun ls hl => ?_)
  refine jr_iconst hx hb dX0_spreadAnswer_6 ?_
  refine lv_istore_n (lv' := [(3, vi 0), (2, .ref ka), (0, .ref d), (1, vi (k : Int))]) hx hb dX0_spreadAnswer_7 rfl hl (by decide) rfl (fun ls hl => ?_)
  refine jr_iconst hx hb dX0_spreadAnswer_8 ?_
  refine lv_istore (lv' := [(4, vi 0), (3, vi 0), (2, .ref ka), (0, .ref d), (1, vi (k : Int))]) hx hb dX0_spreadAnswer_9 hl (by decide) rfl (fun ls hl => ?_)
  have lp11 : ∀ (N : Nat) (i : Nat) (n : Int) (ss1 : List SR), (i ≤ ss.length) → (ss1.map sA = ss.map sA) → (∀ u ∈ ss1, SOK u) → (ss1.map sV = (spP (ss.map sV) k (sv ss k).1 (sv ss k).2.1 i).1) → (n = (spP (ss.map sV) k (sv ss k).1 (sv ss k).2.1 i).2) → (0 ≤ n ∧ n ≤ i) → ss.length - i < N → ∀ (H : Heap) (locs : List Loc), PP g ([ob d 0 [.ref rows]] ++ DR g ss1 lw) H → va_D A ([ob d 0 [.ref rows]] ++ DR g ss1 lw) → va_S A s.heap H locs → ∀ ls : Array Slot, lv_has ls 7 [(4, vi (i : Int)), (3, vi n), (2, .ref ka), (0, .ref d), (1, vi (k : Int))] → W p l e (rmm 6 0 0) s m ([.ref d, vi (k : Int)] : List Value).toArray below meth cq H locs 0 0 (MQ below (jQi (fun z H1 => ∃ ss1 : List SR, ss1.map sA = ss.map sA ∧ (∀ u ∈ ss1, SOK u) ∧ ss1.map sV = (spP (ss.map sV) k (sv ss k).1 (sv ss k).2.1 ss.length).1 ∧ z = (spP (ss.map sV) k (sv ss k).1 (sv ss k).2.1 ss.length).2 ∧ PP g ([ob d 0 [.ref rows]] ++ DR g ss1 lw) H1 ∧ va_D (A) ([ob d 0 [.ref rows]] ++ DR g ss1 lw)) A) ([.ref d, vi (k : Int)] : List Value).toArray s 0 0 A) (F0 m 11 ls []) := by
    intro N
    induction N with
    | zero => intro i n ss1 hi hA1 hSO1 hF hn hn0 hM; exact absurd hM (Nat.not_lt_zero _)
    | succ N ih11 =>
      intro i n ss1 hi hA1 hSO1 hF hn hn0 hM H locs hP hD hS ls hl
      have hlen : ss1.length = ss.length := by have h := congrArg List.length hA1; rw [List.length_map, List.length_map] at h; exact h
      have hLs : LW g rows (ss1.map sA) lw := by rw [hA1]; exact hL
      have hl60 : ss1.length ≤ 60 := by omega
      refine lv_iload hx hb dX0_spreadAnswer_11 (lv_at hl 0 rfl) ?_
      refine lv_aload_n hx hb dX0_spreadAnswer_13 rfl (lv_at hl 3 rfl) ?_
      refine va_get (D := gD g) (ci := 0) (v := .ref rows) (C := RX0) (T := TX0) (N := 1) hx hb htl ck_X0 hown hKK.k hP 0 rfl rfl 0 (by decide) (htl _ wd_5_5) (fun _ h9 => h9) rfl dX0_spreadAnswer_14 ?_
      refine jk5_Si (va_runF (As := []) (rest := [vi (i : Int)]) (hKK.k.1 11 _ rfl).2 ⟨hx, hb, hml, hown, htl⟩ (m_Lsize l g rows (ss1.map sA) lw hLs) (va_cwF 0 htl lkF_X0_18 rfl rfl rfl (fw_0 hKK) cwF_0 ⟨Nat.le_of_ble_eq_true rfl, Nat.le_of_ble_eq_true rfl⟩) (jp_V hKK hS hAb (LW.recv hKK hLs (hP.mem fun q h => List.mem_append_right _ (DR.l q h))) (hP.mem fun q h => List.mem_append_right _ (DR.l q h))) rfl rfl hl.1 rfl (lv_room (Nat.le_of_ble_eq_true rfl)) dX0_spreadAnswer_17 ⟨Nat.le_of_ble_eq_true rfl, Nat.le_of_ble_eq_true rfl⟩) (fun z17 hz17 => ?_)
      rw [List.length_map] at hz17; subst hz17
      refine jr_ge (tgt := 94) hx hb dX0_spreadAnswer_22 (by decide) ⟨by omega, by omega⟩ ⟨by omega, by omega⟩ (fun c22 => ?_) (fun c22 => ?_)
      · refine lv_iload_n hx hb dX0_spreadAnswer_94 rfl (lv_at hl 1 rfl) ?_
        exact je_Qi hx hb hr hlk rfl hS (by obtain rfl : i = ss.length := (by omega); exact ⟨ss1, hA1, hSO1, hF, hn, hP, hD⟩) dX0_spreadAnswer_95
      · refine lv_aload_n hx hb dX0_spreadAnswer_25 rfl (lv_at hl 3 rfl) ?_
        refine lv_iload hx hb dX0_spreadAnswer_26 (lv_at hl 0 rfl) ?_
        refine jk_Sr (va_runV (As := [vi (i : Int)]) (rest := []) ⟨hx, hb, hml, hown, htl⟩ (m_X0_at l g d rows ss1 lw hLs hSO1 hl60 i (by omega)) (cwV 1 htl lk_X0_73 rfl rfl rfl cwV_X0_at ⟨Nat.le_of_ble_eq_true rfl, Nat.le_of_ble_eq_true rfl⟩) (jp_V hKK hS hAb (va_recv hKK.k hP (ci := 0) (q0 := 0) rfl rfl) ⟨(va_P.sub hP [0] rfl), (hP.mem fun q h => List.mem_append_right _ h)⟩) rfl rfl hl.1 rfl (lv_room (Nat.le_of_ble_eq_true rfl)) dX0_spreadAnswer_28 ⟨Nat.le_of_ble_eq_true rfl, Nat.le_of_ble_eq_true rfl⟩) (fun z28 hz28 => ?_)
        obtain ⟨q, hq⟩ : ∃ q, ss1[i]? = some q := ⟨_, List.getElem?_eq_getElem (show i < ss1.length by omega)⟩
        rw [sA_get hq] at hz28
        obtain ⟨sa, tx, txc, ty, tyc, t, f, u, fu, st, un, sc⟩ := q
        obtain ⟨hT, hU, hst, hun, hsc⟩ : TT t f ∧ TT u fu ∧ (0 ≤ st ∧ st < 65536) ∧ (-1 ≤ un ∧ un < 60) ∧ (0 ≤ sc ∧ sc ≤ 100) := hSO1 _ (List.mem_of_getElem? hq)
        have hsv : sv ss1 i = (t, u, st, un, sc) := sv_get hq
        have hspi : (spP (ss.map sV) k (sv ss k).1 (sv ss k).2.1 i).1.getD i ([], [], 0, 0, 0) = (t, u, st, un, sc) := by rw [← hF]; exact hsv
        have hz28 : z28 = sa := hz28
        rw [hz28]
        refine lv_astore (lv' := [(5, .ref sa), (4, vi (i : Int)), (3, vi n), (2, .ref ka), (0, .ref d), (1, vi (k : Int))]) hx hb dX0_spreadAnswer_31 hl (by decide) rfl (fun ls hl => ?_)
        refine lv_iload hx hb dX0_spreadAnswer_33 (lv_at hl 1 rfl) ?_
        refine lv_iload_n hx hb dX0_spreadAnswer_35 rfl (lv_at hl 5 rfl) ?_
        refine jr_eq (tgt := 53) hx hb dX0_spreadAnswer_36 (by decide) ⟨by omega, by omega⟩ ⟨by omega, by omega⟩ (fun c36 => ?_) (fun c36 => ?_)
        · refine jr_iconst hx hb dX0_spreadAnswer_53 ?_
          refine lv_istore (lv' := [(6, vi 0), (5, .ref sa), (4, vi (i : Int)), (3, vi n), (2, .ref ka), (0, .ref d), (1, vi (k : Int))]) hx hb dX0_spreadAnswer_54 hl (by decide) rfl (fun ls hl => ?_)
          refine lv_iload hx hb dX0_spreadAnswer_56 (lv_at hl 0 rfl) ?_
          refine jr_ifeq (tgt := 88) hx hb dX0_spreadAnswer_58 (by decide) ⟨by omega, by omega⟩ (fun c58 => ?_) (fun c58 => absurd c58 (by omega))
          refine jr_iinc (lv' := [(4, vi ((i : Int) + 1)), (6, vi 0), (5, .ref sa), (3, vi n), (2, .ref ka), (0, .ref d), (1, vi (k : Int))]) hx hb dX0_spreadAnswer_88 hl (k := 2) rfl rfl (by decide) rfl (fun ls hl => ?_)
          refine lv_goto (tgt := 11) hx hb dX0_spreadAnswer_91 (by decide) ?_
          exact ih11 (i + 1) n ss1 (by omega) (hA1) (hSO1) (by rw [spP_n hspi (Or.inl (by omega))]; exact hF) (by rw [spP_n hspi (Or.inl (by omega))]; exact hn) (by omega) (by omega) _ _ hP hD hS ls (lv_sub hl [0, 3, 4, 5, 6] rfl)
        · obtain ⟨qk, hqk⟩ : ∃ q, ss1[k]? = some q := ⟨_, List.getElem?_eq_getElem (show k < ss1.length by omega)⟩
          have hsak : ka = sA qk := by rw [hka, ← hA1]; exact sA_get hqk
          have hsvk : sv ss1 k = sv ss k := by show (ss1.map sV).getD k _ = _; rw [hF, spP_k]; rfl
          rw [sv_get hqk] at hsvk
          obtain ⟨sak, txk, txck, tyk, tyck, tk, fk, uk, fuk, stk, unk, sck⟩ := qk
          obtain ⟨hTk, hUk, -, -, -⟩ : TT tk fk ∧ TT uk fuk ∧ (0 ≤ stk ∧ stk < 65536) ∧ (-1 ≤ unk ∧ unk < 60) ∧ (0 ≤ sck ∧ sck ≤ 100) := hSO1 _ (List.mem_of_getElem? hqk)
          have hsak : ka = sak := hsak
          subst hsak
          obtain ⟨r9, hr1, hr2, hr3⟩ := DR.cut2 (g := g) (lw := lw) hq hqk (show i ≠ k by omega)
          have hpc : ([ob d 0 [.ref rows]] ++ DR g ss1 lw).Perm ([ob d 0 [.ref rows], ob sa 4 [.ref tx, .ref ty, vi st, vi un, vi sc], ob tx 6 [.ref txc, vi (t.length : Int)], aI g txc 60 f, ob ty 6 [.ref tyc, vi (u.length : Int)], aI g tyc 60 fu, ob ka 4 [.ref txk, .ref tyk, vi stk, vi unk, vi sck], ob txk 6 [.ref txck, vi (tk.length : Int)], aI g txck 60 fk, ob tyk 6 [.ref tyck, vi (uk.length : Int)], aI g tyck 60 fuk] ++ r9) := List.Perm.append_left [ob d 0 [.ref rows]] hr1
          have hP : PP g ([ob d 0 [.ref rows], ob sa 4 [.ref tx, .ref ty, vi st, vi un, vi sc], ob tx 6 [.ref txc, vi (t.length : Int)], aI g txc 60 f, ob ty 6 [.ref tyc, vi (u.length : Int)], aI g tyc 60 fu, ob ka 4 [.ref txk, .ref tyk, vi stk, vi unk, vi sck], ob txk 6 [.ref txck, vi (tk.length : Int)], aI g txck 60 fk, ob tyk 6 [.ref tyck, vi (uk.length : Int)], aI g tyck 60 fuk] ++ r9) H := hP.perm hpc
          have hD : va_D A ([ob d 0 [.ref rows], ob sa 4 [.ref tx, .ref ty, vi st, vi un, vi sc], ob tx 6 [.ref txc, vi (t.length : Int)], aI g txc 60 f, ob ty 6 [.ref tyc, vi (u.length : Int)], aI g tyc 60 fu, ob ka 4 [.ref txk, .ref tyk, vi stk, vi unk, vi sck], ob txk 6 [.ref txck, vi (tk.length : Int)], aI g txck 60 fk, ob tyk 6 [.ref tyck, vi (uk.length : Int)], aI g tyck 60 fuk] ++ r9) := hD.perm hpc
          have hxk : tk = (sv ss k).1 ∧ uk = (sv ss k).2.1 := by rw [← hsvk]; exact ⟨rfl, rfl⟩
          refine lv_aload hx hb dX0_spreadAnswer_39 (lv_at hl 0 rfl) ?_
          refine va_get (D := gD g) (ci := 4) (v := vi st) (C := RX4) (T := TX4) (N := 5) hx hb htl ck_X4 hown hKK.k hP 1 rfl rfl 2 (by decide) (htl _ wd_25_9) (fun _ h9 => h9) rfl dX0_spreadAnswer_41 ?_
          refine jr_bipush hx hb dX0_spreadAnswer_44 (by decide) ?_
          refine jr_eq (tgt := 53) hx hb dX0_spreadAnswer_46 (by decide) ⟨by omega, by omega⟩ ⟨by omega, by omega⟩ (fun c46 => ?_) (fun c46 => ?_)
          · refine jr_iconst hx hb dX0_spreadAnswer_53 ?_
            refine lv_istore (lv' := [(6, vi 0), (5, .ref sa), (4, vi (i : Int)), (3, vi n), (2, .ref ka), (0, .ref d), (1, vi (k : Int))]) hx hb dX0_spreadAnswer_54 hl (by decide) rfl (fun ls hl => ?_)
            refine lv_iload hx hb dX0_spreadAnswer_56 (lv_at hl 0 rfl) ?_
            refine jr_ifeq (tgt := 88) hx hb dX0_spreadAnswer_58 (by decide) ⟨by omega, by omega⟩ (fun c58 => ?_) (fun c58 => absurd c58 (by omega))
            refine jr_iinc (lv' := [(4, vi ((i : Int) + 1)), (6, vi 0), (5, .ref sa), (3, vi n), (2, .ref ka), (0, .ref d), (1, vi (k : Int))]) hx hb dX0_spreadAnswer_88 hl (k := 2) rfl rfl (by decide) rfl (fun ls hl => ?_)
            refine lv_goto (tgt := 11) hx hb dX0_spreadAnswer_91 (by decide) ?_
            have hpb : ([ob d 0 [.ref rows], ob sa 4 [.ref tx, .ref ty, vi st, vi un, vi sc], ob tx 6 [.ref txc, vi (t.length : Int)], aI g txc 60 f, ob ty 6 [.ref tyc, vi (u.length : Int)], aI g tyc 60 fu, ob ka 4 [.ref txk, .ref tyk, vi stk, vi unk, vi sck], ob txk 6 [.ref txck, vi (tk.length : Int)], aI g txck 60 fk, ob tyk 6 [.ref tyck, vi (uk.length : Int)], aI g tyck 60 fuk] ++ r9).Perm ([ob d 0 [.ref rows]] ++ DR g ss1 lw) := List.Perm.append_left [ob d 0 [.ref rows]] (hr1.symm)
            have hP : PP g ([ob d 0 [.ref rows]] ++ DR g ss1 lw) H := hP.perm hpb
            have hD : va_D A ([ob d 0 [.ref rows]] ++ DR g ss1 lw) := hD.perm hpb
            exact ih11 (i + 1) n ss1 (by omega) (hA1) (hSO1) (by rw [spP_n hspi (Or.inr (Or.inl c46))]; exact hF) (by rw [spP_n hspi (Or.inr (Or.inl c46))]; exact hn) (by omega) (by omega) _ _ hP hD hS ls (lv_sub hl [0, 3, 4, 5, 6] rfl)
          · refine jr_iconst hx hb dX0_spreadAnswer_49 ?_
            refine lv_goto (tgt := 54) hx hb dX0_spreadAnswer_50 (by decide) ?_
            refine lv_istore (lv' := [(6, vi 1), (5, .ref sa), (4, vi (i : Int)), (3, vi n), (2, .ref ka), (0, .ref d), (1, vi (k : Int))]) hx hb dX0_spreadAnswer_54 hl (by decide) rfl (fun ls hl => ?_)
            refine lv_iload hx hb dX0_spreadAnswer_56 (lv_at hl 0 rfl) ?_
            refine jr_ifeq (tgt := 88) hx hb dX0_spreadAnswer_58 (by decide) ⟨by omega, by omega⟩ (fun c58 => absurd c58 (by omega)) (fun c58 => ?_)
            refine lv_aload hx hb dX0_spreadAnswer_61 (lv_at hl 1 rfl) ?_
            refine va_get (D := gD g) (ci := 4) (v := .ref tx) (C := RX4) (T := TX4) (N := 5) hx hb htl ck_X4 hown hKK.k hP 1 rfl rfl 0 (by decide) (htl _ wd_6_4) (fun _ h9 => h9) rfl dX0_spreadAnswer_63 ?_
            refine lv_aload_n hx hb dX0_spreadAnswer_66 rfl (lv_at hl 4 rfl) ?_
            refine va_get (D := gD g) (ci := 4) (v := .ref txk) (C := RX4) (T := TX4) (N := 5) hx hb htl ck_X4 hown hKK.k hP 6 rfl rfl 0 (by decide) (htl _ wd_6_4) (fun _ h9 => h9) rfl dX0_spreadAnswer_67 ?_
            refine jk_Si (va_runV (As := [.ref txk]) (rest := []) ⟨hx, hb, hml, hown, htl⟩ (m_X6_isSameAs l g tx txc t f hT txk txck tk fk hTk) (cwV 1 htl lk_X0_76 rfl rfl rfl cwV_X6_isSameAs ⟨Nat.le_of_ble_eq_true rfl, Nat.le_of_ble_eq_true rfl⟩) (jp_V hKK hS hAb (va_recv hKK.k hP (ci := 6) (q0 := 2) rfl rfl) ⟨(va_P.sub hP [2, 3] rfl), (va_P.sub hP [7, 8] rfl)⟩) rfl rfl hl.1 rfl (lv_room (Nat.le_of_ble_eq_true rfl)) dX0_spreadAnswer_70 ⟨Nat.le_of_ble_eq_true rfl, Nat.le_of_ble_eq_true rfl⟩) (fun z70 hz70 => ?_)
            subst hz70
            refine jr_ifeq (tgt := 88) hx hb dX0_spreadAnswer_73 (by decide) (i01R _) (fun c73 => ?_) (fun c73 => ?_)
            · have c73 := i01f c73
              refine jr_iinc (lv' := [(4, vi ((i : Int) + 1)), (6, vi 1), (5, .ref sa), (3, vi n), (2, .ref ka), (0, .ref d), (1, vi (k : Int))]) hx hb dX0_spreadAnswer_88 hl (k := 2) rfl rfl (by decide) rfl (fun ls hl => ?_)
              refine lv_goto (tgt := 11) hx hb dX0_spreadAnswer_91 (by decide) ?_
              have hpb : ([ob d 0 [.ref rows], ob sa 4 [.ref tx, .ref ty, vi st, vi un, vi sc], ob tx 6 [.ref txc, vi (t.length : Int)], aI g txc 60 f, ob ty 6 [.ref tyc, vi (u.length : Int)], aI g tyc 60 fu, ob ka 4 [.ref txk, .ref tyk, vi stk, vi unk, vi sck], ob txk 6 [.ref txck, vi (tk.length : Int)], aI g txck 60 fk, ob tyk 6 [.ref tyck, vi (uk.length : Int)], aI g tyck 60 fuk] ++ r9).Perm ([ob d 0 [.ref rows]] ++ DR g ss1 lw) := List.Perm.append_left [ob d 0 [.ref rows]] (hr1.symm)
              have hP : PP g ([ob d 0 [.ref rows]] ++ DR g ss1 lw) H := hP.perm hpb
              have hD : va_D A ([ob d 0 [.ref rows]] ++ DR g ss1 lw) := hD.perm hpb
              exact ih11 (i + 1) n ss1 (by omega) (hA1) (hSO1) (by rw [spP_n hspi (Or.inr (Or.inr (by rw [← hxk.1]; exact c73)))]; exact hF) (by rw [spP_n hspi (Or.inr (Or.inr (by rw [← hxk.1]; exact c73)))]; exact hn) (by omega) (by omega) _ _ hP hD hS ls (lv_sub hl [0, 3, 4, 5, 6] rfl)
            · have c73 := i01t c73
              refine lv_aload hx hb dX0_spreadAnswer_76 (lv_at hl 1 rfl) ?_
              refine lv_aload_n hx hb dX0_spreadAnswer_78 rfl (lv_at hl 4 rfl) ?_
              refine va_get (D := gD g) (ci := 4) (v := .ref tyk) (C := RX4) (T := TX4) (N := 5) hx hb htl ck_X4 hown hKK.k hP 6 rfl rfl 1 (by decide) (htl _ wd_25_10) (fun _ h9 => h9) rfl dX0_spreadAnswer_79 ?_
              have hDc : va_D A [ob sa 4 [.ref tx, .ref ty, vi st, vi un, vi sc], ob ty 6 [.ref tyc, vi (u.length : Int)], aI g tyc 60 fu] := hD.sub [1, 4, 5] (by decide) rfl
              refine jk_Qv (va_runV (As := [.ref tyk]) (rest := []) ⟨hx, hb, hml, hown, htl⟩ (m_X4_setRepeat l g sa tx ty st un sc tyc u fu hU tyk tyck uk fuk hUk (jdis hD [9, 10] [1, 4, 5] rfl rfl (by decide))) (cwV 1 htl lk_X0_91 rfl rfl rfl cwV_X4_setRepeat ⟨Nat.le_of_ble_eq_true rfl, Nat.le_of_ble_eq_true rfl⟩) (jp_V hKK hS hAb (va_recv hKK.k hP (ci := 4) (q0 := 1) rfl rfl) ⟨(va_P.sub hP [1, 4, 5] rfl), hDc.weaken (fun _ q _ h => hAb _ h), (va_P.sub hP [9, 10] rfl)⟩) rfl rfl hl.1 rfl (lv_room (Nat.le_of_ble_eq_true rfl)) dX0_spreadAnswer_82 ⟨Nat.le_of_ble_eq_true rfl, Nat.le_of_ble_eq_true rfl⟩) hS (fun q _ h => hDc.inA h) (fun q h => hDc.inA h) (fun H1 locs hz82 hzs hks hS => ?_)
              obtain ⟨fn82, hfn82, hP1⟩ := hz82
              obtain ⟨hP, hD⟩ := jput (wc := [ob sa 4 [.ref tx, .ref ty, vi st, vi un, vi sc], ob ty 6 [.ref tyc, vi (u.length : Int)], aI g tyc 60 fu]) (w1 := [ob sa 4 [.ref tx, .ref ty, vi 114, vi (-1), vi 0], ob ty 6 [.ref tyc, vi (uk.length : Int)], aI g tyc 60 fn82]) hP hD [1, 4, 5] rfl rfl hks (fun q _ h => h) hP1
              clear hzs hks; generalize H1 = H at hP hD hS ⊢
              have hP : PP g ([ob d 0 [.ref rows], ob sa 4 [.ref tx, .ref ty, vi 114, vi (-1), vi 0], ob tx 6 [.ref txc, vi (t.length : Int)], aI g txc 60 f, ob ty 6 [.ref tyc, vi (uk.length : Int)], aI g tyc 60 fn82, ob ka 4 [.ref txk, .ref tyk, vi stk, vi unk, vi sck], ob txk 6 [.ref txck, vi (tk.length : Int)], aI g txck 60 fk, ob tyk 6 [.ref tyck, vi (uk.length : Int)], aI g tyck 60 fuk] ++ r9) H := hP
              have hD : va_D A ([ob d 0 [.ref rows], ob sa 4 [.ref tx, .ref ty, vi 114, vi (-1), vi 0], ob tx 6 [.ref txc, vi (t.length : Int)], aI g txc 60 f, ob ty 6 [.ref tyc, vi (uk.length : Int)], aI g tyc 60 fn82, ob ka 4 [.ref txk, .ref tyk, vi stk, vi unk, vi sck], ob txk 6 [.ref txck, vi (tk.length : Int)], aI g txck 60 fk, ob tyk 6 [.ref tyck, vi (uk.length : Int)], aI g tyck 60 fuk] ++ r9) := hD
              refine jr_iinc (lv' := [(3, vi (n + 1)), (6, vi 1), (5, .ref sa), (4, vi (i : Int)), (2, .ref ka), (0, .ref d), (1, vi (k : Int))]) hx hb dX0_spreadAnswer_85 hl (k := 3) rfl rfl (by decide) rfl (fun ls hl => ?_)
              refine jr_iinc (lv' := [(4, vi ((i : Int) + 1)), (3, vi (n + 1)), (6, vi 1), (5, .ref sa), (2, .ref ka), (0, .ref d), (1, vi (k : Int))]) hx hb dX0_spreadAnswer_88 hl (k := 3) rfl rfl (by decide) rfl (fun ls hl => ?_)
              refine lv_goto (tgt := 11) hx hb dX0_spreadAnswer_91 (by decide) ?_
              obtain ⟨ss9, hss9⟩ : ∃ q : List SR, q = ss1.set i (sa, tx, txc, ty, tyc, t, f, uk, fn82, 114, -1, 0) := ⟨_, rfl⟩
              have hr9 := hr2 (sa, tx, txc, ty, tyc, t, f, uk, fn82, 114, -1, 0)
              rw [← hss9] at hr9
              have hpb : ([ob d 0 [.ref rows], ob sa 4 [.ref tx, .ref ty, vi 114, vi (-1), vi 0], ob tx 6 [.ref txc, vi (t.length : Int)], aI g txc 60 f, ob ty 6 [.ref tyc, vi (uk.length : Int)], aI g tyc 60 fn82, ob ka 4 [.ref txk, .ref tyk, vi stk, vi unk, vi sck], ob txk 6 [.ref txck, vi (tk.length : Int)], aI g txck 60 fk, ob tyk 6 [.ref tyck, vi (uk.length : Int)], aI g tyck 60 fuk] ++ r9).Perm ([ob d 0 [.ref rows]] ++ DR g ss9 lw) := List.Perm.append_left [ob d 0 [.ref rows]] (hr9)
              have hP : PP g ([ob d 0 [.ref rows]] ++ DR g ss9 lw) H := hP.perm hpb
              have hD : va_D A ([ob d 0 [.ref rows]] ++ DR g ss9 lw) := hD.perm hpb
              have hsy := spP_y hspi (show i ≠ k by omega) c46 (by rw [← hxk.1]; exact c73)
              exact ih11 (i + 1) (n + 1) ss9 (by omega) (by rw [hss9]; exact (map_set_same sA hq (by rfl)).trans hA1) (by rw [hss9]; exact all_set hSO1 ⟨hT, hfn82, by omega, by omega, by omega⟩) (by rw [hsy, hss9, List.map_set, hF, ← hxk.1, ← hxk.2, c73]; rfl) (by rw [hsy]; show _ = (spP _ _ _ _ i).2 + 1; rw [← hn]) (by omega) (by omega) _ _ hP hD hS ls (lv_sub hl [0, 1, 4, 5, 6] rfl)
  exact lp11 _ 0 0 ss (Nat.zero_le _) (rfl) (hSO) (rfl) (rfl) (⟨by omega, by omega⟩) (Nat.lt_succ_self _) _ _ hP hD hS ls (lv_sub hl [0, 1, 2, 3, 4] rfl)
