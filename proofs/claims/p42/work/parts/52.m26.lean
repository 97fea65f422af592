
theorem lk_X10_206 : GoodIn WSL (wsV RX10 206 RX10 yX10_fillSegment (ws_ yX10_fillSegment cX10_fillSegment 8 (some .boolean))) := gd_app (List.forall_mem_cons.mpr ⟨wd_19_16, List.forall_mem_cons.mpr ⟨wd_19_17, List.forall_mem_cons.mpr ⟨wd_19_18, List.forall_mem_cons.mpr ⟨wd_1_2, fun _ h => nomatch h⟩⟩⟩⟩) (gd_ wd_19_19)
theorem cwV_X10_fillSegment : yX10_fillSegment.cls = RX10 ∧ yX10_fillSegment.cls ≠ "java/lang/invoke/MethodHandle" ∧ yX10_fillSegment.cls ≠ "java/lang/invoke/VarHandle" ∧ (parseMethodDescriptor yX10_fillSegment.desc).map (fun d => d.parameters.length) = some 2 := by decide +kernel
set_option maxHeartbeats 4000000 in
set_option maxRecDepth 100000 in
theorem m_X10_fill (l : Launch) (hsT : l.stackTraces = false) (g : GT) (o : Nat) (S : SGM) (W9 : va_W) (hCW : CW g o S W9) (sz : Nat) (v : Int) (hv : jR v) : vx_Met l yX10_fill (ws_ yX10_fill cX10_fill 4 (some .int)) (rmm 11 1 6) (jPc g [.ref o, vi v] (fun H => H.size = sz ∧ PP g W9 H ∧ va_D (fun q => gb g ≤ q) W9)) (jQi (fun z H1 => ((cd1 (1 ≤ v ∧ v ≤ 100)) = 0 ∧ z = (flP v S (nS S)).2) ∧ ∃ w1 : va_W, CW g o ((flP v S (nS S)).1) w1 ∧ PP g w1 H1 ∧ va_D (va_A W9 sz) w1) (va_A W9 sz)) (jX (fun E => (E = eIA ∧ (cd1 (1 ≤ v ∧ v ≤ 100)) = 1))) 1 6 (va_A W9 sz) := by
  refine jb_X (by decide) (Nat.le_of_ble_eq_true rfl) ?_
  intro p e s m below meth cq hx hb hr hml hown htl hlk htab hKK hpre ls hl
  have hown : s.vm.findClass RX10 = some m.cls := hown
  obtain ⟨hsz, hP, hD0⟩ := hpre
  subst hsz
  have hAb : ∀ q, (va_A W9 s.heap.size) q → gb g ≤ q := fun q h => h.elim (fun ⟨k, e, h⟩ => hD0.2 k _ h) (fun h => Nat.le_trans hKK.2.1 h)
  have hD : va_D (va_A W9 s.heap.size) W9 := hD0.self
  generalize hAe : va_A W9 s.heap.size = A at *
  have hA : ∀ q, s.heap.size ≤ q → A q := fun q h => by rw [← hAe]; exact Or.inr h
  have hS : va_S A s.heap s.heap [] := va_S.rf
  have hCW9 := hCW
  have hl : lv_has ls 4 [(0, .ref o), (1, vi v)] := hl
  refine lv_iload_n hx hb dX10_fill_0 rfl (lv_at hl 1 rfl) ?_
  refine jr_iconst hx hb dX10_fill_1 ?_
  refine jr_lt (tgt := 11) hx hb dX10_fill_2 (by decide) ⟨by omega, by omega⟩ ⟨by omega, by omega⟩ (fun c2 => ?_) (fun c2 => ?_)
  · exact jt_S (g := g) hx hb hsT hown hKK tf_73 (htl _ wd_9_10) (htl _ wd_9_11) nws_12 (th_73 htl hKK) tg_73 hl.1 hml htab hlk (⟨rfl, by unfold cd1; (repeat' split) <;> omega⟩) dX10_fill_11 dX10_fill_14 dX10_fill_15 dX10_fill_17 dX10_fill_20 (Nat.le_of_ble_eq_true rfl) (Nat.le_of_ble_eq_true rfl) (Nat.le_of_ble_eq_true rfl) (Nat.le_of_ble_eq_true rfl) (Nat.le_of_ble_eq_true rfl) (Nat.le_of_ble_eq_true rfl)
  · refine lv_iload_n hx hb dX10_fill_5 rfl (lv_at hl 1 rfl) ?_
    refine jr_bipush hx hb dX10_fill_6 (by decide) ?_
    refine jr_le (tgt := 21) hx hb dX10_fill_8 (by decide) ⟨by omega, by omega⟩ ⟨by omega, by omega⟩ (fun c8 => ?_) (fun c8 => ?_)
    · suffices K : ∀ (H : Heap) (locs : List Loc), PP g W9 H → va_D A W9 → va_S A s.heap H locs → ∀ ls : Array Slot, lv_has ls 4 [(0, .ref o), (1, vi v)] → W p l e (rmm 11 1 6) s m ([.ref o, vi v] : List Value).toArray below meth cq H locs 0 0 (vx_MQ below (jQi (fun z H1 => ((cd1 (1 ≤ v ∧ v ≤ 100)) = 0 ∧ z = (flP v S (nS S)).2) ∧ ∃ w1 : va_W, CW g o ((flP v S (nS S)).1) w1 ∧ PP g w1 H1 ∧ va_D A w1) A) (jX (fun E => (E = eIA ∧ (cd1 (1 ≤ v ∧ v ≤ 100)) = 1))) ([.ref o, vi v] : List Value).toArray s 1 6 A) (F0 m 21 ls []) from K _ _ hP hD hS _ hl
      clear hl hP hD hS; intro H locs hP hD hS ls hl
      refine jr_iconst hx hb dX10_fill_21 ?_
      refine lv_istore_n (lv' := [(2, vi 0), (0, .ref o), (1, vi v)]) hx hb dX10_fill_22 rfl hl (by decide) rfl (fun ls hl => ?_)
      refine jr_iconst hx hb dX10_fill_23 ?_
      refine lv_istore_n (lv' := [(3, vi 0), (2, vi 0), (0, .ref o), (1, vi v)]) hx hb dX10_fill_24 rfl hl (by decide) rfl (fun ls hl => ?_)
      have lp25 : ∀ (N : Nat) (i : Nat) (n : Int) (w1 : va_W), (i ≤ nS S) → (CW g o (flP v S i).1 w1) → (n = (flP v S i).2) → (0 ≤ n ∧ n ≤ i) → nS S - i < N → ∀ (H : Heap) (locs : List Loc), PP g w1 H → va_D A w1 → va_S A s.heap H locs → ∀ ls : Array Slot, lv_has ls 4 [(3, vi (i : Int)), (2, vi n), (0, .ref o), (1, vi v)] → W p l e (rmm 11 1 6) s m ([.ref o, vi v] : List Value).toArray below meth cq H locs 0 0 (vx_MQ below (jQi (fun z H1 => ((cd1 (1 ≤ v ∧ v ≤ 100)) = 0 ∧ z = (flP v S (nS S)).2) ∧ ∃ w1 : va_W, CW g o ((flP v S (nS S)).1) w1 ∧ PP g w1 H1 ∧ va_D A w1) A) (jX (fun E => (E = eIA ∧ (cd1 (1 ≤ v ∧ v ≤ 100)) = 1))) ([.ref o, vi v] : List Value).toArray s 1 6 A) (F0 m 25 ls []) := by
        intro N
        induction N with
        | zero => intro i n w1 hi hC hn hnb hM; exact absurd hM (Nat.not_lt_zero _)
        | succ N ih25 =>
          intro i n w1 hi hC hn hnb hM H locs hP hD hS ls hl
          have hn60 : nS S ≤ 60 := by obtain ⟨_, _, _, _, _, _, _, _, _, _, _, ss0, _, _, _, _, _, _, _, _, ⟨_, h9⟩, _, _, _, h60⟩ := hCW; rw [nS_l h9]; exact h60
          obtain ⟨S9, hS9⟩ : ∃ q : SGM, q = (flP v S i).1 := ⟨_, rfl⟩
          rw [← hS9] at hC
          have hC9 := hC
          obtain ⟨ad, fd, fk, g1, g2, g3, p1, p2, k1, k2, us, ss, lw1, lw2, hW9, ho, ⟨hdr, htk, hk1, hk2⟩, hab, hw, ht, ⟨hus, hss⟩, ⟨hUO, hSO⟩, ⟨hL1, hL2⟩, hn1, hn2⟩ := hC
          subst hW9
          have hPo := hP
          have hDo := hD
          have hsS := sS_sv hss
          have hnS9 : nS S9 = ss.length := nS_l hss
          have hlen9 : nS S9 = nS S := by rw [hS9]; exact flP_len v S i
          have hP : PP g ([ob (ad 0) 9 [.ref (ad 1), .ref (ad 3), .ref (ad 5), .ref (ad 6), .ref (ad 7), .ref (ad 8), .ref (ad 13), .ref (ad 16), .ref (ad 21)], ob (ad 1) 6 [.ref (ad 2), vi (S9.1.length : Int)], aI g (ad 2) 60 fd, ob (ad 3) 6 [.ref (ad 4), vi (S9.2.1.length : Int)], aI g (ad 4) 60 fk, aZ g (ad 5) 100 S9.2.2.1, ob (ad 6) 2 [.ref (ad 7), .ref (ad 13), .ref (ad 22)], ob (ad 7) 1 [.ref (ad 8), .ref (ad 10), .ref (ad 11), .ref (ad 12)], ob (ad 8) 8 [.ref (ad 9)], aI g (ad 9) 4 S9.2.2.2.1, aI g (ad 10) 61 g1, aI g (ad 11) 61 g2, aI g (ad 12) 60 g3, ob (ad 13) 5 [.ref (ad 14), .ref (ad 15), vi (S9.2.2.2.2.1.1 : Int)], aI g (ad 14) 20 S9.2.2.2.2.1.2.1, aI g (ad 15) 20 S9.2.2.2.2.1.2.2, ob (ad 16) 3 [.ref (ad 17), .ref (ad 19)], ob (ad 17) 6 [.ref (ad 18), vi (p1.length : Int)], aI g (ad 18) 60 k1, ob (ad 19) 6 [.ref (ad 20), vi (p2.length : Int)], aI g (ad 20) 60 k2, ob (ad 21) 0 [.ref (ad 23)]] ++ (MR g us lw1 ++ DR g ss lw2)) H := hP
          have hD : va_D A ([ob (ad 0) 9 [.ref (ad 1), .ref (ad 3), .ref (ad 5), .ref (ad 6), .ref (ad 7), .ref (ad 8), .ref (ad 13), .ref (ad 16), .ref (ad 21)], ob (ad 1) 6 [.ref (ad 2), vi (S9.1.length : Int)], aI g (ad 2) 60 fd, ob (ad 3) 6 [.ref (ad 4), vi (S9.2.1.length : Int)], aI g (ad 4) 60 fk, aZ g (ad 5) 100 S9.2.2.1, ob (ad 6) 2 [.ref (ad 7), .ref (ad 13), .ref (ad 22)], ob (ad 7) 1 [.ref (ad 8), .ref (ad 10), .ref (ad 11), .ref (ad 12)], ob (ad 8) 8 [.ref (ad 9)], aI g (ad 9) 4 S9.2.2.2.1, aI g (ad 10) 61 g1, aI g (ad 11) 61 g2, aI g (ad 12) 60 g3, ob (ad 13) 5 [.ref (ad 14), .ref (ad 15), vi (S9.2.2.2.2.1.1 : Int)], aI g (ad 14) 20 S9.2.2.2.2.1.2.1, aI g (ad 15) 20 S9.2.2.2.2.1.2.2, ob (ad 16) 3 [.ref (ad 17), .ref (ad 19)], ob (ad 17) 6 [.ref (ad 18), vi (p1.length : Int)], aI g (ad 18) 60 k1, ob (ad 19) 6 [.ref (ad 20), vi (p2.length : Int)], aI g (ad 20) 60 k2, ob (ad 21) 0 [.ref (ad 23)]] ++ (MR g us lw1 ++ DR g ss lw2)) := hD
          rw [ho] at hP hD
          refine lv_iload_n hx hb dX10_fill_25 rfl (lv_at hl 0 rfl) ?_
          refine lv_aload_n hx hb dX10_fill_26 rfl (lv_at hl 2 rfl) ?_
          refine va_get (D := gD g) (ci := 9) (v := .ref (ad 21)) (C := RX10) (T := TX10) (N := 9) hx hb htl ck_X10 hown hKK.k hP 0 rfl rfl 8 (by decide) (htl _ wd_2_11) (fun _ h9 => h9) rfl dX10_fill_27 ?_
          refine jk_Si (va_runV (As := []) (rest := [vi (i : Int)]) ⟨hx, hb, hml, hown, htl⟩ (m_X0_size l g (ad 21) (ad 23) ss lw2 hL2 hSO hn2 ) (cwV 0 htl lk_X10_193 rfl rfl rfl cwV_X0_size ⟨Nat.le_of_ble_eq_true rfl, Nat.le_of_ble_eq_true rfl⟩) (jp_V hKK hS hAb (va_recv hKK.k hP (ci := 0) (q0 := 21) rfl rfl) ⟨(va_P.sub hP [21] rfl), (hP.mem fun q h => List.mem_append_right _ (List.mem_append_right _ h))⟩) rfl rfl hl.1 rfl (lv_room (Nat.le_of_ble_eq_true rfl)) dX10_fill_30 ⟨Nat.le_of_ble_eq_true rfl, Nat.le_of_ble_eq_true rfl⟩) (fun z30 hz30 => ?_)
          subst hz30
          refine jr_ge (tgt := 68) hx hb dX10_fill_33 (by decide) ⟨by omega, by omega⟩ ⟨by omega, by omega⟩ (fun c33 => ?_) (fun c33 => ?_)
          · refine lv_iload_n hx hb dX10_fill_68 rfl (lv_at hl 1 rfl) ?_
            refine vx_ret ?_
            refine W.widen (k := 1) (n := 6) (by omega) (by omega) ?_
            exact je_Qi hx hb hr hlk rfl hS (by obtain rfl : i = nS S := (by omega); exact ⟨⟨by unfold cd1; (repeat' split) <;> omega, hn⟩, _, by rw [← hS9]; exact hC9, hPo, hDo⟩) dX10_fill_69
          · refine lv_aload_n hx hb dX10_fill_36 rfl (lv_at hl 2 rfl) ?_
            refine va_get (D := gD g) (ci := 9) (v := .ref (ad 21)) (C := RX10) (T := TX10) (N := 9) hx hb htl ck_X10 hown hKK.k hP 0 rfl rfl 8 (by decide) (htl _ wd_2_11) (fun _ h9 => h9) rfl dX10_fill_37 ?_
            refine lv_iload_n hx hb dX10_fill_40 rfl (lv_at hl 0 rfl) ?_
            refine jk_Sr (va_runV (As := [vi (i : Int)]) (rest := []) ⟨hx, hb, hml, hown, htl⟩ (m_X0_at l g (ad 21) (ad 23) ss lw2 hL2 hSO hn2 i (by omega)) (cwV 1 htl lk_X10_196 rfl rfl rfl cwV_X0_at ⟨Nat.le_of_ble_eq_true rfl, Nat.le_of_ble_eq_true rfl⟩) (jp_V hKK hS hAb (va_recv hKK.k hP (ci := 0) (q0 := 21) rfl rfl) ⟨(va_P.sub hP [21] rfl), (hP.mem fun q h => List.mem_append_right _ (List.mem_append_right _ h))⟩) rfl rfl hl.1 rfl (lv_room (Nat.le_of_ble_eq_true rfl)) dX10_fill_41 ⟨Nat.le_of_ble_eq_true rfl, Nat.le_of_ble_eq_true rfl⟩) (fun z41 hz41 => ?_)
            obtain ⟨q, hq⟩ : ∃ q, ss[i]? = some q := ⟨_, List.getElem?_eq_getElem (show i < ss.length by omega)⟩
            rw [sA_get hq] at hz41
            obtain ⟨sa, tx, txc, ty, tyc, t, f, u, fu, st, un, sc⟩ := q
            obtain ⟨hT, hU, hst, hun, hsc⟩ : TT t f ∧ TT u fu ∧ (0 ≤ st ∧ st < 65536) ∧ (-1 ≤ un ∧ un < 60) ∧ (0 ≤ sc ∧ sc ≤ 100) := hSO _ (List.mem_of_getElem? hq)
            have hsv : sv ss (i) = (t, u, st, un, sc) := sv_get hq
            have hsvS : sS S9 i = (t, u, st, un, sc) := by rw [hsS]; exact hsv
            have hPs : PP g [ob sa 4 [.ref tx, .ref ty, vi st, vi un, vi sc], ob tx 6 [.ref txc, vi (t.length : Int)], aI g txc 60 f, ob ty 6 [.ref tyc, vi (u.length : Int)], aI g tyc 60 fu] H := PP.mem (hP.mem fun q h => List.mem_append_right _ (List.mem_append_right _ h)) (DR.u hq)
            have hz41 : z41 = sa := hz41
            rw [hz41]
            refine jk_Si (va_runV (As := []) (rest := []) ⟨hx, hb, hml, hown, htl⟩ (m_X4_isEmpty l g sa tx ty st un sc (by omega)) (cwV 0 htl lk_X10_200 rfl rfl rfl cwV_X4_isEmpty ⟨Nat.le_of_ble_eq_true rfl, Nat.le_of_ble_eq_true rfl⟩) (jp_V hKK hS hAb (va_recv hKK.k hPs (ci := 4) (q0 := 0) rfl rfl) (va_P.sub hPs [0] rfl)) rfl rfl hl.1 rfl (lv_room (Nat.le_of_ble_eq_true rfl)) dX10_fill_44 ⟨Nat.le_of_ble_eq_true rfl, Nat.le_of_ble_eq_true rfl⟩) (fun z44 hz44 => ?_)
            subst hz44
            refine jr_ifeq (tgt := 62) hx hb dX10_fill_47 (by decide) (i01R _) (fun c47 => ?_) (fun c47 => ?_)
            · have c47 := i01f c47
              refine jr_iinc (lv' := [(3, vi ((i : Int) + 1)), (2, vi n), (0, .ref o), (1, vi v)]) hx hb dX10_fill_62 hl (k := 0) rfl rfl (by decide) rfl (fun ls hl => ?_)
              refine lv_goto (tgt := 25) hx hb dX10_fill_65 (by decide) ?_
              have hfl0 : flS v S9 i = (S9, 0) := by unfold flS; rw [hsvS]; exact if_pos c47
              have hP := hPo
              have hD := hDo
              exact ih25 (i + 1) n _ (by omega) (by rw [flP, ← hS9, hfl0]; exact hC9) (by rw [flP, ← hS9, hfl0, ← hn]; show n = n + 0; omega) (by omega) (by omega) _ _ hP hD hS ls (lv_sub hl [0, 1, 2, 3] rfl)
            · have c47 := i01t c47
              refine lv_aload_n hx hb dX10_fill_50 rfl (lv_at hl 2 rfl) ?_
              refine lv_iload_n hx hb dX10_fill_51 rfl (lv_at hl 0 rfl) ?_
              refine lv_iload_n hx hb dX10_fill_52 rfl (lv_at hl 3 rfl) ?_
              have hFc := va_A_sub hDo hS.1 hA
              refine jk_Qi (va_runV (As := [vi (i : Int), vi v]) (rest := []) ⟨hx, hb, hml, hown, htl⟩ (m_X10_fillSegment l hsT g o S9 _ hC9 H.size i (by omega) (by rw [hsvS]; exact c47) v (by omega)) (cwV 2 htl lk_X10_206 rfl rfl rfl cwV_X10_fillSegment ⟨Nat.le_of_ble_eq_true rfl, Nat.le_of_ble_eq_true rfl⟩) (jp_V hKK hS hAb (va_recv hKK.k hP (ci := 9) (q0 := 0) rfl rfl) ⟨rfl, hPo, hDo.weaken (fun _ q _ h => hAb _ h)⟩) rfl rfl hl.1 rfl (lv_room (Nat.le_of_ble_eq_true rfl)) dX10_fill_53 ⟨Nat.le_of_ble_eq_true rfl, Nat.le_of_ble_eq_true rfl⟩) hS (fun q _ h => hFc q h) hFc (fun z53 H1 locs hz53 hzs hks hS => ?_)
              obtain ⟨hz53, w2, hC2, hP2, hD2⟩ := hz53
              subst hz53
              have hD : va_D A w2 := hD2.weaken (fun _ q _ h => hFc _ h)
              have hP : PP g w2 H1 := hP2
              clear hzs hks hP2 hD2 hPo hDo hPs; generalize H1 = H at hP hS ⊢
              have h01 := flS_01 v S9 i
              refine jr_ifeq (tgt := 62) hx hb dX10_fill_56 (by decide) ⟨by omega, by omega⟩ (fun c56 => ?_) (fun c56 => ?_)
              · refine jr_iinc (lv' := [(3, vi ((i : Int) + 1)), (2, vi n), (0, .ref o), (1, vi v)]) hx hb dX10_fill_62 hl (k := 0) rfl rfl (by decide) rfl (fun ls hl => ?_)
                refine lv_goto (tgt := 25) hx hb dX10_fill_65 (by decide) ?_
                exact ih25 (i + 1) n w2 (by omega) (by rw [flP, ← hS9]; exact hC2) (by rw [flP, ← hS9, ← hn]; show _ = n + (flS v S9 i).2; omega) (by omega) (by omega) _ _ hP hD hS ls (lv_sub hl [0, 1, 2, 3] rfl)
              · refine jr_iinc (lv' := [(2, vi (n + 1)), (3, vi (i : Int)), (0, .ref o), (1, vi v)]) hx hb dX10_fill_59 hl (k := 1) rfl rfl (by decide) rfl (fun ls hl => ?_)
                refine jr_iinc (lv' := [(3, vi ((i : Int) + 1)), (2, vi (n + 1)), (0, .ref o), (1, vi v)]) hx hb dX10_fill_62 hl (k := 1) rfl rfl (by decide) rfl (fun ls hl => ?_)
                refine lv_goto (tgt := 25) hx hb dX10_fill_65 (by decide) ?_
                exact ih25 (i + 1) (n + 1) w2 (by omega) (by rw [flP, ← hS9]; exact hC2) (by rw [flP, ← hS9, ← hn]; show _ = n + (flS v S9 i).2; omega) (by omega) (by omega) _ _ hP hD hS ls (lv_sub hl [0, 1, 2, 3] rfl)
      exact lp25 _ 0 0 W9 (Nat.zero_le _) (hCW) (rfl) (⟨by omega, by omega⟩) (Nat.lt_succ_self _) _ _ hP hD hS ls (lv_sub hl [0, 1, 2, 3] rfl)
    · exact jt_S (g := g) hx hb hsT hown hKK tf_73 (htl _ wd_9_10) (htl _ wd_9_11) nws_12 (th_73 htl hKK) tg_73 hl.1 hml htab hlk (⟨rfl, by unfold cd1; (repeat' split) <;> omega⟩) dX10_fill_11 dX10_fill_14 dX10_fill_15 dX10_fill_17 dX10_fill_20 (Nat.le_of_ble_eq_true rfl) (Nat.le_of_ble_eq_true rfl) (Nat.le_of_ble_eq_true rfl) (Nat.le_of_ble_eq_true rfl) (Nat.le_of_ble_eq_true rfl) (Nat.le_of_ble_eq_true rfl)
