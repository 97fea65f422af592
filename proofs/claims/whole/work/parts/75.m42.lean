
theorem lk_X11_189 : GoodIn WSL (wsV RX11 189 RX11 yX11_areEqual (ws_ yX11_areEqual cX11_areEqual 5 (some .boolean))) := gd_app (List.forall_mem_cons.mpr ⟨wd_38_17, List.forall_mem_cons.mpr ⟨wd_38_18, List.forall_mem_cons.mpr ⟨wd_38_19, List.forall_mem_cons.mpr ⟨wd_1_5, fun _ h => nomatch h⟩⟩⟩⟩) (gd_ wd_38_20)
theorem cwV_X11_areEqual : yX11_areEqual.cls = RX11 ∧ yX11_areEqual.cls ≠ "java/lang/invoke/MethodHandle" ∧ yX11_areEqual.cls ≠ "java/lang/invoke/VarHandle" ∧ (parseMethodDescriptor yX11_areEqual.desc).map (fun d => d.parameters.length) = some 2 := by decide +kernel
set_option maxHeartbeats 4000000 in
set_option maxRecDepth 100000 in
theorem m_X11_repeats (l : Launch) (g : GT) (o : Nat) (S : SGM) (z9 : Int) (W9 : va_W) (hMW : MW g o S z9 W9) : Met l yX11_repeats (ws_ yX11_repeats cX11_repeats 5 (some .int)) (rmm 3 0 0) (jPc g [.ref o] (fun H => PP g W9 H ∧ va_D (fun q => gb g ≤ q) W9)) (jQi (fun z H1 => z = rpA (sS S) (nS S) ∧ ∃ w1 : va_W, MW g o S 0 w1 ∧ PP g w1 H1 ∧ va_D (jA W9) w1) (jA W9)) 0 0 (jA W9) := by
  refine jb_M (by decide) (Nat.le_of_ble_eq_true rfl) ?_
  intro p e s m below meth cq hx hb hr hml hown htl hlk hnm hKK hpre ls hl
  have hown : s.vm.findClass RX11 = some m.cls := hown
  obtain ⟨hP, hD0⟩ := hpre
  have hAb : ∀ q, (jA W9) q → gb g ≤ q := fun q h => hD0.inA h
  have hD : va_D (jA W9) W9 := hD0.inD
  generalize hAe : jA W9 = A at *
  have hS : va_S A s.heap s.heap [] := va_S.rf
  obtain ⟨ad, th, dn, nt, tn, nu, ns, tz, f1, f6, f7, f8, f9, f10, f11, f12, f13, f14, f15, f16, f17, f18, f19, f20, f21, f22, hW9, ho, ⟨hth0, hdn, hnt, htn, hnu, hns⟩, ⟨hf1, hf6⟩, hMU, hMD, ⟨hn40, hn60⟩, hw, ht, hab⟩ := hMW
  subst hW9
  subst ho
  have hP : PP g [ob (ad 0) 10 [vi th, .ref (ad 1), vi dn, .ref (ad 2), .ref (ad 3), vi nt, .ref (ad 4), .ref (ad 5), .ref (ad 6), vi tn, vi nu, .ref (ad 7), .ref (ad 8), .ref (ad 9), .ref (ad 10), .ref (ad 11), .ref (ad 12), vi ns, .ref (ad 13), .ref (ad 14), .ref (ad 15), .ref (ad 16), .ref (ad 17), .ref (ad 18), .ref (ad 19), vi tz, .ref (ad 20), .ref (ad 21), .ref (ad 22)], aI g (ad 1) 60 f1, aI g (ad 2) 4 S.2.2.2.1, aZ g (ad 3) 100 S.2.2.1, aI g (ad 4) 20 S.2.2.2.2.1.2.1, aI g (ad 5) 20 S.2.2.2.2.1.2.2, aI g (ad 6) 60 f6, aI g (ad 7) 2400 f7, aI g (ad 8) 40 f8, aI g (ad 9) 2400 f9, aI g (ad 10) 40 f10, aZ g (ad 11) 40 f11, aI g (ad 12) 60 f12, aI g (ad 13) 61 f13, aC g (ad 14) 60 f14, aI g (ad 15) 60 f15, aI g (ad 16) 60 f16, aI g (ad 17) 3600 f17, aI g (ad 18) 60 f18, aI g (ad 19) 60 f19, aI g (ad 20) 3721 f20, aI g (ad 21) 60 f21, aI g (ad 22) 60 f22] s.heap := hP
  have hD : va_D A [ob (ad 0) 10 [vi th, .ref (ad 1), vi dn, .ref (ad 2), .ref (ad 3), vi nt, .ref (ad 4), .ref (ad 5), .ref (ad 6), vi tn, vi nu, .ref (ad 7), .ref (ad 8), .ref (ad 9), .ref (ad 10), .ref (ad 11), .ref (ad 12), vi ns, .ref (ad 13), .ref (ad 14), .ref (ad 15), .ref (ad 16), .ref (ad 17), .ref (ad 18), .ref (ad 19), vi tz, .ref (ad 20), .ref (ad 21), .ref (ad 22)], aI g (ad 1) 60 f1, aI g (ad 2) 4 S.2.2.2.1, aZ g (ad 3) 100 S.2.2.1, aI g (ad 4) 20 S.2.2.2.2.1.2.1, aI g (ad 5) 20 S.2.2.2.2.1.2.2, aI g (ad 6) 60 f6, aI g (ad 7) 2400 f7, aI g (ad 8) 40 f8, aI g (ad 9) 2400 f9, aI g (ad 10) 40 f10, aZ g (ad 11) 40 f11, aI g (ad 12) 60 f12, aI g (ad 13) 61 f13, aC g (ad 14) 60 f14, aI g (ad 15) 60 f15, aI g (ad 16) 60 f16, aI g (ad 17) 3600 f17, aI g (ad 18) 60 f18, aI g (ad 19) 60 f19, aI g (ad 20) 3721 f20, aI g (ad 21) 60 f21, aI g (ad 22) 60 f22] := hD
  have hl : lv_has ls 5 [(0, .ref (ad 0))] := hl
  have hdL := hf1.len
  have htL := hf6.len
  have ht20 := ht.1
  have hnSe : nS S = S.2.2.2.2.2.2.length := rfl
  refine lv_aload_n hx hb dX11_repeats_0 rfl (lv_at hl 0 rfl) ?_
  refine jr_iconst hx hb dX11_repeats_1 ?_
  refine va_put (D := gD g) (ci := 10) (v := vi 0) (ty := .int) (C := RX11) (T := TX11) (N := 29) hx hb htl ck_X11 tyX11 tyX11_ok nmX11 hown hKK.k hP hD hS 0 rfl rfl 0 (by decide) (htl _ wd_8_10) (fun _ h9 => h9) rfl (by decide +kernel) rfl rfl (Nat.le_of_ble_eq_true rfl) dX11_repeats_2 (fun H locs hP hD hS => ?_)
  have hP : PP g [ob (ad 0) 10 [vi 0, .ref (ad 1), vi dn, .ref (ad 2), .ref (ad 3), vi nt, .ref (ad 4), .ref (ad 5), .ref (ad 6), vi tn, vi nu, .ref (ad 7), .ref (ad 8), .ref (ad 9), .ref (ad 10), .ref (ad 11), .ref (ad 12), vi ns, .ref (ad 13), .ref (ad 14), .ref (ad 15), .ref (ad 16), .ref (ad 17), .ref (ad 18), .ref (ad 19), vi tz, .ref (ad 20), .ref (ad 21), .ref (ad 22)], aI g (ad 1) 60 f1, aI g (ad 2) 4 S.2.2.2.1, aZ g (ad 3) 100 S.2.2.1, aI g (ad 4) 20 S.2.2.2.2.1.2.1, aI g (ad 5) 20 S.2.2.2.2.1.2.2, aI g (ad 6) 60 f6, aI g (ad 7) 2400 f7, aI g (ad 8) 40 f8, aI g (ad 9) 2400 f9, aI g (ad 10) 40 f10, aZ g (ad 11) 40 f11, aI g (ad 12) 60 f12, aI g (ad 13) 61 f13, aC g (ad 14) 60 f14, aI g (ad 15) 60 f15, aI g (ad 16) 60 f16, aI g (ad 17) 3600 f17, aI g (ad 18) 60 f18, aI g (ad 19) 60 f19, aI g (ad 20) 3721 f20, aI g (ad 21) 60 f21, aI g (ad 22) 60 f22] H := hP
  have hD : va_D A [ob (ad 0) 10 [vi 0, .ref (ad 1), vi dn, .ref (ad 2), .ref (ad 3), vi nt, .ref (ad 4), .ref (ad 5), .ref (ad 6), vi tn, vi nu, .ref (ad 7), .ref (ad 8), .ref (ad 9), .ref (ad 10), .ref (ad 11), .ref (ad 12), vi ns, .ref (ad 13), .ref (ad 14), .ref (ad 15), .ref (ad 16), .ref (ad 17), .ref (ad 18), .ref (ad 19), vi tz, .ref (ad 20), .ref (ad 21), .ref (ad 22)], aI g (ad 1) 60 f1, aI g (ad 2) 4 S.2.2.2.1, aZ g (ad 3) 100 S.2.2.1, aI g (ad 4) 20 S.2.2.2.2.1.2.1, aI g (ad 5) 20 S.2.2.2.2.1.2.2, aI g (ad 6) 60 f6, aI g (ad 7) 2400 f7, aI g (ad 8) 40 f8, aI g (ad 9) 2400 f9, aI g (ad 10) 40 f10, aZ g (ad 11) 40 f11, aI g (ad 12) 60 f12, aI g (ad 13) 61 f13, aC g (ad 14) 60 f14, aI g (ad 15) 60 f15, aI g (ad 16) 60 f16, aI g (ad 17) 3600 f17, aI g (ad 18) 60 f18, aI g (ad 19) 60 f19, aI g (ad 20) 3721 f20, aI g (ad 21) 60 f21, aI g (ad 22) 60 f22] := hD
  refine jr_iconst hx hb dX11_repeats_5 ?_
  refine lv_istore_n (lv' := [(1, vi 0), (0, .ref (ad 0))]) hx hb dX11_repeats_6 rfl hl (by decide) rfl (fun ls hl => ?_)
  refine jr_iconst hx hb dX11_repeats_7 ?_
  refine lv_istore_n (lv' := [(2, vi 0), (1, vi 0), (0, .ref (ad 0))]) hx hb dX11_repeats_8 rfl hl (by decide) rfl (fun ls hl => ?_)
  have lp9 : ∀ (N : Nat) (i : Nat) (n : Int), (i ≤ nS S) → (0 ≤ n ∧ n ≤ i) → (n = rpA (sS S) i) → nS S - i < N → ∀ (H : Heap) (locs : List Loc), PP g [ob (ad 0) 10 [vi 0, .ref (ad 1), vi dn, .ref (ad 2), .ref (ad 3), vi nt, .ref (ad 4), .ref (ad 5), .ref (ad 6), vi tn, vi nu, .ref (ad 7), .ref (ad 8), .ref (ad 9), .ref (ad 10), .ref (ad 11), .ref (ad 12), vi ns, .ref (ad 13), .ref (ad 14), .ref (ad 15), .ref (ad 16), .ref (ad 17), .ref (ad 18), .ref (ad 19), vi tz, .ref (ad 20), .ref (ad 21), .ref (ad 22)], aI g (ad 1) 60 f1, aI g (ad 2) 4 S.2.2.2.1, aZ g (ad 3) 100 S.2.2.1, aI g (ad 4) 20 S.2.2.2.2.1.2.1, aI g (ad 5) 20 S.2.2.2.2.1.2.2, aI g (ad 6) 60 f6, aI g (ad 7) 2400 f7, aI g (ad 8) 40 f8, aI g (ad 9) 2400 f9, aI g (ad 10) 40 f10, aZ g (ad 11) 40 f11, aI g (ad 12) 60 f12, aI g (ad 13) 61 f13, aC g (ad 14) 60 f14, aI g (ad 15) 60 f15, aI g (ad 16) 60 f16, aI g (ad 17) 3600 f17, aI g (ad 18) 60 f18, aI g (ad 19) 60 f19, aI g (ad 20) 3721 f20, aI g (ad 21) 60 f21, aI g (ad 22) 60 f22] H → va_D A [ob (ad 0) 10 [vi 0, .ref (ad 1), vi dn, .ref (ad 2), .ref (ad 3), vi nt, .ref (ad 4), .ref (ad 5), .ref (ad 6), vi tn, vi nu, .ref (ad 7), .ref (ad 8), .ref (ad 9), .ref (ad 10), .ref (ad 11), .ref (ad 12), vi ns, .ref (ad 13), .ref (ad 14), .ref (ad 15), .ref (ad 16), .ref (ad 17), .ref (ad 18), .ref (ad 19), vi tz, .ref (ad 20), .ref (ad 21), .ref (ad 22)], aI g (ad 1) 60 f1, aI g (ad 2) 4 S.2.2.2.1, aZ g (ad 3) 100 S.2.2.1, aI g (ad 4) 20 S.2.2.2.2.1.2.1, aI g (ad 5) 20 S.2.2.2.2.1.2.2, aI g (ad 6) 60 f6, aI g (ad 7) 2400 f7, aI g (ad 8) 40 f8, aI g (ad 9) 2400 f9, aI g (ad 10) 40 f10, aZ g (ad 11) 40 f11, aI g (ad 12) 60 f12, aI g (ad 13) 61 f13, aC g (ad 14) 60 f14, aI g (ad 15) 60 f15, aI g (ad 16) 60 f16, aI g (ad 17) 3600 f17, aI g (ad 18) 60 f18, aI g (ad 19) 60 f19, aI g (ad 20) 3721 f20, aI g (ad 21) 60 f21, aI g (ad 22) 60 f22] → va_S A s.heap H locs → ∀ ls : Array Slot, lv_has ls 5 [(2, vi (i : Int)), (1, vi n), (0, .ref (ad 0))] → W p l e (rmm 3 0 0) s m ([.ref (ad 0)] : List Value).toArray below meth cq H locs 0 0 (MQ below (jQi (fun z H1 => z = rpA (sS S) (nS S) ∧ ∃ w1 : va_W, MW g (ad 0) S 0 w1 ∧ PP g w1 H1 ∧ va_D A w1) A) ([.ref (ad 0)] : List Value).toArray s 0 0 A) (F0 m 9 ls []) := by
    intro N
    induction N with
    | zero => intro i n hi hn0 hF hM; exact absurd hM (Nat.not_lt_zero _)
    | succ N ih9 =>
      intro i n hi hn0 hF hM H locs hP hD hS ls hl
      refine lv_iload_n hx hb dX11_repeats_9 rfl (lv_at hl 0 rfl) ?_
      refine lv_aload_n hx hb dX11_repeats_10 rfl (lv_at hl 2 rfl) ?_
      refine va_get (D := gD g) (ci := 10) (v := vi ns) (C := RX11) (T := TX11) (N := 29) hx hb htl ck_X11 hown hKK.k hP 0 rfl rfl 17 (by decide) (htl _ wd_34_21) (fun _ h9 => h9) rfl dX11_repeats_11 ?_
      refine jr_ge (tgt := 72) hx hb dX11_repeats_14 (by decide) ⟨by omega, by omega⟩ ⟨by omega, by omega⟩ (fun c14 => ?_) (fun c14 => ?_)
      · refine lv_iload_n hx hb dX11_repeats_72 rfl (lv_at hl 1 rfl) ?_
        exact je_Qi hx hb hr hlk rfl hS (⟨by rw [hF, show i = nS S by omega], ⟨_, ⟨ad, 0, dn, nt, tn, nu, ns, tz, f1, f6, f7, f8, f9, f10, f11, f12, f13, f14, f15, f16, f17, f18, f19, f20, f21, f22, rfl, rfl, ⟨rfl, hdn, hnt, htn, hnu, hns⟩, ⟨hf1, hf6⟩, hMU, hMD, ⟨hn40, hn60⟩, hw, ht, hab⟩, hP, hD⟩⟩) dX11_repeats_73
      · obtain ⟨x, y, st, un, sc, b, hLi, h13, h13b, hb60, h12, h14, hst, hun, h18, h17, hfx, hunb, hscb⟩ := hMD.at (j := i) (by omega)
        have hsi : (sS S i).1 = x := by unfold sS; rw [hLi]
        refine jr_iconst hx hb dX11_repeats_17 ?_
        refine lv_istore_n (lv' := [(3, vi 0), (2, vi (i : Int)), (1, vi n), (0, .ref (ad 0))]) hx hb dX11_repeats_18 rfl hl (by decide) rfl (fun ls hl => ?_)
        refine jr_iconst hx hb dX11_repeats_19 ?_
        refine lv_istore (lv' := [(4, vi 0), (3, vi 0), (2, vi (i : Int)), (1, vi n), (0, .ref (ad 0))]) hx hb dX11_repeats_20 hl (by decide) rfl (fun ls hl => ?_)
        have lp22 : ∀ (N : Nat) (j : Nat) (ee : Int), (j ≤ i) → (0 ≤ ee ∧ ee ≤ 1) → (ee = i01 (eqB (sS S) x j = true)) → i - j < N → ∀ (H : Heap) (locs : List Loc), PP g [ob (ad 0) 10 [vi 0, .ref (ad 1), vi dn, .ref (ad 2), .ref (ad 3), vi nt, .ref (ad 4), .ref (ad 5), .ref (ad 6), vi tn, vi nu, .ref (ad 7), .ref (ad 8), .ref (ad 9), .ref (ad 10), .ref (ad 11), .ref (ad 12), vi ns, .ref (ad 13), .ref (ad 14), .ref (ad 15), .ref (ad 16), .ref (ad 17), .ref (ad 18), .ref (ad 19), vi tz, .ref (ad 20), .ref (ad 21), .ref (ad 22)], aI g (ad 1) 60 f1, aI g (ad 2) 4 S.2.2.2.1, aZ g (ad 3) 100 S.2.2.1, aI g (ad 4) 20 S.2.2.2.2.1.2.1, aI g (ad 5) 20 S.2.2.2.2.1.2.2, aI g (ad 6) 60 f6, aI g (ad 7) 2400 f7, aI g (ad 8) 40 f8, aI g (ad 9) 2400 f9, aI g (ad 10) 40 f10, aZ g (ad 11) 40 f11, aI g (ad 12) 60 f12, aI g (ad 13) 61 f13, aC g (ad 14) 60 f14, aI g (ad 15) 60 f15, aI g (ad 16) 60 f16, aI g (ad 17) 3600 f17, aI g (ad 18) 60 f18, aI g (ad 19) 60 f19, aI g (ad 20) 3721 f20, aI g (ad 21) 60 f21, aI g (ad 22) 60 f22] H → va_D A [ob (ad 0) 10 [vi 0, .ref (ad 1), vi dn, .ref (ad 2), .ref (ad 3), vi nt, .ref (ad 4), .ref (ad 5), .ref (ad 6), vi tn, vi nu, .ref (ad 7), .ref (ad 8), .ref (ad 9), .ref (ad 10), .ref (ad 11), .ref (ad 12), vi ns, .ref (ad 13), .ref (ad 14), .ref (ad 15), .ref (ad 16), .ref (ad 17), .ref (ad 18), .ref (ad 19), vi tz, .ref (ad 20), .ref (ad 21), .ref (ad 22)], aI g (ad 1) 60 f1, aI g (ad 2) 4 S.2.2.2.1, aZ g (ad 3) 100 S.2.2.1, aI g (ad 4) 20 S.2.2.2.2.1.2.1, aI g (ad 5) 20 S.2.2.2.2.1.2.2, aI g (ad 6) 60 f6, aI g (ad 7) 2400 f7, aI g (ad 8) 40 f8, aI g (ad 9) 2400 f9, aI g (ad 10) 40 f10, aZ g (ad 11) 40 f11, aI g (ad 12) 60 f12, aI g (ad 13) 61 f13, aC g (ad 14) 60 f14, aI g (ad 15) 60 f15, aI g (ad 16) 60 f16, aI g (ad 17) 3600 f17, aI g (ad 18) 60 f18, aI g (ad 19) 60 f19, aI g (ad 20) 3721 f20, aI g (ad 21) 60 f21, aI g (ad 22) 60 f22] → va_S A s.heap H locs → ∀ ls : Array Slot, lv_has ls 5 [(4, vi (j : Int)), (3, vi ee), (2, vi (i : Int)), (1, vi n), (0, .ref (ad 0))] → W p l e (rmm 3 0 0) s m ([.ref (ad 0)] : List Value).toArray below meth cq H locs 0 0 (MQ below (jQi (fun z H1 => z = rpA (sS S) (nS S) ∧ ∃ w1 : va_W, MW g (ad 0) S 0 w1 ∧ PP g w1 H1 ∧ va_D A w1) A) ([.ref (ad 0)] : List Value).toArray s 0 0 A) (F0 m 22 ls []) := by
          intro N
          induction N with
          | zero => intro j ee hj heb he hM; exact absurd hM (Nat.not_lt_zero _)
          | succ N ih22 =>
            intro j ee hj heb he hM H locs hP hD hS ls hl
            refine lv_iload hx hb dX11_repeats_22 (lv_at hl 0 rfl) ?_
            refine lv_iload_n hx hb dX11_repeats_24 rfl (lv_at hl 2 rfl) ?_
            refine jr_ge (tgt := 54) hx hb dX11_repeats_25 (by decide) ⟨by omega, by omega⟩ ⟨by omega, by omega⟩ (fun c25 => ?_) (fun c25 => ?_)
            · have hji : j = i := by omega
              rw [hji] at he
              refine lv_iload_n hx hb dX11_repeats_54 rfl (lv_at hl 3 rfl) ?_
              refine lv_iload_n hx hb dX11_repeats_55 rfl (lv_at hl 1 rfl) ?_
              refine jr_ifeq (tgt := 63) hx hb dX11_repeats_56 (by decide) ⟨by omega, by omega⟩ (fun c56 => ?_) (fun c56 => ?_)
              · rw [he] at c56
                refine jr_iconst hx hb dX11_repeats_63 ?_
                refine jr_iadd hx hb dX11_repeats_64 ?_
                refine lv_istore_n (lv' := [(1, vi (n + 0)), (4, vi (j : Int)), (3, vi ee), (2, vi (i : Int)), (0, .ref (ad 0))]) hx hb dX11_repeats_65 rfl hl (by decide) rfl (fun ls hl => ?_)
                refine jr_iinc (lv' := [(2, vi ((i : Int) + 1)), (1, vi (n + 0)), (4, vi (j : Int)), (3, vi ee), (0, .ref (ad 0))]) hx hb dX11_repeats_66 hl (k := 3) rfl rfl (by decide) rfl (fun ls hl => ?_)
                refine lv_goto (tgt := 9) hx hb dX11_repeats_69 (by decide) ?_
                exact ih9 (i + 1) _ (by omega) (by omega) (by rw [rpA, hF, hsi]; rw [if_neg (i01f c56)]) (by omega) _ _ hP hD hS ls (lv_sub hl [0, 1, 4] rfl)
              · rw [he] at c56
                refine jr_iconst hx hb dX11_repeats_59 ?_
                refine lv_goto (tgt := 64) hx hb dX11_repeats_60 (by decide) ?_
                refine jr_iadd hx hb dX11_repeats_64 ?_
                refine lv_istore_n (lv' := [(1, vi (n + 1)), (4, vi (j : Int)), (3, vi ee), (2, vi (i : Int)), (0, .ref (ad 0))]) hx hb dX11_repeats_65 rfl hl (by decide) rfl (fun ls hl => ?_)
                refine jr_iinc (lv' := [(2, vi ((i : Int) + 1)), (1, vi (n + 1)), (4, vi (j : Int)), (3, vi ee), (0, .ref (ad 0))]) hx hb dX11_repeats_66 hl (k := 3) rfl rfl (by decide) rfl (fun ls hl => ?_)
                refine lv_goto (tgt := 9) hx hb dX11_repeats_69 (by decide) ?_
                exact ih9 (i + 1) _ (by omega) (by omega) (by rw [rpA, hF, hsi]; rw [if_pos (i01t c56)]) (by omega) _ _ hP hD hS ls (lv_sub hl [0, 1, 4] rfl)
            · refine lv_iload_n hx hb dX11_repeats_28 rfl (lv_at hl 1 rfl) ?_
              refine jr_ifne (tgt := 42) hx hb dX11_repeats_29 (by decide) ⟨by omega, by omega⟩ (fun c29 => ?_) (fun c29 => ?_)
              · refine jr_iconst hx hb dX11_repeats_42 ?_
                refine lv_goto (tgt := 47) hx hb dX11_repeats_43 (by decide) ?_
                refine lv_istore_n (lv' := [(3, vi 1), (4, vi (j : Int)), (2, vi (i : Int)), (1, vi n), (0, .ref (ad 0))]) hx hb dX11_repeats_47 rfl hl (by decide) rfl (fun ls hl => ?_)
                refine jr_iinc (lv' := [(4, vi ((j : Int) + 1)), (3, vi 1), (2, vi (i : Int)), (1, vi n), (0, .ref (ad 0))]) hx hb dX11_repeats_48 hl (k := 1) rfl rfl (by decide) rfl (fun ls hl => ?_)
                refine lv_goto (tgt := 22) hx hb dX11_repeats_51 (by decide) ?_
                exact ih22 (j + 1) _ (by omega) (by omega) (i01_1 (eqB_s.mpr (Or.inl (by rw [he] at c29; exact i01t c29)))) (by omega) _ _ hP hD hS ls (lv_sub hl [0, 1, 2, 3, 4] rfl)
              · obtain ⟨x2, y2, st2, un2, sc2, b2, hLi2, h132, h13b2, hb602, h122, h142, hst2, hun2, h182, h172, hfx2, hunb2, hscb2⟩ := hMD.at (j := j) (by omega)
                have hsj : (sS S j).1 = x2 := by unfold sS; rw [hLi2]
                refine lv_aload_n hx hb dX11_repeats_32 rfl (lv_at hl 4 rfl) ?_
                refine lv_iload hx hb dX11_repeats_33 (lv_at hl 0 rfl) ?_
                refine lv_iload_n hx hb dX11_repeats_35 rfl (lv_at hl 2 rfl) ?_
                refine jk_Si (va_runV (As := [vi (j : Int), vi (i : Int)]) (rest := []) ⟨hx, hb, hml, hown, htl⟩ (m_X11_areEqual l g ad 0 dn nt tn nu ns tz f12 f13 j b2 x2 (by omega) h132 h13b2 hb602 h122 i b x (by omega) h13 h13b hb60 h12) (cwV 2 htl lk_X11_189 rfl rfl rfl cwV_X11_areEqual ⟨Nat.le_of_ble_eq_true rfl, Nat.le_of_ble_eq_true rfl⟩) (jp_V hKK hS hAb (va_recv hKK.k hP (ci := 10) (q0 := 0) rfl rfl) (va_P.sub hP [0, 12, 13] rfl)) rfl rfl hl.1 rfl (lv_room (Nat.le_of_ble_eq_true rfl)) dX11_repeats_36 ⟨Nat.le_of_ble_eq_true rfl, Nat.le_of_ble_eq_true rfl⟩) (fun z36 hz36 => ?_)
                subst hz36
                refine jr_ifeq (tgt := 46) hx hb dX11_repeats_39 (by decide) (i01R _) (fun c39 => ?_) (fun c39 => ?_)
                · have c39 := i01f c39
                  refine jr_iconst hx hb dX11_repeats_46 ?_
                  refine lv_istore_n (lv' := [(3, vi 0), (4, vi (j : Int)), (2, vi (i : Int)), (1, vi n), (0, .ref (ad 0))]) hx hb dX11_repeats_47 rfl hl (by decide) rfl (fun ls hl => ?_)
                  refine jr_iinc (lv' := [(4, vi ((j : Int) + 1)), (3, vi 0), (2, vi (i : Int)), (1, vi n), (0, .ref (ad 0))]) hx hb dX11_repeats_48 hl (k := 1) rfl rfl (by decide) rfl (fun ls hl => ?_)
                  refine lv_goto (tgt := 22) hx hb dX11_repeats_51 (by decide) ?_
                  exact ih22 (j + 1) _ (by omega) (by omega) (i01_0 (fun q => (eqB_s.mp q).elim (by rw [he] at c29; exact i01f c29) (fun q => c39 (hsj.symm.trans q)))) (by omega) _ _ hP hD hS ls (lv_sub hl [0, 1, 2, 3, 4] rfl)
                · have c39 := i01t c39
                  refine jr_iconst hx hb dX11_repeats_42 ?_
                  refine lv_goto (tgt := 47) hx hb dX11_repeats_43 (by decide) ?_
                  refine lv_istore_n (lv' := [(3, vi 1), (4, vi (j : Int)), (2, vi (i : Int)), (1, vi n), (0, .ref (ad 0))]) hx hb dX11_repeats_47 rfl hl (by decide) rfl (fun ls hl => ?_)
                  refine jr_iinc (lv' := [(4, vi ((j : Int) + 1)), (3, vi 1), (2, vi (i : Int)), (1, vi n), (0, .ref (ad 0))]) hx hb dX11_repeats_48 hl (k := 1) rfl rfl (by decide) rfl (fun ls hl => ?_)
                  refine lv_goto (tgt := 22) hx hb dX11_repeats_51 (by decide) ?_
                  exact ih22 (j + 1) _ (by omega) (by omega) (i01_1 (eqB_s.mpr (Or.inr (hsj.trans c39)))) (by omega) _ _ hP hD hS ls (lv_sub hl [0, 1, 2, 3, 4] rfl)
        exact lp22 _ 0 0 (Nat.zero_le _) (⟨by omega, by omega⟩) (i01_0 eqB_0) (Nat.lt_succ_self _) _ _ hP hD hS ls (lv_sub hl [0, 1, 2, 3, 4] rfl)
  exact lp9 _ 0 0 (Nat.zero_le _) (⟨by omega, by omega⟩) (rfl) (Nat.lt_succ_self _) _ _ hP hD hS ls (lv_sub hl [0, 1, 2] rfl)
set_option maxHeartbeats 4000000 in
set_option maxRecDepth 100000 in
theorem m_X11_openWeight (l : Launch) (g : GT) (o : Nat) (S : SGM) (z9 : Int) (W9 : va_W) (hMW : MW g o S z9 W9) : Met l yX11_openWeight (ws_ yX11_openWeight cX11_openWeight 5 (some .long)) (rmm 3 0 0) (jPc g [.ref o] (fun H => PP g W9 H ∧ va_D (fun q => gb g ≤ q) W9)) (jQl (fun z H1 => z = owA S.2.2.2.1 (sS S) (nS S) ∧ ∃ w1 : va_W, MW g o S 0 w1 ∧ PP g w1 H1 ∧ va_D (jA W9) w1) (jA W9)) 0 0 (jA W9) := by
  refine jb_M (by decide) (Nat.le_of_ble_eq_true rfl) ?_
  intro p e s m below meth cq hx hb hr hml hown htl hlk hnm hKK hpre ls hl
  have hown : s.vm.findClass RX11 = some m.cls := hown
  obtain ⟨hP, hD0⟩ := hpre
  have hAb : ∀ q, (jA W9) q → gb g ≤ q := fun q h => hD0.inA h
  have hD : va_D (jA W9) W9 := hD0.inD
  generalize hAe : jA W9 = A at *
  have hS : va_S A s.heap s.heap [] := va_S.rf
  obtain ⟨ad, th, dn, nt, tn, nu, ns, tz, f1, f6, f7, f8, f9, f10, f11, f12, f13, f14, f15, f16, f17, f18, f19, f20, f21, f22, hW9, ho, ⟨hth0, hdn, hnt, htn, hnu, hns⟩, ⟨hf1, hf6⟩, hMU, hMD, ⟨hn40, hn60⟩, hw, ht, hab⟩ := hMW
  subst hW9
  subst ho
  have hP : PP g [ob (ad 0) 10 [vi th, .ref (ad 1), vi dn, .ref (ad 2), .ref (ad 3), vi nt, .ref (ad 4), .ref (ad 5), .ref (ad 6), vi tn, vi nu, .ref (ad 7), .ref (ad 8), .ref (ad 9), .ref (ad 10), .ref (ad 11), .ref (ad 12), vi ns, .ref (ad 13), .ref (ad 14), .ref (ad 15), .ref (ad 16), .ref (ad 17), .ref (ad 18), .ref (ad 19), vi tz, .ref (ad 20), .ref (ad 21), .ref (ad 22)], aI g (ad 1) 60 f1, aI g (ad 2) 4 S.2.2.2.1, aZ g (ad 3) 100 S.2.2.1, aI g (ad 4) 20 S.2.2.2.2.1.2.1, aI g (ad 5) 20 S.2.2.2.2.1.2.2, aI g (ad 6) 60 f6, aI g (ad 7) 2400 f7, aI g (ad 8) 40 f8, aI g (ad 9) 2400 f9, aI g (ad 10) 40 f10, aZ g (ad 11) 40 f11, aI g (ad 12) 60 f12, aI g (ad 13) 61 f13, aC g (ad 14) 60 f14, aI g (ad 15) 60 f15, aI g (ad 16) 60 f16, aI g (ad 17) 3600 f17, aI g (ad 18) 60 f18, aI g (ad 19) 60 f19, aI g (ad 20) 3721 f20, aI g (ad 21) 60 f21, aI g (ad 22) 60 f22] s.heap := hP
  have hD : va_D A [ob (ad 0) 10 [vi th, .ref (ad 1), vi dn, .ref (ad 2), .ref (ad 3), vi nt, .ref (ad 4), .ref (ad 5), .ref (ad 6), vi tn, vi nu, .ref (ad 7), .ref (ad 8), .ref (ad 9), .ref (ad 10), .ref (ad 11), .ref (ad 12), vi ns, .ref (ad 13), .ref (ad 14), .ref (ad 15), .ref (ad 16), .ref (ad 17), .ref (ad 18), .ref (ad 19), vi tz, .ref (ad 20), .ref (ad 21), .ref (ad 22)], aI g (ad 1) 60 f1, aI g (ad 2) 4 S.2.2.2.1, aZ g (ad 3) 100 S.2.2.1, aI g (ad 4) 20 S.2.2.2.2.1.2.1, aI g (ad 5) 20 S.2.2.2.2.1.2.2, aI g (ad 6) 60 f6, aI g (ad 7) 2400 f7, aI g (ad 8) 40 f8, aI g (ad 9) 2400 f9, aI g (ad 10) 40 f10, aZ g (ad 11) 40 f11, aI g (ad 12) 60 f12, aI g (ad 13) 61 f13, aC g (ad 14) 60 f14, aI g (ad 15) 60 f15, aI g (ad 16) 60 f16, aI g (ad 17) 3600 f17, aI g (ad 18) 60 f18, aI g (ad 19) 60 f19, aI g (ad 20) 3721 f20, aI g (ad 21) 60 f21, aI g (ad 22) 60 f22] := hD
  have hl : lv_has ls 5 [(0, .ref (ad 0))] := hl
  have hdL := hf1.len
  have htL := hf6.len
  have ht20 := ht.1
  have hnSe : nS S = S.2.2.2.2.2.2.length := rfl
  refine lv_aload_n hx hb dX11_openWeight_0 rfl (lv_at hl 0 rfl) ?_
  refine jr_iconst hx hb dX11_openWeight_1 ?_
  refine va_put (D := gD g) (ci := 10) (v := vi 0) (ty := .int) (C := RX11) (T := TX11) (N := 29) hx hb htl ck_X11 tyX11 tyX11_ok nmX11 hown hKK.k hP hD hS 0 rfl rfl 0 (by decide) (htl _ wd_8_10) (fun _ h9 => h9) rfl (by decide +kernel) rfl rfl (Nat.le_of_ble_eq_true rfl) dX11_openWeight_2 (fun H locs hP hD hS => ?_)
  have hP : PP g [ob (ad 0) 10 [vi 0, .ref (ad 1), vi dn, .ref (ad 2), .ref (ad 3), vi nt, .ref (ad 4), .ref (ad 5), .ref (ad 6), vi tn, vi nu, .ref (ad 7), .ref (ad 8), .ref (ad 9), .ref (ad 10), .ref (ad 11), .ref (ad 12), vi ns, .ref (ad 13), .ref (ad 14), .ref (ad 15), .ref (ad 16), .ref (ad 17), .ref (ad 18), .ref (ad 19), vi tz, .ref (ad 20), .ref (ad 21), .ref (ad 22)], aI g (ad 1) 60 f1, aI g (ad 2) 4 S.2.2.2.1, aZ g (ad 3) 100 S.2.2.1, aI g (ad 4) 20 S.2.2.2.2.1.2.1, aI g (ad 5) 20 S.2.2.2.2.1.2.2, aI g (ad 6) 60 f6, aI g (ad 7) 2400 f7, aI g (ad 8) 40 f8, aI g (ad 9) 2400 f9, aI g (ad 10) 40 f10, aZ g (ad 11) 40 f11, aI g (ad 12) 60 f12, aI g (ad 13) 61 f13, aC g (ad 14) 60 f14, aI g (ad 15) 60 f15, aI g (ad 16) 60 f16, aI g (ad 17) 3600 f17, aI g (ad 18) 60 f18, aI g (ad 19) 60 f19, aI g (ad 20) 3721 f20, aI g (ad 21) 60 f21, aI g (ad 22) 60 f22] H := hP
  have hD : va_D A [ob (ad 0) 10 [vi 0, .ref (ad 1), vi dn, .ref (ad 2), .ref (ad 3), vi nt, .ref (ad 4), .ref (ad 5), .ref (ad 6), vi tn, vi nu, .ref (ad 7), .ref (ad 8), .ref (ad 9), .ref (ad 10), .ref (ad 11), .ref (ad 12), vi ns, .ref (ad 13), .ref (ad 14), .ref (ad 15), .ref (ad 16), .ref (ad 17), .ref (ad 18), .ref (ad 19), vi tz, .ref (ad 20), .ref (ad 21), .ref (ad 22)], aI g (ad 1) 60 f1, aI g (ad 2) 4 S.2.2.2.1, aZ g (ad 3) 100 S.2.2.1, aI g (ad 4) 20 S.2.2.2.2.1.2.1, aI g (ad 5) 20 S.2.2.2.2.1.2.2, aI g (ad 6) 60 f6, aI g (ad 7) 2400 f7, aI g (ad 8) 40 f8, aI g (ad 9) 2400 f9, aI g (ad 10) 40 f10, aZ g (ad 11) 40 f11, aI g (ad 12) 60 f12, aI g (ad 13) 61 f13, aC g (ad 14) 60 f14, aI g (ad 15) 60 f15, aI g (ad 16) 60 f16, aI g (ad 17) 3600 f17, aI g (ad 18) 60 f18, aI g (ad 19) 60 f19, aI g (ad 20) 3721 f20, aI g (ad 21) 60 f21, aI g (ad 22) 60 f22] := hD
  refine jr_lconst0 hx hb dX11_openWeight_5 ?_
  refine lv_lstore_n (lv' := [(1, .long (Int64.ofInt 0)), (0, .ref (ad 0))]) hx hb dX11_openWeight_6 rfl hl (by decide) rfl (fun ls hl => ?_)
  refine jr_iconst hx hb dX11_openWeight_7 ?_
  refine lv_istore_n (lv' := [(3, vi 0), (1, .long (Int64.ofInt 0)), (0, .ref (ad 0))]) hx hb dX11_openWeight_8 rfl hl (by decide) rfl (fun ls hl => ?_)
  have lp9 : ∀ (N : Nat) (i : Nat) (n : Int), (i ≤ nS S) → (n = owA S.2.2.2.1 (sS S) i) → nS S - i < N → ∀ (H : Heap) (locs : List Loc), PP g [ob (ad 0) 10 [vi 0, .ref (ad 1), vi dn, .ref (ad 2), .ref (ad 3), vi nt, .ref (ad 4), .ref (ad 5), .ref (ad 6), vi tn, vi nu, .ref (ad 7), .ref (ad 8), .ref (ad 9), .ref (ad 10), .ref (ad 11), .ref (ad 12), vi ns, .ref (ad 13), .ref (ad 14), .ref (ad 15), .ref (ad 16), .ref (ad 17), .ref (ad 18), .ref (ad 19), vi tz, .ref (ad 20), .ref (ad 21), .ref (ad 22)], aI g (ad 1) 60 f1, aI g (ad 2) 4 S.2.2.2.1, aZ g (ad 3) 100 S.2.2.1, aI g (ad 4) 20 S.2.2.2.2.1.2.1, aI g (ad 5) 20 S.2.2.2.2.1.2.2, aI g (ad 6) 60 f6, aI g (ad 7) 2400 f7, aI g (ad 8) 40 f8, aI g (ad 9) 2400 f9, aI g (ad 10) 40 f10, aZ g (ad 11) 40 f11, aI g (ad 12) 60 f12, aI g (ad 13) 61 f13, aC g (ad 14) 60 f14, aI g (ad 15) 60 f15, aI g (ad 16) 60 f16, aI g (ad 17) 3600 f17, aI g (ad 18) 60 f18, aI g (ad 19) 60 f19, aI g (ad 20) 3721 f20, aI g (ad 21) 60 f21, aI g (ad 22) 60 f22] H → va_D A [ob (ad 0) 10 [vi 0, .ref (ad 1), vi dn, .ref (ad 2), .ref (ad 3), vi nt, .ref (ad 4), .ref (ad 5), .ref (ad 6), vi tn, vi nu, .ref (ad 7), .ref (ad 8), .ref (ad 9), .ref (ad 10), .ref (ad 11), .ref (ad 12), vi ns, .ref (ad 13), .ref (ad 14), .ref (ad 15), .ref (ad 16), .ref (ad 17), .ref (ad 18), .ref (ad 19), vi tz, .ref (ad 20), .ref (ad 21), .ref (ad 22)], aI g (ad 1) 60 f1, aI g (ad 2) 4 S.2.2.2.1, aZ g (ad 3) 100 S.2.2.1, aI g (ad 4) 20 S.2.2.2.2.1.2.1, aI g (ad 5) 20 S.2.2.2.2.1.2.2, aI g (ad 6) 60 f6, aI g (ad 7) 2400 f7, aI g (ad 8) 40 f8, aI g (ad 9) 2400 f9, aI g (ad 10) 40 f10, aZ g (ad 11) 40 f11, aI g (ad 12) 60 f12, aI g (ad 13) 61 f13, aC g (ad 14) 60 f14, aI g (ad 15) 60 f15, aI g (ad 16) 60 f16, aI g (ad 17) 3600 f17, aI g (ad 18) 60 f18, aI g (ad 19) 60 f19, aI g (ad 20) 3721 f20, aI g (ad 21) 60 f21, aI g (ad 22) 60 f22] → va_S A s.heap H locs → ∀ ls : Array Slot, lv_has ls 5 [(3, vi (i : Int)), (1, .long (Int64.ofInt n)), (0, .ref (ad 0))] → W p l e (rmm 3 0 0) s m ([.ref (ad 0)] : List Value).toArray below meth cq H locs 0 0 (MQ below (jQl (fun z H1 => z = owA S.2.2.2.1 (sS S) (nS S) ∧ ∃ w1 : va_W, MW g (ad 0) S 0 w1 ∧ PP g w1 H1 ∧ va_D A w1) A) ([.ref (ad 0)] : List Value).toArray s 0 0 A) (F0 m 9 ls []) := by
    intro N
    induction N with
    | zero => intro i n hi hF hM; exact absurd hM (Nat.not_lt_zero _)
    | succ N ih9 =>
      intro i n hi hF hM H locs hP hD hS ls hl
      refine lv_iload_n hx hb dX11_openWeight_9 rfl (lv_at hl 0 rfl) ?_
      refine lv_aload_n hx hb dX11_openWeight_10 rfl (lv_at hl 2 rfl) ?_
      refine va_get (D := gD g) (ci := 10) (v := vi ns) (C := RX11) (T := TX11) (N := 29) hx hb htl ck_X11 hown hKK.k hP 0 rfl rfl 17 (by decide) (htl _ wd_34_21) (fun _ h9 => h9) rfl dX11_openWeight_11 ?_
      refine jr_ge (tgt := 76) hx hb dX11_openWeight_14 (by decide) ⟨by omega, by omega⟩ ⟨by omega, by omega⟩ (fun c14 => ?_) (fun c14 => ?_)
      · refine lv_lload_n hx hb dX11_openWeight_76 rfl (lv_at hl 1 rfl) ?_
        exact je_Ql hx hb hr hlk hS (⟨by rw [hF, show i = nS S by omega], ⟨_, ⟨ad, 0, dn, nt, tn, nu, ns, tz, f1, f6, f7, f8, f9, f10, f11, f12, f13, f14, f15, f16, f17, f18, f19, f20, f21, f22, rfl, rfl, ⟨rfl, hdn, hnt, htn, hnu, hns⟩, ⟨hf1, hf6⟩, hMU, hMD, ⟨hn40, hn60⟩, hw, ht, hab⟩, hP, hD⟩⟩) dX11_openWeight_77
      · obtain ⟨x, y, st, un, sc, b, hLi, h13, h13b, hb60, h12, h14, hst, hun, h18, h17, hfx, hunb, hscb⟩ := hMD.at (j := i) (by omega)
        have hsi : sS S i = (x, y, st, un, sc) := hLi
        have hxl := h12.len
        refine lv_aload_n hx hb dX11_openWeight_17 rfl (lv_at hl 2 rfl) ?_
        refine va_get (D := gD g) (ci := 10) (v := .ref (ad 13)) (C := RX11) (T := TX11) (N := 29) hx hb htl ck_X11 hown hKK.k hP 0 rfl rfl 18 (by decide) (htl _ wd_6_3) (fun _ h9 => h9) rfl dX11_openWeight_18 ?_
        refine lv_iload_n hx hb dX11_openWeight_21 rfl (lv_at hl 0 rfl) ?_
        refine jr_iald hx hb hKK.k hP 13 rfl i (by omega) (by omega) (by omega) dX11_openWeight_22 ?_
        refine jr_nm (b := ((b + 0 : Nat) : Int)) (h13) ?_
        refine lv_istore (lv' := [(4, vi ((b + 0 : Nat) : Int)), (3, vi (i : Int)), (1, .long (Int64.ofInt n)), (0, .ref (ad 0))]) hx hb dX11_openWeight_23 hl (by decide) rfl (fun ls hl => ?_)
        have lp25 : ∀ (N : Nat) (j : Nat) (n2 : Int), (j ≤ x.length) → ((j = 0 ∧ n2 = n) ∨ st = 101) → (wtA S.2.2.2.1 (x.drop j) (n2 - n) = wtA S.2.2.2.1 x 0) → x.length - j < N → ∀ (H : Heap) (locs : List Loc), PP g [ob (ad 0) 10 [vi 0, .ref (ad 1), vi dn, .ref (ad 2), .ref (ad 3), vi nt, .ref (ad 4), .ref (ad 5), .ref (ad 6), vi tn, vi nu, .ref (ad 7), .ref (ad 8), .ref (ad 9), .ref (ad 10), .ref (ad 11), .ref (ad 12), vi ns, .ref (ad 13), .ref (ad 14), .ref (ad 15), .ref (ad 16), .ref (ad 17), .ref (ad 18), .ref (ad 19), vi tz, .ref (ad 20), .ref (ad 21), .ref (ad 22)], aI g (ad 1) 60 f1, aI g (ad 2) 4 S.2.2.2.1, aZ g (ad 3) 100 S.2.2.1, aI g (ad 4) 20 S.2.2.2.2.1.2.1, aI g (ad 5) 20 S.2.2.2.2.1.2.2, aI g (ad 6) 60 f6, aI g (ad 7) 2400 f7, aI g (ad 8) 40 f8, aI g (ad 9) 2400 f9, aI g (ad 10) 40 f10, aZ g (ad 11) 40 f11, aI g (ad 12) 60 f12, aI g (ad 13) 61 f13, aC g (ad 14) 60 f14, aI g (ad 15) 60 f15, aI g (ad 16) 60 f16, aI g (ad 17) 3600 f17, aI g (ad 18) 60 f18, aI g (ad 19) 60 f19, aI g (ad 20) 3721 f20, aI g (ad 21) 60 f21, aI g (ad 22) 60 f22] H → va_D A [ob (ad 0) 10 [vi 0, .ref (ad 1), vi dn, .ref (ad 2), .ref (ad 3), vi nt, .ref (ad 4), .ref (ad 5), .ref (ad 6), vi tn, vi nu, .ref (ad 7), .ref (ad 8), .ref (ad 9), .ref (ad 10), .ref (ad 11), .ref (ad 12), vi ns, .ref (ad 13), .ref (ad 14), .ref (ad 15), .ref (ad 16), .ref (ad 17), .ref (ad 18), .ref (ad 19), vi tz, .ref (ad 20), .ref (ad 21), .ref (ad 22)], aI g (ad 1) 60 f1, aI g (ad 2) 4 S.2.2.2.1, aZ g (ad 3) 100 S.2.2.1, aI g (ad 4) 20 S.2.2.2.2.1.2.1, aI g (ad 5) 20 S.2.2.2.2.1.2.2, aI g (ad 6) 60 f6, aI g (ad 7) 2400 f7, aI g (ad 8) 40 f8, aI g (ad 9) 2400 f9, aI g (ad 10) 40 f10, aZ g (ad 11) 40 f11, aI g (ad 12) 60 f12, aI g (ad 13) 61 f13, aC g (ad 14) 60 f14, aI g (ad 15) 60 f15, aI g (ad 16) 60 f16, aI g (ad 17) 3600 f17, aI g (ad 18) 60 f18, aI g (ad 19) 60 f19, aI g (ad 20) 3721 f20, aI g (ad 21) 60 f21, aI g (ad 22) 60 f22] → va_S A s.heap H locs → ∀ ls : Array Slot, lv_has ls 5 [(4, vi ((b + j : Nat) : Int)), (3, vi (i : Int)), (1, .long (Int64.ofInt n2)), (0, .ref (ad 0))] → W p l e (rmm 3 0 0) s m ([.ref (ad 0)] : List Value).toArray below meth cq H locs 0 0 (MQ below (jQl (fun z H1 => z = owA S.2.2.2.1 (sS S) (nS S) ∧ ∃ w1 : va_W, MW g (ad 0) S 0 w1 ∧ PP g w1 H1 ∧ va_D A w1) A) ([.ref (ad 0)] : List Value).toArray s 0 0 A) (F0 m 25 ls []) := by
          intro N
          induction N with
          | zero => intro j n2 hj hQ hG hM; exact absurd hM (Nat.not_lt_zero _)
          | succ N ih25 =>
            intro j n2 hj hQ hG hM H locs hP hD hS ls hl
            refine lv_iload hx hb dX11_openWeight_25 (lv_at hl 0 rfl) ?_
            refine lv_aload_n hx hb dX11_openWeight_27 rfl (lv_at hl 3 rfl) ?_
            refine va_get (D := gD g) (ci := 10) (v := .ref (ad 13)) (C := RX11) (T := TX11) (N := 29) hx hb htl ck_X11 hown hKK.k hP 0 rfl rfl 18 (by decide) (htl _ wd_6_3) (fun _ h9 => h9) rfl dX11_openWeight_28 ?_
            refine lv_iload_n hx hb dX11_openWeight_31 rfl (lv_at hl 1 rfl) ?_
            refine jr_iconst hx hb dX11_openWeight_32 ?_
            refine jr_iadd hx hb dX11_openWeight_33 ?_
            refine jr_iald hx hb hKK.k hP 13 rfl (i + 1) (by omega) (by omega) (by omega) dX11_openWeight_34 ?_
            refine jr_ge (tgt := 70) hx hb dX11_openWeight_35 (by decide) ⟨by omega, by omega⟩ ⟨by omega, by omega⟩ (fun c35 => ?_) (fun c35 => ?_)
            · refine jr_iinc (lv' := [(3, vi ((i : Int) + 1)), (4, vi ((b + j : Nat) : Int)), (1, .long (Int64.ofInt n2)), (0, .ref (ad 0))]) hx hb dX11_openWeight_70 hl (k := 1) rfl rfl (by decide) rfl (fun ls hl => ?_)
              refine lv_goto (tgt := 9) hx hb dX11_openWeight_73 (by decide) ?_
              exact ih9 (i + 1) _ (by omega) (by rw [owA, ← hF, hsi]; dsimp only; rw [show j = x.length by omega, List.drop_length] at hG; by_cases e9 : st = 101; rw [if_pos e9, ← hG]; show n2 = n + (n2 - n); omega; rw [if_neg e9]; rcases hQ with h | h; omega; exact absurd h e9) (by omega) _ _ hP hD hS ls (lv_sub hl [0, 2, 3] rfl)
            · refine lv_aload_n hx hb dX11_openWeight_38 rfl (lv_at hl 3 rfl) ?_
              refine va_get (D := gD g) (ci := 10) (v := .ref (ad 14)) (C := RX11) (T := TX11) (N := 29) hx hb htl ck_X11 hown hKK.k hP 0 rfl rfl 19 (by decide) (htl _ wd_6_5) (fun _ h9 => h9) rfl dX11_openWeight_39 ?_
              refine lv_iload_n hx hb dX11_openWeight_42 rfl (lv_at hl 1 rfl) ?_
              refine jr_cald hx hb hKK.k hP 14 rfl i (by omega) (by omega) (by omega) dX11_openWeight_43 ?_
              refine jr_bipush hx hb dX11_openWeight_44 (by decide) ?_
              refine jr_ne (tgt := 70) hx hb dX11_openWeight_46 (by decide) ⟨by omega, by omega⟩ ⟨by omega, by omega⟩ (fun c46 => ?_) (fun c46 => ?_)
              · refine jr_iinc (lv' := [(3, vi ((i : Int) + 1)), (4, vi ((b + j : Nat) : Int)), (1, .long (Int64.ofInt n2)), (0, .ref (ad 0))]) hx hb dX11_openWeight_70 hl (k := 1) rfl rfl (by decide) rfl (fun ls hl => ?_)
                refine lv_goto (tgt := 9) hx hb dX11_openWeight_73 (by decide) ?_
                exact ih9 (i + 1) _ (by omega) (by rw [owA, ← hF, hsi]; dsimp only; rw [if_neg (by omega)]; rcases hQ with h | h; omega; exact absurd h (by omega)) (by omega) _ _ hP hD hS ls (lv_sub hl [0, 2, 3] rfl)
              · refine lv_lload_n hx hb dX11_openWeight_49 rfl (lv_at hl 2 rfl) ?_
                refine lv_aload_n hx hb dX11_openWeight_50 rfl (lv_at hl 3 rfl) ?_
                refine lv_aload_n hx hb dX11_openWeight_51 rfl (lv_at hl 3 rfl) ?_
                refine va_get (D := gD g) (ci := 10) (v := .ref (ad 12)) (C := RX11) (T := TX11) (N := 29) hx hb htl ck_X11 hown hKK.k hP 0 rfl rfl 16 (by decide) (htl _ wd_6_2) (fun _ h9 => h9) rfl dX11_openWeight_52 ?_
                refine lv_iload hx hb dX11_openWeight_55 (lv_at hl 0 rfl) ?_
                refine jr_iald hx hb hKK.k hP 12 rfl (b + j) (by omega) (by omega) (by omega) dX11_openWeight_57 ?_
                have tbx := h12.b (j := j) (by omega)
                refine jr_nm (b := (x.getD j 0)) (h12.at (by omega)) ?_
                obtain ⟨hrb, hrn⟩ := wt_run hw hG hxl (show j < x.length by omega)
                refine jk_Si (va_runV (As := [vi (x.getD j 0)]) (rest := [.long (Int64.ofInt n2)]) ⟨hx, hb, hml, hown, htl⟩ (m_X11_weightOf l g ad 0 dn nt tn nu ns tz S.2.2.2.1 hw (x.getD j 0) (by omega)) (cwV 1 htl lk_X11_117 rfl rfl rfl cwV_X11_weightOf ⟨Nat.le_of_ble_eq_true rfl, Nat.le_of_ble_eq_true rfl⟩) (jp_V hKK hS hAb (va_recv hKK.k hP (ci := 10) (q0 := 0) rfl rfl) (va_P.sub hP [0, 2] rfl)) rfl rfl hl.1 rfl (lv_room (Nat.le_of_ble_eq_true rfl)) dX11_openWeight_58 ⟨Nat.le_of_ble_eq_true rfl, Nat.le_of_ble_eq_true rfl⟩) (fun z58 hz58 => ?_)
                subst hz58
                have tw := wk_b hw (kd (x.getD j 0))
                refine jr_i2l hx hb ⟨by omega, by omega⟩ dX11_openWeight_61 ?_
                refine jr_ladd hx hb dX11_openWeight_62 ?_
                refine lv_lstore_n (lv' := [(1, .long (Int64.ofInt (n2 + (wk S.2.2.2.1 (kd (x.getD j 0)))))), (4, vi ((b + j : Nat) : Int)), (3, vi (i : Int)), (0, .ref (ad 0))]) hx hb dX11_openWeight_63 rfl hl (by decide) rfl (fun ls hl => ?_)
                refine jr_iinc (lv' := [(4, vi (((b + j : Nat) : Int) + 1)), (1, .long (Int64.ofInt (n2 + (wk S.2.2.2.1 (kd (x.getD j 0)))))), (3, vi (i : Int)), (0, .ref (ad 0))]) hx hb dX11_openWeight_64 hl (k := 1) rfl rfl (by decide) rfl (fun ls hl => ?_)
                have hl : lv_has ls 5 [(4, vi ((b + (j + 1) : Nat) : Int)), (1, .long (Int64.ofInt (n2 + (wk S.2.2.2.1 (kd (x.getD j 0)))))), (3, vi (i : Int)), (0, .ref (ad 0))] := (show ((((b + j : Nat) : Int) + 1) : Int) = ((b + (j + 1) : Nat) : Int) from by omega) ▸ hl
                refine lv_goto (tgt := 25) hx hb dX11_openWeight_67 (by decide) ?_
                exact ih25 (j + 1) _ (by omega) (Or.inr (by omega)) (by rw [← hrn]; congr 1; omega) (by omega) _ _ hP hD hS ls (lv_sub hl [0, 2, 1, 3] rfl)
        exact lp25 _ 0 _ (Nat.zero_le _) (Or.inl ⟨rfl, rfl⟩) (by rw [Int.sub_self]; rfl) (Nat.lt_succ_self _) _ _ hP hD hS ls (lv_sub hl [0, 1, 2, 3] rfl)
  exact lp9 _ 0 0 (Nat.zero_le _) (rfl) (Nat.lt_succ_self _) _ _ hP hD hS ls (lv_sub hl [0, 1, 2] rfl)
set_option maxHeartbeats 4000000 in
set_option maxRecDepth 100000 in
theorem m_X11_filledShare (l : Launch) (g : GT) (o : Nat) (S : SGM) (z9 : Int) (W9 : va_W) (hMW : MW g o S z9 W9) : Met l yX11_filledShare (ws_ yX11_filledShare cX11_filledShare 3 (some .float)) (rmm 3 0 0) (jPc g [.ref o] (fun H => PP g W9 H ∧ va_D (fun q => gb g ≤ q) W9)) (jQf (fun z H1 => ((cd1 (¬ nS S = 0)) = 0 ∧ z = shr (cne (sS S) (nS S)) (nS S : Int) ∧ ∃ w1 : va_W, MW g o S 0 w1 ∧ PP g w1 H1 ∧ va_D (jA W9) w1) ∨ (¬ (cd1 (¬ nS S = 0)) = 0 ∧ ∃ w1 : va_W, MW g o S (cd1 (¬ nS S = 0)) w1 ∧ PP g w1 H1 ∧ va_D (jA W9) w1)) (jA W9)) 0 0 (jA W9) := by
  refine jb_M (by decide) (Nat.le_of_ble_eq_true rfl) ?_
  intro p e s m below meth cq hx hb hr hml hown htl hlk hnm hKK hpre ls hl
  have hown : s.vm.findClass RX11 = some m.cls := hown
  obtain ⟨hP, hD0⟩ := hpre
  have hAb : ∀ q, (jA W9) q → gb g ≤ q := fun q h => hD0.inA h
  have hD : va_D (jA W9) W9 := hD0.inD
  generalize hAe : jA W9 = A at *
  have hS : va_S A s.heap s.heap [] := va_S.rf
  obtain ⟨ad, th, dn, nt, tn, nu, ns, tz, f1, f6, f7, f8, f9, f10, f11, f12, f13, f14, f15, f16, f17, f18, f19, f20, f21, f22, hW9, ho, ⟨hth0, hdn, hnt, htn, hnu, hns⟩, ⟨hf1, hf6⟩, hMU, hMD, ⟨hn40, hn60⟩, hw, ht, hab⟩ := hMW
  subst hW9
  subst ho
  have hP : PP g [ob (ad 0) 10 [vi th, .ref (ad 1), vi dn, .ref (ad 2), .ref (ad 3), vi nt, .ref (ad 4), .ref (ad 5), .ref (ad 6), vi tn, vi nu, .ref (ad 7), .ref (ad 8), .ref (ad 9), .ref (ad 10), .ref (ad 11), .ref (ad 12), vi ns, .ref (ad 13), .ref (ad 14), .ref (ad 15), .ref (ad 16), .ref (ad 17), .ref (ad 18), .ref (ad 19), vi tz, .ref (ad 20), .ref (ad 21), .ref (ad 22)], aI g (ad 1) 60 f1, aI g (ad 2) 4 S.2.2.2.1, aZ g (ad 3) 100 S.2.2.1, aI g (ad 4) 20 S.2.2.2.2.1.2.1, aI g (ad 5) 20 S.2.2.2.2.1.2.2, aI g (ad 6) 60 f6, aI g (ad 7) 2400 f7, aI g (ad 8) 40 f8, aI g (ad 9) 2400 f9, aI g (ad 10) 40 f10, aZ g (ad 11) 40 f11, aI g (ad 12) 60 f12, aI g (ad 13) 61 f13, aC g (ad 14) 60 f14, aI g (ad 15) 60 f15, aI g (ad 16) 60 f16, aI g (ad 17) 3600 f17, aI g (ad 18) 60 f18, aI g (ad 19) 60 f19, aI g (ad 20) 3721 f20, aI g (ad 21) 60 f21, aI g (ad 22) 60 f22] s.heap := hP
  have hD : va_D A [ob (ad 0) 10 [vi th, .ref (ad 1), vi dn, .ref (ad 2), .ref (ad 3), vi nt, .ref (ad 4), .ref (ad 5), .ref (ad 6), vi tn, vi nu, .ref (ad 7), .ref (ad 8), .ref (ad 9), .ref (ad 10), .ref (ad 11), .ref (ad 12), vi ns, .ref (ad 13), .ref (ad 14), .ref (ad 15), .ref (ad 16), .ref (ad 17), .ref (ad 18), .ref (ad 19), vi tz, .ref (ad 20), .ref (ad 21), .ref (ad 22)], aI g (ad 1) 60 f1, aI g (ad 2) 4 S.2.2.2.1, aZ g (ad 3) 100 S.2.2.1, aI g (ad 4) 20 S.2.2.2.2.1.2.1, aI g (ad 5) 20 S.2.2.2.2.1.2.2, aI g (ad 6) 60 f6, aI g (ad 7) 2400 f7, aI g (ad 8) 40 f8, aI g (ad 9) 2400 f9, aI g (ad 10) 40 f10, aZ g (ad 11) 40 f11, aI g (ad 12) 60 f12, aI g (ad 13) 61 f13, aC g (ad 14) 60 f14, aI g (ad 15) 60 f15, aI g (ad 16) 60 f16, aI g (ad 17) 3600 f17, aI g (ad 18) 60 f18, aI g (ad 19) 60 f19, aI g (ad 20) 3721 f20, aI g (ad 21) 60 f21, aI g (ad 22) 60 f22] := hD
  have hl : lv_has ls 3 [(0, .ref (ad 0))] := hl
  have hdL := hf1.len
  have htL := hf6.len
  have ht20 := ht.1
  have hnSe : nS S = S.2.2.2.2.2.2.length := rfl
  refine lv_aload_n hx hb dX11_filledShare_0 rfl (lv_at hl 0 rfl) ?_
  refine jr_iconst hx hb dX11_filledShare_1 ?_
  refine va_put (D := gD g) (ci := 10) (v := vi 0) (ty := .int) (C := RX11) (T := TX11) (N := 29) hx hb htl ck_X11 tyX11 tyX11_ok nmX11 hown hKK.k hP hD hS 0 rfl rfl 0 (by decide) (htl _ wd_8_10) (fun _ h9 => h9) rfl (by decide +kernel) rfl rfl (Nat.le_of_ble_eq_true rfl) dX11_filledShare_2 (fun H locs hP hD hS => ?_)
  have hP : PP g [ob (ad 0) 10 [vi 0, .ref (ad 1), vi dn, .ref (ad 2), .ref (ad 3), vi nt, .ref (ad 4), .ref (ad 5), .ref (ad 6), vi tn, vi nu, .ref (ad 7), .ref (ad 8), .ref (ad 9), .ref (ad 10), .ref (ad 11), .ref (ad 12), vi ns, .ref (ad 13), .ref (ad 14), .ref (ad 15), .ref (ad 16), .ref (ad 17), .ref (ad 18), .ref (ad 19), vi tz, .ref (ad 20), .ref (ad 21), .ref (ad 22)], aI g (ad 1) 60 f1, aI g (ad 2) 4 S.2.2.2.1, aZ g (ad 3) 100 S.2.2.1, aI g (ad 4) 20 S.2.2.2.2.1.2.1, aI g (ad 5) 20 S.2.2.2.2.1.2.2, aI g (ad 6) 60 f6, aI g (ad 7) 2400 f7, aI g (ad 8) 40 f8, aI g (ad 9) 2400 f9, aI g (ad 10) 40 f10, aZ g (ad 11) 40 f11, aI g (ad 12) 60 f12, aI g (ad 13) 61 f13, aC g (ad 14) 60 f14, aI g (ad 15) 60 f15, aI g (ad 16) 60 f16, aI g (ad 17) 3600 f17, aI g (ad 18) 60 f18, aI g (ad 19) 60 f19, aI g (ad 20) 3721 f20, aI g (ad 21) 60 f21, aI g (ad 22) 60 f22] H := hP
  have hD : va_D A [ob (ad 0) 10 [vi 0, .ref (ad 1), vi dn, .ref (ad 2), .ref (ad 3), vi nt, .ref (ad 4), .ref (ad 5), .ref (ad 6), vi tn, vi nu, .ref (ad 7), .ref (ad 8), .ref (ad 9), .ref (ad 10), .ref (ad 11), .ref (ad 12), vi ns, .ref (ad 13), .ref (ad 14), .ref (ad 15), .ref (ad 16), .ref (ad 17), .ref (ad 18), .ref (ad 19), vi tz, .ref (ad 20), .ref (ad 21), .ref (ad 22)], aI g (ad 1) 60 f1, aI g (ad 2) 4 S.2.2.2.1, aZ g (ad 3) 100 S.2.2.1, aI g (ad 4) 20 S.2.2.2.2.1.2.1, aI g (ad 5) 20 S.2.2.2.2.1.2.2, aI g (ad 6) 60 f6, aI g (ad 7) 2400 f7, aI g (ad 8) 40 f8, aI g (ad 9) 2400 f9, aI g (ad 10) 40 f10, aZ g (ad 11) 40 f11, aI g (ad 12) 60 f12, aI g (ad 13) 61 f13, aC g (ad 14) 60 f14, aI g (ad 15) 60 f15, aI g (ad 16) 60 f16, aI g (ad 17) 3600 f17, aI g (ad 18) 60 f18, aI g (ad 19) 60 f19, aI g (ad 20) 3721 f20, aI g (ad 21) 60 f21, aI g (ad 22) 60 f22] := hD
  refine lv_aload_n hx hb dX11_filledShare_5 rfl (lv_at hl 0 rfl) ?_
  refine lv_aload_n hx hb dX11_filledShare_6 rfl (lv_at hl 0 rfl) ?_
  refine va_get (D := gD g) (ci := 10) (v := vi ns) (C := RX11) (T := TX11) (N := 29) hx hb htl ck_X11 hown hKK.k hP 0 rfl rfl 17 (by decide) (htl _ wd_34_21) (fun _ h9 => h9) rfl dX11_filledShare_7 ?_
  refine jr_ifne (tgt := 17) hx hb dX11_filledShare_10 (by decide) ⟨by omega, by omega⟩ (fun c10 => ?_) (fun c10 => ?_)
  · refine jr_iconst hx hb dX11_filledShare_17 ?_
    refine jr_iconst hx hb dX11_filledShare_18 ?_
    have hDc : va_D A [ob (ad 0) 10 [vi 0, .ref (ad 1), vi dn, .ref (ad 2), .ref (ad 3), vi nt, .ref (ad 4), .ref (ad 5), .ref (ad 6), vi tn, vi nu, .ref (ad 7), .ref (ad 8), .ref (ad 9), .ref (ad 10), .ref (ad 11), .ref (ad 12), vi ns, .ref (ad 13), .ref (ad 14), .ref (ad 15), .ref (ad 16), .ref (ad 17), .ref (ad 18), .ref (ad 19), vi tz, .ref (ad 20), .ref (ad 21), .ref (ad 22)]] := hD.sub [0] (by decide) rfl
    refine jk_Qi (va_runV (As := [vi 0, vi 1]) (rest := []) ⟨hx, hb, hml, hown, htl⟩ (m_X11_fails l g ad 0 dn nt tn nu ns tz 0 1 ⟨by omega, by omega⟩ ⟨by omega, by omega⟩ ⟨by omega, by omega⟩) (cwV 2 htl lk_X11_82 rfl rfl rfl cwV_X11_fails ⟨Nat.le_of_ble_eq_true rfl, Nat.le_of_ble_eq_true rfl⟩) (jp_V hKK hS hAb (va_recv hKK.k hP (ci := 10) (q0 := 0) rfl rfl) ⟨(va_P.sub hP [0] rfl), hDc.weaken (fun _ q _ h => hAb _ h)⟩) rfl rfl hl.1 rfl (lv_room (Nat.le_of_ble_eq_true rfl)) dX11_filledShare_19 ⟨Nat.le_of_ble_eq_true rfl, Nat.le_of_ble_eq_true rfl⟩) hS (fun q _ h => hDc.inA h) (fun q h => hDc.inA h) (fun z19 H1 locs hz19 hzs hks hS => ?_)
    obtain ⟨t1_19, ht1_19, hz19, hP1⟩ := hz19
    obtain ⟨hP, hD⟩ := jput (wc := [ob (ad 0) 10 [vi 0, .ref (ad 1), vi dn, .ref (ad 2), .ref (ad 3), vi nt, .ref (ad 4), .ref (ad 5), .ref (ad 6), vi tn, vi nu, .ref (ad 7), .ref (ad 8), .ref (ad 9), .ref (ad 10), .ref (ad 11), .ref (ad 12), vi ns, .ref (ad 13), .ref (ad 14), .ref (ad 15), .ref (ad 16), .ref (ad 17), .ref (ad 18), .ref (ad 19), vi tz, .ref (ad 20), .ref (ad 21), .ref (ad 22)]]) (w1 := [ob (ad 0) 10 [vi t1_19, .ref (ad 1), vi dn, .ref (ad 2), .ref (ad 3), vi nt, .ref (ad 4), .ref (ad 5), .ref (ad 6), vi tn, vi nu, .ref (ad 7), .ref (ad 8), .ref (ad 9), .ref (ad 10), .ref (ad 11), .ref (ad 12), vi ns, .ref (ad 13), .ref (ad 14), .ref (ad 15), .ref (ad 16), .ref (ad 17), .ref (ad 18), .ref (ad 19), vi tz, .ref (ad 20), .ref (ad 21), .ref (ad 22)]]) hP hD [0] rfl rfl hks (fun q _ h => h) hP1
    clear hzs hks; generalize H1 = H at hP hD hS ⊢
    have hP : PP g [ob (ad 0) 10 [vi t1_19, .ref (ad 1), vi dn, .ref (ad 2), .ref (ad 3), vi nt, .ref (ad 4), .ref (ad 5), .ref (ad 6), vi tn, vi nu, .ref (ad 7), .ref (ad 8), .ref (ad 9), .ref (ad 10), .ref (ad 11), .ref (ad 12), vi ns, .ref (ad 13), .ref (ad 14), .ref (ad 15), .ref (ad 16), .ref (ad 17), .ref (ad 18), .ref (ad 19), vi tz, .ref (ad 20), .ref (ad 21), .ref (ad 22)], aI g (ad 1) 60 f1, aI g (ad 2) 4 S.2.2.2.1, aZ g (ad 3) 100 S.2.2.1, aI g (ad 4) 20 S.2.2.2.2.1.2.1, aI g (ad 5) 20 S.2.2.2.2.1.2.2, aI g (ad 6) 60 f6, aI g (ad 7) 2400 f7, aI g (ad 8) 40 f8, aI g (ad 9) 2400 f9, aI g (ad 10) 40 f10, aZ g (ad 11) 40 f11, aI g (ad 12) 60 f12, aI g (ad 13) 61 f13, aC g (ad 14) 60 f14, aI g (ad 15) 60 f15, aI g (ad 16) 60 f16, aI g (ad 17) 3600 f17, aI g (ad 18) 60 f18, aI g (ad 19) 60 f19, aI g (ad 20) 3721 f20, aI g (ad 21) 60 f21, aI g (ad 22) 60 f22] H := hP
    have hD : va_D A [ob (ad 0) 10 [vi t1_19, .ref (ad 1), vi dn, .ref (ad 2), .ref (ad 3), vi nt, .ref (ad 4), .ref (ad 5), .ref (ad 6), vi tn, vi nu, .ref (ad 7), .ref (ad 8), .ref (ad 9), .ref (ad 10), .ref (ad 11), .ref (ad 12), vi ns, .ref (ad 13), .ref (ad 14), .ref (ad 15), .ref (ad 16), .ref (ad 17), .ref (ad 18), .ref (ad 19), vi tz, .ref (ad 20), .ref (ad 21), .ref (ad 22)], aI g (ad 1) 60 f1, aI g (ad 2) 4 S.2.2.2.1, aZ g (ad 3) 100 S.2.2.1, aI g (ad 4) 20 S.2.2.2.2.1.2.1, aI g (ad 5) 20 S.2.2.2.2.1.2.2, aI g (ad 6) 60 f6, aI g (ad 7) 2400 f7, aI g (ad 8) 40 f8, aI g (ad 9) 2400 f9, aI g (ad 10) 40 f10, aZ g (ad 11) 40 f11, aI g (ad 12) 60 f12, aI g (ad 13) 61 f13, aC g (ad 14) 60 f14, aI g (ad 15) 60 f15, aI g (ad 16) 60 f16, aI g (ad 17) 3600 f17, aI g (ad 18) 60 f18, aI g (ad 19) 60 f19, aI g (ad 20) 3721 f20, aI g (ad 21) 60 f21, aI g (ad 22) 60 f22] := hD
    subst hz19
    refine jr_ifeq (tgt := 27) hx hb dX11_filledShare_22 (by decide) (i01R _) (fun c22 => ?_) (fun c22 => ?_)
    · have c22 := i01f c22
      refine jr_iconst hx hb dX11_filledShare_27 ?_
      refine lv_istore_n (lv' := [(1, vi 0), (0, .ref (ad 0))]) hx hb dX11_filledShare_28 rfl hl (by decide) rfl (fun ls hl => ?_)
      refine jr_iconst hx hb dX11_filledShare_29 ?_
      refine lv_istore_n (lv' := [(2, vi 0), (1, vi 0), (0, .ref (ad 0))]) hx hb dX11_filledShare_30 rfl hl (by decide) rfl (fun ls hl => ?_)
      have lp31 : ∀ (N : Nat) (i : Nat) (n : Int), (i ≤ nS S) → (0 ≤ n ∧ n ≤ i) → (n = cne (sS S) i) → nS S - i < N → ∀ (H : Heap) (locs : List Loc), PP g [ob (ad 0) 10 [vi t1_19, .ref (ad 1), vi dn, .ref (ad 2), .ref (ad 3), vi nt, .ref (ad 4), .ref (ad 5), .ref (ad 6), vi tn, vi nu, .ref (ad 7), .ref (ad 8), .ref (ad 9), .ref (ad 10), .ref (ad 11), .ref (ad 12), vi ns, .ref (ad 13), .ref (ad 14), .ref (ad 15), .ref (ad 16), .ref (ad 17), .ref (ad 18), .ref (ad 19), vi tz, .ref (ad 20), .ref (ad 21), .ref (ad 22)], aI g (ad 1) 60 f1, aI g (ad 2) 4 S.2.2.2.1, aZ g (ad 3) 100 S.2.2.1, aI g (ad 4) 20 S.2.2.2.2.1.2.1, aI g (ad 5) 20 S.2.2.2.2.1.2.2, aI g (ad 6) 60 f6, aI g (ad 7) 2400 f7, aI g (ad 8) 40 f8, aI g (ad 9) 2400 f9, aI g (ad 10) 40 f10, aZ g (ad 11) 40 f11, aI g (ad 12) 60 f12, aI g (ad 13) 61 f13, aC g (ad 14) 60 f14, aI g (ad 15) 60 f15, aI g (ad 16) 60 f16, aI g (ad 17) 3600 f17, aI g (ad 18) 60 f18, aI g (ad 19) 60 f19, aI g (ad 20) 3721 f20, aI g (ad 21) 60 f21, aI g (ad 22) 60 f22] H → va_D A [ob (ad 0) 10 [vi t1_19, .ref (ad 1), vi dn, .ref (ad 2), .ref (ad 3), vi nt, .ref (ad 4), .ref (ad 5), .ref (ad 6), vi tn, vi nu, .ref (ad 7), .ref (ad 8), .ref (ad 9), .ref (ad 10), .ref (ad 11), .ref (ad 12), vi ns, .ref (ad 13), .ref (ad 14), .ref (ad 15), .ref (ad 16), .ref (ad 17), .ref (ad 18), .ref (ad 19), vi tz, .ref (ad 20), .ref (ad 21), .ref (ad 22)], aI g (ad 1) 60 f1, aI g (ad 2) 4 S.2.2.2.1, aZ g (ad 3) 100 S.2.2.1, aI g (ad 4) 20 S.2.2.2.2.1.2.1, aI g (ad 5) 20 S.2.2.2.2.1.2.2, aI g (ad 6) 60 f6, aI g (ad 7) 2400 f7, aI g (ad 8) 40 f8, aI g (ad 9) 2400 f9, aI g (ad 10) 40 f10, aZ g (ad 11) 40 f11, aI g (ad 12) 60 f12, aI g (ad 13) 61 f13, aC g (ad 14) 60 f14, aI g (ad 15) 60 f15, aI g (ad 16) 60 f16, aI g (ad 17) 3600 f17, aI g (ad 18) 60 f18, aI g (ad 19) 60 f19, aI g (ad 20) 3721 f20, aI g (ad 21) 60 f21, aI g (ad 22) 60 f22] → va_S A s.heap H locs → ∀ ls : Array Slot, lv_has ls 3 [(2, vi (i : Int)), (1, vi n), (0, .ref (ad 0))] → W p l e (rmm 3 0 0) s m ([.ref (ad 0)] : List Value).toArray below meth cq H locs 0 0 (MQ below (jQf (fun z H1 => ((cd1 (¬ nS S = 0)) = 0 ∧ z = shr (cne (sS S) (nS S)) (nS S : Int) ∧ ∃ w1 : va_W, MW g (ad 0) S 0 w1 ∧ PP g w1 H1 ∧ va_D A w1) ∨ (¬ (cd1 (¬ nS S = 0)) = 0 ∧ ∃ w1 : va_W, MW g (ad 0) S (cd1 (¬ nS S = 0)) w1 ∧ PP g w1 H1 ∧ va_D A w1)) A) ([.ref (ad 0)] : List Value).toArray s 0 0 A) (F0 m 31 ls []) := by
        intro N
        induction N with
        | zero => intro i n hi hn0 hF hM; exact absurd hM (Nat.not_lt_zero _)
        | succ N ih31 =>
          intro i n hi hn0 hF hM H locs hP hD hS ls hl
          refine lv_iload_n hx hb dX11_filledShare_31 rfl (lv_at hl 0 rfl) ?_
          refine lv_aload_n hx hb dX11_filledShare_32 rfl (lv_at hl 2 rfl) ?_
          refine va_get (D := gD g) (ci := 10) (v := vi ns) (C := RX11) (T := TX11) (N := 29) hx hb htl ck_X11 hown hKK.k hP 0 rfl rfl 17 (by decide) (htl _ wd_34_21) (fun _ h9 => h9) rfl dX11_filledShare_33 ?_
          refine jr_ge (tgt := 64) hx hb dX11_filledShare_36 (by decide) ⟨by omega, by omega⟩ ⟨by omega, by omega⟩ (fun c36 => ?_) (fun c36 => ?_)
          · refine lv_iload_n hx hb dX11_filledShare_64 rfl (lv_at hl 1 rfl) ?_
            refine lv_i2f hx hb dX11_filledShare_65 ?_
            refine lv_aload_n hx hb dX11_filledShare_66 rfl (lv_at hl 2 rfl) ?_
            refine va_get (D := gD g) (ci := 10) (v := vi ns) (C := RX11) (T := TX11) (N := 29) hx hb htl ck_X11 hown hKK.k hP 0 rfl rfl 17 (by decide) (htl _ wd_34_21) (fun _ h9 => h9) rfl dX11_filledShare_67 ?_
            refine lv_i2f hx hb dX11_filledShare_70 ?_
            refine jr_fdiv hx hb ((shr_ok ⟨by omega, by omega⟩ ⟨by omega, by omega⟩).1) dX11_filledShare_71 ?_
            exact je_Qf hx hb hr hlk hS (Or.inl ⟨by unfold cd1; (repeat' split) <;> omega, by rw [← show i = nS S by omega, ← hF, show ns = (i : Int) by omega], ⟨_, ⟨ad, t1_19, dn, nt, tn, nu, ns, tz, f1, f6, f7, f8, f9, f10, f11, f12, f13, f14, f15, f16, f17, f18, f19, f20, f21, f22, rfl, rfl, ⟨by omega, hdn, hnt, htn, hnu, hns⟩, ⟨hf1, hf6⟩, hMU, hMD, ⟨hn40, hn60⟩, hw, ht, hab⟩, hP, hD⟩⟩) dX11_filledShare_72
          · obtain ⟨x, y, st, un, sc, b, hLi, h13, h13b, hb60, h12, h14, hst, hun, h18, h17, hfx, hunb, hscb⟩ := hMD.at (j := i) (by omega)
            have hsi : sS S i = (x, y, st, un, sc) := hLi
            refine lv_iload_n hx hb dX11_filledShare_39 rfl (lv_at hl 1 rfl) ?_
            refine lv_aload_n hx hb dX11_filledShare_40 rfl (lv_at hl 2 rfl) ?_
            refine va_get (D := gD g) (ci := 10) (v := .ref (ad 14)) (C := RX11) (T := TX11) (N := 29) hx hb htl ck_X11 hown hKK.k hP 0 rfl rfl 19 (by decide) (htl _ wd_6_5) (fun _ h9 => h9) rfl dX11_filledShare_41 ?_
            refine lv_iload_n hx hb dX11_filledShare_44 rfl (lv_at hl 0 rfl) ?_
            refine jr_cald hx hb hKK.k hP 14 rfl i (by omega) (by omega) (by omega) dX11_filledShare_45 ?_
            refine jr_bipush hx hb dX11_filledShare_46 (by decide) ?_
            refine jr_ne (tgt := 55) hx hb dX11_filledShare_48 (by decide) ⟨by omega, by omega⟩ ⟨by omega, by omega⟩ (fun c48 => ?_) (fun c48 => ?_)
            · refine jr_iconst hx hb dX11_filledShare_55 ?_
              refine jr_iadd hx hb dX11_filledShare_56 ?_
              refine lv_istore_n (lv' := [(1, vi (n + 1)), (2, vi (i : Int)), (0, .ref (ad 0))]) hx hb dX11_filledShare_57 rfl hl (by decide) rfl (fun ls hl => ?_)
              refine jr_iinc (lv' := [(2, vi ((i : Int) + 1)), (1, vi (n + 1)), (0, .ref (ad 0))]) hx hb dX11_filledShare_58 hl (k := 1) rfl rfl (by decide) rfl (fun ls hl => ?_)
              refine lv_goto (tgt := 31) hx hb dX11_filledShare_61 (by decide) ?_
              exact ih31 (i + 1) _ (by omega) (by omega) (by rw [cne, ← hF, hsi]; dsimp only; rw [if_neg (by omega)]) (by omega) _ _ hP hD hS ls (lv_sub hl [0, 1, 2] rfl)
            · refine jr_iconst hx hb dX11_filledShare_51 ?_
              refine lv_goto (tgt := 56) hx hb dX11_filledShare_52 (by decide) ?_
              refine jr_iadd hx hb dX11_filledShare_56 ?_
              refine lv_istore_n (lv' := [(1, vi (n + 0)), (2, vi (i : Int)), (0, .ref (ad 0))]) hx hb dX11_filledShare_57 rfl hl (by decide) rfl (fun ls hl => ?_)
              refine jr_iinc (lv' := [(2, vi ((i : Int) + 1)), (1, vi (n + 0)), (0, .ref (ad 0))]) hx hb dX11_filledShare_58 hl (k := 1) rfl rfl (by decide) rfl (fun ls hl => ?_)
              refine lv_goto (tgt := 31) hx hb dX11_filledShare_61 (by decide) ?_
              exact ih31 (i + 1) _ (by omega) (by omega) (by rw [cne, ← hF, hsi]; dsimp only; rw [if_pos (by omega)]) (by omega) _ _ hP hD hS ls (lv_sub hl [0, 1, 2] rfl)
      exact lp31 _ 0 0 (Nat.zero_le _) (⟨by omega, by omega⟩) (rfl) (Nat.lt_succ_self _) _ _ hP hD hS ls (lv_sub hl [0, 1, 2] rfl)
    · have c22 := i01t c22
      refine lv_fconst0 hx hb dX11_filledShare_25 ?_
      exact je_Qf hx hb hr hlk hS (Or.inr ⟨by unfold cd1; (repeat' split) <;> omega, ⟨_, ⟨ad, t1_19, dn, nt, tn, nu, ns, tz, f1, f6, f7, f8, f9, f10, f11, f12, f13, f14, f15, f16, f17, f18, f19, f20, f21, f22, rfl, rfl, ⟨by unfold cd1; (repeat' split) <;> omega, hdn, hnt, htn, hnu, hns⟩, ⟨hf1, hf6⟩, hMU, hMD, ⟨hn40, hn60⟩, hw, ht, hab⟩, hP, hD⟩⟩) dX11_filledShare_26
  · refine jr_iconst hx hb dX11_filledShare_13 ?_
    refine lv_goto (tgt := 18) hx hb dX11_filledShare_14 (by decide) ?_
    refine jr_iconst hx hb dX11_filledShare_18 ?_
    have hDc : va_D A [ob (ad 0) 10 [vi 0, .ref (ad 1), vi dn, .ref (ad 2), .ref (ad 3), vi nt, .ref (ad 4), .ref (ad 5), .ref (ad 6), vi tn, vi nu, .ref (ad 7), .ref (ad 8), .ref (ad 9), .ref (ad 10), .ref (ad 11), .ref (ad 12), vi ns, .ref (ad 13), .ref (ad 14), .ref (ad 15), .ref (ad 16), .ref (ad 17), .ref (ad 18), .ref (ad 19), vi tz, .ref (ad 20), .ref (ad 21), .ref (ad 22)]] := hD.sub [0] (by decide) rfl
    refine jk_Qi (va_runV (As := [vi 1, vi 1]) (rest := []) ⟨hx, hb, hml, hown, htl⟩ (m_X11_fails l g ad 0 dn nt tn nu ns tz 1 1 ⟨by omega, by omega⟩ ⟨by omega, by omega⟩ ⟨by omega, by omega⟩) (cwV 2 htl lk_X11_82 rfl rfl rfl cwV_X11_fails ⟨Nat.le_of_ble_eq_true rfl, Nat.le_of_ble_eq_true rfl⟩) (jp_V hKK hS hAb (va_recv hKK.k hP (ci := 10) (q0 := 0) rfl rfl) ⟨(va_P.sub hP [0] rfl), hDc.weaken (fun _ q _ h => hAb _ h)⟩) rfl rfl hl.1 rfl (lv_room (Nat.le_of_ble_eq_true rfl)) dX11_filledShare_19 ⟨Nat.le_of_ble_eq_true rfl, Nat.le_of_ble_eq_true rfl⟩) hS (fun q _ h => hDc.inA h) (fun q h => hDc.inA h) (fun z19 H1 locs hz19 hzs hks hS => ?_)
    obtain ⟨t1_19, ht1_19, hz19, hP1⟩ := hz19
    obtain ⟨hP, hD⟩ := jput (wc := [ob (ad 0) 10 [vi 0, .ref (ad 1), vi dn, .ref (ad 2), .ref (ad 3), vi nt, .ref (ad 4), .ref (ad 5), .ref (ad 6), vi tn, vi nu, .ref (ad 7), .ref (ad 8), .ref (ad 9), .ref (ad 10), .ref (ad 11), .ref (ad 12), vi ns, .ref (ad 13), .ref (ad 14), .ref (ad 15), .ref (ad 16), .ref (ad 17), .ref (ad 18), .ref (ad 19), vi tz, .ref (ad 20), .ref (ad 21), .ref (ad 22)]]) (w1 := [ob (ad 0) 10 [vi t1_19, .ref (ad 1), vi dn, .ref (ad 2), .ref (ad 3), vi nt, .ref (ad 4), .ref (ad 5), .ref (ad 6), vi tn, vi nu, .ref (ad 7), .ref (ad 8), .ref (ad 9), .ref (ad 10), .ref (ad 11), .ref (ad 12), vi ns, .ref (ad 13), .ref (ad 14), .ref (ad 15), .ref (ad 16), .ref (ad 17), .ref (ad 18), .ref (ad 19), vi tz, .ref (ad 20), .ref (ad 21), .ref (ad 22)]]) hP hD [0] rfl rfl hks (fun q _ h => h) hP1
    clear hzs hks; generalize H1 = H at hP hD hS ⊢
    have hP : PP g [ob (ad 0) 10 [vi t1_19, .ref (ad 1), vi dn, .ref (ad 2), .ref (ad 3), vi nt, .ref (ad 4), .ref (ad 5), .ref (ad 6), vi tn, vi nu, .ref (ad 7), .ref (ad 8), .ref (ad 9), .ref (ad 10), .ref (ad 11), .ref (ad 12), vi ns, .ref (ad 13), .ref (ad 14), .ref (ad 15), .ref (ad 16), .ref (ad 17), .ref (ad 18), .ref (ad 19), vi tz, .ref (ad 20), .ref (ad 21), .ref (ad 22)], aI g (ad 1) 60 f1, aI g (ad 2) 4 S.2.2.2.1, aZ g (ad 3) 100 S.2.2.1, aI g (ad 4) 20 S.2.2.2.2.1.2.1, aI g (ad 5) 20 S.2.2.2.2.1.2.2, aI g (ad 6) 60 f6, aI g (ad 7) 2400 f7, aI g (ad 8) 40 f8, aI g (ad 9) 2400 f9, aI g (ad 10) 40 f10, aZ g (ad 11) 40 f11, aI g (ad 12) 60 f12, aI g (ad 13) 61 f13, aC g (ad 14) 60 f14, aI g (ad 15) 60 f15, aI g (ad 16) 60 f16, aI g (ad 17) 3600 f17, aI g (ad 18) 60 f18, aI g (ad 19) 60 f19, aI g (ad 20) 3721 f20, aI g (ad 21) 60 f21, aI g (ad 22) 60 f22] H := hP
    have hD : va_D A [ob (ad 0) 10 [vi t1_19, .ref (ad 1), vi dn, .ref (ad 2), .ref (ad 3), vi nt, .ref (ad 4), .ref (ad 5), .ref (ad 6), vi tn, vi nu, .ref (ad 7), .ref (ad 8), .ref (ad 9), .ref (ad 10), .ref (ad 11), .ref (ad 12), vi ns, .ref (ad 13), .ref (ad 14), .ref (ad 15), .ref (ad 16), .ref (ad 17), .ref (ad 18), .ref (ad 19), vi tz, .ref (ad 20), .ref (ad 21), .ref (ad 22)], aI g (ad 1) 60 f1, aI g (ad 2) 4 S.2.2.2.1, aZ g (ad 3) 100 S.2.2.1, aI g (ad 4) 20 S.2.2.2.2.1.2.1, aI g (ad 5) 20 S.2.2.2.2.1.2.2, aI g (ad 6) 60 f6, aI g (ad 7) 2400 f7, aI g (ad 8) 40 f8, aI g (ad 9) 2400 f9, aI g (ad 10) 40 f10, aZ g (ad 11) 40 f11, aI g (ad 12) 60 f12, aI g (ad 13) 61 f13, aC g (ad 14) 60 f14, aI g (ad 15) 60 f15, aI g (ad 16) 60 f16, aI g (ad 17) 3600 f17, aI g (ad 18) 60 f18, aI g (ad 19) 60 f19, aI g (ad 20) 3721 f20, aI g (ad 21) 60 f21, aI g (ad 22) 60 f22] := hD
    subst hz19
    refine jr_ifeq (tgt := 27) hx hb dX11_filledShare_22 (by decide) (i01R _) (fun c22 => ?_) (fun c22 => ?_)
    · have c22 := i01f c22
      refine jr_iconst hx hb dX11_filledShare_27 ?_
      refine lv_istore_n (lv' := [(1, vi 0), (0, .ref (ad 0))]) hx hb dX11_filledShare_28 rfl hl (by decide) rfl (fun ls hl => ?_)
      refine jr_iconst hx hb dX11_filledShare_29 ?_
      refine lv_istore_n (lv' := [(2, vi 0), (1, vi 0), (0, .ref (ad 0))]) hx hb dX11_filledShare_30 rfl hl (by decide) rfl (fun ls hl => ?_)
      have lp31 : ∀ (N : Nat) (i : Nat) (n : Int), (i ≤ nS S) → (0 ≤ n ∧ n ≤ i) → (n = cne (sS S) i) → nS S - i < N → ∀ (H : Heap) (locs : List Loc), PP g [ob (ad 0) 10 [vi t1_19, .ref (ad 1), vi dn, .ref (ad 2), .ref (ad 3), vi nt, .ref (ad 4), .ref (ad 5), .ref (ad 6), vi tn, vi nu, .ref (ad 7), .ref (ad 8), .ref (ad 9), .ref (ad 10), .ref (ad 11), .ref (ad 12), vi ns, .ref (ad 13), .ref (ad 14), .ref (ad 15), .ref (ad 16), .ref (ad 17), .ref (ad 18), .ref (ad 19), vi tz, .ref (ad 20), .ref (ad 21), .ref (ad 22)], aI g (ad 1) 60 f1, aI g (ad 2) 4 S.2.2.2.1, aZ g (ad 3) 100 S.2.2.1, aI g (ad 4) 20 S.2.2.2.2.1.2.1, aI g (ad 5) 20 S.2.2.2.2.1.2.2, aI g (ad 6) 60 f6, aI g (ad 7) 2400 f7, aI g (ad 8) 40 f8, aI g (ad 9) 2400 f9, aI g (ad 10) 40 f10, aZ g (ad 11) 40 f11, aI g (ad 12) 60 f12, aI g (ad 13) 61 f13, aC g (ad 14) 60 f14, aI g (ad 15) 60 f15, aI g (ad 16) 60 f16, aI g (ad 17) 3600 f17, aI g (ad 18) 60 f18, aI g (ad 19) 60 f19, aI g (ad 20) 3721 f20, aI g (ad 21) 60 f21, aI g (ad 22) 60 f22] H → va_D A [ob (ad 0) 10 [vi t1_19, .ref (ad 1), vi dn, .ref (ad 2), .ref (ad 3), vi nt, .ref (ad 4), .ref (ad 5), .ref (ad 6), vi tn, vi nu, .ref (ad 7), .ref (ad 8), .ref (ad 9), .ref (ad 10), .ref (ad 11), .ref (ad 12), vi ns, .ref (ad 13), .ref (ad 14), .ref (ad 15), .ref (ad 16), .ref (ad 17), .ref (ad 18), .ref (ad 19), vi tz, .ref (ad 20), .ref (ad 21), .ref (ad 22)], aI g (ad 1) 60 f1, aI g (ad 2) 4 S.2.2.2.1, aZ g (ad 3) 100 S.2.2.1, aI g (ad 4) 20 S.2.2.2.2.1.2.1, aI g (ad 5) 20 S.2.2.2.2.1.2.2, aI g (ad 6) 60 f6, aI g (ad 7) 2400 f7, aI g (ad 8) 40 f8, aI g (ad 9) 2400 f9, aI g (ad 10) 40 f10, aZ g (ad 11) 40 f11, aI g (ad 12) 60 f12, aI g (ad 13) 61 f13, aC g (ad 14) 60 f14, aI g (ad 15) 60 f15, aI g (ad 16) 60 f16, aI g (ad 17) 3600 f17, aI g (ad 18) 60 f18, aI g (ad 19) 60 f19, aI g (ad 20) 3721 f20, aI g (ad 21) 60 f21, aI g (ad 22) 60 f22] → va_S A s.heap H locs → ∀ ls : Array Slot, lv_has ls 3 [(2, vi (i : Int)), (1, vi n), (0, .ref (ad 0))] → W p l e (rmm 3 0 0) s m ([.ref (ad 0)] : List Value).toArray below meth cq H locs 0 0 (MQ below (jQf (fun z H1 => ((cd1 (¬ nS S = 0)) = 0 ∧ z = shr (cne (sS S) (nS S)) (nS S : Int) ∧ ∃ w1 : va_W, MW g (ad 0) S 0 w1 ∧ PP g w1 H1 ∧ va_D A w1) ∨ (¬ (cd1 (¬ nS S = 0)) = 0 ∧ ∃ w1 : va_W, MW g (ad 0) S (cd1 (¬ nS S = 0)) w1 ∧ PP g w1 H1 ∧ va_D A w1)) A) ([.ref (ad 0)] : List Value).toArray s 0 0 A) (F0 m 31 ls []) := by
        intro N
        induction N with
        | zero => intro i n hi hn0 hF hM; exact absurd hM (Nat.not_lt_zero _)
        | succ N ih31 =>
          intro i n hi hn0 hF hM H locs hP hD hS ls hl
          refine lv_iload_n hx hb dX11_filledShare_31 rfl (lv_at hl 0 rfl) ?_
          refine lv_aload_n hx hb dX11_filledShare_32 rfl (lv_at hl 2 rfl) ?_
          refine va_get (D := gD g) (ci := 10) (v := vi ns) (C := RX11) (T := TX11) (N := 29) hx hb htl ck_X11 hown hKK.k hP 0 rfl rfl 17 (by decide) (htl _ wd_34_21) (fun _ h9 => h9) rfl dX11_filledShare_33 ?_
          refine jr_ge (tgt := 64) hx hb dX11_filledShare_36 (by decide) ⟨by omega, by omega⟩ ⟨by omega, by omega⟩ (fun c36 => ?_) (fun c36 => ?_)
          · refine lv_iload_n hx hb dX11_filledShare_64 rfl (lv_at hl 1 rfl) ?_
            refine lv_i2f hx hb dX11_filledShare_65 ?_
            refine lv_aload_n hx hb dX11_filledShare_66 rfl (lv_at hl 2 rfl) ?_
            refine va_get (D := gD g) (ci := 10) (v := vi ns) (C := RX11) (T := TX11) (N := 29) hx hb htl ck_X11 hown hKK.k hP 0 rfl rfl 17 (by decide) (htl _ wd_34_21) (fun _ h9 => h9) rfl dX11_filledShare_67 ?_
            refine lv_i2f hx hb dX11_filledShare_70 ?_
            refine jr_fdiv hx hb ((shr_ok ⟨by omega, by omega⟩ ⟨by omega, by omega⟩).1) dX11_filledShare_71 ?_
            exact je_Qf hx hb hr hlk hS (Or.inl ⟨by unfold cd1; (repeat' split) <;> omega, by rw [← show i = nS S by omega, ← hF, show ns = (i : Int) by omega], ⟨_, ⟨ad, t1_19, dn, nt, tn, nu, ns, tz, f1, f6, f7, f8, f9, f10, f11, f12, f13, f14, f15, f16, f17, f18, f19, f20, f21, f22, rfl, rfl, ⟨by omega, hdn, hnt, htn, hnu, hns⟩, ⟨hf1, hf6⟩, hMU, hMD, ⟨hn40, hn60⟩, hw, ht, hab⟩, hP, hD⟩⟩) dX11_filledShare_72
          · obtain ⟨x, y, st, un, sc, b, hLi, h13, h13b, hb60, h12, h14, hst, hun, h18, h17, hfx, hunb, hscb⟩ := hMD.at (j := i) (by omega)
            have hsi : sS S i = (x, y, st, un, sc) := hLi
            refine lv_iload_n hx hb dX11_filledShare_39 rfl (lv_at hl 1 rfl) ?_
            refine lv_aload_n hx hb dX11_filledShare_40 rfl (lv_at hl 2 rfl) ?_
            refine va_get (D := gD g) (ci := 10) (v := .ref (ad 14)) (C := RX11) (T := TX11) (N := 29) hx hb htl ck_X11 hown hKK.k hP 0 rfl rfl 19 (by decide) (htl _ wd_6_5) (fun _ h9 => h9) rfl dX11_filledShare_41 ?_
            refine lv_iload_n hx hb dX11_filledShare_44 rfl (lv_at hl 0 rfl) ?_
            refine jr_cald hx hb hKK.k hP 14 rfl i (by omega) (by omega) (by omega) dX11_filledShare_45 ?_
            refine jr_bipush hx hb dX11_filledShare_46 (by decide) ?_
            refine jr_ne (tgt := 55) hx hb dX11_filledShare_48 (by decide) ⟨by omega, by omega⟩ ⟨by omega, by omega⟩ (fun c48 => ?_) (fun c48 => ?_)
            · refine jr_iconst hx hb dX11_filledShare_55 ?_
              refine jr_iadd hx hb dX11_filledShare_56 ?_
              refine lv_istore_n (lv' := [(1, vi (n + 1)), (2, vi (i : Int)), (0, .ref (ad 0))]) hx hb dX11_filledShare_57 rfl hl (by decide) rfl (fun ls hl => ?_)
              refine jr_iinc (lv' := [(2, vi ((i : Int) + 1)), (1, vi (n + 1)), (0, .ref (ad 0))]) hx hb dX11_filledShare_58 hl (k := 1) rfl rfl (by decide) rfl (fun ls hl => ?_)
              refine lv_goto (tgt := 31) hx hb dX11_filledShare_61 (by decide) ?_
              exact ih31 (i + 1) _ (by omega) (by omega) (by rw [cne, ← hF, hsi]; dsimp only; rw [if_neg (by omega)]) (by omega) _ _ hP hD hS ls (lv_sub hl [0, 1, 2] rfl)
            · refine jr_iconst hx hb dX11_filledShare_51 ?_
              refine lv_goto (tgt := 56) hx hb dX11_filledShare_52 (by decide) ?_
              refine jr_iadd hx hb dX11_filledShare_56 ?_
              refine lv_istore_n (lv' := [(1, vi (n + 0)), (2, vi (i : Int)), (0, .ref (ad 0))]) hx hb dX11_filledShare_57 rfl hl (by decide) rfl (fun ls hl => ?_)
              refine jr_iinc (lv' := [(2, vi ((i : Int) + 1)), (1, vi (n + 0)), (0, .ref (ad 0))]) hx hb dX11_filledShare_58 hl (k := 1) rfl rfl (by decide) rfl (fun ls hl => ?_)
              refine lv_goto (tgt := 31) hx hb dX11_filledShare_61 (by decide) ?_
              exact ih31 (i + 1) _ (by omega) (by omega) (by rw [cne, ← hF, hsi]; dsimp only; rw [if_pos (by omega)]) (by omega) _ _ hP hD hS ls (lv_sub hl [0, 1, 2] rfl)
      exact lp31 _ 0 0 (Nat.zero_le _) (⟨by omega, by omega⟩) (rfl) (Nat.lt_succ_self _) _ _ hP hD hS ls (lv_sub hl [0, 1, 2] rfl)
    · have c22 := i01t c22
      refine lv_fconst0 hx hb dX11_filledShare_25 ?_
      exact je_Qf hx hb hr hlk hS (Or.inr ⟨by unfold cd1; (repeat' split) <;> omega, ⟨_, ⟨ad, t1_19, dn, nt, tn, nu, ns, tz, f1, f6, f7, f8, f9, f10, f11, f12, f13, f14, f15, f16, f17, f18, f19, f20, f21, f22, rfl, rfl, ⟨by unfold cd1; (repeat' split) <;> omega, hdn, hnt, htn, hnu, hns⟩, ⟨hf1, hf6⟩, hMU, hMD, ⟨hn40, hn60⟩, hw, ht, hab⟩, hP, hD⟩⟩) dX11_filledShare_26
