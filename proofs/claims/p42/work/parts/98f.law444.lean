

set_option maxHeartbeats 4000000 in
set_option maxRecDepth 100000 in
theorem law_444 (l : Launch) (hsT : l.stackTraces = false) {g : GT} {p : Program} {e : Env} {s : State} {m : MethodId} {b : Nat} {below : List Frame} {meth : Method} {cq : Code} {n9 : Nat} {xs : Nat → Int32} (hx : p.tables.exec = Jvm.exec) (hb : cq.code = cL_law) (hr : meth.sig.returnType = ret) (hlk : meth.locks = false) (hml : cq.maxLocals = 9) (hown : s.vm.findClass RL = some m.cls) (htl : ∀ w ∈ WSL, w.before #[Value.ref b] s = true) (hKK : KK g s) (hgb : gb g = s.heap.size) (hX : va_X b n9 xs s s.heap) (hn9 : n9 ≤ 260) (hQo : (Cond.arrayOver (.array .int)).before #[Value.ref b] s = true) (A : Nat → Prop) (hAb : ∀ q, A q → gb g ≤ q) (hA : ∀ q, s.heap.size ≤ q → A q) (hbA : ¬ A b) (aQ : Nat) (fq : Nat → Option Nat) (ar : va_W) (sa : Nat → Nat) (ys : Nat → List Int) (ff : Nat → Nat → Int) (many : Nat) {o : Nat} (S : SGM) (w9 : va_W) (H : Heap) (locs : List Loc) (hC : CW g o S w9) (hP : PP g (([aQ2 g aQ fq] ++ ar) ++ w9) H) (hD : va_D A (([aQ2 g aQ fq] ++ ar) ++ w9)) (hS : va_S A s.heap H locs) (hUP : UP g S fq ar sa ys ff many) (hm5 : many ≤ 5) (ls : Array Slot) (hl : lv_has ls 9 [(4, vi (many : Int)), (3, .ref aQ), (2, vi 1), (1, .ref o), (0, .ref b)]) : W p l e room_1 s m #[Value.ref b] below meth cq H locs 4100 37500 (lw_Z below #[Value.ref b] s) (F0 m 444 ls []) := by
  have hbl := hX.lt
  have hnU := hUP.2.1
  refine jr_bipush hx hb dL_law_444 (by decide) ?_
  refine va_newaK (atype := .int) hx hb (htl _ wd_1_4) (g := F0 m 446 ls [vi 61]) rfl dL_law_446 rfl (N := 61) (by decide) (by decide) (by decide) (Nat.le_of_ble_eq_true rfl) (Nat.le_of_ble_eq_true rfl) rfl (fun H1 cA e1 z1 o1 hAr hNm => ?_)
  obtain rfl : cA = gI g := Option.some.inj (hNm.symm.trans (hKK.k.2 0 _ rfl).2)
  obtain ⟨q446, hq446⟩ : ∃ q, q = H.size := ⟨_, rfl⟩
  rw [← hq446] at e1 ⊢
  obtain ⟨hP, hD, hS⟩ : PP g ((([aQ2 g aQ fq] ++ ar) ++ w9) ++ [aI g q446 61 (fun _ => 0)]) H1 ∧ va_D A ((([aQ2 g aQ fq] ++ ar) ++ w9) ++ [aI g q446 61 (fun _ => 0)]) ∧ va_S A s.heap H1 locs := jnew hP hD hS hA hq446 (by exact e1) z1 o1
  clear e1 z1 o1; generalize H1 = H at hP hD hS ⊢
  have hP : PP g (([aI g q446 61 (fun _ => 0), aQ2 g aQ fq] ++ ar) ++ w9) H := hP.perm (List.perm_append_singleton _ _)
  have hD : va_D A (([aI g q446 61 (fun _ => 0), aQ2 g aQ fq] ++ ar) ++ w9) := hD.perm (List.perm_append_singleton _ _)
  refine W.widen (k := 4101) (n := 37561) (by omega) (by omega) ?_
  refine W.eq (g2 := F0 m 448 ls [.ref q446]) rfl ?_
  refine lv_astore (lv' := [(5, .ref q446), (4, vi (many : Int)), (3, .ref aQ), (2, vi 1), (1, .ref o), (0, .ref b)]) hx hb dL_law_448 hl (by decide) rfl (fun ls hl => ?_)
  refine jr_iconst hx hb dL_law_450 ?_
  refine lv_istore (lv' := [(6, vi 0), (5, .ref q446), (4, vi (many : Int)), (3, .ref aQ), (2, vi 1), (1, .ref o), (0, .ref b)]) hx hb dL_law_451 hl (by decide) rfl (fun ls hl => ?_)
  have lp453 : ∀ (N : Nat) (k : Nat) (x : List Int) (f : Nat → Int) (w453 : va_W), (k ≤ 5) → (AT x f) → (1 ≤ k → 1 ≤ x.length) → (CW g o S w453) → 5 - k < N → ∀ (H : Heap) (locs : List Loc), PP g (([aI g q446 61 f, aQ2 g aQ fq] ++ ar) ++ w453) H → va_D A (([aI g q446 61 f, aQ2 g aQ fq] ++ ar) ++ w453) → va_S A s.heap H locs → ∀ ls : Array Slot, lv_has ls 9 [(6, vi (k : Int)), (5, .ref q446), (4, vi (many : Int)), (3, .ref aQ), (2, vi 1), (1, .ref o), (0, .ref b)] → W p l e room_1 s m #[Value.ref b] below meth cq H locs (4101 + 1 * k) (37561 + 61 * k) (lw_Z below #[Value.ref b] s) (F0 m 453 ls []) := by
    intro N
    induction N with
    | zero => intro k x f w453 hk5 hf hk1 hC hM; exact absurd hM (Nat.not_lt_zero _)
    | succ N ih453 =>
      intro k x f w453 hk5 hf hk1 hC hM H locs hP hD hS ls hl
      refine lv_iload hx hb dL_law_453 (lv_at hl 0 rfl) ?_
      refine jr_iconst hx hb dL_law_455 ?_
      refine jr_ge (tgt := 571) hx hb dL_law_456 (by decide) ⟨by omega, by omega⟩ ⟨by omega, by omega⟩ (fun c456 => ?_) (fun c456 => ?_)
      · have hP : PP g ([aI g q446 61 f] ++ w453) H := kw_P1 (X := [aQ2 g aQ fq] ++ ar) hP
        have hD : va_D A ([aI g q446 61 f] ++ w453) := kw_D1 (X := [aQ2 g aQ fq] ++ ar) hD
        refine W.widen (k := 4200) (n := 38000) (by omega) (by omega) ?_
        exact law_571 l hsT hx hb hr hlk hml hown htl hKK hgb hX hn9 hQo A hAb hA hbA  S _ _ _ hC hP hD hS hf (hk1 (by omega)) hUP.2.2 (by have := hUP.2.1; omega) ls (lv_sub hl [1, 4, 5, 6] rfl)
      · refine lv_iload hx hb dL_law_459 (lv_at hl 2 rfl) ?_
        refine jr_ifle (tgt := 493) hx hb dL_law_461 (by decide) ⟨by omega, by omega⟩ (fun c461 => ?_) (fun c461 => ?_)
        · refine lv_aload_n hx hb dL_law_493 rfl (lv_at hl 6 rfl) ?_
          refine jr_sipush hx hb dL_law_494 (by decide) ?_
          refine jr_bipush hx hb dL_law_497 (by decide) ?_
          refine lv_aload_n hx hb dL_law_499 rfl (lv_at hl 6 rfl) ?_
          refine jr_bipush hx hb dL_law_500 (by decide) ?_
          refine lv_iload hx hb dL_law_502 (lv_at hl 0 rfl) ?_
          refine jr_iadd hx hb dL_law_504 ?_
          refine jr_nm (b := ((70 + k : Nat) : Int)) (by omega) ?_
          refine jr_iconst hx hb dL_law_505 ?_
          refine jk_Si (va_runS (As := [.ref b, vi ((70 + k : Nat) : Int), vi 3]) (rest := [vi 80, vi 2000, .ref b]) ⟨hx, hb, hml, hown, htl⟩ (m_L_pick l g b n9 xs hn9 (70 + k) (by omega) 3 (by omega)) (va_cwS 3 htl lk_L_140 rfl rfl rfl cwS_L_pick ⟨Nat.le_of_ble_eq_true rfl, Nat.le_of_ble_eq_true rfl⟩) (jp_X hKK hX hbl hbA hS hAb trivial) rfl rfl hl.1 rfl (lv_room (Nat.le_of_ble_eq_true rfl)) dL_law_506 ⟨by show _ ≤ 600312; omega, by show _ ≤ 7293826; omega⟩) (fun z506 hz506 => ?_)
          obtain ⟨v, hv⟩ : ∃ v : Nat, z506 = (v : Int) := ⟨z506.toNat, by omega⟩
          refine jr_nm (b := (v : Int)) (hv) ?_
          refine jr_imul hx hb dL_law_509 ?_
          refine jr_iadd hx hb dL_law_510 ?_
          refine jr_nm (b := ((2000 + 80 * v : Nat) : Int)) (by omega) ?_
          refine jr_bipush hx hb dL_law_511 (by decide) ?_
          refine kl_Nr (N := fun a x => aT g a x) (va_runS (As := [.ref b, vi ((2000 + 80 * v : Nat) : Int), vi 6]) (rest := []) ⟨hx, hb, hml, hown, htl⟩ (m_L_text l g b n9 xs hn9 (2000 + 80 * v) (by omega) 6 (by omega) H.size) (va_cwS 3 htl lk_L_202 rfl rfl rfl cwS_L_text ⟨Nat.le_of_ble_eq_true rfl, Nat.le_of_ble_eq_true rfl⟩) (jp_X hKK hX hbl hbA hS hAb ⟨rfl, (fun k q h => by cases h), ⟨fun i j p q h => (by cases h), fun k q h => by cases h⟩⟩) rfl rfl hl.1 rfl (lv_room (Nat.le_of_ble_eq_true rfl)) dL_law_513 ⟨by show _ ≤ 600312; omega, by show _ ≤ 7293826; omega⟩) (ws := (([aI g q446 61 f, aQ2 g aQ fq] ++ ar) ++ w453)) hP hD hS hA ?_
          clear hP hD hS; intro tP x_tP H locs hz513 hP hD hS
          obtain ⟨xP, f_tP⟩ := x_tP
          obtain ⟨hx_tP, hn1_tP, hn2_tP⟩ : AT xP f_tP ∧ 1 ≤ xP.length ∧ (xP.length : Int) ≤ 6 := hz513
          have hP : PP g (([aI g tP 61 f_tP, aI g q446 61 f, aQ2 g aQ fq] ++ ar) ++ w453) H := hP
          have hD : va_D A (([aI g tP 61 f_tP, aI g q446 61 f, aQ2 g aQ fq] ++ ar) ++ w453) := hD
          refine W.widen (k := ((4101 + 1 * k) + 1)) (n := ((37561 + 61 * k) + 61)) (by omega) (by omega) ?_
          have hp1 := hn1_tP
          have hp60 := (hx_tP).len
          refine lv_astore (lv' := [(7, .ref tP), (6, vi (k : Int)), (5, .ref q446), (4, vi (many : Int)), (3, .ref aQ), (2, vi 1), (1, .ref o), (0, .ref b)]) hx hb dL_law_516 hl (by decide) rfl (fun ls hl => ?_)
          refine jr_iconst hx hb dL_law_518 ?_
          refine lv_istore (lv' := [(8, vi 1), (7, .ref tP), (6, vi (k : Int)), (5, .ref q446), (4, vi (many : Int)), (3, .ref aQ), (2, vi 1), (1, .ref o), (0, .ref b)]) hx hb dL_law_519 hl (by decide) rfl (fun ls hl => ?_)
          have lp521 : ∀ (N : Nat) (j : Nat) (y : List Int) (h : Nat → Int) (w521 : va_W), (j ≤ xP.length) → (AT y h) → (1 ≤ j ∨ 1 ≤ k → 1 ≤ y.length) → (CW g o S w521) → xP.length - j < N → ∀ (H : Heap) (locs : List Loc), PP g (([aI g tP 61 f_tP, aI g q446 61 h, aQ2 g aQ fq] ++ ar) ++ w521) H → va_D A (([aI g tP 61 f_tP, aI g q446 61 h, aQ2 g aQ fq] ++ ar) ++ w521) → va_S A s.heap H locs → ∀ ls : Array Slot, lv_has ls 9 [(8, vi ((j : Int) + 1)), (7, .ref tP), (6, vi (k : Int)), (5, .ref q446), (4, vi (many : Int)), (3, .ref aQ), (2, vi 1), (1, .ref o), (0, .ref b)] → W p l e room_1 s m #[Value.ref b] below meth cq H locs ((4101 + 1 * k) + 1) ((37561 + 61 * k) + 61) (lw_Z below #[Value.ref b] s) (F0 m 521 ls []) := by
            intro N
            induction N with
            | zero => intro j y h w521 hj hh hy1 hC hM; exact absurd hM (Nat.not_lt_zero _)
            | succ N ih521 =>
              intro j y h w521 hj hh hy1 hC hM H locs hP hD hS ls hl
              have hy60 := hh.len
              refine lv_iload hx hb dL_law_521 (lv_at hl 0 rfl) ?_
              refine lv_aload hx hb dL_law_523 (lv_at hl 1 rfl) ?_
              refine jr_iconst hx hb dL_law_525 ?_
              refine jr_iald hx hb hKK.k hP 0 rfl 0 (by omega) (by omega) (by omega) dL_law_526 ?_
              refine jr_nm (b := (xP.length : Int)) ((hx_tP).n) ?_
              refine jr_gt (tgt := 565) hx hb dL_law_527 (by decide) ⟨by omega, by omega⟩ ⟨by omega, by omega⟩ (fun c527 => ?_) (fun c527 => ?_)
              · refine jr_iinc (lv' := [(6, vi ((k : Int) + 1)), (8, vi ((j : Int) + 1)), (7, .ref tP), (5, .ref q446), (4, vi (many : Int)), (3, .ref aQ), (2, vi 1), (1, .ref o), (0, .ref b)]) hx hb dL_law_565 hl (k := 2) rfl rfl (by decide) rfl (fun ls hl => ?_)
                refine lv_goto (tgt := 453) hx hb dL_law_568 (by decide) ?_
                have hP : PP g (([aI g q446 61 h, aQ2 g aQ fq] ++ ar) ++ w521) H := hP.tl
                have hD : va_D A (([aI g q446 61 h, aQ2 g aQ fq] ++ ar) ++ w521) := hD.tl
                refine W.widen (k := (4101 + 1 * (k + 1))) (n := (37561 + 61 * (k + 1))) (by omega) (by omega) ?_
                exact ih453 (k + 1) y _ _ (by omega) (hh) (fun _ => by by_cases q : 1 ≤ y.length; exact q; exact hy1 (by omega)) (hC) (by omega) _ _ hP hD hS ls (lv_sub hl [0, 3, 4, 5, 6, 7, 8] rfl)
              · refine lv_aload hx hb dL_law_530 (lv_at hl 3 rfl) ?_
                refine jr_iconst hx hb dL_law_532 ?_
                refine jr_iald hx hb hKK.k hP 1 rfl 0 (by omega) (by omega) (by omega) dL_law_533 ?_
                refine jr_nm (b := (y.length : Int)) (hh.n) ?_
                refine jr_bipush hx hb dL_law_534 (by decide) ?_
                refine jr_ge (tgt := 565) hx hb dL_law_536 (by decide) ⟨by omega, by omega⟩ ⟨by omega, by omega⟩ (fun c536 => ?_) (fun c536 => ?_)
                · refine jr_iinc (lv' := [(6, vi ((k : Int) + 1)), (8, vi ((j : Int) + 1)), (7, .ref tP), (5, .ref q446), (4, vi (many : Int)), (3, .ref aQ), (2, vi 1), (1, .ref o), (0, .ref b)]) hx hb dL_law_565 hl (k := 2) rfl rfl (by decide) rfl (fun ls hl => ?_)
                  refine lv_goto (tgt := 453) hx hb dL_law_568 (by decide) ?_
                  have hP : PP g (([aI g q446 61 h, aQ2 g aQ fq] ++ ar) ++ w521) H := hP.tl
                  have hD : va_D A (([aI g q446 61 h, aQ2 g aQ fq] ++ ar) ++ w521) := hD.tl
                  refine W.widen (k := (4101 + 1 * (k + 1))) (n := (37561 + 61 * (k + 1))) (by omega) (by omega) ?_
                  exact ih453 (k + 1) y _ _ (by omega) (hh) (fun _ => by by_cases q : 1 ≤ y.length; exact q; exact hy1 (by omega)) (hC) (by omega) _ _ hP hD hS ls (lv_sub hl [0, 3, 4, 5, 6, 7, 8] rfl)
                · refine lv_aload hx hb dL_law_539 (lv_at hl 3 rfl) ?_
                  refine jr_iconst hx hb dL_law_541 ?_
                  refine lv_dup2_11 hx hb dL_law_542 rfl rfl ?_
                  refine jr_iald hx hb hKK.k hP 1 rfl 0 (by omega) (by omega) (by omega) dL_law_543 ?_
                  refine jr_nm (b := (y.length : Int)) (hh.n) ?_
                  refine jr_iconst hx hb dL_law_544 ?_
                  refine jr_iadd hx hb dL_law_545 ?_
                  refine jr_iast hx hb hKK.k hP hD hS 1 rfl 0 (by omega) (by omega) (by omega) dL_law_546 (fun H locs hP hD hS => ?_)
                  have hP : PP g (([aI g tP 61 f_tP, aI g q446 61 (ju h 0 ((y.length : Int) + 1)), aQ2 g aQ fq] ++ ar) ++ w521) H := hP
                  have hD : va_D A (([aI g tP 61 f_tP, aI g q446 61 (ju h 0 ((y.length : Int) + 1)), aQ2 g aQ fq] ++ ar) ++ w521) := hD
                  refine lv_aload hx hb dL_law_547 (lv_at hl 3 rfl) ?_
                  refine lv_aload hx hb dL_law_549 (lv_at hl 3 rfl) ?_
                  refine jr_iconst hx hb dL_law_551 ?_
                  refine jr_iald hx hb hKK.k hP 1 rfl 0 (by omega) (by omega) (by omega) dL_law_552 ?_
                  refine jr_nm (b := ((y.length + 1 : Nat) : Int)) ((ju_s _ _ _).trans (by omega)) ?_
                  refine lv_aload hx hb dL_law_553 (lv_at hl 1 rfl) ?_
                  refine lv_iload hx hb dL_law_555 (lv_at hl 0 rfl) ?_
                  refine jr_iald hx hb hKK.k hP 0 rfl (j + 1) (by omega) (by omega) (by omega) dL_law_557 ?_
                  refine jr_iast hx hb hKK.k hP hD hS 1 rfl (y.length + 1) (by omega) (by omega) (by omega) dL_law_558 (fun H locs hP hD hS => ?_)
                  have hP : PP g (([aI g tP 61 f_tP, aI g q446 61 (ju (ju h 0 ((y.length : Int) + 1)) (y.length + 1) (f_tP (j + 1))), aQ2 g aQ fq] ++ ar) ++ w521) H := hP
                  have hD : va_D A (([aI g tP 61 f_tP, aI g q446 61 (ju (ju h 0 ((y.length : Int) + 1)) (y.length + 1) (f_tP (j + 1))), aQ2 g aQ fq] ++ ar) ++ w521) := hD
                  refine jr_iinc (lv' := [(8, vi (((j : Int) + 1) + 1)), (7, .ref tP), (6, vi (k : Int)), (5, .ref q446), (4, vi (many : Int)), (3, .ref aQ), (2, vi 1), (1, .ref o), (0, .ref b)]) hx hb dL_law_559 hl (k := 0) rfl rfl (by decide) rfl (fun ls hl => ?_)
                  refine lv_goto (tgt := 521) hx hb dL_law_562 (by decide) ?_
                  exact ih521 (j + 1) (y ++ [f_tP (j + 1)]) _ _ (by omega) (hh.push (by omega) (by rw [(hx_tP).s (by omega)]; exact (hx_tP).v (by omega))) (fun _ => by rw [List.length_append, List.length_singleton]; omega) (hC) (by omega) _ _ hP hD hS ls (lv_sub hl [0, 1, 2, 3, 4, 5, 6, 7, 8] rfl)
          exact lp521 _ 0 x _ _ (Nat.zero_le _) (hf) (fun q => hk1 (by omega)) (hC) (Nat.lt_succ_self _) _ _ hP hD hS ls (lv_sub hl [0, 1, 2, 3, 4, 5, 6, 7, 8] rfl)
        · refine lv_aload_n hx hb dL_law_464 rfl (lv_at hl 6 rfl) ?_
          refine jr_bipush hx hb dL_law_465 (by decide) ?_
          refine lv_iload hx hb dL_law_467 (lv_at hl 0 rfl) ?_
          refine jr_iadd hx hb dL_law_469 ?_
          refine jr_nm (b := ((50 + k : Nat) : Int)) (by omega) ?_
          refine jr_iconst hx hb dL_law_470 ?_
          refine jk_Si (va_runS (As := [.ref b, vi ((50 + k : Nat) : Int), vi 2]) (rest := []) ⟨hx, hb, hml, hown, htl⟩ (m_L_pick l g b n9 xs hn9 (50 + k) (by omega) 2 (by omega)) (va_cwS 3 htl lk_L_140 rfl rfl rfl cwS_L_pick ⟨Nat.le_of_ble_eq_true rfl, Nat.le_of_ble_eq_true rfl⟩) (jp_X hKK hX hbl hbA hS hAb trivial) rfl rfl hl.1 rfl (lv_room (Nat.le_of_ble_eq_true rfl)) dL_law_471 ⟨by show _ ≤ 600312; omega, by show _ ≤ 7293826; omega⟩) (fun z471 hz471 => ?_)
          refine jr_ifne (tgt := 493) hx hb dL_law_474 (by decide) ⟨by omega, by omega⟩ (fun c474 => ?_) (fun c474 => ?_)
          · refine lv_aload_n hx hb dL_law_493 rfl (lv_at hl 6 rfl) ?_
            refine jr_sipush hx hb dL_law_494 (by decide) ?_
            refine jr_bipush hx hb dL_law_497 (by decide) ?_
            refine lv_aload_n hx hb dL_law_499 rfl (lv_at hl 6 rfl) ?_
            refine jr_bipush hx hb dL_law_500 (by decide) ?_
            refine lv_iload hx hb dL_law_502 (lv_at hl 0 rfl) ?_
            refine jr_iadd hx hb dL_law_504 ?_
            refine jr_nm (b := ((70 + k : Nat) : Int)) (by omega) ?_
            refine jr_iconst hx hb dL_law_505 ?_
            refine jk_Si (va_runS (As := [.ref b, vi ((70 + k : Nat) : Int), vi 3]) (rest := [vi 80, vi 2000, .ref b]) ⟨hx, hb, hml, hown, htl⟩ (m_L_pick l g b n9 xs hn9 (70 + k) (by omega) 3 (by omega)) (va_cwS 3 htl lk_L_140 rfl rfl rfl cwS_L_pick ⟨Nat.le_of_ble_eq_true rfl, Nat.le_of_ble_eq_true rfl⟩) (jp_X hKK hX hbl hbA hS hAb trivial) rfl rfl hl.1 rfl (lv_room (Nat.le_of_ble_eq_true rfl)) dL_law_506 ⟨by show _ ≤ 600312; omega, by show _ ≤ 7293826; omega⟩) (fun z506 hz506 => ?_)
            obtain ⟨v, hv⟩ : ∃ v : Nat, z506 = (v : Int) := ⟨z506.toNat, by omega⟩
            refine jr_nm (b := (v : Int)) (hv) ?_
            refine jr_imul hx hb dL_law_509 ?_
            refine jr_iadd hx hb dL_law_510 ?_
            refine jr_nm (b := ((2000 + 80 * v : Nat) : Int)) (by omega) ?_
            refine jr_bipush hx hb dL_law_511 (by decide) ?_
            refine kl_Nr (N := fun a x => aT g a x) (va_runS (As := [.ref b, vi ((2000 + 80 * v : Nat) : Int), vi 6]) (rest := []) ⟨hx, hb, hml, hown, htl⟩ (m_L_text l g b n9 xs hn9 (2000 + 80 * v) (by omega) 6 (by omega) H.size) (va_cwS 3 htl lk_L_202 rfl rfl rfl cwS_L_text ⟨Nat.le_of_ble_eq_true rfl, Nat.le_of_ble_eq_true rfl⟩) (jp_X hKK hX hbl hbA hS hAb ⟨rfl, (fun k q h => by cases h), ⟨fun i j p q h => (by cases h), fun k q h => by cases h⟩⟩) rfl rfl hl.1 rfl (lv_room (Nat.le_of_ble_eq_true rfl)) dL_law_513 ⟨by show _ ≤ 600312; omega, by show _ ≤ 7293826; omega⟩) (ws := (([aI g q446 61 f, aQ2 g aQ fq] ++ ar) ++ w453)) hP hD hS hA ?_
            clear hP hD hS; intro tP x_tP H locs hz513 hP hD hS
            obtain ⟨xP, f_tP⟩ := x_tP
            obtain ⟨hx_tP, hn1_tP, hn2_tP⟩ : AT xP f_tP ∧ 1 ≤ xP.length ∧ (xP.length : Int) ≤ 6 := hz513
            have hP : PP g (([aI g tP 61 f_tP, aI g q446 61 f, aQ2 g aQ fq] ++ ar) ++ w453) H := hP
            have hD : va_D A (([aI g tP 61 f_tP, aI g q446 61 f, aQ2 g aQ fq] ++ ar) ++ w453) := hD
            refine W.widen (k := ((4101 + 1 * k) + 1)) (n := ((37561 + 61 * k) + 61)) (by omega) (by omega) ?_
            have hp1 := hn1_tP
            have hp60 := (hx_tP).len
            refine lv_astore (lv' := [(7, .ref tP), (6, vi (k : Int)), (5, .ref q446), (4, vi (many : Int)), (3, .ref aQ), (2, vi 1), (1, .ref o), (0, .ref b)]) hx hb dL_law_516 hl (by decide) rfl (fun ls hl => ?_)
            refine jr_iconst hx hb dL_law_518 ?_
            refine lv_istore (lv' := [(8, vi 1), (7, .ref tP), (6, vi (k : Int)), (5, .ref q446), (4, vi (many : Int)), (3, .ref aQ), (2, vi 1), (1, .ref o), (0, .ref b)]) hx hb dL_law_519 hl (by decide) rfl (fun ls hl => ?_)
            have lp521 : ∀ (N : Nat) (j : Nat) (y : List Int) (h : Nat → Int) (w521 : va_W), (j ≤ xP.length) → (AT y h) → (1 ≤ j ∨ 1 ≤ k → 1 ≤ y.length) → (CW g o S w521) → xP.length - j < N → ∀ (H : Heap) (locs : List Loc), PP g (([aI g tP 61 f_tP, aI g q446 61 h, aQ2 g aQ fq] ++ ar) ++ w521) H → va_D A (([aI g tP 61 f_tP, aI g q446 61 h, aQ2 g aQ fq] ++ ar) ++ w521) → va_S A s.heap H locs → ∀ ls : Array Slot, lv_has ls 9 [(8, vi ((j : Int) + 1)), (7, .ref tP), (6, vi (k : Int)), (5, .ref q446), (4, vi (many : Int)), (3, .ref aQ), (2, vi 1), (1, .ref o), (0, .ref b)] → W p l e room_1 s m #[Value.ref b] below meth cq H locs ((4101 + 1 * k) + 1) ((37561 + 61 * k) + 61) (lw_Z below #[Value.ref b] s) (F0 m 521 ls []) := by
              intro N
              induction N with
              | zero => intro j y h w521 hj hh hy1 hC hM; exact absurd hM (Nat.not_lt_zero _)
              | succ N ih521 =>
                intro j y h w521 hj hh hy1 hC hM H locs hP hD hS ls hl
                have hy60 := hh.len
                refine lv_iload hx hb dL_law_521 (lv_at hl 0 rfl) ?_
                refine lv_aload hx hb dL_law_523 (lv_at hl 1 rfl) ?_
                refine jr_iconst hx hb dL_law_525 ?_
                refine jr_iald hx hb hKK.k hP 0 rfl 0 (by omega) (by omega) (by omega) dL_law_526 ?_
                refine jr_nm (b := (xP.length : Int)) ((hx_tP).n) ?_
                refine jr_gt (tgt := 565) hx hb dL_law_527 (by decide) ⟨by omega, by omega⟩ ⟨by omega, by omega⟩ (fun c527 => ?_) (fun c527 => ?_)
                · refine jr_iinc (lv' := [(6, vi ((k : Int) + 1)), (8, vi ((j : Int) + 1)), (7, .ref tP), (5, .ref q446), (4, vi (many : Int)), (3, .ref aQ), (2, vi 1), (1, .ref o), (0, .ref b)]) hx hb dL_law_565 hl (k := 2) rfl rfl (by decide) rfl (fun ls hl => ?_)
                  refine lv_goto (tgt := 453) hx hb dL_law_568 (by decide) ?_
                  have hP : PP g (([aI g q446 61 h, aQ2 g aQ fq] ++ ar) ++ w521) H := hP.tl
                  have hD : va_D A (([aI g q446 61 h, aQ2 g aQ fq] ++ ar) ++ w521) := hD.tl
                  refine W.widen (k := (4101 + 1 * (k + 1))) (n := (37561 + 61 * (k + 1))) (by omega) (by omega) ?_
                  exact ih453 (k + 1) y _ _ (by omega) (hh) (fun _ => by by_cases q : 1 ≤ y.length; exact q; exact hy1 (by omega)) (hC) (by omega) _ _ hP hD hS ls (lv_sub hl [0, 3, 4, 5, 6, 7, 8] rfl)
                · refine lv_aload hx hb dL_law_530 (lv_at hl 3 rfl) ?_
                  refine jr_iconst hx hb dL_law_532 ?_
                  refine jr_iald hx hb hKK.k hP 1 rfl 0 (by omega) (by omega) (by omega) dL_law_533 ?_
                  refine jr_nm (b := (y.length : Int)) (hh.n) ?_
                  refine jr_bipush hx hb dL_law_534 (by decide) ?_
                  refine jr_ge (tgt := 565) hx hb dL_law_536 (by decide) ⟨by omega, by omega⟩ ⟨by omega, by omega⟩ (fun c536 => ?_) (fun c536 => ?_)
                  · refine jr_iinc (lv' := [(6, vi ((k : Int) + 1)), (8, vi ((j : Int) + 1)), (7, .ref tP), (5, .ref q446), (4, vi (many : Int)), (3, .ref aQ), (2, vi 1), (1, .ref o), (0, .ref b)]) hx hb dL_law_565 hl (k := 2) rfl rfl (by decide) rfl (fun ls hl => ?_)
                    refine lv_goto (tgt := 453) hx hb dL_law_568 (by decide) ?_
                    have hP : PP g (([aI g q446 61 h, aQ2 g aQ fq] ++ ar) ++ w521) H := hP.tl
                    have hD : va_D A (([aI g q446 61 h, aQ2 g aQ fq] ++ ar) ++ w521) := hD.tl
                    refine W.widen (k := (4101 + 1 * (k + 1))) (n := (37561 + 61 * (k + 1))) (by omega) (by omega) ?_
                    exact ih453 (k + 1) y _ _ (by omega) (hh) (fun _ => by by_cases q : 1 ≤ y.length; exact q; exact hy1 (by omega)) (hC) (by omega) _ _ hP hD hS ls (lv_sub hl [0, 3, 4, 5, 6, 7, 8] rfl)
                  · refine lv_aload hx hb dL_law_539 (lv_at hl 3 rfl) ?_
                    refine jr_iconst hx hb dL_law_541 ?_
                    refine lv_dup2_11 hx hb dL_law_542 rfl rfl ?_
                    refine jr_iald hx hb hKK.k hP 1 rfl 0 (by omega) (by omega) (by omega) dL_law_543 ?_
                    refine jr_nm (b := (y.length : Int)) (hh.n) ?_
                    refine jr_iconst hx hb dL_law_544 ?_
                    refine jr_iadd hx hb dL_law_545 ?_
                    refine jr_iast hx hb hKK.k hP hD hS 1 rfl 0 (by omega) (by omega) (by omega) dL_law_546 (fun H locs hP hD hS => ?_)
                    have hP : PP g (([aI g tP 61 f_tP, aI g q446 61 (ju h 0 ((y.length : Int) + 1)), aQ2 g aQ fq] ++ ar) ++ w521) H := hP
                    have hD : va_D A (([aI g tP 61 f_tP, aI g q446 61 (ju h 0 ((y.length : Int) + 1)), aQ2 g aQ fq] ++ ar) ++ w521) := hD
                    refine lv_aload hx hb dL_law_547 (lv_at hl 3 rfl) ?_
                    refine lv_aload hx hb dL_law_549 (lv_at hl 3 rfl) ?_
                    refine jr_iconst hx hb dL_law_551 ?_
                    refine jr_iald hx hb hKK.k hP 1 rfl 0 (by omega) (by omega) (by omega) dL_law_552 ?_
                    refine jr_nm (b := ((y.length + 1 : Nat) : Int)) ((ju_s _ _ _).trans (by omega)) ?_
                    refine lv_aload hx hb dL_law_553 (lv_at hl 1 rfl) ?_
                    refine lv_iload hx hb dL_law_555 (lv_at hl 0 rfl) ?_
                    refine jr_iald hx hb hKK.k hP 0 rfl (j + 1) (by omega) (by omega) (by omega) dL_law_557 ?_
                    refine jr_iast hx hb hKK.k hP hD hS 1 rfl (y.length + 1) (by omega) (by omega) (by omega) dL_law_558 (fun H locs hP hD hS => ?_)
                    have hP : PP g (([aI g tP 61 f_tP, aI g q446 61 (ju (ju h 0 ((y.length : Int) + 1)) (y.length + 1) (f_tP (j + 1))), aQ2 g aQ fq] ++ ar) ++ w521) H := hP
                    have hD : va_D A (([aI g tP 61 f_tP, aI g q446 61 (ju (ju h 0 ((y.length : Int) + 1)) (y.length + 1) (f_tP (j + 1))), aQ2 g aQ fq] ++ ar) ++ w521) := hD
                    refine jr_iinc (lv' := [(8, vi (((j : Int) + 1) + 1)), (7, .ref tP), (6, vi (k : Int)), (5, .ref q446), (4, vi (many : Int)), (3, .ref aQ), (2, vi 1), (1, .ref o), (0, .ref b)]) hx hb dL_law_559 hl (k := 0) rfl rfl (by decide) rfl (fun ls hl => ?_)
                    refine lv_goto (tgt := 521) hx hb dL_law_562 (by decide) ?_
                    exact ih521 (j + 1) (y ++ [f_tP (j + 1)]) _ _ (by omega) (hh.push (by omega) (by rw [(hx_tP).s (by omega)]; exact (hx_tP).v (by omega))) (fun _ => by rw [List.length_append, List.length_singleton]; omega) (hC) (by omega) _ _ hP hD hS ls (lv_sub hl [0, 1, 2, 3, 4, 5, 6, 7, 8] rfl)
            exact lp521 _ 0 x _ _ (Nat.zero_le _) (hf) (fun q => hk1 (by omega)) (hC) (Nat.lt_succ_self _) _ _ hP hD hS ls (lv_sub hl [0, 1, 2, 3, 4, 5, 6, 7, 8] rfl)
          · refine lv_aload_n hx hb dL_law_477 rfl (lv_at hl 3 rfl) ?_
            refine lv_aload_n hx hb dL_law_478 rfl (lv_at hl 6 rfl) ?_
            refine jr_bipush hx hb dL_law_479 (by decide) ?_
            refine lv_iload hx hb dL_law_481 (lv_at hl 0 rfl) ?_
            refine jr_iadd hx hb dL_law_483 ?_
            refine jr_nm (b := ((60 + k : Nat) : Int)) (by omega) ?_
            refine lv_iload hx hb dL_law_484 (lv_at hl 2 rfl) ?_
            refine jk_Si (va_runS (As := [.ref b, vi ((60 + k : Nat) : Int), vi (many : Int)]) (rest := [.ref aQ]) ⟨hx, hb, hml, hown, htl⟩ (m_L_pick l g b n9 xs hn9 (60 + k) (by omega) (many : Int) (by omega)) (va_cwS 3 htl lk_L_140 rfl rfl rfl cwS_L_pick ⟨Nat.le_of_ble_eq_true rfl, Nat.le_of_ble_eq_true rfl⟩) (jp_X hKK hX hbl hbA hS hAb trivial) rfl rfl hl.1 rfl (lv_room (Nat.le_of_ble_eq_true rfl)) dL_law_486 ⟨by show _ ≤ 600312; omega, by show _ ≤ 7293826; omega⟩) (fun z486 hz486 => ?_)
            obtain ⟨u, hu⟩ : ∃ u : Nat, z486 = (u : Int) := ⟨z486.toNat, by omega⟩
            have hsu := hUP.1 u (by omega)
            refine jr_qald hx hb hKK.k hP 1 rfl u hu (by omega) hsu.1 dL_law_489 ?_
            refine lv_goto (tgt := 516) hx hb dL_law_490 (by decide) ?_
            have hp1 := hsu.2.2.2.2
            have hp60 := (hsu.2.1).len
            refine lv_astore (lv' := [(7, .ref (sa u)), (6, vi (k : Int)), (5, .ref q446), (4, vi (many : Int)), (3, .ref aQ), (2, vi 1), (1, .ref o), (0, .ref b)]) hx hb dL_law_516 hl (by decide) rfl (fun ls hl => ?_)
            refine jr_iconst hx hb dL_law_518 ?_
            refine lv_istore (lv' := [(8, vi 1), (7, .ref (sa u)), (6, vi (k : Int)), (5, .ref q446), (4, vi (many : Int)), (3, .ref aQ), (2, vi 1), (1, .ref o), (0, .ref b)]) hx hb dL_law_519 hl (by decide) rfl (fun ls hl => ?_)
            have lp521 : ∀ (N : Nat) (j : Nat) (y : List Int) (h : Nat → Int) (w521 : va_W), (j ≤ (ys u).length) → (AT y h) → (1 ≤ j ∨ 1 ≤ k → 1 ≤ y.length) → (CW g o S w521) → (ys u).length - j < N → ∀ (H : Heap) (locs : List Loc), PP g (([aI g q446 61 h, aQ2 g aQ fq] ++ ar) ++ w521) H → va_D A (([aI g q446 61 h, aQ2 g aQ fq] ++ ar) ++ w521) → va_S A s.heap H locs → ∀ ls : Array Slot, lv_has ls 9 [(8, vi ((j : Int) + 1)), (7, .ref (sa u)), (6, vi (k : Int)), (5, .ref q446), (4, vi (many : Int)), (3, .ref aQ), (2, vi 1), (1, .ref o), (0, .ref b)] → W p l e room_1 s m #[Value.ref b] below meth cq H locs (4101 + 1 * k) (37561 + 61 * k) (lw_Z below #[Value.ref b] s) (F0 m 521 ls []) := by
              intro N
              induction N with
              | zero => intro j y h w521 hj hh hy1 hC hM; exact absurd hM (Nat.not_lt_zero _)
              | succ N ih521 =>
                intro j y h w521 hj hh hy1 hC hM H locs hP hD hS ls hl
                have hy60 := hh.len
                have hPu : PP g [aI g (sa u) 61 (ff u)] H := hP.mem (fun q hq => List.mem_append_left _ (List.mem_append_right _ (by rw [List.mem_singleton.mp hq]; exact hsu.2.2.1)))
                refine lv_iload hx hb dL_law_521 (lv_at hl 0 rfl) ?_
                refine lv_aload hx hb dL_law_523 (lv_at hl 1 rfl) ?_
                refine jr_iconst hx hb dL_law_525 ?_
                refine jr_iald hx hb hKK.k hPu 0 rfl 0 (by omega) (by omega) (by omega) dL_law_526 ?_
                refine jr_nm (b := ((ys u).length : Int)) ((hsu.2.1).n) ?_
                refine jr_gt (tgt := 565) hx hb dL_law_527 (by decide) ⟨by omega, by omega⟩ ⟨by omega, by omega⟩ (fun c527 => ?_) (fun c527 => ?_)
                · refine jr_iinc (lv' := [(6, vi ((k : Int) + 1)), (8, vi ((j : Int) + 1)), (7, .ref (sa u)), (5, .ref q446), (4, vi (many : Int)), (3, .ref aQ), (2, vi 1), (1, .ref o), (0, .ref b)]) hx hb dL_law_565 hl (k := 2) rfl rfl (by decide) rfl (fun ls hl => ?_)
                  refine lv_goto (tgt := 453) hx hb dL_law_568 (by decide) ?_
                  refine W.widen (k := (4101 + 1 * (k + 1))) (n := (37561 + 61 * (k + 1))) (by omega) (by omega) ?_
                  exact ih453 (k + 1) y _ _ (by omega) (hh) (fun _ => by by_cases q : 1 ≤ y.length; exact q; exact hy1 (by omega)) (hC) (by omega) _ _ hP hD hS ls (lv_sub hl [0, 3, 4, 5, 6, 7, 8] rfl)
                · refine lv_aload hx hb dL_law_530 (lv_at hl 3 rfl) ?_
                  refine jr_iconst hx hb dL_law_532 ?_
                  refine jr_iald hx hb hKK.k hP 0 rfl 0 (by omega) (by omega) (by omega) dL_law_533 ?_
                  refine jr_nm (b := (y.length : Int)) (hh.n) ?_
                  refine jr_bipush hx hb dL_law_534 (by decide) ?_
                  refine jr_ge (tgt := 565) hx hb dL_law_536 (by decide) ⟨by omega, by omega⟩ ⟨by omega, by omega⟩ (fun c536 => ?_) (fun c536 => ?_)
                  · refine jr_iinc (lv' := [(6, vi ((k : Int) + 1)), (8, vi ((j : Int) + 1)), (7, .ref (sa u)), (5, .ref q446), (4, vi (many : Int)), (3, .ref aQ), (2, vi 1), (1, .ref o), (0, .ref b)]) hx hb dL_law_565 hl (k := 2) rfl rfl (by decide) rfl (fun ls hl => ?_)
                    refine lv_goto (tgt := 453) hx hb dL_law_568 (by decide) ?_
                    refine W.widen (k := (4101 + 1 * (k + 1))) (n := (37561 + 61 * (k + 1))) (by omega) (by omega) ?_
                    exact ih453 (k + 1) y _ _ (by omega) (hh) (fun _ => by by_cases q : 1 ≤ y.length; exact q; exact hy1 (by omega)) (hC) (by omega) _ _ hP hD hS ls (lv_sub hl [0, 3, 4, 5, 6, 7, 8] rfl)
                  · refine lv_aload hx hb dL_law_539 (lv_at hl 3 rfl) ?_
                    refine jr_iconst hx hb dL_law_541 ?_
                    refine lv_dup2_11 hx hb dL_law_542 rfl rfl ?_
                    refine jr_iald hx hb hKK.k hP 0 rfl 0 (by omega) (by omega) (by omega) dL_law_543 ?_
                    refine jr_nm (b := (y.length : Int)) (hh.n) ?_
                    refine jr_iconst hx hb dL_law_544 ?_
                    refine jr_iadd hx hb dL_law_545 ?_
                    refine jr_iast hx hb hKK.k hP hD hS 0 rfl 0 (by omega) (by omega) (by omega) dL_law_546 (fun H locs hP hD hS => ?_)
                    have hP : PP g (([aI g q446 61 (ju h 0 ((y.length : Int) + 1)), aQ2 g aQ fq] ++ ar) ++ w521) H := hP
                    have hD : va_D A (([aI g q446 61 (ju h 0 ((y.length : Int) + 1)), aQ2 g aQ fq] ++ ar) ++ w521) := hD
                    refine lv_aload hx hb dL_law_547 (lv_at hl 3 rfl) ?_
                    refine lv_aload hx hb dL_law_549 (lv_at hl 3 rfl) ?_
                    refine jr_iconst hx hb dL_law_551 ?_
                    refine jr_iald hx hb hKK.k hP 0 rfl 0 (by omega) (by omega) (by omega) dL_law_552 ?_
                    refine jr_nm (b := ((y.length + 1 : Nat) : Int)) ((ju_s _ _ _).trans (by omega)) ?_
                    have hPu : PP g [aI g (sa u) 61 (ff u)] H := hP.mem (fun q hq => List.mem_append_left _ (List.mem_append_right _ (by rw [List.mem_singleton.mp hq]; exact hsu.2.2.1)))
                    refine lv_aload hx hb dL_law_553 (lv_at hl 1 rfl) ?_
                    refine lv_iload hx hb dL_law_555 (lv_at hl 0 rfl) ?_
                    refine jr_iald hx hb hKK.k hPu 0 rfl (j + 1) (by omega) (by omega) (by omega) dL_law_557 ?_
                    refine jr_iast hx hb hKK.k hP hD hS 0 rfl (y.length + 1) (by omega) (by omega) (by omega) dL_law_558 (fun H locs hP hD hS => ?_)
                    have hP : PP g (([aI g q446 61 (ju (ju h 0 ((y.length : Int) + 1)) (y.length + 1) ((ff u) (j + 1))), aQ2 g aQ fq] ++ ar) ++ w521) H := hP
                    have hD : va_D A (([aI g q446 61 (ju (ju h 0 ((y.length : Int) + 1)) (y.length + 1) ((ff u) (j + 1))), aQ2 g aQ fq] ++ ar) ++ w521) := hD
                    refine jr_iinc (lv' := [(8, vi (((j : Int) + 1) + 1)), (7, .ref (sa u)), (6, vi (k : Int)), (5, .ref q446), (4, vi (many : Int)), (3, .ref aQ), (2, vi 1), (1, .ref o), (0, .ref b)]) hx hb dL_law_559 hl (k := 0) rfl rfl (by decide) rfl (fun ls hl => ?_)
                    refine lv_goto (tgt := 521) hx hb dL_law_562 (by decide) ?_
                    exact ih521 (j + 1) (y ++ [(ff u) (j + 1)]) _ _ (by omega) (hh.push (by omega) (by rw [(hsu.2.1).s (by omega)]; exact (hsu.2.1).v (by omega))) (fun _ => by rw [List.length_append, List.length_singleton]; omega) (hC) (by omega) _ _ hP hD hS ls (lv_sub hl [0, 1, 2, 3, 4, 5, 6, 7, 8] rfl)
            exact lp521 _ 0 x _ _ (Nat.zero_le _) (hf) (fun q => hk1 (by omega)) (hC) (Nat.lt_succ_self _) _ _ hP hD hS ls (lv_sub hl [0, 1, 2, 3, 4, 5, 6, 7, 8] rfl)
  refine W.widen (k := 4101 + 1 * 0) (n := 37561 + 61 * 0) (by omega) (by omega) ?_
  exact lp453 _ 0 [] _ _ (Nat.zero_le _) (AT.nil) (fun q => absurd q (by decide)) (hC) (Nat.lt_succ_self _) _ _ hP hD hS ls (lv_sub hl [0, 1, 2, 3, 4, 5, 6] rfl)
