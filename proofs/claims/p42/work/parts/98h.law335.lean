

set_option maxHeartbeats 4000000 in
set_option maxRecDepth 100000 in
theorem law_335 (l : Launch) (hsT : l.stackTraces = false) {g : GT} {p : Program} {e : Env} {s : State} {m : MethodId} {b : Nat} {below : List Frame} {meth : Method} {cq : Code} {n9 : Nat} {xs : Nat → Int32} (hx : p.tables.exec = Jvm.exec) (hb : cq.code = cL_law) (hr : meth.sig.returnType = ret) (hlk : meth.locks = false) (hml : cq.maxLocals = 9) (hown : s.vm.findClass RL = some m.cls) (htl : ∀ w ∈ WSL, w.before #[Value.ref b] s = true) (hKK : KK g s) (hgb : gb g = s.heap.size) (hX : va_X b n9 xs s s.heap) (hn9 : n9 ≤ 260) (hQo : (Cond.arrayOver (.array .int)).before #[Value.ref b] s = true) (A : Nat → Prop) (hAb : ∀ q, A q → gb g ≤ q) (hA : ∀ q, s.heap.size ≤ q → A q) (hbA : ¬ A b) (aQ : Nat) (fq : Nat → Option Nat) (ar : va_W) (sa : Nat → Nat) (ys : Nat → List Int) (ff : Nat → Nat → Int) (many : Nat) {o : Nat} (S : SGM) (w9 : va_W) (H : Heap) (locs : List Loc) (hC : CW g o S w9) (hP : PP g (([aQ2 g aQ fq] ++ ar) ++ w9) H) (hD : va_D A (([aQ2 g aQ fq] ++ ar) ++ w9)) (hS : va_S A s.heap H locs) (hUP : UP g S fq ar sa ys ff many) (hm5 : many ≤ 5) (hLV : LIV S) (ls : Array Slot) (hl : lv_has ls 9 [(4, vi (many : Int)), (3, .ref aQ), (2, vi 1), (1, .ref o), (0, .ref b)]) : W p l e room_1 s m #[Value.ref b] below meth cq H locs 2420 27400 (lw_Z below #[Value.ref b] s) (F0 m 335 ls []) := by
  have hbl := hX.lt
  have hnU := hUP.2.1
  refine lv_iload hx hb dL_law_335 (lv_at hl 0 rfl) ?_
  refine jr_iconst hx hb dL_law_337 ?_
  refine jr_le (tgt := 394) hx hb dL_law_338 (by decide) ⟨by omega, by omega⟩ ⟨by omega, by omega⟩ (fun c338 => ?_) (fun c338 => ?_)
  · refine W.widen (k := 2430) (n := 27500) (by omega) (by omega) ?_
    exact law_394 l hsT hx hb hr hlk hml hown htl hKK hgb hX hn9 hQo A hAb hA hbA aQ fq ar sa ys ff many S _ _ _ hC hP hD hS hUP hm5 ls (lv_sub hl [0, 1, 2, 3, 4] rfl)
  · refine lv_aload_n hx hb dL_law_341 rfl (lv_at hl 4 rfl) ?_
    refine jr_bipush hx hb dL_law_342 (by decide) ?_
    refine jr_iconst hx hb dL_law_344 ?_
    refine jk_Si (va_runS (As := [.ref b, vi 40, vi 3]) (rest := []) ⟨hx, hb, hml, hown, htl⟩ (m_L_pick l g b n9 xs hn9 40 (by omega) 3 (by omega)) (va_cwS 3 htl lk_L_140 rfl rfl rfl cwS_L_pick ⟨Nat.le_of_ble_eq_true rfl, Nat.le_of_ble_eq_true rfl⟩) (jp_X hKK hX hbl hbA hS hAb trivial) rfl rfl hl.1 rfl (lv_room (Nat.le_of_ble_eq_true rfl)) dL_law_345 ⟨by show _ ≤ 600312; omega, by show _ ≤ 7293826; omega⟩) (fun z345 hz345 => ?_)
    refine jr_ifne (tgt := 394) hx hb dL_law_348 (by decide) ⟨by omega, by omega⟩ (fun c348 => ?_) (fun c348 => ?_)
    · refine W.widen (k := 2430) (n := 27500) (by omega) (by omega) ?_
      exact law_394 l hsT hx hb hr hlk hml hown htl hKK hgb hX hn9 hQo A hAb hA hbA aQ fq ar sa ys ff many S _ _ _ hC hP hD hS hUP hm5 ls (lv_sub hl [0, 1, 2, 3, 4] rfl)
    · obtain ⟨hw1, hw2, hw3, hw4⟩ := wd_all hUP hLV (by omega)
      refine lv_iload_n hx hb dL_law_351 rfl (lv_at hl 2 rfl) ?_
      refine jr_ifeq (tgt := 392) hx hb dL_law_352 (by decide) ⟨by omega, by omega⟩ (fun c352 => absurd c352 (by omega)) (fun c352 => ?_)
      refine lv_aload_n hx hb dL_law_355 rfl (lv_at hl 3 rfl) ?_
      refine jr_bipush hx hb dL_law_356 (by decide) ?_
      refine jr_iconst hx hb dL_law_358 ?_
      refine jr_iconst hx hb dL_law_359 ?_
      refine jr_iconst hx hb dL_law_360 ?_
      refine jr_iconst hx hb dL_law_361 ?_
      refine kl_Qi (cs := ([aQ2 g aQ fq] ++ ar)) (vx_runSW (As := [.ref o, vi 10, vi 0, vi 0, vi 0, vi 0]) (rest := []) ⟨hx, hb, hml, hown, htl⟩ (m_L_deed_withdraw l hsT g o S w9 hC H.size 0 ⟨by omega, by omega⟩ 0 0 0) (vx_cwSW 6 htl lkH_L_deed rfl rfl rfl cwS_L_deed ⟨Nat.le_of_ble_eq_true rfl, Nat.le_of_ble_eq_true rfl⟩) (jp_S hKK hS hAb ⟨rfl, (kw_P (cs := ([aQ2 g aQ fq] ++ ar)) hP), (hD.right (a := ([aQ2 g aQ fq] ++ ar))).weaken (fun _ q _ h => hAb _ h)⟩) rfl rfl hl.1 rfl (lv_room (Nat.le_of_ble_eq_true rfl)) dL_law_362 ⟨by show _ ≤ 600312; omega, by show _ ≤ 7293826; omega⟩) hP hD hS hA ?_
      clear hP hD hS hC; intro z362 H locs w362 hz362 hC hP hD hS
      have hP : PP g (([aQ2 g aQ fq] ++ ar) ++ w362) H := hP
      have hD : va_D A (([aQ2 g aQ fq] ++ ar) ++ w362) := hD
      refine W.widen (k := 2422) (n := 27412) (by omega) (by omega) ?_
      have hC : CW g o (nxWd S 0) w362 := by have q := hC; rw [rS_0 hw3] at q; exact q
      have hz362 : z362 = ((many : Int) - 1) := hz362.trans ((rs_0 hw3).trans hw2)
      subst hz362
      refine lv_iload hx hb dL_law_365 (lv_at hl 0 rfl) ?_
      refine jr_iconst hx hb dL_law_367 ?_
      refine jr_isub hx hb dL_law_368 ?_
      refine jr_ne (tgt := 392) hx hb dL_law_369 (by decide) ⟨by omega, by omega⟩ ⟨by omega, by omega⟩ (fun c369 => absurd c369 (by omega)) (fun c369 => ?_)
      refine lv_aload_n hx hb dL_law_372 rfl (lv_at hl 3 rfl) ?_
      refine jr_bipush hx hb dL_law_373 (by decide) ?_
      refine jr_iconst hx hb dL_law_375 ?_
      refine jr_iconst hx hb dL_law_376 ?_
      refine jr_iconst hx hb dL_law_377 ?_
      refine jr_iconst hx hb dL_law_378 ?_
      refine kl_Qi (cs := ([aQ2 g aQ fq] ++ ar)) (vx_runSW (As := [.ref o, vi 10, vi 0, vi 0, vi 0, vi 0]) (rest := []) ⟨hx, hb, hml, hown, htl⟩ (m_L_deed_withdraw l hsT g o (nxWd S 0) w362 hC H.size 0 ⟨by omega, by omega⟩ 0 0 0) (vx_cwSW 6 htl lkH_L_deed rfl rfl rfl cwS_L_deed ⟨Nat.le_of_ble_eq_true rfl, Nat.le_of_ble_eq_true rfl⟩) (jp_S hKK hS hAb ⟨rfl, (kw_P (cs := ([aQ2 g aQ fq] ++ ar)) hP), (hD.right (a := ([aQ2 g aQ fq] ++ ar))).weaken (fun _ q _ h => hAb _ h)⟩) rfl rfl hl.1 rfl (lv_room (Nat.le_of_ble_eq_true rfl)) dL_law_379 ⟨by show _ ≤ 600312; omega, by show _ ≤ 7293826; omega⟩) hP hD hS hA ?_
      clear hP hD hS hC; intro z379 H locs w379 hz379 hC hP hD hS
      have hP : PP g (([aQ2 g aQ fq] ++ ar) ++ w379) H := hP
      have hD : va_D A (([aQ2 g aQ fq] ++ ar) ++ w379) := hD
      refine W.widen (k := 2424) (n := 27424) (by omega) (by omega) ?_
      have hC : CW g o (nxWd S 0) w379 := by have q := hC; rw [rS_n (by rw [hw4]; decide)] at q; exact q
      have hz379 : z379 = -2004 := hz379.trans (rs_2 hw4)
      subst hz379
      refine jr_sipush hx hb dL_law_382 (by decide) ?_
      refine jr_ne (tgt := 392) hx hb dL_law_385 (by decide) ⟨by omega, by omega⟩ ⟨by omega, by omega⟩ (fun c385 => absurd c385 (by omega)) (fun c385 => ?_)
      refine jr_iconst hx hb dL_law_388 ?_
      refine lv_goto (tgt := 393) hx hb dL_law_389 (by decide) ?_
      refine lv_istore_n (lv' := [(2, vi 1), (4, vi (many : Int)), (3, .ref aQ), (1, .ref o), (0, .ref b)]) hx hb dL_law_393 rfl hl (by decide) rfl (fun ls hl => ?_)
      refine W.widen (k := 2430) (n := 27500) (by omega) (by omega) ?_
      exact law_394 l hsT hx hb hr hlk hml hown htl hKK hgb hX hn9 hQo A hAb hA hbA aQ fq ar sa ys ff many (nxWd S 0) _ _ _ hC hP hD hS hw1 hm5 ls (lv_sub hl [1, 2, 0, 3, 4] rfl)
