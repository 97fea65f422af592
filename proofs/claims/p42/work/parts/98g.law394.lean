
theorem lk_L_210 : GoodIn WSL (va_wsS RL 210 yL_isCompared (ws_ yL_isCompared cL_isCompared 12 (some .boolean))) := gd_app (List.forall_mem_cons.mpr ⟨wd_26_18, List.forall_mem_cons.mpr ⟨wd_26_19, List.forall_mem_cons.mpr ⟨wd_8_17, fun _ h => nomatch h⟩⟩⟩) (gd_ wd_26_20)
theorem cwS_L_isCompared : yL_isCompared.cls ≠ "java/lang/invoke/MethodHandle" ∧ yL_isCompared.cls ≠ "java/lang/invoke/VarHandle" ∧ (parseMethodDescriptor yL_isCompared.desc).map (fun d => d.parameters.length) = some 3 := by decide +kernel
theorem lk_L_198 : GoodIn WSL (va_wsS RL 198 yL_like (ws_ yL_like cL_like 6 (some (.array .int)))) := gd_app (List.forall_mem_cons.mpr ⟨wd_25_20, List.forall_mem_cons.mpr ⟨wd_25_21, List.forall_mem_cons.mpr ⟨wd_8_17, fun _ h => nomatch h⟩⟩⟩) (gd_ wd_25_22)
theorem cwS_L_like : yL_like.cls ≠ "java/lang/invoke/MethodHandle" ∧ yL_like.cls ≠ "java/lang/invoke/VarHandle" ∧ (parseMethodDescriptor yL_like.desc).map (fun d => d.parameters.length) = some 3 := by decide +kernel
set_option maxHeartbeats 4000000 in
set_option maxRecDepth 100000 in
theorem law_394 (l : Launch) (hsT : l.stackTraces = false) {g : GT} {p : Program} {e : Env} {s : State} {m : MethodId} {b : Nat} {below : List Frame} {meth : Method} {cq : Code} {n9 : Nat} {xs : Nat → Int32} (hx : p.tables.exec = Jvm.exec) (hb : cq.code = cL_law) (hr : meth.sig.returnType = ret) (hlk : meth.locks = false) (hml : cq.maxLocals = 9) (hown : s.vm.findClass RL = some m.cls) (htl : ∀ w ∈ WSL, w.before #[Value.ref b] s = true) (hKK : KK g s) (hgb : gb g = s.heap.size) (hX : va_X b n9 xs s s.heap) (hn9 : n9 ≤ 260) (hQo : (Cond.arrayOver (.array .int)).before #[Value.ref b] s = true) (A : Nat → Prop) (hAb : ∀ q, A q → gb g ≤ q) (hA : ∀ q, s.heap.size ≤ q → A q) (hbA : ¬ A b) (aQ : Nat) (fq : Nat → Option Nat) (ar : va_W) (sa : Nat → Nat) (ys : Nat → List Int) (ff : Nat → Nat → Int) (many : Nat) {o : Nat} (S : SGM) (w9 : va_W) (H : Heap) (locs : List Loc) (hC : CW g o S w9) (hP : PP g (([aQ2 g aQ fq] ++ ar) ++ w9) H) (hD : va_D A (([aQ2 g aQ fq] ++ ar) ++ w9)) (hS : va_S A s.heap H locs) (hUP : UP g S fq ar sa ys ff many) (hm5 : many ≤ 5) (ls : Array Slot) (hl : lv_has ls 9 [(4, vi (many : Int)), (3, .ref aQ), (2, vi 1), (1, .ref o), (0, .ref b)]) : W p l e room_1 s m #[Value.ref b] below meth cq H locs 2430 27500 (lw_Z below #[Value.ref b] s) (F0 m 394 ls []) := by
  have hbl := hX.lt
  have hnU := hUP.2.1
  refine lv_iload_n hx hb dL_law_394 rfl (lv_at hl 2 rfl) ?_
  refine jr_ifeq (tgt := 442) hx hb dL_law_395 (by decide) ⟨by omega, by omega⟩ (fun c395 => absurd c395 (by omega)) (fun c395 => ?_)
  refine lv_aload_n hx hb dL_law_398 rfl (lv_at hl 3 rfl) ?_
  refine lv_aload_n hx hb dL_law_399 rfl (lv_at hl 4 rfl) ?_
  refine jr_sipush hx hb dL_law_400 (by decide) ?_
  refine jr_bipush hx hb dL_law_403 (by decide) ?_
  refine kl_Nr (N := fun a x => aT g a x) (va_runS (As := [.ref b, vi 1800, vi 8]) (rest := [.ref o]) ⟨hx, hb, hml, hown, htl⟩ (m_L_text l g b n9 xs hn9 1800 (by omega) 8 (by omega) H.size) (va_cwS 3 htl lk_L_202 rfl rfl rfl cwS_L_text ⟨Nat.le_of_ble_eq_true rfl, Nat.le_of_ble_eq_true rfl⟩) (jp_X hKK hX hbl hbA hS hAb ⟨rfl, (fun k q h => by cases h), ⟨fun i j p q h => (by cases h), fun k q h => by cases h⟩⟩) rfl rfl hl.1 rfl (lv_room (Nat.le_of_ble_eq_true rfl)) dL_law_405 ⟨by show _ ≤ 600312; omega, by show _ ≤ 7293826; omega⟩) (ws := (([aQ2 g aQ fq] ++ ar) ++ w9)) hP hD hS hA ?_
  clear hP hD hS; intro tC x_tC H locs hz405 hP hD hS
  obtain ⟨xC, f_tC⟩ := x_tC
  obtain ⟨hx_tC, hn1_tC, hn2_tC⟩ : AT xC f_tC ∧ 1 ≤ xC.length ∧ (xC.length : Int) ≤ 8 := hz405
  have hP : PP g (([aI g tC 61 f_tC, aQ2 g aQ fq] ++ ar) ++ w9) H := hP
  have hD : va_D A (([aI g tC 61 f_tC, aQ2 g aQ fq] ++ ar) ++ w9) := hD
  refine W.widen (k := 2431) (n := 27561) (by omega) (by omega) ?_
  refine lv_aload_n hx hb dL_law_408 rfl (lv_at hl 1 rfl) ?_
  refine kl_Qi (cs := ([aI g tC 61 f_tC, aQ2 g aQ fq] ++ ar)) (va_runS (As := [.ref o, .ref tC, .ref aQ]) (rest := []) ⟨hx, hb, hml, hown, htl⟩ (m_L_isCompared l hsT g o S w9 hC H.size tC xC f_tC hx_tC hn1_tC aQ fq ar sa ys ff hUP.1 (by omega) (kw_ne1 (cs := ([aI g tC 61 f_tC, aQ2 g aQ fq] ++ ar)) hD 0 rfl) (kw_ne1 (cs := ([aI g tC 61 f_tC, aQ2 g aQ fq] ++ ar)) hD 1 rfl) (kw_neS (cs := ([aI g tC 61 f_tC, aQ2 g aQ fq] ++ ar)) hD (fun q hq => List.mem_append_right _ hq))) (va_cwS 3 htl lk_L_210 rfl rfl rfl cwS_L_isCompared ⟨Nat.le_of_ble_eq_true rfl, Nat.le_of_ble_eq_true rfl⟩) (jp_S hKK hS hAb ⟨rfl, (kw_P (cs := ([aI g tC 61 f_tC, aQ2 g aQ fq] ++ ar)) hP), (hD.right (a := ([aI g tC 61 f_tC, aQ2 g aQ fq] ++ ar))).weaken (fun _ q _ h => hAb _ h), (va_P.sub hP [0] rfl), (va_P.sub hP [1] rfl), (hP.mem fun q hq => List.mem_append_left _ (List.mem_append_right _ hq))⟩) rfl rfl hl.1 rfl (lv_room (Nat.le_of_ble_eq_true rfl)) dL_law_409 ⟨by show _ ≤ 600312; omega, by show _ ≤ 7293826; omega⟩) hP hD hS hA ?_
  clear hP hD hS hC; intro z409 H locs w409 hz409 hC hP hD hS
  have hP : PP g (([aI g tC 61 f_tC, aQ2 g aQ fq] ++ ar) ++ w409) H := hP
  have hD : va_D A (([aI g tC 61 f_tC, aQ2 g aQ fq] ++ ar) ++ w409) := hD
  refine W.widen (k := 3231) (n := 32361) (by omega) (by omega) ?_
  have hC : CW g o (wD S []) w409 := hC
  have hz409 : z409 = 1 := hz409
  subst hz409
  refine jr_ifeq (tgt := 442) hx hb dL_law_412 (by decide) ⟨by omega, by omega⟩ (fun c412 => absurd c412 (by omega)) (fun c412 => ?_)
  refine lv_iload hx hb dL_law_415 (lv_at hl 0 rfl) ?_
  refine jr_ifeq (tgt := 438) hx hb dL_law_417 (by decide) ⟨by omega, by omega⟩ (fun c417 => ?_) (fun c417 => ?_)
  · refine jr_iconst hx hb dL_law_438 ?_
    refine lv_goto (tgt := 443) hx hb dL_law_439 (by decide) ?_
    refine lv_istore_n (lv' := [(2, vi 1), (4, vi (many : Int)), (3, .ref aQ), (1, .ref o), (0, .ref b)]) hx hb dL_law_443 rfl hl (by decide) rfl (fun ls hl => ?_)
    have hP : PP g (([aQ2 g aQ fq] ++ ar) ++ w409) H := hP.tl
    have hD : va_D A (([aQ2 g aQ fq] ++ ar) ++ w409) := hD.tl
    refine W.widen (k := 4100) (n := 37500) (by omega) (by omega) ?_
    exact law_444 l hsT hx hb hr hlk hml hown htl hKK hgb hX hn9 hQo A hAb hA hbA aQ fq ar sa ys ff many (wD S []) _ _ _ hC hP hD hS (hUP.congr (T := wD S []) rfl) hm5 ls (lv_sub hl [1, 2, 0, 3, 4] rfl)
  · refine lv_aload_n hx hb dL_law_420 rfl (lv_at hl 3 rfl) ?_
    refine lv_aload_n hx hb dL_law_421 rfl (lv_at hl 1 rfl) ?_
    refine jr_iconst hx hb dL_law_422 ?_
    have hsu := hUP.1 0 (by omega)
    refine jr_qald hx hb hKK.k hP 1 rfl 0 rfl (by omega) hsu.1 dL_law_423 ?_
    refine lv_aload_n hx hb dL_law_424 rfl (lv_at hl 4 rfl) ?_
    refine jr_sipush hx hb dL_law_425 (by decide) ?_
    refine kl_Nr (N := fun a x => aT g a x) (va_runS (As := [.ref (sa 0), .ref b, vi 1900]) (rest := [.ref o]) ⟨hx, hb, hml, hown, htl⟩ (m_L_like l g (sa 0) (ys 0) (ff 0) hsu.2.1 hsu.2.2.2.2 b n9 xs hn9 1900 (by omega) H.size) (va_cwS 3 htl lk_L_198 rfl rfl rfl cwS_L_like ⟨Nat.le_of_ble_eq_true rfl, Nat.le_of_ble_eq_true rfl⟩) (jp_X hKK hX hbl hbA hS hAb ⟨rfl, (fun k q h => by cases h), ⟨fun i j p q h => (by cases h), fun k q h => by cases h⟩, (hP.mem fun q hq => List.mem_append_left _ (List.mem_append_right _ (by rw [List.mem_singleton.mp hq]; exact hsu.2.2.1)))⟩) rfl rfl hl.1 rfl (lv_room (Nat.le_of_ble_eq_true rfl)) dL_law_428 ⟨by show _ ≤ 600312; omega, by show _ ≤ 7293826; omega⟩) (ws := (([aI g tC 61 f_tC, aQ2 g aQ fq] ++ ar) ++ w409)) hP hD hS hA ?_
    clear hP hD hS; intro tD x_tD H locs hz428 hP hD hS
    obtain ⟨xD, f_tD⟩ := x_tD
    obtain ⟨hx_tD, hn1_tD, hn2_tD⟩ : AT xD f_tD ∧ 1 ≤ xD.length ∧ xD.length ≤ (ys 0).length := hz428
    have hP : PP g (([aI g tD 61 f_tD, aI g tC 61 f_tC, aQ2 g aQ fq] ++ ar) ++ w409) H := hP
    have hD : va_D A (([aI g tD 61 f_tD, aI g tC 61 f_tC, aQ2 g aQ fq] ++ ar) ++ w409) := hD
    refine W.widen (k := 3232) (n := 32422) (by omega) (by omega) ?_
    refine lv_aload_n hx hb dL_law_431 rfl (lv_at hl 1 rfl) ?_
    refine kl_Qi (cs := ([aI g tD 61 f_tD, aI g tC 61 f_tC, aQ2 g aQ fq] ++ ar)) (va_runS (As := [.ref o, .ref tD, .ref aQ]) (rest := []) ⟨hx, hb, hml, hown, htl⟩ (m_L_isCompared l hsT g o (wD S []) w409 hC H.size tD xD f_tD hx_tD hn1_tD aQ fq ar sa ys ff (hUP.congr (T := wD S []) rfl).1 (by show nU S ≤ 16; omega) (kw_ne1 (cs := ([aI g tD 61 f_tD, aI g tC 61 f_tC, aQ2 g aQ fq] ++ ar)) hD 0 rfl) (kw_ne1 (cs := ([aI g tD 61 f_tD, aI g tC 61 f_tC, aQ2 g aQ fq] ++ ar)) hD 2 rfl) (kw_neS (cs := ([aI g tD 61 f_tD, aI g tC 61 f_tC, aQ2 g aQ fq] ++ ar)) hD (fun q hq => List.mem_append_right _ hq))) (va_cwS 3 htl lk_L_210 rfl rfl rfl cwS_L_isCompared ⟨Nat.le_of_ble_eq_true rfl, Nat.le_of_ble_eq_true rfl⟩) (jp_S hKK hS hAb ⟨rfl, (kw_P (cs := ([aI g tD 61 f_tD, aI g tC 61 f_tC, aQ2 g aQ fq] ++ ar)) hP), (hD.right (a := ([aI g tD 61 f_tD, aI g tC 61 f_tC, aQ2 g aQ fq] ++ ar))).weaken (fun _ q _ h => hAb _ h), (va_P.sub hP [0] rfl), (va_P.sub hP [2] rfl), (hP.mem fun q hq => List.mem_append_left _ (List.mem_append_right _ hq))⟩) rfl rfl hl.1 rfl (lv_room (Nat.le_of_ble_eq_true rfl)) dL_law_432 ⟨by show _ ≤ 600312; omega, by show _ ≤ 7293826; omega⟩) hP hD hS hA ?_
    clear hP hD hS hC; intro z432 H locs w432 hz432 hC hP hD hS
    have hP : PP g (([aI g tD 61 f_tD, aI g tC 61 f_tC, aQ2 g aQ fq] ++ ar) ++ w432) H := hP
    have hD : va_D A (([aI g tD 61 f_tD, aI g tC 61 f_tC, aQ2 g aQ fq] ++ ar) ++ w432) := hD
    refine W.widen (k := 4032) (n := 37222) (by omega) (by omega) ?_
    have hC : CW g o (wD S []) w432 := hC
    have hz432 : z432 = 1 := hz432
    subst hz432
    refine jr_ifeq (tgt := 442) hx hb dL_law_435 (by decide) ⟨by omega, by omega⟩ (fun c435 => absurd c435 (by omega)) (fun c435 => ?_)
    refine jr_iconst hx hb dL_law_438 ?_
    refine lv_goto (tgt := 443) hx hb dL_law_439 (by decide) ?_
    refine lv_istore_n (lv' := [(2, vi 1), (4, vi (many : Int)), (3, .ref aQ), (1, .ref o), (0, .ref b)]) hx hb dL_law_443 rfl hl (by decide) rfl (fun ls hl => ?_)
    have hP : PP g (([aI g tC 61 f_tC, aQ2 g aQ fq] ++ ar) ++ w432) H := hP.tl
    have hD : va_D A (([aI g tC 61 f_tC, aQ2 g aQ fq] ++ ar) ++ w432) := hD.tl
    have hP : PP g (([aQ2 g aQ fq] ++ ar) ++ w432) H := hP.tl
    have hD : va_D A (([aQ2 g aQ fq] ++ ar) ++ w432) := hD.tl
    refine W.widen (k := 4100) (n := 37500) (by omega) (by omega) ?_
    exact law_444 l hsT hx hb hr hlk hml hown htl hKK hgb hX hn9 hQo A hAb hA hbA aQ fq ar sa ys ff many (wD S []) _ _ _ hC hP hD hS (hUP.congr (T := wD S []) rfl) hm5 ls (lv_sub hl [1, 2, 0, 3, 4] rfl)
