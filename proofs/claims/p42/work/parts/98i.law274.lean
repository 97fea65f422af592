

set_option maxHeartbeats 4000000 in
set_option maxRecDepth 100000 in
theorem law_274 (l : Launch) (hsT : l.stackTraces = false) {g : GT} {p : Program} {e : Env} {s : State} {m : MethodId} {b : Nat} {below : List Frame} {meth : Method} {cq : Code} {n9 : Nat} {xs : Nat → Int32} (hx : p.tables.exec = Jvm.exec) (hb : cq.code = cL_law) (hr : meth.sig.returnType = ret) (hlk : meth.locks = false) (hml : cq.maxLocals = 9) (hown : s.vm.findClass RL = some m.cls) (htl : ∀ w ∈ WSL, w.before #[Value.ref b] s = true) (hKK : KK g s) (hgb : gb g = s.heap.size) (hX : va_X b n9 xs s s.heap) (hn9 : n9 ≤ 260) (hQo : (Cond.arrayOver (.array .int)).before #[Value.ref b] s = true) (A : Nat → Prop) (hAb : ∀ q, A q → gb g ≤ q) (hA : ∀ q, s.heap.size ≤ q → A q) (hbA : ¬ A b) (aQ : Nat) (fq : Nat → Option Nat) (ar : va_W) (sa : Nat → Nat) (ys : Nat → List Int) (ff : Nat → Nat → Int) (many : Nat) {o : Nat} (S : SGM) (w9 : va_W) (H : Heap) (locs : List Loc) (hC : CW g o S w9) (hP : PP g (([aQ2 g aQ fq] ++ ar) ++ w9) H) (hD : va_D A (([aQ2 g aQ fq] ++ ar) ++ w9)) (hS : va_S A s.heap H locs) (hUP : UP g S fq ar sa ys ff many) (hm5 : many ≤ 5) (hLV : LIV S) (ls : Array Slot) (hl : lv_has ls 9 [(4, vi (many : Int)), (3, .ref aQ), (2, vi 1), (1, .ref o), (0, .ref b)]) : W p l e room_1 s m #[Value.ref b] below meth cq H locs 2400 27200 (lw_Z below #[Value.ref b] s) (F0 m 274 ls []) := by
  have hbl := hX.lt
  refine jr_iconst hx hb dL_law_274 ?_
  refine lv_istore (lv' := [(5, vi 0), (4, vi (many : Int)), (3, .ref aQ), (2, vi 1), (1, .ref o), (0, .ref b)]) hx hb dL_law_275 hl (by decide) rfl (fun ls hl => ?_)
  have lp277 : ∀ (N : Nat) (k : Nat) (Sx : SGM) (w277 : va_W), (k ≤ 4) → (UP g Sx fq ar sa ys ff many) → (LIV Sx) → (CW g o Sx w277) → 4 - k < N → ∀ (H : Heap) (locs : List Loc), PP g (([aQ2 g aQ fq] ++ ar) ++ w277) H → va_D A (([aQ2 g aQ fq] ++ ar) ++ w277) → va_S A s.heap H locs → ∀ ls : Array Slot, lv_has ls 9 [(5, vi (k : Int)), (4, vi (many : Int)), (3, .ref aQ), (2, vi 1), (1, .ref o), (0, .ref b)] → W p l e room_1 s m #[Value.ref b] below meth cq H locs (2400 + 3 * k) (27200 + 18 * k) (lw_Z below #[Value.ref b] s) (F0 m 277 ls []) := by
    intro N
    induction N with
    | zero => intro k Sx w277 hk4 hUx hLx hC hM; exact absurd hM (Nat.not_lt_zero _)
    | succ N ih277 =>
      intro k Sx w277 hk4 hUx hLx hC hM H locs hP hD hS ls hl
      refine lv_iload hx hb dL_law_277 (lv_at hl 0 rfl) ?_
      refine jr_iconst hx hb dL_law_279 ?_
      refine jr_ge (tgt := 335) hx hb dL_law_280 (by decide) ⟨by omega, by omega⟩ ⟨by omega, by omega⟩ (fun c280 => ?_) (fun c280 => ?_)
      · refine W.widen (k := 2420) (n := 27400) (by omega) (by omega) ?_
        exact law_335 l hsT hx hb hr hlk hml hown htl hKK hgb hX hn9 hQo A hAb hA hbA aQ fq ar sa ys ff many Sx _ _ _ hC hP hD hS hUx hm5 hLx ls (lv_sub hl [1, 2, 3, 4, 5] rfl)
      · refine lv_iload_n hx hb dL_law_283 rfl (lv_at hl 3 rfl) ?_
        refine jr_ifeq (tgt := 327) hx hb dL_law_284 (by decide) ⟨by omega, by omega⟩ (fun c284 => absurd c284 (by omega)) (fun c284 => ?_)
        have ht20 := CW.tm20 hC
        refine lv_aload_n hx hb dL_law_287 rfl (lv_at hl 4 rfl) ?_
        refine jr_bipush hx hb dL_law_288 (by decide) ?_
        refine lv_aload_n hx hb dL_law_290 rfl (lv_at hl 5 rfl) ?_
        refine jr_bipush hx hb dL_law_291 (by decide) ?_
        refine lv_iload hx hb dL_law_293 (lv_at hl 0 rfl) ?_
        refine jr_iadd hx hb dL_law_295 ?_
        refine jr_nm (b := ((20 + k : Nat) : Int)) (by omega) ?_
        refine jr_bipush hx hb dL_law_296 (by decide) ?_
        refine jk_Si (va_runS (As := [.ref b, vi ((20 + k : Nat) : Int), vi 24]) (rest := [vi 6, .ref o]) ⟨hx, hb, hml, hown, htl⟩ (m_L_pick l g b n9 xs hn9 (20 + k) (by omega) 24 (by omega)) (va_cwS 3 htl lk_L_140 rfl rfl rfl cwS_L_pick ⟨Nat.le_of_ble_eq_true rfl, Nat.le_of_ble_eq_true rfl⟩) (jp_X hKK hX hbl hbA hS hAb trivial) rfl rfl hl.1 rfl (lv_room (Nat.le_of_ble_eq_true rfl)) dL_law_298 ⟨by show _ ≤ 600312; omega, by show _ ≤ 7293826; omega⟩) (fun z298 hz298 => ?_)
        refine lv_aload_n hx hb dL_law_301 rfl (lv_at hl 5 rfl) ?_
        refine jr_bipush hx hb dL_law_302 (by decide) ?_
        refine lv_iload hx hb dL_law_304 (lv_at hl 0 rfl) ?_
        refine jr_iadd hx hb dL_law_306 ?_
        refine jr_nm (b := ((30 + k : Nat) : Int)) (by omega) ?_
        refine jr_bipush hx hb dL_law_307 (by decide) ?_
        refine jk_Si (va_runS (As := [.ref b, vi ((30 + k : Nat) : Int), vi 24]) (rest := [vi z298, vi 6, .ref o]) ⟨hx, hb, hml, hown, htl⟩ (m_L_pick l g b n9 xs hn9 (30 + k) (by omega) 24 (by omega)) (va_cwS 3 htl lk_L_140 rfl rfl rfl cwS_L_pick ⟨Nat.le_of_ble_eq_true rfl, Nat.le_of_ble_eq_true rfl⟩) (jp_X hKK hX hbl hbA hS hAb trivial) rfl rfl hl.1 rfl (lv_room (Nat.le_of_ble_eq_true rfl)) dL_law_309 ⟨by show _ ≤ 600312; omega, by show _ ≤ 7293826; omega⟩) (fun z309 hz309 => ?_)
        refine jr_iconst hx hb dL_law_312 ?_
        refine jr_iconst hx hb dL_law_313 ?_
        refine kl_Qi (cs := ([aQ2 g aQ fq] ++ ar)) (vx_runSW (As := [.ref o, vi 6, vi z298, vi z309, vi 0, vi 0]) (rest := []) ⟨hx, hb, hml, hown, htl⟩ (m_L_deed_addTerm l hsT g o Sx w277 hC H.size z298 z309 ⟨by omega, by omega⟩ ⟨by omega, by omega⟩ 0 0) (vx_cwSW 6 htl lkH_L_deed rfl rfl rfl cwS_L_deed ⟨Nat.le_of_ble_eq_true rfl, Nat.le_of_ble_eq_true rfl⟩) (jp_S hKK hS hAb ⟨rfl, (kw_P (cs := ([aQ2 g aQ fq] ++ ar)) hP), (hD.right (a := ([aQ2 g aQ fq] ++ ar))).weaken (fun _ q _ h => hAb _ h)⟩) rfl rfl hl.1 rfl (lv_room (Nat.le_of_ble_eq_true rfl)) dL_law_314 ⟨by show _ ≤ 600312; omega, by show _ ≤ 7293826; omega⟩) hP hD hS hA ?_
        clear hP hD hS hC; intro z314 H locs w314 hz314 hC hP hD hS
        have hP : PP g (([aQ2 g aQ fq] ++ ar) ++ w314) H := hP
        have hD : va_D A (([aQ2 g aQ fq] ++ ar) ++ w314) := hD
        refine W.widen (k := ((2400 + 3 * k) + 3)) (n := ((27200 + 18 * k) + 18)) (by omega) (by omega) ?_
        have hC : CW g o (rS (cdTerm Sx z298 z309) (nxT Sx z298 z309) Sx) w314 := hC
        have hge : -2004 ≤ z314 := by rw [hz314]; exact rs_ge (by omega) (by omega) (by omega) (by omega)
        have hle : z314 ≤ 1000 := by rw [hz314]; exact rs_le (by omega) (by omega) (by omega) (by omega)
        refine jr_sipush hx hb dL_law_317 (by decide) ?_
        refine jr_lt (tgt := 327) hx hb dL_law_320 (by decide) ⟨by omega, by omega⟩ ⟨by omega, by omega⟩ (fun c320 => absurd c320 (by omega)) (fun c320 => ?_)
        refine jr_iconst hx hb dL_law_323 ?_
        refine lv_goto (tgt := 328) hx hb dL_law_324 (by decide) ?_
        refine lv_istore_n (lv' := [(2, vi 1), (5, vi (k : Int)), (4, vi (many : Int)), (3, .ref aQ), (1, .ref o), (0, .ref b)]) hx hb dL_law_328 rfl hl (by decide) rfl (fun ls hl => ?_)
        refine jr_iinc (lv' := [(5, vi ((k : Int) + 1)), (2, vi 1), (4, vi (many : Int)), (3, .ref aQ), (1, .ref o), (0, .ref b)]) hx hb dL_law_329 hl (k := 1) rfl rfl (by decide) rfl (fun ls hl => ?_)
        refine lv_goto (tgt := 277) hx hb dL_law_332 (by decide) ?_
        refine W.widen (k := (2400 + 3 * (k + 1))) (n := (27200 + 18 * (k + 1))) (by omega) (by omega) ?_
        exact ih277 (k + 1) _ _ (by omega) ((hUx.congr (rS_T _ _ _ _))) ((hLx.congr (rS_T _ _ _ _))) (hC) (by omega) _ _ hP hD hS ls (lv_sub hl [0, 2, 3, 1, 4, 5] rfl)
  refine W.widen (k := 2400 + 3 * 0) (n := 27200 + 18 * 0) (by omega) (by omega) ?_
  exact lp277 _ 0 _ _ (Nat.zero_le _) (hUP) (hLV) (hC) (Nat.lt_succ_self _) _ _ hP hD hS ls (lv_sub hl [0, 1, 2, 3, 4, 5] rfl)
