
theorem lk_L_206 : GoodIn WSL (va_wsS RL 206 yL_unit (ws_ yL_unit cL_unit 4 (some .int))) := gd_app (List.forall_mem_cons.mpr ⟨wd_26_8, List.forall_mem_cons.mpr ⟨wd_26_9, List.forall_mem_cons.mpr ⟨wd_8_17, fun _ h => nomatch h⟩⟩⟩) (gd_ wd_26_10)
theorem cwS_L_unit : yL_unit.cls ≠ "java/lang/invoke/MethodHandle" ∧ yL_unit.cls ≠ "java/lang/invoke/VarHandle" ∧ (parseMethodDescriptor yL_unit.desc).map (fun d => d.parameters.length) = some 3 := by decide +kernel
theorem UP.z {g : GT} {S : SGM} {fq : Nat → Option Nat} {sa : Nat → Nat} {ys : Nat → List Int} {ff : Nat → Nat → Int} (h : nU S = 0) : UP g S fq [] sa ys ff 0 := ⟨fun u hu => absurd hu (by omega), h, fun u hu => absurd hu (by omega)⟩
theorem LIV.z {S : SGM} (h : nU S = 0) : LIV S := fun u hu => absurd hu (by omega)
set_option maxHeartbeats 4000000 in
set_option maxRecDepth 100000 in
theorem law_147 (l : Launch) (hsT : l.stackTraces = false) {g : GT} {p : Program} {e : Env} {s : State} {m : MethodId} {b : Nat} {below : List Frame} {meth : Method} {cq : Code} {n9 : Nat} {xs : Nat → Int32} (hx : p.tables.exec = Jvm.exec) (hb : cq.code = cL_law) (hr : meth.sig.returnType = ret) (hlk : meth.locks = false) (hml : cq.maxLocals = 9) (hown : s.vm.findClass RL = some m.cls) (htl : ∀ w ∈ WSL, w.before #[Value.ref b] s = true) (hKK : KK g s) (hgb : gb g = s.heap.size) (hX : va_X b n9 xs s s.heap) (hn9 : n9 ≤ 260) (hQo : (Cond.arrayOver (.array .int)).before #[Value.ref b] s = true) (A : Nat → Prop) (hAb : ∀ q, A q → gb g ≤ q) (hA : ∀ q, s.heap.size ≤ q → A q) (hbA : ¬ A b) {o : Nat} (S : SGM) (w9 : va_W) (H : Heap) (locs : List Loc) (hC : CW g o S w9) (hP : PP g w9 H) (hD : va_D A w9) (hS : va_S A s.heap H locs) (hn0 : nU S = 0) (ls : Array Slot) (hl : lv_has ls 9 [(2, vi 1), (1, .ref o), (0, .ref b)]) : W p l e room_1 s m #[Value.ref b] below meth cq H locs 410 14000 (lw_Z below #[Value.ref b] s) (F0 m 147 ls []) := by
  have hbl := hX.lt
  refine jr_bipush hx hb dL_law_147 (by decide) ?_
  refine jr_qnew hx hb hown (htl _ wd_1_3) hQo hKK.k hP hD hS hA (by show _ ≤ 600312; omega) (by show _ ≤ 7293826; omega) dL_law_149 ?_
  clear hP hD hS; intro aQ H hP hD hS
  have hP : PP g ([aQ2 g aQ (fun _ => none)] ++ w9) H := hP
  have hD : va_D A ([aQ2 g aQ (fun _ => none)] ++ w9) := hD
  refine W.widen (k := 411) (n := 14016) (by omega) (by omega) ?_
  refine lv_astore_n (lv' := [(3, .ref aQ), (2, vi 1), (1, .ref o), (0, .ref b)]) hx hb dL_law_152 rfl hl (by decide) rfl (fun ls hl => ?_)
  refine lv_aload_n hx hb dL_law_153 rfl (lv_at hl 3 rfl) ?_
  refine jr_iconst hx hb dL_law_154 ?_
  refine jr_bipush hx hb dL_law_155 (by decide) ?_
  refine jk_Si (va_runS (As := [.ref b, vi 5, vi 6]) (rest := []) ⟨hx, hb, hml, hown, htl⟩ (m_L_pick l g b n9 xs hn9 5 (by omega) 6 (by omega)) (va_cwS 3 htl lk_L_140 rfl rfl rfl cwS_L_pick ⟨Nat.le_of_ble_eq_true rfl, Nat.le_of_ble_eq_true rfl⟩) (jp_X hKK hX hbl hbA hS hAb trivial) rfl rfl hl.1 rfl (lv_room (Nat.le_of_ble_eq_true rfl)) dL_law_157 ⟨by show _ ≤ 600312; omega, by show _ ≤ 7293826; omega⟩) (fun z157 hz157 => ?_)
  obtain ⟨many, hmany⟩ : ∃ many : Nat, z157 = (many : Int) := ⟨z157.toNat, by omega⟩
  refine jr_nm (b := (many : Int)) (hmany) ?_
  refine lv_istore (lv' := [(4, vi (many : Int)), (3, .ref aQ), (2, vi 1), (1, .ref o), (0, .ref b)]) hx hb dL_law_160 hl (by decide) rfl (fun ls hl => ?_)
  refine jr_iconst hx hb dL_law_162 ?_
  refine lv_istore (lv' := [(5, vi 0), (4, vi (many : Int)), (3, .ref aQ), (2, vi 1), (1, .ref o), (0, .ref b)]) hx hb dL_law_163 hl (by decide) rfl (fun ls hl => ?_)
  have lp165 : ∀ (N : Nat) (u : Nat) (Sx : SGM) (fq : Nat → Option Nat) (ar : va_W) (sa : Nat → Nat) (ys : Nat → List Int) (ff : Nat → Nat → Int) (w165 : va_W), (u ≤ many) → (UP g Sx fq ar sa ys ff u) → (LIV Sx) → (CW g o Sx w165) → many - u < N → ∀ (H : Heap) (locs : List Loc), PP g (([aQ2 g aQ fq] ++ ar) ++ w165) H → va_D A (([aQ2 g aQ fq] ++ ar) ++ w165) → va_S A s.heap H locs → ∀ ls : Array Slot, lv_has ls 9 [(5, vi (u : Int)), (4, vi (many : Int)), (3, .ref aQ), (2, vi 1), (1, .ref o), (0, .ref b)] → W p l e room_1 s m #[Value.ref b] below meth cq H locs (411 + 380 * u) (14016 + 2600 * u) (lw_Z below #[Value.ref b] s) (F0 m 165 ls []) := by
    intro N
    induction N with
    | zero => intro u Sx fq ar sa ys ff w165 hum hUx hLx hC hM; exact absurd hM (Nat.not_lt_zero _)
    | succ N ih165 =>
      intro u Sx fq ar sa ys ff w165 hum hUx hLx hC hM H locs hP hD hS ls hl
      refine lv_iload hx hb dL_law_165 (lv_at hl 0 rfl) ?_
      refine lv_iload hx hb dL_law_167 (lv_at hl 1 rfl) ?_
      refine jr_ge (tgt := 274) hx hb dL_law_169 (by decide) ⟨by omega, by omega⟩ ⟨by omega, by omega⟩ (fun c169 => ?_) (fun c169 => ?_)
      · refine W.widen (k := 2400) (n := 27200) (by omega) (by omega) ?_
        exact law_274 l hsT hx hb hr hlk hml hown htl hKK hgb hX hn9 hQo A hAb hA hbA aQ fq ar sa ys ff many Sx _ _ _ hC hP hD hS (by rw [show many = u by omega]; exact hUx) (by omega) hLx ls (lv_sub hl [1, 2, 3, 4, 5] rfl)
      · refine lv_iload_n hx hb dL_law_172 rfl (lv_at hl 3 rfl) ?_
        refine jr_ifeq (tgt := 274) hx hb dL_law_173 (by decide) ⟨by omega, by omega⟩ (fun c173 => absurd c173 (by omega)) (fun c173 => ?_)
        refine lv_aload_n hx hb dL_law_176 rfl (lv_at hl 2 rfl) ?_
        refine lv_iload hx hb dL_law_177 (lv_at hl 0 rfl) ?_
        refine lv_iload hx hb dL_law_179 (lv_at hl 0 rfl) ?_
        refine jr_ifle (tgt := 218) hx hb dL_law_181 (by decide) ⟨by omega, by omega⟩ (fun c181 => ?_) (fun c181 => ?_)
        · refine lv_aload_n hx hb dL_law_218 rfl (lv_at hl 5 rfl) ?_
          refine jr_sipush hx hb dL_law_219 (by decide) ?_
          refine jr_bipush hx hb dL_law_222 (by decide) ?_
          refine lv_iload hx hb dL_law_224 (lv_at hl 0 rfl) ?_
          refine jr_imul hx hb dL_law_226 ?_
          refine jr_iadd hx hb dL_law_227 ?_
          refine jr_nm (b := ((600 + 90 * u : Nat) : Int)) (by omega) ?_
          refine jr_bipush hx hb dL_law_228 (by decide) ?_
          refine kl_Nr (N := fun a x => aT g a x) (va_runS (As := [.ref b, vi ((600 + 90 * u : Nat) : Int), vi 9]) (rest := [vi (u : Int), .ref aQ]) ⟨hx, hb, hml, hown, htl⟩ (m_L_text l g b n9 xs hn9 (600 + 90 * u) (by omega) 9 (by omega) H.size) (va_cwS 3 htl lk_L_202 rfl rfl rfl cwS_L_text ⟨Nat.le_of_ble_eq_true rfl, Nat.le_of_ble_eq_true rfl⟩) (jp_X hKK hX hbl hbA hS hAb ⟨rfl, (fun k q h => by cases h), ⟨fun i j p q h => (by cases h), fun k q h => by cases h⟩⟩) rfl rfl hl.1 rfl (lv_room (Nat.le_of_ble_eq_true rfl)) dL_law_230 ⟨by show _ ≤ 600312; omega, by show _ ≤ 7293826; omega⟩) (ws := (([aQ2 g aQ fq] ++ ar) ++ w165)) hP hD hS hA ?_
          clear hP hD hS; intro tS x_tS H locs hz230 hP hD hS
          obtain ⟨xS, f_tS⟩ := x_tS
          obtain ⟨hx_tS, hn1_tS, hn2_tS⟩ : AT xS f_tS ∧ 1 ≤ xS.length ∧ (xS.length : Int) ≤ 9 := hz230
          have hP : PP g (([aI g tS 61 f_tS, aQ2 g aQ fq] ++ ar) ++ w165) H := hP
          have hD : va_D A (([aI g tS 61 f_tS, aQ2 g aQ fq] ++ ar) ++ w165) := hD
          refine W.widen (k := ((411 + 380 * u) + 1)) (n := ((14016 + 2600 * u) + 61)) (by omega) (by omega) ?_
          refine jr_qast hx hb hQo hKK.k hP hD hS 1 0 rfl rfl u rfl (by omega) dL_law_233 ?_
          clear hP hD hS; intro H locs hP hD hS
          have hP : PP g (([aI g tS 61 f_tS, aQ2 g aQ (va_up fq u (some tS))] ++ ar) ++ w165) H := hP
          have hD : va_D A (([aI g tS 61 f_tS, aQ2 g aQ (va_up fq u (some tS))] ++ ar) ++ w165) := hD
          refine lv_aload_n hx hb dL_law_234 rfl (lv_at hl 4 rfl) ?_
          refine lv_aload_n hx hb dL_law_235 rfl (lv_at hl 2 rfl) ?_
          refine lv_iload hx hb dL_law_236 (lv_at hl 0 rfl) ?_
          refine jr_qald hx hb hKK.k hP 1 rfl u rfl (by omega) (va_up_self _ _ _) dL_law_238 ?_
          refine lv_aload_n hx hb dL_law_239 rfl (lv_at hl 5 rfl) ?_
          refine jr_sipush hx hb dL_law_240 (by decide) ?_
          refine jr_bipush hx hb dL_law_243 (by decide) ?_
          refine lv_iload hx hb dL_law_245 (lv_at hl 0 rfl) ?_
          refine jr_imul hx hb dL_law_247 ?_
          refine jr_iadd hx hb dL_law_248 ?_
          refine jr_nm (b := ((1200 + 90 * u : Nat) : Int)) (by omega) ?_
          refine jr_bipush hx hb dL_law_249 (by decide) ?_
          refine kl_Nr (N := fun a x => aT g a x) (va_runS (As := [.ref b, vi ((1200 + 90 * u : Nat) : Int), vi 7]) (rest := [.ref tS, .ref o]) ⟨hx, hb, hml, hown, htl⟩ (m_L_text l g b n9 xs hn9 (1200 + 90 * u) (by omega) 7 (by omega) H.size) (va_cwS 3 htl lk_L_202 rfl rfl rfl cwS_L_text ⟨Nat.le_of_ble_eq_true rfl, Nat.le_of_ble_eq_true rfl⟩) (jp_X hKK hX hbl hbA hS hAb ⟨rfl, (fun k q h => by cases h), ⟨fun i j p q h => (by cases h), fun k q h => by cases h⟩⟩) rfl rfl hl.1 rfl (lv_room (Nat.le_of_ble_eq_true rfl)) dL_law_251 ⟨by show _ ≤ 600312; omega, by show _ ≤ 7293826; omega⟩) (ws := (([aI g tS 61 f_tS, aQ2 g aQ (va_up fq u (some tS))] ++ ar) ++ w165)) hP hD hS hA ?_
          clear hP hD hS; intro tT x_tT H locs hz251 hP hD hS
          obtain ⟨xT, f_tT⟩ := x_tT
          obtain ⟨hx_tT, hn1_tT, hn2_tT⟩ : AT xT f_tT ∧ 1 ≤ xT.length ∧ (xT.length : Int) ≤ 7 := hz251
          have hP : PP g (([aI g tT 61 f_tT, aI g tS 61 f_tS, aQ2 g aQ (va_up fq u (some tS))] ++ ar) ++ w165) H := hP
          have hD : va_D A (([aI g tT 61 f_tT, aI g tS 61 f_tS, aQ2 g aQ (va_up fq u (some tS))] ++ ar) ++ w165) := hD
          refine W.widen (k := ((411 + 380 * u) + 2)) (n := ((14016 + 2600 * u) + 122)) (by omega) (by omega) ?_
          refine kl_Qi (cs := ([aI g tT 61 f_tT, aI g tS 61 f_tS, aQ2 g aQ (va_up fq u (some tS))] ++ ar)) (va_runS (As := [.ref o, .ref tS, .ref tT]) (rest := []) ⟨hx, hb, hml, hown, htl⟩ (m_L_unit l hsT g o Sx w165 hC H.size tS xS f_tS hx_tS tT xT f_tT hx_tT hn1_tS hn1_tT (by have := hUx.2.1; omega) (kw_ne1 (cs := ([aI g tT 61 f_tT, aI g tS 61 f_tS, aQ2 g aQ (va_up fq u (some tS))] ++ ar)) hD 1 rfl) (kw_ne1 (cs := ([aI g tT 61 f_tT, aI g tS 61 f_tS, aQ2 g aQ (va_up fq u (some tS))] ++ ar)) hD 0 rfl)) (va_cwS 3 htl lk_L_206 rfl rfl rfl cwS_L_unit ⟨Nat.le_of_ble_eq_true rfl, Nat.le_of_ble_eq_true rfl⟩) (jp_S hKK hS hAb ⟨rfl, (kw_P (cs := ([aI g tT 61 f_tT, aI g tS 61 f_tS, aQ2 g aQ (va_up fq u (some tS))] ++ ar)) hP), (hD.right (a := ([aI g tT 61 f_tT, aI g tS 61 f_tS, aQ2 g aQ (va_up fq u (some tS))] ++ ar))).weaken (fun _ q _ h => hAb _ h), (va_P.sub hP [1] rfl), (va_P.sub hP [0] rfl)⟩) rfl rfl hl.1 rfl (lv_room (Nat.le_of_ble_eq_true rfl)) dL_law_254 ⟨by show _ ≤ 600312; omega, by show _ ≤ 7293826; omega⟩) hP hD hS hA ?_
          clear hP hD hS hC; intro z254 H locs w254 hz254 hC hP hD hS
          have hP : PP g (([aI g tT 61 f_tT, aI g tS 61 f_tS, aQ2 g aQ (va_up fq u (some tS))] ++ ar) ++ w254) H := hP
          have hD : va_D A (([aI g tT 61 f_tT, aI g tS 61 f_tS, aQ2 g aQ (va_up fq u (some tS))] ++ ar) ++ w254) := hD
          refine W.widen (k := ((411 + 380 * u) + 374)) (n := ((14016 + 2600 * u) + 2533)) (by omega) (by omega) ?_
          have hC : CW g o (nxUnit Sx xS xT) w254 := hC
          have hz254 : z254 = (u : Int) := hz254.trans (by rw [hUx.2.1])
          subst hz254
          refine lv_iload hx hb dL_law_257 (lv_at hl 0 rfl) ?_
          refine jr_ne (tgt := 266) hx hb dL_law_259 (by decide) ⟨by omega, by omega⟩ ⟨by omega, by omega⟩ (fun c259 => absurd c259 (by omega)) (fun c259 => ?_)
          refine jr_iconst hx hb dL_law_262 ?_
          refine lv_goto (tgt := 267) hx hb dL_law_263 (by decide) ?_
          refine lv_istore_n (lv' := [(2, vi 1), (5, vi (u : Int)), (4, vi (many : Int)), (3, .ref aQ), (1, .ref o), (0, .ref b)]) hx hb dL_law_267 rfl hl (by decide) rfl (fun ls hl => ?_)
          refine jr_iinc (lv' := [(5, vi ((u : Int) + 1)), (2, vi 1), (4, vi (many : Int)), (3, .ref aQ), (1, .ref o), (0, .ref b)]) hx hb dL_law_268 hl (k := 1) rfl rfl (by decide) rfl (fun ls hl => ?_)
          refine lv_goto (tgt := 165) hx hb dL_law_271 (by decide) ?_
          have hP : PP g (([aI g tS 61 f_tS, aQ2 g aQ (va_up fq u (some tS))] ++ ar) ++ w254) H := hP.tl
          have hD : va_D A (([aI g tS 61 f_tS, aQ2 g aQ (va_up fq u (some tS))] ++ ar) ++ w254) := hD.tl
          have hP : PP g (([aQ2 g aQ (va_up fq u (some tS))] ++ (aI g tS 61 f_tS :: ar)) ++ w254) H := hP.perm (List.Perm.swap _ _ _)
          have hD : va_D A (([aQ2 g aQ (va_up fq u (some tS))] ++ (aI g tS 61 f_tS :: ar)) ++ w254) := hD.perm (List.Perm.swap _ _ _)
          refine W.widen (k := (411 + 380 * (u + 1))) (n := (14016 + 2600 * (u + 1))) (by omega) (by omega) ?_
          exact ih165 (u + 1) _ (va_up fq u (some tS)) (aI g tS 61 f_tS :: ar) (fup sa u tS) (fup ys u xS) (fup ff u f_tS) _ (by omega) (hUx.push hx_tS hn1_tS hn1_tT) (hLx.push) (hC) (by omega) _ _ hP hD hS ls (lv_sub hl [0, 2, 3, 1, 4, 5] rfl)
        · refine lv_aload_n hx hb dL_law_184 rfl (lv_at hl 5 rfl) ?_
          refine jr_bipush hx hb dL_law_185 (by decide) ?_
          refine lv_iload hx hb dL_law_187 (lv_at hl 0 rfl) ?_
          refine jr_iadd hx hb dL_law_189 ?_
          refine jr_nm (b := ((10 + u : Nat) : Int)) (by omega) ?_
          refine jr_iconst hx hb dL_law_190 ?_
          refine jk_Si (va_runS (As := [.ref b, vi ((10 + u : Nat) : Int), vi 2]) (rest := [vi (u : Int), .ref aQ]) ⟨hx, hb, hml, hown, htl⟩ (m_L_pick l g b n9 xs hn9 (10 + u) (by omega) 2 (by omega)) (va_cwS 3 htl lk_L_140 rfl rfl rfl cwS_L_pick ⟨Nat.le_of_ble_eq_true rfl, Nat.le_of_ble_eq_true rfl⟩) (jp_X hKK hX hbl hbA hS hAb trivial) rfl rfl hl.1 rfl (lv_room (Nat.le_of_ble_eq_true rfl)) dL_law_191 ⟨by show _ ≤ 600312; omega, by show _ ≤ 7293826; omega⟩) (fun z191 hz191 => ?_)
          refine jr_ifne (tgt := 218) hx hb dL_law_194 (by decide) ⟨by omega, by omega⟩ (fun c194 => ?_) (fun c194 => ?_)
          · refine lv_aload_n hx hb dL_law_218 rfl (lv_at hl 5 rfl) ?_
            refine jr_sipush hx hb dL_law_219 (by decide) ?_
            refine jr_bipush hx hb dL_law_222 (by decide) ?_
            refine lv_iload hx hb dL_law_224 (lv_at hl 0 rfl) ?_
            refine jr_imul hx hb dL_law_226 ?_
            refine jr_iadd hx hb dL_law_227 ?_
            refine jr_nm (b := ((600 + 90 * u : Nat) : Int)) (by omega) ?_
            refine jr_bipush hx hb dL_law_228 (by decide) ?_
            refine kl_Nr (N := fun a x => aT g a x) (va_runS (As := [.ref b, vi ((600 + 90 * u : Nat) : Int), vi 9]) (rest := [vi (u : Int), .ref aQ]) ⟨hx, hb, hml, hown, htl⟩ (m_L_text l g b n9 xs hn9 (600 + 90 * u) (by omega) 9 (by omega) H.size) (va_cwS 3 htl lk_L_202 rfl rfl rfl cwS_L_text ⟨Nat.le_of_ble_eq_true rfl, Nat.le_of_ble_eq_true rfl⟩) (jp_X hKK hX hbl hbA hS hAb ⟨rfl, (fun k q h => by cases h), ⟨fun i j p q h => (by cases h), fun k q h => by cases h⟩⟩) rfl rfl hl.1 rfl (lv_room (Nat.le_of_ble_eq_true rfl)) dL_law_230 ⟨by show _ ≤ 600312; omega, by show _ ≤ 7293826; omega⟩) (ws := (([aQ2 g aQ fq] ++ ar) ++ w165)) hP hD hS hA ?_
            clear hP hD hS; intro tS x_tS H locs hz230 hP hD hS
            obtain ⟨xS, f_tS⟩ := x_tS
            obtain ⟨hx_tS, hn1_tS, hn2_tS⟩ : AT xS f_tS ∧ 1 ≤ xS.length ∧ (xS.length : Int) ≤ 9 := hz230
            have hP : PP g (([aI g tS 61 f_tS, aQ2 g aQ fq] ++ ar) ++ w165) H := hP
            have hD : va_D A (([aI g tS 61 f_tS, aQ2 g aQ fq] ++ ar) ++ w165) := hD
            refine W.widen (k := ((411 + 380 * u) + 1)) (n := ((14016 + 2600 * u) + 61)) (by omega) (by omega) ?_
            refine jr_qast hx hb hQo hKK.k hP hD hS 1 0 rfl rfl u rfl (by omega) dL_law_233 ?_
            clear hP hD hS; intro H locs hP hD hS
            have hP : PP g (([aI g tS 61 f_tS, aQ2 g aQ (va_up fq u (some tS))] ++ ar) ++ w165) H := hP
            have hD : va_D A (([aI g tS 61 f_tS, aQ2 g aQ (va_up fq u (some tS))] ++ ar) ++ w165) := hD
            refine lv_aload_n hx hb dL_law_234 rfl (lv_at hl 4 rfl) ?_
            refine lv_aload_n hx hb dL_law_235 rfl (lv_at hl 2 rfl) ?_
            refine lv_iload hx hb dL_law_236 (lv_at hl 0 rfl) ?_
            refine jr_qald hx hb hKK.k hP 1 rfl u rfl (by omega) (va_up_self _ _ _) dL_law_238 ?_
            refine lv_aload_n hx hb dL_law_239 rfl (lv_at hl 5 rfl) ?_
            refine jr_sipush hx hb dL_law_240 (by decide) ?_
            refine jr_bipush hx hb dL_law_243 (by decide) ?_
            refine lv_iload hx hb dL_law_245 (lv_at hl 0 rfl) ?_
            refine jr_imul hx hb dL_law_247 ?_
            refine jr_iadd hx hb dL_law_248 ?_
            refine jr_nm (b := ((1200 + 90 * u : Nat) : Int)) (by omega) ?_
            refine jr_bipush hx hb dL_law_249 (by decide) ?_
            refine kl_Nr (N := fun a x => aT g a x) (va_runS (As := [.ref b, vi ((1200 + 90 * u : Nat) : Int), vi 7]) (rest := [.ref tS, .ref o]) ⟨hx, hb, hml, hown, htl⟩ (m_L_text l g b n9 xs hn9 (1200 + 90 * u) (by omega) 7 (by omega) H.size) (va_cwS 3 htl lk_L_202 rfl rfl rfl cwS_L_text ⟨Nat.le_of_ble_eq_true rfl, Nat.le_of_ble_eq_true rfl⟩) (jp_X hKK hX hbl hbA hS hAb ⟨rfl, (fun k q h => by cases h), ⟨fun i j p q h => (by cases h), fun k q h => by cases h⟩⟩) rfl rfl hl.1 rfl (lv_room (Nat.le_of_ble_eq_true rfl)) dL_law_251 ⟨by show _ ≤ 600312; omega, by show _ ≤ 7293826; omega⟩) (ws := (([aI g tS 61 f_tS, aQ2 g aQ (va_up fq u (some tS))] ++ ar) ++ w165)) hP hD hS hA ?_
            clear hP hD hS; intro tT x_tT H locs hz251 hP hD hS
            obtain ⟨xT, f_tT⟩ := x_tT
            obtain ⟨hx_tT, hn1_tT, hn2_tT⟩ : AT xT f_tT ∧ 1 ≤ xT.length ∧ (xT.length : Int) ≤ 7 := hz251
            have hP : PP g (([aI g tT 61 f_tT, aI g tS 61 f_tS, aQ2 g aQ (va_up fq u (some tS))] ++ ar) ++ w165) H := hP
            have hD : va_D A (([aI g tT 61 f_tT, aI g tS 61 f_tS, aQ2 g aQ (va_up fq u (some tS))] ++ ar) ++ w165) := hD
            refine W.widen (k := ((411 + 380 * u) + 2)) (n := ((14016 + 2600 * u) + 122)) (by omega) (by omega) ?_
            refine kl_Qi (cs := ([aI g tT 61 f_tT, aI g tS 61 f_tS, aQ2 g aQ (va_up fq u (some tS))] ++ ar)) (va_runS (As := [.ref o, .ref tS, .ref tT]) (rest := []) ⟨hx, hb, hml, hown, htl⟩ (m_L_unit l hsT g o Sx w165 hC H.size tS xS f_tS hx_tS tT xT f_tT hx_tT hn1_tS hn1_tT (by have := hUx.2.1; omega) (kw_ne1 (cs := ([aI g tT 61 f_tT, aI g tS 61 f_tS, aQ2 g aQ (va_up fq u (some tS))] ++ ar)) hD 1 rfl) (kw_ne1 (cs := ([aI g tT 61 f_tT, aI g tS 61 f_tS, aQ2 g aQ (va_up fq u (some tS))] ++ ar)) hD 0 rfl)) (va_cwS 3 htl lk_L_206 rfl rfl rfl cwS_L_unit ⟨Nat.le_of_ble_eq_true rfl, Nat.le_of_ble_eq_true rfl⟩) (jp_S hKK hS hAb ⟨rfl, (kw_P (cs := ([aI g tT 61 f_tT, aI g tS 61 f_tS, aQ2 g aQ (va_up fq u (some tS))] ++ ar)) hP), (hD.right (a := ([aI g tT 61 f_tT, aI g tS 61 f_tS, aQ2 g aQ (va_up fq u (some tS))] ++ ar))).weaken (fun _ q _ h => hAb _ h), (va_P.sub hP [1] rfl), (va_P.sub hP [0] rfl)⟩) rfl rfl hl.1 rfl (lv_room (Nat.le_of_ble_eq_true rfl)) dL_law_254 ⟨by show _ ≤ 600312; omega, by show _ ≤ 7293826; omega⟩) hP hD hS hA ?_
            clear hP hD hS hC; intro z254 H locs w254 hz254 hC hP hD hS
            have hP : PP g (([aI g tT 61 f_tT, aI g tS 61 f_tS, aQ2 g aQ (va_up fq u (some tS))] ++ ar) ++ w254) H := hP
            have hD : va_D A (([aI g tT 61 f_tT, aI g tS 61 f_tS, aQ2 g aQ (va_up fq u (some tS))] ++ ar) ++ w254) := hD
            refine W.widen (k := ((411 + 380 * u) + 374)) (n := ((14016 + 2600 * u) + 2533)) (by omega) (by omega) ?_
            have hC : CW g o (nxUnit Sx xS xT) w254 := hC
            have hz254 : z254 = (u : Int) := hz254.trans (by rw [hUx.2.1])
            subst hz254
            refine lv_iload hx hb dL_law_257 (lv_at hl 0 rfl) ?_
            refine jr_ne (tgt := 266) hx hb dL_law_259 (by decide) ⟨by omega, by omega⟩ ⟨by omega, by omega⟩ (fun c259 => absurd c259 (by omega)) (fun c259 => ?_)
            refine jr_iconst hx hb dL_law_262 ?_
            refine lv_goto (tgt := 267) hx hb dL_law_263 (by decide) ?_
            refine lv_istore_n (lv' := [(2, vi 1), (5, vi (u : Int)), (4, vi (many : Int)), (3, .ref aQ), (1, .ref o), (0, .ref b)]) hx hb dL_law_267 rfl hl (by decide) rfl (fun ls hl => ?_)
            refine jr_iinc (lv' := [(5, vi ((u : Int) + 1)), (2, vi 1), (4, vi (many : Int)), (3, .ref aQ), (1, .ref o), (0, .ref b)]) hx hb dL_law_268 hl (k := 1) rfl rfl (by decide) rfl (fun ls hl => ?_)
            refine lv_goto (tgt := 165) hx hb dL_law_271 (by decide) ?_
            have hP : PP g (([aI g tS 61 f_tS, aQ2 g aQ (va_up fq u (some tS))] ++ ar) ++ w254) H := hP.tl
            have hD : va_D A (([aI g tS 61 f_tS, aQ2 g aQ (va_up fq u (some tS))] ++ ar) ++ w254) := hD.tl
            have hP : PP g (([aQ2 g aQ (va_up fq u (some tS))] ++ (aI g tS 61 f_tS :: ar)) ++ w254) H := hP.perm (List.Perm.swap _ _ _)
            have hD : va_D A (([aQ2 g aQ (va_up fq u (some tS))] ++ (aI g tS 61 f_tS :: ar)) ++ w254) := hD.perm (List.Perm.swap _ _ _)
            refine W.widen (k := (411 + 380 * (u + 1))) (n := (14016 + 2600 * (u + 1))) (by omega) (by omega) ?_
            exact ih165 (u + 1) _ (va_up fq u (some tS)) (aI g tS 61 f_tS :: ar) (fup sa u tS) (fup ys u xS) (fup ff u f_tS) _ (by omega) (hUx.push hx_tS hn1_tS hn1_tT) (hLx.push) (hC) (by omega) _ _ hP hD hS ls (lv_sub hl [0, 2, 3, 1, 4, 5] rfl)
          · refine lv_aload_n hx hb dL_law_197 rfl (lv_at hl 2 rfl) ?_
            refine lv_iload hx hb dL_law_198 (lv_at hl 0 rfl) ?_
            refine jr_iconst hx hb dL_law_200 ?_
            refine jr_isub hx hb dL_law_201 ?_
            obtain ⟨t, ht⟩ : ∃ t : Nat, u = t + 1 := ⟨u - 1, by omega⟩
            have hsu := hUx.1 t (by have := hUx.2.1; omega)
            refine jr_qald hx hb hKK.k hP 0 rfl t (by omega) (by omega) hsu.1 dL_law_202 ?_
            refine lv_aload_n hx hb dL_law_203 rfl (lv_at hl 5 rfl) ?_
            refine jr_bipush hx hb dL_law_204 (by decide) ?_
            refine jr_bipush hx hb dL_law_206 (by decide) ?_
            refine lv_iload hx hb dL_law_208 (lv_at hl 0 rfl) ?_
            refine jr_imul hx hb dL_law_210 ?_
            refine jr_iadd hx hb dL_law_211 ?_
            refine jr_nm (b := ((100 + 70 * u : Nat) : Int)) (by omega) ?_
            refine kl_Nr (N := fun a x => aT g a x) (va_runS (As := [.ref (sa t), .ref b, vi ((100 + 70 * u : Nat) : Int)]) (rest := [vi (u : Int), .ref aQ]) ⟨hx, hb, hml, hown, htl⟩ (m_L_like l g (sa t) (ys t) (ff t) hsu.2.1 hsu.2.2.2.2 b n9 xs hn9 (100 + 70 * u) (by omega) H.size) (va_cwS 3 htl lk_L_198 rfl rfl rfl cwS_L_like ⟨Nat.le_of_ble_eq_true rfl, Nat.le_of_ble_eq_true rfl⟩) (jp_X hKK hX hbl hbA hS hAb ⟨rfl, (fun k q h => by cases h), ⟨fun i j p q h => (by cases h), fun k q h => by cases h⟩, (hP.mem fun q hq => List.mem_append_left _ (List.mem_append_right _ (by rw [List.mem_singleton.mp hq]; exact hsu.2.2.1)))⟩) rfl rfl hl.1 rfl (lv_room (Nat.le_of_ble_eq_true rfl)) dL_law_212 ⟨by show _ ≤ 600312; omega, by show _ ≤ 7293826; omega⟩) (ws := (([aQ2 g aQ fq] ++ ar) ++ w165)) hP hD hS hA ?_
            clear hP hD hS; intro tS x_tS H locs hz212 hP hD hS
            obtain ⟨xS, f_tS⟩ := x_tS
            obtain ⟨hx_tS, hn1_tS, hn2_tS⟩ : AT xS f_tS ∧ 1 ≤ xS.length ∧ xS.length ≤ (ys t).length := hz212
            have hP : PP g (([aI g tS 61 f_tS, aQ2 g aQ fq] ++ ar) ++ w165) H := hP
            have hD : va_D A (([aI g tS 61 f_tS, aQ2 g aQ fq] ++ ar) ++ w165) := hD
            refine W.widen (k := ((411 + 380 * u) + 1)) (n := ((14016 + 2600 * u) + 61)) (by omega) (by omega) ?_
            refine lv_goto (tgt := 233) hx hb dL_law_215 (by decide) ?_
            refine jr_qast hx hb hQo hKK.k hP hD hS 1 0 rfl rfl u rfl (by omega) dL_law_233 ?_
            clear hP hD hS; intro H locs hP hD hS
            have hP : PP g (([aI g tS 61 f_tS, aQ2 g aQ (va_up fq u (some tS))] ++ ar) ++ w165) H := hP
            have hD : va_D A (([aI g tS 61 f_tS, aQ2 g aQ (va_up fq u (some tS))] ++ ar) ++ w165) := hD
            refine lv_aload_n hx hb dL_law_234 rfl (lv_at hl 4 rfl) ?_
            refine lv_aload_n hx hb dL_law_235 rfl (lv_at hl 2 rfl) ?_
            refine lv_iload hx hb dL_law_236 (lv_at hl 0 rfl) ?_
            refine jr_qald hx hb hKK.k hP 1 rfl u rfl (by omega) (va_up_self _ _ _) dL_law_238 ?_
            refine lv_aload_n hx hb dL_law_239 rfl (lv_at hl 5 rfl) ?_
            refine jr_sipush hx hb dL_law_240 (by decide) ?_
            refine jr_bipush hx hb dL_law_243 (by decide) ?_
            refine lv_iload hx hb dL_law_245 (lv_at hl 0 rfl) ?_
            refine jr_imul hx hb dL_law_247 ?_
            refine jr_iadd hx hb dL_law_248 ?_
            refine jr_nm (b := ((1200 + 90 * u : Nat) : Int)) (by omega) ?_
            refine jr_bipush hx hb dL_law_249 (by decide) ?_
            refine kl_Nr (N := fun a x => aT g a x) (va_runS (As := [.ref b, vi ((1200 + 90 * u : Nat) : Int), vi 7]) (rest := [.ref tS, .ref o]) ⟨hx, hb, hml, hown, htl⟩ (m_L_text l g b n9 xs hn9 (1200 + 90 * u) (by omega) 7 (by omega) H.size) (va_cwS 3 htl lk_L_202 rfl rfl rfl cwS_L_text ⟨Nat.le_of_ble_eq_true rfl, Nat.le_of_ble_eq_true rfl⟩) (jp_X hKK hX hbl hbA hS hAb ⟨rfl, (fun k q h => by cases h), ⟨fun i j p q h => (by cases h), fun k q h => by cases h⟩⟩) rfl rfl hl.1 rfl (lv_room (Nat.le_of_ble_eq_true rfl)) dL_law_251 ⟨by show _ ≤ 600312; omega, by show _ ≤ 7293826; omega⟩) (ws := (([aI g tS 61 f_tS, aQ2 g aQ (va_up fq u (some tS))] ++ ar) ++ w165)) hP hD hS hA ?_
            clear hP hD hS; intro tT x_tT H locs hz251 hP hD hS
            obtain ⟨xT, f_tT⟩ := x_tT
            obtain ⟨hx_tT, hn1_tT, hn2_tT⟩ : AT xT f_tT ∧ 1 ≤ xT.length ∧ (xT.length : Int) ≤ 7 := hz251
            have hP : PP g (([aI g tT 61 f_tT, aI g tS 61 f_tS, aQ2 g aQ (va_up fq u (some tS))] ++ ar) ++ w165) H := hP
            have hD : va_D A (([aI g tT 61 f_tT, aI g tS 61 f_tS, aQ2 g aQ (va_up fq u (some tS))] ++ ar) ++ w165) := hD
            refine W.widen (k := ((411 + 380 * u) + 2)) (n := ((14016 + 2600 * u) + 122)) (by omega) (by omega) ?_
            refine kl_Qi (cs := ([aI g tT 61 f_tT, aI g tS 61 f_tS, aQ2 g aQ (va_up fq u (some tS))] ++ ar)) (va_runS (As := [.ref o, .ref tS, .ref tT]) (rest := []) ⟨hx, hb, hml, hown, htl⟩ (m_L_unit l hsT g o Sx w165 hC H.size tS xS f_tS hx_tS tT xT f_tT hx_tT hn1_tS hn1_tT (by have := hUx.2.1; omega) (kw_ne1 (cs := ([aI g tT 61 f_tT, aI g tS 61 f_tS, aQ2 g aQ (va_up fq u (some tS))] ++ ar)) hD 1 rfl) (kw_ne1 (cs := ([aI g tT 61 f_tT, aI g tS 61 f_tS, aQ2 g aQ (va_up fq u (some tS))] ++ ar)) hD 0 rfl)) (va_cwS 3 htl lk_L_206 rfl rfl rfl cwS_L_unit ⟨Nat.le_of_ble_eq_true rfl, Nat.le_of_ble_eq_true rfl⟩) (jp_S hKK hS hAb ⟨rfl, (kw_P (cs := ([aI g tT 61 f_tT, aI g tS 61 f_tS, aQ2 g aQ (va_up fq u (some tS))] ++ ar)) hP), (hD.right (a := ([aI g tT 61 f_tT, aI g tS 61 f_tS, aQ2 g aQ (va_up fq u (some tS))] ++ ar))).weaken (fun _ q _ h => hAb _ h), (va_P.sub hP [1] rfl), (va_P.sub hP [0] rfl)⟩) rfl rfl hl.1 rfl (lv_room (Nat.le_of_ble_eq_true rfl)) dL_law_254 ⟨by show _ ≤ 600312; omega, by show _ ≤ 7293826; omega⟩) hP hD hS hA ?_
            clear hP hD hS hC; intro z254 H locs w254 hz254 hC hP hD hS
            have hP : PP g (([aI g tT 61 f_tT, aI g tS 61 f_tS, aQ2 g aQ (va_up fq u (some tS))] ++ ar) ++ w254) H := hP
            have hD : va_D A (([aI g tT 61 f_tT, aI g tS 61 f_tS, aQ2 g aQ (va_up fq u (some tS))] ++ ar) ++ w254) := hD
            refine W.widen (k := ((411 + 380 * u) + 374)) (n := ((14016 + 2600 * u) + 2533)) (by omega) (by omega) ?_
            have hC : CW g o (nxUnit Sx xS xT) w254 := hC
            have hz254 : z254 = (u : Int) := hz254.trans (by rw [hUx.2.1])
            subst hz254
            refine lv_iload hx hb dL_law_257 (lv_at hl 0 rfl) ?_
            refine jr_ne (tgt := 266) hx hb dL_law_259 (by decide) ⟨by omega, by omega⟩ ⟨by omega, by omega⟩ (fun c259 => absurd c259 (by omega)) (fun c259 => ?_)
            refine jr_iconst hx hb dL_law_262 ?_
            refine lv_goto (tgt := 267) hx hb dL_law_263 (by decide) ?_
            refine lv_istore_n (lv' := [(2, vi 1), (5, vi (u : Int)), (4, vi (many : Int)), (3, .ref aQ), (1, .ref o), (0, .ref b)]) hx hb dL_law_267 rfl hl (by decide) rfl (fun ls hl => ?_)
            refine jr_iinc (lv' := [(5, vi ((u : Int) + 1)), (2, vi 1), (4, vi (many : Int)), (3, .ref aQ), (1, .ref o), (0, .ref b)]) hx hb dL_law_268 hl (k := 1) rfl rfl (by decide) rfl (fun ls hl => ?_)
            refine lv_goto (tgt := 165) hx hb dL_law_271 (by decide) ?_
            have hP : PP g (([aI g tS 61 f_tS, aQ2 g aQ (va_up fq u (some tS))] ++ ar) ++ w254) H := hP.tl
            have hD : va_D A (([aI g tS 61 f_tS, aQ2 g aQ (va_up fq u (some tS))] ++ ar) ++ w254) := hD.tl
            have hP : PP g (([aQ2 g aQ (va_up fq u (some tS))] ++ (aI g tS 61 f_tS :: ar)) ++ w254) H := hP.perm (List.Perm.swap _ _ _)
            have hD : va_D A (([aQ2 g aQ (va_up fq u (some tS))] ++ (aI g tS 61 f_tS :: ar)) ++ w254) := hD.perm (List.Perm.swap _ _ _)
            refine W.widen (k := (411 + 380 * (u + 1))) (n := (14016 + 2600 * (u + 1))) (by omega) (by omega) ?_
            exact ih165 (u + 1) _ (va_up fq u (some tS)) (aI g tS 61 f_tS :: ar) (fup sa u tS) (fup ys u xS) (fup ff u f_tS) _ (by omega) (hUx.push hx_tS hn1_tS hn1_tT) (hLx.push) (hC) (by omega) _ _ hP hD hS ls (lv_sub hl [0, 2, 3, 1, 4, 5] rfl)
  refine W.widen (k := 411 + 380 * 0) (n := 14016 + 2600 * 0) (by omega) (by omega) ?_
  exact lp165 _ 0 S (fun _ => none) [] (fun _ => 0) (fun _ => []) (fun _ _ => 0) _ (Nat.zero_le _) (UP.z hn0) (LIV.z hn0) (hC) (Nat.lt_succ_self _) _ _ hP hD hS ls (lv_sub hl [0, 1, 2, 3, 4, 5] rfl)
