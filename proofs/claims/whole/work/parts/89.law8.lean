
theorem lk_L_153 : GoodIn WSL (wsV RL 153 RX10 yX10_clear (ws_ yX10_clear cX10_clear 2 (some .int))) := gd_app (List.forall_mem_cons.mpr ⟨wd_10_5, List.forall_mem_cons.mpr ⟨wd_10_6, List.forall_mem_cons.mpr ⟨wd_10_7, List.forall_mem_cons.mpr ⟨wd_1_2, fun _ h => nomatch h⟩⟩⟩⟩) (gd_ wd_10_8)
theorem cwV_X10_clear : yX10_clear.cls = RX10 ∧ yX10_clear.cls ≠ "java/lang/invoke/MethodHandle" ∧ yX10_clear.cls ≠ "java/lang/invoke/VarHandle" ∧ (parseMethodDescriptor yX10_clear.desc).map (fun d => d.parameters.length) = some 0 := by decide +kernel
theorem lk_L_156 : GoodIn WSL (wsV RL 156 RX11 yX11_clear (ws_ yX11_clear cX11_clear 2 (some .int))) := gd_app (List.forall_mem_cons.mpr ⟨wd_10_13, List.forall_mem_cons.mpr ⟨wd_10_14, List.forall_mem_cons.mpr ⟨wd_10_15, List.forall_mem_cons.mpr ⟨wd_1_5, fun _ h => nomatch h⟩⟩⟩⟩) (gd_ wd_10_16)
theorem cwV_X11_clear : yX11_clear.cls = RX11 ∧ yX11_clear.cls ≠ "java/lang/invoke/MethodHandle" ∧ yX11_clear.cls ≠ "java/lang/invoke/VarHandle" ∧ (parseMethodDescriptor yX11_clear.desc).map (fun d => d.parameters.length) = some 0 := by decide +kernel
theorem lk_L_181 : GoodIn WSL (wsV RL 181 RX10 yX10_units (ws_ yX10_units cX10_units 1 (some .int))) := gd_app (List.forall_mem_cons.mpr ⟨wd_21_11, List.forall_mem_cons.mpr ⟨wd_21_12, List.forall_mem_cons.mpr ⟨wd_21_13, List.forall_mem_cons.mpr ⟨wd_1_2, fun _ h => nomatch h⟩⟩⟩⟩) (gd_ wd_21_14)
theorem cwV_X10_units : yX10_units.cls = RX10 ∧ yX10_units.cls ≠ "java/lang/invoke/MethodHandle" ∧ yX10_units.cls ≠ "java/lang/invoke/VarHandle" ∧ (parseMethodDescriptor yX10_units.desc).map (fun d => d.parameters.length) = some 0 := by decide +kernel
theorem lk_L_184 : GoodIn WSL (wsV RL 184 RX11 yX11_units (ws_ yX11_units cX11_units 1 (some .int))) := gd_app (List.forall_mem_cons.mpr ⟨wd_21_15, List.forall_mem_cons.mpr ⟨wd_21_16, List.forall_mem_cons.mpr ⟨wd_21_17, List.forall_mem_cons.mpr ⟨wd_1_5, fun _ h => nomatch h⟩⟩⟩⟩) (gd_ wd_21_18)
theorem cwV_X11_units : yX11_units.cls = RX11 ∧ yX11_units.cls ≠ "java/lang/invoke/MethodHandle" ∧ yX11_units.cls ≠ "java/lang/invoke/VarHandle" ∧ (parseMethodDescriptor yX11_units.desc).map (fun d => d.parameters.length) = some 0 := by decide +kernel
theorem lk_L_215 : GoodIn WSL (wsV RL 215 RX10 yX10_segments (ws_ yX10_segments cX10_segments 1 (some .int))) := gd_app (List.forall_mem_cons.mpr ⟨wd_35_5, List.forall_mem_cons.mpr ⟨wd_35_6, List.forall_mem_cons.mpr ⟨wd_35_7, List.forall_mem_cons.mpr ⟨wd_1_2, fun _ h => nomatch h⟩⟩⟩⟩) (gd_ wd_35_8)
theorem cwV_X10_segments : yX10_segments.cls = RX10 ∧ yX10_segments.cls ≠ "java/lang/invoke/MethodHandle" ∧ yX10_segments.cls ≠ "java/lang/invoke/VarHandle" ∧ (parseMethodDescriptor yX10_segments.desc).map (fun d => d.parameters.length) = some 0 := by decide +kernel
theorem lk_L_218 : GoodIn WSL (wsV RL 218 RX11 yX11_segments (ws_ yX11_segments cX11_segments 1 (some .int))) := gd_app (List.forall_mem_cons.mpr ⟨wd_35_9, List.forall_mem_cons.mpr ⟨wd_35_10, List.forall_mem_cons.mpr ⟨wd_35_11, List.forall_mem_cons.mpr ⟨wd_1_5, fun _ h => nomatch h⟩⟩⟩⟩) (gd_ wd_35_12)
theorem cwV_X11_segments : yX11_segments.cls = RX11 ∧ yX11_segments.cls ≠ "java/lang/invoke/MethodHandle" ∧ yX11_segments.cls ≠ "java/lang/invoke/VarHandle" ∧ (parseMethodDescriptor yX11_segments.desc).map (fun d => d.parameters.length) = some 0 := by decide +kernel
theorem lk_L_249 : GoodIn WSL (wsV RL 249 RX10 yX10_repeats (ws_ yX10_repeats cX10_repeats 3 (some .int))) := gd_app (List.forall_mem_cons.mpr ⟨wd_46_6, List.forall_mem_cons.mpr ⟨wd_46_7, List.forall_mem_cons.mpr ⟨wd_46_8, List.forall_mem_cons.mpr ⟨wd_1_2, fun _ h => nomatch h⟩⟩⟩⟩) (gd_ wd_46_9)
theorem cwV_X10_repeats : yX10_repeats.cls = RX10 ∧ yX10_repeats.cls ≠ "java/lang/invoke/MethodHandle" ∧ yX10_repeats.cls ≠ "java/lang/invoke/VarHandle" ∧ (parseMethodDescriptor yX10_repeats.desc).map (fun d => d.parameters.length) = some 0 := by decide +kernel
theorem lk_L_252 : GoodIn WSL (wsV RL 252 RX11 yX11_repeats (ws_ yX11_repeats cX11_repeats 5 (some .int))) := gd_app (List.forall_mem_cons.mpr ⟨wd_46_14, List.forall_mem_cons.mpr ⟨wd_46_15, List.forall_mem_cons.mpr ⟨wd_46_16, List.forall_mem_cons.mpr ⟨wd_1_5, fun _ h => nomatch h⟩⟩⟩⟩) (gd_ wd_46_17)
theorem cwV_X11_repeats : yX11_repeats.cls = RX11 ∧ yX11_repeats.cls ≠ "java/lang/invoke/MethodHandle" ∧ yX11_repeats.cls ≠ "java/lang/invoke/VarHandle" ∧ (parseMethodDescriptor yX11_repeats.desc).map (fun d => d.parameters.length) = some 0 := by decide +kernel
theorem lk_L_253 : GoodIn WSL (wsV RL 253 RX10 yX10_openWeight (ws_ yX10_openWeight cX10_openWeight 5 (some .long))) := gd_app (List.forall_mem_cons.mpr ⟨wd_46_18, List.forall_mem_cons.mpr ⟨wd_46_19, List.forall_mem_cons.mpr ⟨wd_46_20, List.forall_mem_cons.mpr ⟨wd_1_2, fun _ h => nomatch h⟩⟩⟩⟩) (gd_ wd_46_21)
theorem cwV_X10_openWeight : yX10_openWeight.cls = RX10 ∧ yX10_openWeight.cls ≠ "java/lang/invoke/MethodHandle" ∧ yX10_openWeight.cls ≠ "java/lang/invoke/VarHandle" ∧ (parseMethodDescriptor yX10_openWeight.desc).map (fun d => d.parameters.length) = some 0 := by decide +kernel
theorem lk_L_257 : GoodIn WSL (wsV RL 257 RX11 yX11_openWeight (ws_ yX11_openWeight cX11_openWeight 5 (some .long))) := gd_app (List.forall_mem_cons.mpr ⟨wd_46_23, List.forall_mem_cons.mpr ⟨wd_47_0, List.forall_mem_cons.mpr ⟨wd_47_1, List.forall_mem_cons.mpr ⟨wd_1_5, fun _ h => nomatch h⟩⟩⟩⟩) (gd_ wd_47_2)
theorem cwV_X11_openWeight : yX11_openWeight.cls = RX11 ∧ yX11_openWeight.cls ≠ "java/lang/invoke/MethodHandle" ∧ yX11_openWeight.cls ≠ "java/lang/invoke/VarHandle" ∧ (parseMethodDescriptor yX11_openWeight.desc).map (fun d => d.parameters.length) = some 0 := by decide +kernel
theorem lkH_filledShare : GoodIn WSL (va_wsS RL 258 yL_filledShare ((Cond.codeWith yL_filledShare cL_filledShare 3 (some .int) [(0, 8, 11, 124)]) :: WSL)) := gd_app (List.forall_mem_cons.mpr ⟨wd_47_3, List.forall_mem_cons.mpr ⟨wd_47_4, List.forall_mem_cons.mpr ⟨wd_6_16, fun _ h => nomatch h⟩⟩⟩) (gdw wd_47_5)
theorem cwS_L_filledShare : yL_filledShare.cls ≠ "java/lang/invoke/MethodHandle" ∧ yL_filledShare.cls ≠ "java/lang/invoke/VarHandle" ∧ (parseMethodDescriptor yL_filledShare.desc).map (fun d => d.parameters.length) = some 2 := by decide +kernel
theorem lk_L_261 : GoodIn WSL (wsV RL 261 RX11 yX11_filledShare (ws_ yX11_filledShare cX11_filledShare 3 (some .float))) := gd_app (List.forall_mem_cons.mpr ⟨wd_47_17, List.forall_mem_cons.mpr ⟨wd_47_18, List.forall_mem_cons.mpr ⟨wd_47_19, List.forall_mem_cons.mpr ⟨wd_1_5, fun _ h => nomatch h⟩⟩⟩⟩) (gd_ wd_47_20)
theorem cwV_X11_filledShare : yX11_filledShare.cls = RX11 ∧ yX11_filledShare.cls ≠ "java/lang/invoke/MethodHandle" ∧ yX11_filledShare.cls ≠ "java/lang/invoke/VarHandle" ∧ (parseMethodDescriptor yX11_filledShare.desc).map (fun d => d.parameters.length) = some 0 := by decide +kernel
theorem lkH_meanLikeness : GoodIn WSL (va_wsS RL 262 yL_meanLikeness ((Cond.codeWith yL_meanLikeness cL_meanLikeness 3 (some .int) [(0, 7, 10, 15), (0, 7, 13, 124)]) :: WSL)) := gd_app (List.forall_mem_cons.mpr ⟨wd_47_21, List.forall_mem_cons.mpr ⟨wd_47_22, List.forall_mem_cons.mpr ⟨wd_6_16, fun _ h => nomatch h⟩⟩⟩) (gdw wd_47_23)
theorem cwS_L_meanLikeness : yL_meanLikeness.cls ≠ "java/lang/invoke/MethodHandle" ∧ yL_meanLikeness.cls ≠ "java/lang/invoke/VarHandle" ∧ (parseMethodDescriptor yL_meanLikeness.desc).map (fun d => d.parameters.length) = some 2 := by decide +kernel
theorem lk_L_264 : GoodIn WSL (wsV RL 264 RX11 yX11_meanLikeness (ws_ yX11_meanLikeness cX11_meanLikeness 4 (some .double))) := gd_app (List.forall_mem_cons.mpr ⟨wd_48_8, List.forall_mem_cons.mpr ⟨wd_48_9, List.forall_mem_cons.mpr ⟨wd_48_10, List.forall_mem_cons.mpr ⟨wd_1_5, fun _ h => nomatch h⟩⟩⟩⟩) (gd_ wd_48_11)
theorem cwV_X11_meanLikeness : yX11_meanLikeness.cls = RX11 ∧ yX11_meanLikeness.cls ≠ "java/lang/invoke/MethodHandle" ∧ yX11_meanLikeness.cls ≠ "java/lang/invoke/VarHandle" ∧ (parseMethodDescriptor yX11_meanLikeness.desc).map (fun d => d.parameters.length) = some 0 := by decide +kernel
theorem lk_L_265 : GoodIn WSL (wsV RL 265 RX10 yX10_isSound (ws_ yX10_isSound cX10_isSound 2 (some .boolean))) := gd_app (List.forall_mem_cons.mpr ⟨wd_48_12, List.forall_mem_cons.mpr ⟨wd_48_13, List.forall_mem_cons.mpr ⟨wd_48_14, List.forall_mem_cons.mpr ⟨wd_1_2, fun _ h => nomatch h⟩⟩⟩⟩) (gd_ wd_48_15)
theorem cwV_X10_isSound : yX10_isSound.cls = RX10 ∧ yX10_isSound.cls ≠ "java/lang/invoke/MethodHandle" ∧ yX10_isSound.cls ≠ "java/lang/invoke/VarHandle" ∧ (parseMethodDescriptor yX10_isSound.desc).map (fun d => d.parameters.length) = some 0 := by decide +kernel
theorem lk_L_269 : GoodIn WSL (wsV RL 269 RX11 yX11_isSound (ws_ yX11_isSound cX11_isSound 1 (some .boolean))) := gd_app (List.forall_mem_cons.mpr ⟨wd_49_0, List.forall_mem_cons.mpr ⟨wd_49_1, List.forall_mem_cons.mpr ⟨wd_49_2, List.forall_mem_cons.mpr ⟨wd_1_5, fun _ h => nomatch h⟩⟩⟩⟩) (gd_ wd_49_3)
theorem cwV_X11_isSound : yX11_isSound.cls = RX11 ∧ yX11_isSound.cls ≠ "java/lang/invoke/MethodHandle" ∧ yX11_isSound.cls ≠ "java/lang/invoke/VarHandle" ∧ (parseMethodDescriptor yX11_isSound.desc).map (fun d => d.parameters.length) = some 0 := by decide +kernel
set_option maxHeartbeats 4000000 in
set_option maxRecDepth 100000 in
theorem lc_clear (l : Launch) (hsT : l.stackTraces = false) {g : GT} {cj cd : ClassId} {p : Program} {e : Env} {s : State} {m : MethodId} {b : Nat} {below : List Frame} {meth : Method} {c : Code} {Q : State → Prop} {ox om a1 a2 i k L : Nat} {xs : Nat → Int32} (hx : p.tables.exec = Jvm.exec) (hb : c.code = cL_law) (hml : c.maxLocals = 9) (hown : s.vm.findClass RL = some m.cls) (htl : ∀ w ∈ WSL, w.before #[Value.ref b] s = true) (hKK : KK g s) (hKJ : KJ g cj cd s) (hgb : gb g = s.heap.size) (hX : va_X b L xs s s.heap) (hbl : b < s.heap.size) (hi : i + 5 ≤ L) (hL : L ≤ 2560) (hk : k < 512) (K : LK g cj cd p l e s m b below meth c Q ox om a1 a2 (i + 5) (k + 1))
    (S : SGM) (z : Int) (w1 w2 : va_W) (f1 : Nat → Int64) (f2 : Nat → UInt64) (H : Heap) (locs : List Loc) (hCW : CW g ox S w1) (hMW : MW g om S z w2) (hSI : SI S) (hP : PP g (aJ cj a1 f1 :: aD1 cd a2 f2 :: (w1 ++ w2)) H) (hD : va_D (fun q => gb g ≤ q) (aJ cj a1 f1 :: aD1 cd a2 f2 :: (w1 ++ w2))) (hS : va_S (fun q => gb g ≤ q) s.heap H locs) (ls : Array Slot) (hl : lv_has ls 9 [(5, vi (i : Int)), (0, .ref b), (1, .ref ox), (2, .ref om), (3, .ref a1), (4, .ref a2)]) : W p l e room_1 s m #[Value.ref b] below meth c H locs (50 + 361 * k) (13700 + 13026 * k) Q (F0 m 442 ls []) := by
  have hbA : ¬ (fun q => gb g ≤ q) b := by show ¬ gb g ≤ b; omega
  have hAb : ∀ q, (fun q => gb g ≤ q) q → gb g ≤ q := fun _ h => h
  refine lv_aload_n hx hb dL_law_442 rfl (lv_at hl 2 rfl) ?_
  have hDw := (hD.perm pmC).left
  have hPw : PP g w1 H := (hP.perm pmC).mem fun q h => List.mem_append_left _ h
  have hsz : ∀ q, H.size ≤ q → gb g ≤ q := fun q h => by have := hS.1; omega
  have hFl : ∀ q, va_A w1 H.size q → gb g ≤ q := va_A_sub hDw (Nat.le_refl _) hsz
  refine jk_Qi (va_runV (As := []) (rest := []) ⟨hx, hb, hml, hown, htl⟩ (m_X10_clear l hsT g ox S w1 hCW H.size) (cwV 0 htl lk_L_153 rfl rfl rfl cwV_X10_clear ⟨Nat.le_of_ble_eq_true rfl, Nat.le_of_ble_eq_true rfl⟩) (jp_V hKK hS hAb (CW.recv hKK hCW hPw) ⟨rfl, hPw, hDw⟩) rfl rfl hl.1 rfl (lv_room (Nat.le_of_ble_eq_true rfl)) dL_law_443 ⟨by show _ ≤ 603072; omega, by show _ ≤ 7219306; omega⟩) hS (fun q _ h => hFl q h) hFl (fun z3 H1 locs hz3 hzs hks hS => ?_)
  obtain ⟨hz3, v1w, hC9, hP1, hD1⟩ := hz3
  obtain ⟨hP, hD⟩ := lj_C hP hD hks hFl hP1 hD1
  clear hks hzs hP1 hD1; generalize H1 = H at hP hD hS ⊢
  clear hFl hsz hPw hDw
  subst hz3
  refine W.widen (k := 50 + 361 * (k + 1)) (n := 13700 + 13026 * (k + 1)) (by omega) (by omega) ?_
  refine lv_aload_n hx hb dL_law_446 rfl (lv_at hl 3 rfl) ?_
  have hPm : PP g w2 H := (hP.perm pmB).mem fun q h => List.mem_append_left _ h
  have hDm := (hD.perm pmB).left
  have hsz : ∀ q, H.size ≤ q → gb g ≤ q := fun q h => by have := hS.1; omega
  refine jk_Qi (va_runV (As := []) (rest := [vi (S.1.length : Int)]) ⟨hx, hb, hml, hown, htl⟩ (m_X11_clear l g om S z w2 hMW) (cwV 0 htl lk_L_156 rfl rfl rfl cwV_X11_clear ⟨Nat.le_of_ble_eq_true rfl, Nat.le_of_ble_eq_true rfl⟩) (jp_V hKK hS hAb (MW.recv hKK hMW hPm) ⟨hPm, hDm⟩) rfl rfl hl.1 rfl (lv_room (Nat.le_of_ble_eq_true rfl)) dL_law_447 ⟨by show _ ≤ 603072; omega, by show _ ≤ 7219306; omega⟩) hS (fun q _ h => hDm.inA h) (fun q h => hDm.inA h) (fun zm H1 locs hzm hzs hks hS => ?_)
  obtain ⟨hzm, v2w, hM9, hP2, hD2⟩ := hzm
  obtain ⟨hP, hD⟩ := lj_M hP hD hsz hks hP2 hD2
  clear hks hzs hP2 hD2 hPm hDm hsz; generalize H1 = H at hP hD hS ⊢
  subst hzm
  refine lv_icmp_eq (tgt := 2202) hx hb dL_law_450 (by decide) (fun _ => ?_) (fun h9 => absurd rfl h9)
  refine jr_iinc (lv' := [(5, vi ((i : Int) + 5)), (0, .ref b), (1, .ref ox), (2, .ref om), (3, .ref a1), (4, .ref a2)]) hx hb dL_law_2202 hl (k := 0) rfl rfl (by decide) rfl (fun ls hl => ?_)
  refine lv_goto (tgt := 28) hx hb dL_law_2205 (by decide) ?_
  exact K (([], S.2)) _ v1w v2w f1 f2 H locs hC9 hM9 (SI.nil _ rfl) hP hD hS ls (lv_sub hl [0, 1, 2, 3, 4, 5] rfl)
set_option maxHeartbeats 4000000 in
set_option maxRecDepth 100000 in
theorem lc_units (l : Launch) (hsT : l.stackTraces = false) {g : GT} {cj cd : ClassId} {p : Program} {e : Env} {s : State} {m : MethodId} {b : Nat} {below : List Frame} {meth : Method} {c : Code} {Q : State → Prop} {ox om a1 a2 i k L : Nat} {xs : Nat → Int32} (hx : p.tables.exec = Jvm.exec) (hb : c.code = cL_law) (hml : c.maxLocals = 9) (hown : s.vm.findClass RL = some m.cls) (htl : ∀ w ∈ WSL, w.before #[Value.ref b] s = true) (hKK : KK g s) (hKJ : KJ g cj cd s) (hgb : gb g = s.heap.size) (hX : va_X b L xs s s.heap) (hbl : b < s.heap.size) (hi : i + 5 ≤ L) (hL : L ≤ 2560) (hk : k < 512) (K : LK g cj cd p l e s m b below meth c Q ox om a1 a2 (i + 5) (k + 1))
    (S : SGM) (z : Int) (w1 w2 : va_W) (f1 : Nat → Int64) (f2 : Nat → UInt64) (H : Heap) (locs : List Loc) (hCW : CW g ox S w1) (hMW : MW g om S z w2) (hSI : SI S) (hP : PP g (aJ cj a1 f1 :: aD1 cd a2 f2 :: (w1 ++ w2)) H) (hD : va_D (fun q => gb g ≤ q) (aJ cj a1 f1 :: aD1 cd a2 f2 :: (w1 ++ w2))) (hS : va_S (fun q => gb g ≤ q) s.heap H locs) (ls : Array Slot) (hl : lv_has ls 9 [(5, vi (i : Int)), (0, .ref b), (1, .ref ox), (2, .ref om), (3, .ref a1), (4, .ref a2)]) : W p l e room_1 s m #[Value.ref b] below meth c H locs (50 + 361 * k) (13700 + 13026 * k) Q (F0 m 878 ls []) := by
  have hbA : ¬ (fun q => gb g ≤ q) b := by show ¬ gb g ≤ b; omega
  have hAb : ∀ q, (fun q => gb g ≤ q) q → gb g ≤ q := fun _ h => h
  refine lv_aload_n hx hb dL_law_878 rfl (lv_at hl 2 rfl) ?_
  have hDw := (hD.perm pmC).left
  have hPw : PP g w1 H := (hP.perm pmC).mem fun q h => List.mem_append_left _ h
  have hsz : ∀ q, H.size ≤ q → gb g ≤ q := fun q h => by have := hS.1; omega
  have hFl : ∀ q, va_A w1 H.size q → gb g ≤ q := va_A_sub hDw (Nat.le_refl _) hsz
  refine jk_Si (va_runV (As := []) (rest := []) ⟨hx, hb, hml, hown, htl⟩ (m_X10_units l hsT g ox S w1 hCW) (cwV 0 htl lk_L_181 rfl rfl rfl cwV_X10_units ⟨Nat.le_of_ble_eq_true rfl, Nat.le_of_ble_eq_true rfl⟩) (jp_V hKK hS hAb (CW.recv hKK hCW hPw) hPw) rfl rfl hl.1 rfl (lv_room (Nat.le_of_ble_eq_true rfl)) dL_law_879 ⟨by show _ ≤ 603072; omega, by show _ ≤ 7219306; omega⟩) (fun z3 hz3 => ?_)
  clear hFl hsz hPw hDw
  subst hz3
  refine W.widen (k := 50 + 361 * (k + 1)) (n := 13700 + 13026 * (k + 1)) (by omega) (by omega) ?_
  refine lv_aload_n hx hb dL_law_882 rfl (lv_at hl 3 rfl) ?_
  have hPm : PP g w2 H := (hP.perm pmB).mem fun q h => List.mem_append_left _ h
  have hDm := (hD.perm pmB).left
  have hsz : ∀ q, H.size ≤ q → gb g ≤ q := fun q h => by have := hS.1; omega
  refine jk_Qi (va_runV (As := []) (rest := [vi (nU S : Int)]) ⟨hx, hb, hml, hown, htl⟩ (m_X11_units l g om S z w2 hMW) (cwV 0 htl lk_L_184 rfl rfl rfl cwV_X11_units ⟨Nat.le_of_ble_eq_true rfl, Nat.le_of_ble_eq_true rfl⟩) (jp_V hKK hS hAb (MW.recv hKK hMW hPm) ⟨hPm, hDm⟩) rfl rfl hl.1 rfl (lv_room (Nat.le_of_ble_eq_true rfl)) dL_law_883 ⟨by show _ ≤ 603072; omega, by show _ ≤ 7219306; omega⟩) hS (fun q _ h => hDm.inA h) (fun q h => hDm.inA h) (fun zm H1 locs hzm hzs hks hS => ?_)
  obtain ⟨hzm, v2w, hM9, hP2, hD2⟩ := hzm
  obtain ⟨hP, hD⟩ := lj_M hP hD hsz hks hP2 hD2
  clear hks hzs hP2 hD2 hPm hDm hsz; generalize H1 = H at hP hD hS ⊢
  subst hzm
  refine lv_icmp_eq (tgt := 2202) hx hb dL_law_886 (by decide) (fun _ => ?_) (fun h9 => absurd rfl h9)
  refine jr_iinc (lv' := [(5, vi ((i : Int) + 5)), (0, .ref b), (1, .ref ox), (2, .ref om), (3, .ref a1), (4, .ref a2)]) hx hb dL_law_2202 hl (k := 0) rfl rfl (by decide) rfl (fun ls hl => ?_)
  refine lv_goto (tgt := 28) hx hb dL_law_2205 (by decide) ?_
  exact K S _ w1 v2w f1 f2 H locs hCW hM9 hSI hP hD hS ls (lv_sub hl [0, 1, 2, 3, 4, 5] rfl)
set_option maxHeartbeats 4000000 in
set_option maxRecDepth 100000 in
theorem lc_segments (l : Launch) (hsT : l.stackTraces = false) {g : GT} {cj cd : ClassId} {p : Program} {e : Env} {s : State} {m : MethodId} {b : Nat} {below : List Frame} {meth : Method} {c : Code} {Q : State → Prop} {ox om a1 a2 i k L : Nat} {xs : Nat → Int32} (hx : p.tables.exec = Jvm.exec) (hb : c.code = cL_law) (hml : c.maxLocals = 9) (hown : s.vm.findClass RL = some m.cls) (htl : ∀ w ∈ WSL, w.before #[Value.ref b] s = true) (hKK : KK g s) (hKJ : KJ g cj cd s) (hgb : gb g = s.heap.size) (hX : va_X b L xs s s.heap) (hbl : b < s.heap.size) (hi : i + 5 ≤ L) (hL : L ≤ 2560) (hk : k < 512) (K : LK g cj cd p l e s m b below meth c Q ox om a1 a2 (i + 5) (k + 1))
    (S : SGM) (z : Int) (w1 w2 : va_W) (f1 : Nat → Int64) (f2 : Nat → UInt64) (H : Heap) (locs : List Loc) (hCW : CW g ox S w1) (hMW : MW g om S z w2) (hSI : SI S) (hP : PP g (aJ cj a1 f1 :: aD1 cd a2 f2 :: (w1 ++ w2)) H) (hD : va_D (fun q => gb g ≤ q) (aJ cj a1 f1 :: aD1 cd a2 f2 :: (w1 ++ w2))) (hS : va_S (fun q => gb g ≤ q) s.heap H locs) (ls : Array Slot) (hl : lv_has ls 9 [(5, vi (i : Int)), (0, .ref b), (1, .ref ox), (2, .ref om), (3, .ref a1), (4, .ref a2)]) : W p l e room_1 s m #[Value.ref b] below meth c H locs (50 + 361 * k) (13700 + 13026 * k) Q (F0 m 1422 ls []) := by
  have hbA : ¬ (fun q => gb g ≤ q) b := by show ¬ gb g ≤ b; omega
  have hAb : ∀ q, (fun q => gb g ≤ q) q → gb g ≤ q := fun _ h => h
  refine lv_aload_n hx hb dL_law_1422 rfl (lv_at hl 2 rfl) ?_
  have hDw := (hD.perm pmC).left
  have hPw : PP g w1 H := (hP.perm pmC).mem fun q h => List.mem_append_left _ h
  have hsz : ∀ q, H.size ≤ q → gb g ≤ q := fun q h => by have := hS.1; omega
  have hFl : ∀ q, va_A w1 H.size q → gb g ≤ q := va_A_sub hDw (Nat.le_refl _) hsz
  refine jk_Si (va_runV (As := []) (rest := []) ⟨hx, hb, hml, hown, htl⟩ (m_X10_segments l hsT g ox S w1 hCW) (cwV 0 htl lk_L_215 rfl rfl rfl cwV_X10_segments ⟨Nat.le_of_ble_eq_true rfl, Nat.le_of_ble_eq_true rfl⟩) (jp_V hKK hS hAb (CW.recv hKK hCW hPw) hPw) rfl rfl hl.1 rfl (lv_room (Nat.le_of_ble_eq_true rfl)) dL_law_1423 ⟨by show _ ≤ 603072; omega, by show _ ≤ 7219306; omega⟩) (fun z3 hz3 => ?_)
  clear hFl hsz hPw hDw
  subst hz3
  refine W.widen (k := 50 + 361 * (k + 1)) (n := 13700 + 13026 * (k + 1)) (by omega) (by omega) ?_
  refine lv_aload_n hx hb dL_law_1426 rfl (lv_at hl 3 rfl) ?_
  have hPm : PP g w2 H := (hP.perm pmB).mem fun q h => List.mem_append_left _ h
  have hDm := (hD.perm pmB).left
  have hsz : ∀ q, H.size ≤ q → gb g ≤ q := fun q h => by have := hS.1; omega
  refine jk_Qi (va_runV (As := []) (rest := [vi (nS S : Int)]) ⟨hx, hb, hml, hown, htl⟩ (m_X11_segments l g om S z w2 hMW) (cwV 0 htl lk_L_218 rfl rfl rfl cwV_X11_segments ⟨Nat.le_of_ble_eq_true rfl, Nat.le_of_ble_eq_true rfl⟩) (jp_V hKK hS hAb (MW.recv hKK hMW hPm) ⟨hPm, hDm⟩) rfl rfl hl.1 rfl (lv_room (Nat.le_of_ble_eq_true rfl)) dL_law_1427 ⟨by show _ ≤ 603072; omega, by show _ ≤ 7219306; omega⟩) hS (fun q _ h => hDm.inA h) (fun q h => hDm.inA h) (fun zm H1 locs hzm hzs hks hS => ?_)
  obtain ⟨hzm, v2w, hM9, hP2, hD2⟩ := hzm
  obtain ⟨hP, hD⟩ := lj_M hP hD hsz hks hP2 hD2
  clear hks hzs hP2 hD2 hPm hDm hsz; generalize H1 = H at hP hD hS ⊢
  subst hzm
  refine lv_icmp_eq (tgt := 2202) hx hb dL_law_1430 (by decide) (fun _ => ?_) (fun h9 => absurd rfl h9)
  refine jr_iinc (lv' := [(5, vi ((i : Int) + 5)), (0, .ref b), (1, .ref ox), (2, .ref om), (3, .ref a1), (4, .ref a2)]) hx hb dL_law_2202 hl (k := 0) rfl rfl (by decide) rfl (fun ls hl => ?_)
  refine lv_goto (tgt := 28) hx hb dL_law_2205 (by decide) ?_
  exact K S _ w1 v2w f1 f2 H locs hCW hM9 hSI hP hD hS ls (lv_sub hl [0, 1, 2, 3, 4, 5] rfl)
set_option maxHeartbeats 4000000 in
set_option maxRecDepth 100000 in
theorem lc_repeats (l : Launch) (hsT : l.stackTraces = false) {g : GT} {cj cd : ClassId} {p : Program} {e : Env} {s : State} {m : MethodId} {b : Nat} {below : List Frame} {meth : Method} {c : Code} {Q : State → Prop} {ox om a1 a2 i k L : Nat} {xs : Nat → Int32} (hx : p.tables.exec = Jvm.exec) (hb : c.code = cL_law) (hml : c.maxLocals = 9) (hown : s.vm.findClass RL = some m.cls) (htl : ∀ w ∈ WSL, w.before #[Value.ref b] s = true) (hKK : KK g s) (hKJ : KJ g cj cd s) (hgb : gb g = s.heap.size) (hX : va_X b L xs s s.heap) (hbl : b < s.heap.size) (hi : i + 5 ≤ L) (hL : L ≤ 2560) (hk : k < 512) (K : LK g cj cd p l e s m b below meth c Q ox om a1 a2 (i + 5) (k + 1))
    (S : SGM) (z : Int) (w1 w2 : va_W) (f1 : Nat → Int64) (f2 : Nat → UInt64) (H : Heap) (locs : List Loc) (hCW : CW g ox S w1) (hMW : MW g om S z w2) (hSI : SI S) (hP : PP g (aJ cj a1 f1 :: aD1 cd a2 f2 :: (w1 ++ w2)) H) (hD : va_D (fun q => gb g ≤ q) (aJ cj a1 f1 :: aD1 cd a2 f2 :: (w1 ++ w2))) (hS : va_S (fun q => gb g ≤ q) s.heap H locs) (ls : Array Slot) (hl : lv_has ls 9 [(5, vi (i : Int)), (0, .ref b), (1, .ref ox), (2, .ref om), (3, .ref a1), (4, .ref a2)]) : W p l e room_1 s m #[Value.ref b] below meth c H locs (50 + 361 * k) (13700 + 13026 * k) Q (F0 m 2031 ls []) := by
  have hbA : ¬ (fun q => gb g ≤ q) b := by show ¬ gb g ≤ b; omega
  have hAb : ∀ q, (fun q => gb g ≤ q) q → gb g ≤ q := fun _ h => h
  refine lv_aload_n hx hb dL_law_2031 rfl (lv_at hl 2 rfl) ?_
  have hDw := (hD.perm pmC).left
  have hPw : PP g w1 H := (hP.perm pmC).mem fun q h => List.mem_append_left _ h
  have hsz : ∀ q, H.size ≤ q → gb g ≤ q := fun q h => by have := hS.1; omega
  have hFl : ∀ q, va_A w1 H.size q → gb g ≤ q := va_A_sub hDw (Nat.le_refl _) hsz
  refine jk_Si (va_runV (As := []) (rest := []) ⟨hx, hb, hml, hown, htl⟩ (m_X10_repeats l hsT g ox S w1 hCW) (cwV 0 htl lk_L_249 rfl rfl rfl cwV_X10_repeats ⟨Nat.le_of_ble_eq_true rfl, Nat.le_of_ble_eq_true rfl⟩) (jp_V hKK hS hAb (CW.recv hKK hCW hPw) hPw) rfl rfl hl.1 rfl (lv_room (Nat.le_of_ble_eq_true rfl)) dL_law_2032 ⟨by show _ ≤ 603072; omega, by show _ ≤ 7219306; omega⟩) (fun z3 hz3 => ?_)
  clear hFl hsz hPw hDw
  subst hz3
  refine W.widen (k := 50 + 361 * (k + 1)) (n := 13700 + 13026 * (k + 1)) (by omega) (by omega) ?_
  refine lv_aload_n hx hb dL_law_2035 rfl (lv_at hl 3 rfl) ?_
  have hPm : PP g w2 H := (hP.perm pmB).mem fun q h => List.mem_append_left _ h
  have hDm := (hD.perm pmB).left
  have hsz : ∀ q, H.size ≤ q → gb g ≤ q := fun q h => by have := hS.1; omega
  refine jk_Qi (va_runV (As := []) (rest := [vi (rpA (sS S) (nS S))]) ⟨hx, hb, hml, hown, htl⟩ (m_X11_repeats l g om S z w2 hMW) (cwV 0 htl lk_L_252 rfl rfl rfl cwV_X11_repeats ⟨Nat.le_of_ble_eq_true rfl, Nat.le_of_ble_eq_true rfl⟩) (jp_V hKK hS hAb (MW.recv hKK hMW hPm) ⟨hPm, hDm⟩) rfl rfl hl.1 rfl (lv_room (Nat.le_of_ble_eq_true rfl)) dL_law_2036 ⟨by show _ ≤ 603072; omega, by show _ ≤ 7219306; omega⟩) hS (fun q _ h => hDm.inA h) (fun q h => hDm.inA h) (fun zm H1 locs hzm hzs hks hS => ?_)
  obtain ⟨hzm, v2w, hM9, hP2, hD2⟩ := hzm
  obtain ⟨hP, hD⟩ := lj_M hP hD hsz hks hP2 hD2
  clear hks hzs hP2 hD2 hPm hDm hsz; generalize H1 = H at hP hD hS ⊢
  subst hzm
  refine lv_icmp_eq (tgt := 2202) hx hb dL_law_2039 (by decide) (fun _ => ?_) (fun h9 => absurd rfl h9)
  refine jr_iinc (lv' := [(5, vi ((i : Int) + 5)), (0, .ref b), (1, .ref ox), (2, .ref om), (3, .ref a1), (4, .ref a2)]) hx hb dL_law_2202 hl (k := 0) rfl rfl (by decide) rfl (fun ls hl => ?_)
  refine lv_goto (tgt := 28) hx hb dL_law_2205 (by decide) ?_
  exact K S _ w1 v2w f1 f2 H locs hCW hM9 hSI hP hD hS ls (lv_sub hl [0, 1, 2, 3, 4, 5] rfl)
set_option maxHeartbeats 4000000 in
set_option maxRecDepth 100000 in
theorem lc_openWeight (l : Launch) (hsT : l.stackTraces = false) {g : GT} {cj cd : ClassId} {p : Program} {e : Env} {s : State} {m : MethodId} {b : Nat} {below : List Frame} {meth : Method} {c : Code} {Q : State → Prop} {ox om a1 a2 i k L : Nat} {xs : Nat → Int32} (hx : p.tables.exec = Jvm.exec) (hb : c.code = cL_law) (hml : c.maxLocals = 9) (hown : s.vm.findClass RL = some m.cls) (htl : ∀ w ∈ WSL, w.before #[Value.ref b] s = true) (hKK : KK g s) (hKJ : KJ g cj cd s) (hgb : gb g = s.heap.size) (hX : va_X b L xs s s.heap) (hbl : b < s.heap.size) (hi : i + 5 ≤ L) (hL : L ≤ 2560) (hk : k < 512) (K : LK g cj cd p l e s m b below meth c Q ox om a1 a2 (i + 5) (k + 1))
    (S : SGM) (z : Int) (w1 w2 : va_W) (f1 : Nat → Int64) (f2 : Nat → UInt64) (H : Heap) (locs : List Loc) (hCW : CW g ox S w1) (hMW : MW g om S z w2) (hSI : SI S) (hP : PP g (aJ cj a1 f1 :: aD1 cd a2 f2 :: (w1 ++ w2)) H) (hD : va_D (fun q => gb g ≤ q) (aJ cj a1 f1 :: aD1 cd a2 f2 :: (w1 ++ w2))) (hS : va_S (fun q => gb g ≤ q) s.heap H locs) (ls : Array Slot) (hl : lv_has ls 9 [(5, vi (i : Int)), (0, .ref b), (1, .ref ox), (2, .ref om), (3, .ref a1), (4, .ref a2)]) : W p l e room_1 s m #[Value.ref b] below meth c H locs (50 + 361 * k) (13700 + 13026 * k) Q (F0 m 2044 ls []) := by
  have hbA : ¬ (fun q => gb g ≤ q) b := by show ¬ gb g ≤ b; omega
  have hAb : ∀ q, (fun q => gb g ≤ q) q → gb g ≤ q := fun _ h => h
  refine lv_aload_n hx hb dL_law_2044 rfl (lv_at hl 2 rfl) ?_
  have hDw := (hD.perm pmC).left
  have hPw : PP g w1 H := (hP.perm pmC).mem fun q h => List.mem_append_left _ h
  have hsz : ∀ q, H.size ≤ q → gb g ≤ q := fun q h => by have := hS.1; omega
  have hFl : ∀ q, va_A w1 H.size q → gb g ≤ q := va_A_sub hDw (Nat.le_refl _) hsz
  refine jk_Sl (va_runV (As := []) (rest := []) ⟨hx, hb, hml, hown, htl⟩ (m_X10_openWeight l hsT g ox S w1 hCW) (cwV 0 htl lk_L_253 rfl rfl rfl cwV_X10_openWeight ⟨Nat.le_of_ble_eq_true rfl, Nat.le_of_ble_eq_true rfl⟩) (jp_V hKK hS hAb (CW.recv hKK hCW hPw) hPw) rfl rfl hl.1 rfl (lv_room (Nat.le_of_ble_eq_true rfl)) dL_law_2045 ⟨by show _ ≤ 603072; omega, by show _ ≤ 7219306; omega⟩) (fun z3 hz3 => ?_)
  clear hFl hsz hPw hDw
  subst hz3
  refine W.widen (k := 50 + 361 * (k + 1)) (n := 13700 + 13026 * (k + 1)) (by omega) (by omega) ?_
  refine lv_aload_n hx hb dL_law_2048 rfl (lv_at hl 3 rfl) ?_
  have hPm : PP g w2 H := (hP.perm pmB).mem fun q h => List.mem_append_left _ h
  have hDm := (hD.perm pmB).left
  have hsz : ∀ q, H.size ≤ q → gb g ≤ q := fun q h => by have := hS.1; omega
  refine jk_Ql (va_runV (As := []) (rest := [.long (Int64.ofInt (owA S.2.2.2.1 (sS S) (nS S)))]) ⟨hx, hb, hml, hown, htl⟩ (m_X11_openWeight l g om S z w2 hMW) (cwV 0 htl lk_L_257 rfl rfl rfl cwV_X11_openWeight ⟨Nat.le_of_ble_eq_true rfl, Nat.le_of_ble_eq_true rfl⟩) (jp_V hKK hS hAb (MW.recv hKK hMW hPm) ⟨hPm, hDm⟩) rfl rfl hl.1 rfl (lv_room (Nat.le_of_ble_eq_true rfl)) dL_law_2049 ⟨by show _ ≤ 603072; omega, by show _ ≤ 7219306; omega⟩) hS (fun q _ h => hDm.inA h) (fun q h => hDm.inA h) (fun zm H1 locs hzm hzs hks hS => ?_)
  obtain ⟨hzm, v2w, hM9, hP2, hD2⟩ := hzm
  obtain ⟨hP, hD⟩ := lj_M hP hD hsz hks hP2 hD2
  clear hks hzs hP2 hD2 hPm hDm hsz; generalize H1 = H at hP hD hS ⊢
  subst hzm
  refine W.lcmp hx hb dL_law_2052 ?_
  refine lv_if_eq (tgt := 2202) hx hb dL_law_2053 (by decide) (fun _ => ?_) (fun h9 => absurd (lg_cmp_self _) h9)
  refine jr_iinc (lv' := [(5, vi ((i : Int) + 5)), (0, .ref b), (1, .ref ox), (2, .ref om), (3, .ref a1), (4, .ref a2)]) hx hb dL_law_2202 hl (k := 0) rfl rfl (by decide) rfl (fun ls hl => ?_)
  refine lv_goto (tgt := 28) hx hb dL_law_2205 (by decide) ?_
  exact K S _ w1 v2w f1 f2 H locs hCW hM9 hSI hP hD hS ls (lv_sub hl [0, 1, 2, 3, 4, 5] rfl)
set_option maxHeartbeats 4000000 in
set_option maxRecDepth 100000 in
theorem lc_filledShare (l : Launch) (hsT : l.stackTraces = false) {g : GT} {cj cd : ClassId} {p : Program} {e : Env} {s : State} {m : MethodId} {b : Nat} {below : List Frame} {meth : Method} {c : Code} {Q : State → Prop} {ox om a1 a2 i k L : Nat} {xs : Nat → Int32} (hx : p.tables.exec = Jvm.exec) (hb : c.code = cL_law) (hml : c.maxLocals = 9) (hown : s.vm.findClass RL = some m.cls) (htl : ∀ w ∈ WSL, w.before #[Value.ref b] s = true) (hKK : KK g s) (hKJ : KJ g cj cd s) (hgb : gb g = s.heap.size) (hX : va_X b L xs s s.heap) (hbl : b < s.heap.size) (hi : i + 5 ≤ L) (hL : L ≤ 2560) (hk : k < 512) (K : LK g cj cd p l e s m b below meth c Q ox om a1 a2 (i + 5) (k + 1))
    (S : SGM) (z : Int) (w1 w2 : va_W) (f1 : Nat → Int64) (f2 : Nat → UInt64) (H : Heap) (locs : List Loc) (hCW : CW g ox S w1) (hMW : MW g om S z w2) (hSI : SI S) (hP : PP g (aJ cj a1 f1 :: aD1 cd a2 f2 :: (w1 ++ w2)) H) (hD : va_D (fun q => gb g ≤ q) (aJ cj a1 f1 :: aD1 cd a2 f2 :: (w1 ++ w2))) (hS : va_S (fun q => gb g ≤ q) s.heap H locs) (ls : Array Slot) (hl : lv_has ls 9 [(5, vi (i : Int)), (0, .ref b), (1, .ref ox), (2, .ref om), (3, .ref a1), (4, .ref a2)]) : W p l e room_1 s m #[Value.ref b] below meth c H locs (50 + 361 * k) (13700 + 13026 * k) Q (F0 m 2058 ls []) := by
  have hbA : ¬ (fun q => gb g ≤ q) b := by show ¬ gb g ≤ b; omega
  have hAb : ∀ q, (fun q => gb g ≤ q) q → gb g ≤ q := fun _ h => h
  have hP := hP.perm (List.Perm.swap (aD1 cd a2 f2) (aJ cj a1 f1) (w1 ++ w2))
  have hD := hD.perm (List.Perm.swap (aD1 cd a2 f2) (aJ cj a1 f1) (w1 ++ w2))
  have hDc := (hD.perm pmA).left
  have hPc : PP g (aD1 cd a2 f2 :: w1) H := (hP.perm pmA).mem fun q h => List.mem_append_left _ h
  have hsz : ∀ q, H.size ≤ q → gb g ≤ q := fun q h => by have := hS.1; omega
  have hFl : ∀ q, va_A (aD1 cd a2 f2 :: w1) H.size q → gb g ≤ q := va_A_sub hDc (Nat.le_refl _) hsz
  refine lv_aload_n hx hb dL_law_2058 rfl (lv_at hl 2 rfl) ?_
  refine lv_aload hx hb dL_law_2059 (lv_at hl 5 rfl) ?_
  refine jk_Qi (vx_runSW (As := [.ref ox, .ref a2]) (rest := []) ⟨hx, hb, hml, hown, htl⟩ (m_L_filledShare l hsT g cj cd ox a2 f2 S w1 hCW H.size ) (vx_cwSW 2 htl lkH_filledShare rfl rfl rfl cwS_L_filledShare ⟨Nat.le_of_ble_eq_true rfl, Nat.le_of_ble_eq_true rfl⟩) (jp_H hKK hKJ hS hAb ⟨rfl, hPc, hDc⟩) rfl rfl hl.1 rfl (lv_room (Nat.le_of_ble_eq_true rfl)) dL_law_2061 ⟨by show _ ≤ 603072; omega, by show _ ≤ 7219306; omega⟩) hS (fun q _ h => hFl q h) hFl (fun z3 H1 locs hz3 hzs hks hS => ?_)
  obtain ⟨hz3, v1w, fn, hcase, hP1, hD1⟩ := hz3
  obtain ⟨hP, hD⟩ := lj_H hP hD hks hFl hP1 hD1
  subst hz3
  clear hks hzs hP1 hD1 hFl hsz hPc hDc; generalize H1 = H at hP hD hS ⊢
  refine W.widen (k := 50 + 361 * (k + 1)) (n := 13700 + 13026 * (k + 1)) (by omega) (by omega) ?_
  refine lv_istore (lv' := [(6, vi (cd1 (¬ nS S = 0))), (5, vi (i : Int)), (0, .ref b), (1, .ref ox), (2, .ref om), (3, .ref a1), (4, .ref a2)]) hx hb dL_law_2064 hl (by decide) rfl (fun ls hl => ?_)
  refine lv_aload_n hx hb dL_law_2066 rfl (lv_at hl 4 rfl) ?_
  have hPm : PP g w2 H := (hP.perm pmB).mem fun q h => List.mem_append_left _ h
  have hDm := (hD.perm pmB).left
  have hsz : ∀ q, H.size ≤ q → gb g ≤ q := fun q h => by have := hS.1; omega
  refine jk_Qf (va_runV (As := []) (rest := []) ⟨hx, hb, hml, hown, htl⟩ (m_X11_filledShare l g om S z w2 hMW ) (cwV 0 htl lk_L_261 rfl rfl rfl cwV_X11_filledShare ⟨Nat.le_of_ble_eq_true rfl, Nat.le_of_ble_eq_true rfl⟩) (jp_V hKK hS hAb (MW.recv hKK hMW hPm) ⟨hPm, hDm⟩) rfl rfl hl.1 rfl (lv_room (Nat.le_of_ble_eq_true rfl)) dL_law_2067 ⟨by show _ ≤ 603072; omega, by show _ ≤ 7219306; omega⟩) hS (fun q _ h => hDm.inA h) (fun q h => hDm.inA h) (fun zm H1 locs hzm hzs hks hS => ?_)
  obtain ⟨S9, v2w, hC9, hM9, hI9, hP2, hD2, hval⟩ : ∃ (S9 : SGM) (v2w : va_W), CW g ox S9 v1w ∧ MW g om S9 (cd1 (¬ nS S = 0)) v2w ∧ SI S9 ∧ PP g v2w H1 ∧ va_D (jA w2) v2w ∧ ((cd1 (¬ nS S = 0)) = 0 → fn 0 = FP.f2d (shr (cne (sS S) (nS S)) (nS S : Int)) ∧ zm = shr (cne (sS S) (nS S)) (nS S : Int)) := by
    rcases hcase with ⟨h1, h2, h3⟩ | ⟨h1, h2⟩ <;> rcases hzm with ⟨h4, h5, v2w, h6, h7, h8⟩ | ⟨h4, v2w, h6, h7, h8⟩
    · exact ⟨S, v2w, h2, by rw [h1]; exact h6, hSI, h7, h8, fun _ => ⟨h3, h5⟩⟩
    · exact absurd h1 h4
    · exact absurd h4 h1
    · exact ⟨S, v2w, h2, h6, hSI, h7, h8, fun q => absurd q h1⟩
  obtain ⟨hP, hD⟩ := lj_M hP hD hsz hks hP2 hD2
  clear hcase hks hzs hP2 hD2 hPm hDm hsz hzm; generalize H1 = H at hP hD hS ⊢
  have hP := hP.perm (List.Perm.swap (aJ cj a1 f1) (aD1 cd a2 fn) (v1w ++ v2w))
  have hD := hD.perm (List.Perm.swap (aJ cj a1 f1) (aD1 cd a2 fn) (v1w ++ v2w))
  refine lv_fstore (lv' := [(7, .float zm), (6, vi (cd1 (¬ nS S = 0))), (5, vi (i : Int)), (0, .ref b), (1, .ref ox), (2, .ref om), (3, .ref a1), (4, .ref a2)]) hx hb dL_law_2070 hl (by decide) rfl (fun ls hl => ?_)
  refine lv_aload_n hx hb dL_law_2072 rfl (lv_at hl 5 rfl) ?_
  refine jk_Si (va_runV (As := []) (rest := []) ⟨hx, hb, hml, hown, htl⟩ (m_X11_thrownW l g om S9 (cd1 (¬ nS S = 0)) v2w hM9) (cwV 0 htl lk_L_140 rfl rfl rfl cwV_X11_thrown ⟨Nat.le_of_ble_eq_true rfl, Nat.le_of_ble_eq_true rfl⟩) (jp_V hKK hS hAb (MW.recv hKK hM9 (hP.mem fun q h => List.mem_cons_of_mem _ (List.mem_cons_of_mem _ (List.mem_append_right _ h)))) (hP.mem fun q h => List.mem_cons_of_mem _ (List.mem_cons_of_mem _ (List.mem_append_right _ h)))) rfl rfl hl.1 rfl (lv_room (Nat.le_of_ble_eq_true rfl)) dL_law_2073 ⟨by show _ ≤ 603072; omega, by show _ ≤ 7219306; omega⟩) (fun z4 hz4 => ?_)
  subst hz4
  refine lv_iload hx hb dL_law_2076 (lv_at hl 1 rfl) ?_
  refine lv_icmp_eq (tgt := 2083) hx hb dL_law_2078 (by decide) (fun _ => ?_) (fun h9 => absurd rfl h9)
  refine lv_iload hx hb dL_law_2083 (lv_at hl 1 rfl) ?_
  have hcdR : jR (cd1 (¬ nS S = 0)) := by unfold cd1; (repeat' split) <;> exact ⟨by omega, by omega⟩
  refine lv_if_ne (tgt := 2121) hx hb dL_law_2085 (by decide) (fun h9 => ?_) (fun h9 => ?_)
  · refine lv_goto (tgt := 2202) hx hb dL_law_2121 (by decide) ?_
    refine jr_iinc (lv' := [(5, vi ((i : Int) + 5)), (7, .float zm), (6, vi (cd1 (¬ nS S = 0))), (0, .ref b), (1, .ref ox), (2, .ref om), (3, .ref a1), (4, .ref a2)]) hx hb dL_law_2202 hl (k := 2) rfl rfl (by decide) rfl (fun ls hl => ?_)
    refine lv_goto (tgt := 28) hx hb dL_law_2205 (by decide) ?_
    exact K S9 _ v1w v2w f1 fn H locs hC9 hM9 hI9 hP hD hS ls (lv_sub hl [0, 3, 4, 5, 6, 7] rfl)
  · have hc0 : (cd1 (¬ nS S = 0)) = 0 := (jI_inj hcdR ⟨by omega, by omega⟩).mp h9
    obtain ⟨hLV, hZ⟩ := hval hc0
    subst hZ
    refine lv_aload hx hb dL_law_2088 (lv_at hl 7 rfl) ?_
    refine jr_iconst hx hb dL_law_2090 ?_
    refine va_dald hx hb hKJ hP 1 1 rfl rfl (jI_in (by omega) (by omega) (by omega)) dL_law_2091 ?_
    rw [show (jI 0).toNatClampNeg = 0 from rfl, hLV]
    refine lv_fload hx hb dL_law_2092 (lv_at hl 0 rfl) ?_
    have h60 := (CW.n60 hCW).2
    have hcb := cne_b (sS S) (nS S)
    have hnz : ¬ nS S = 0 := fun q => by unfold cd1 at hc0; rw [if_pos (fun h => h q)] at hc0; exact absurd hc0 (by decide)
    refine lv_f2d hx hb dL_law_2094 (shr_ok ⟨by omega, by omega⟩ ⟨by omega, by omega⟩).2 ?_
    refine lv_dcmp hx hb dL_law_2095 ?_
    rw [dself ((shr_ok ⟨by omega, by omega⟩ ⟨by omega, by omega⟩).2)]
    refine lv_if_eq (tgt := 2121) hx hb dL_law_2096 (by decide) (fun _ => ?_) (fun h9 => absurd rfl h9)
    refine lv_goto (tgt := 2202) hx hb dL_law_2121 (by decide) ?_
    refine jr_iinc (lv' := [(5, vi ((i : Int) + 5)), (7, .float (shr (cne (sS S) (nS S)) (nS S : Int))), (6, vi (cd1 (¬ nS S = 0))), (0, .ref b), (1, .ref ox), (2, .ref om), (3, .ref a1), (4, .ref a2)]) hx hb dL_law_2202 hl (k := 2) rfl rfl (by decide) rfl (fun ls hl => ?_)
    refine lv_goto (tgt := 28) hx hb dL_law_2205 (by decide) ?_
    exact K S9 _ v1w v2w f1 fn H locs hC9 hM9 hI9 hP hD hS ls (lv_sub hl [0, 3, 4, 5, 6, 7] rfl)
set_option maxHeartbeats 4000000 in
set_option maxRecDepth 100000 in
theorem lc_meanLikeness (l : Launch) (hsT : l.stackTraces = false) {g : GT} {cj cd : ClassId} {p : Program} {e : Env} {s : State} {m : MethodId} {b : Nat} {below : List Frame} {meth : Method} {c : Code} {Q : State → Prop} {ox om a1 a2 i k L : Nat} {xs : Nat → Int32} (hx : p.tables.exec = Jvm.exec) (hb : c.code = cL_law) (hml : c.maxLocals = 9) (hown : s.vm.findClass RL = some m.cls) (htl : ∀ w ∈ WSL, w.before #[Value.ref b] s = true) (hKK : KK g s) (hKJ : KJ g cj cd s) (hgb : gb g = s.heap.size) (hX : va_X b L xs s s.heap) (hbl : b < s.heap.size) (hi : i + 5 ≤ L) (hL : L ≤ 2560) (hk : k < 512) (K : LK g cj cd p l e s m b below meth c Q ox om a1 a2 (i + 5) (k + 1))
    (S : SGM) (z : Int) (w1 w2 : va_W) (f1 : Nat → Int64) (f2 : Nat → UInt64) (H : Heap) (locs : List Loc) (hCW : CW g ox S w1) (hMW : MW g om S z w2) (hSI : SI S) (hP : PP g (aJ cj a1 f1 :: aD1 cd a2 f2 :: (w1 ++ w2)) H) (hD : va_D (fun q => gb g ≤ q) (aJ cj a1 f1 :: aD1 cd a2 f2 :: (w1 ++ w2))) (hS : va_S (fun q => gb g ≤ q) s.heap H locs) (ls : Array Slot) (hl : lv_has ls 9 [(5, vi (i : Int)), (0, .ref b), (1, .ref ox), (2, .ref om), (3, .ref a1), (4, .ref a2)]) : W p l e room_1 s m #[Value.ref b] below meth c H locs (50 + 361 * k) (13700 + 13026 * k) Q (F0 m 2124 ls []) := by
  have hbA : ¬ (fun q => gb g ≤ q) b := by show ¬ gb g ≤ b; omega
  have hAb : ∀ q, (fun q => gb g ≤ q) q → gb g ≤ q := fun _ h => h
  have hP := hP.perm (List.Perm.swap (aD1 cd a2 f2) (aJ cj a1 f1) (w1 ++ w2))
  have hD := hD.perm (List.Perm.swap (aD1 cd a2 f2) (aJ cj a1 f1) (w1 ++ w2))
  have hDc := (hD.perm pmA).left
  have hPc : PP g (aD1 cd a2 f2 :: w1) H := (hP.perm pmA).mem fun q h => List.mem_append_left _ h
  have hsz : ∀ q, H.size ≤ q → gb g ≤ q := fun q h => by have := hS.1; omega
  have hFl : ∀ q, va_A (aD1 cd a2 f2 :: w1) H.size q → gb g ≤ q := va_A_sub hDc (Nat.le_refl _) hsz
  refine lv_aload_n hx hb dL_law_2124 rfl (lv_at hl 2 rfl) ?_
  refine lv_aload hx hb dL_law_2125 (lv_at hl 5 rfl) ?_
  refine jk_Qi (vx_runSW (As := [.ref ox, .ref a2]) (rest := []) ⟨hx, hb, hml, hown, htl⟩ (m_L_meanLikeness l hsT g cj cd ox a2 f2 S w1 hCW H.size ) (vx_cwSW 2 htl lkH_meanLikeness rfl rfl rfl cwS_L_meanLikeness ⟨Nat.le_of_ble_eq_true rfl, Nat.le_of_ble_eq_true rfl⟩) (jp_H hKK hKJ hS hAb ⟨rfl, hPc, hDc⟩) rfl rfl hl.1 rfl (lv_room (Nat.le_of_ble_eq_true rfl)) dL_law_2127 ⟨by show _ ≤ 603072; omega, by show _ ≤ 7219306; omega⟩) hS (fun q _ h => hFl q h) hFl (fun z3 H1 locs hz3 hzs hks hS => ?_)
  obtain ⟨hz3, v1w, fn, hcase, hP1, hD1⟩ := hz3
  obtain ⟨hP, hD⟩ := lj_H hP hD hks hFl hP1 hD1
  subst hz3
  clear hks hzs hP1 hD1 hFl hsz hPc hDc; generalize H1 = H at hP hD hS ⊢
  refine W.widen (k := 50 + 361 * (k + 1)) (n := 13700 + 13026 * (k + 1)) (by omega) (by omega) ?_
  refine lv_istore (lv' := [(6, vi (cdMean S)), (5, vi (i : Int)), (0, .ref b), (1, .ref ox), (2, .ref om), (3, .ref a1), (4, .ref a2)]) hx hb dL_law_2130 hl (by decide) rfl (fun ls hl => ?_)
  refine lv_aload_n hx hb dL_law_2132 rfl (lv_at hl 4 rfl) ?_
  have hPm : PP g w2 H := (hP.perm pmB).mem fun q h => List.mem_append_left _ h
  have hDm := (hD.perm pmB).left
  have hsz : ∀ q, H.size ≤ q → gb g ≤ q := fun q h => by have := hS.1; omega
  refine jk_Qd (va_runV (As := []) (rest := []) ⟨hx, hb, hml, hown, htl⟩ (m_X11_meanLikeness l g om S z w2 hMW ) (cwV 0 htl lk_L_264 rfl rfl rfl cwV_X11_meanLikeness ⟨Nat.le_of_ble_eq_true rfl, Nat.le_of_ble_eq_true rfl⟩) (jp_V hKK hS hAb (MW.recv hKK hMW hPm) ⟨hPm, hDm⟩) rfl rfl hl.1 rfl (lv_room (Nat.le_of_ble_eq_true rfl)) dL_law_2133 ⟨by show _ ≤ 603072; omega, by show _ ≤ 7219306; omega⟩) hS (fun q _ h => hDm.inA h) (fun q h => hDm.inA h) (fun zm H1 locs hzm hzs hks hS => ?_)
  obtain ⟨S9, v2w, hC9, hM9, hI9, hP2, hD2, hval⟩ : ∃ (S9 : SGM) (v2w : va_W), CW g ox S9 v1w ∧ MW g om S9 (cdMean S) v2w ∧ SI S9 ∧ PP g v2w H1 ∧ va_D (jA w2) v2w ∧ ((cdMean S) = 0 → fn 0 = mnl (slv S.2.2.2.1 S.1 (uS S) (nU S)) (clv (uS S) (nU S)) ∧ zm = mnl (slv S.2.2.2.1 S.1 (uS S) (nU S)) (clv (uS S) (nU S))) := by
    rcases hcase with ⟨h1, h2, h3⟩ | ⟨h1, h2⟩ <;> rcases hzm with ⟨h4, h5, v2w, h6, h7, h8⟩ | ⟨h4, v2w, h6, h7, h8⟩
    · exact ⟨(S), v2w, h2, by rw [h1]; exact h6, hSI, h7, h8, fun _ => ⟨h3, h5⟩⟩
    · exact absurd h1 h4
    · exact absurd h4 h1
    · exact ⟨S, v2w, h2, h6, hSI, h7, h8, fun q => absurd q h1⟩
  obtain ⟨hP, hD⟩ := lj_M hP hD hsz hks hP2 hD2
  clear hcase hks hzs hP2 hD2 hPm hDm hsz hzm; generalize H1 = H at hP hD hS ⊢
  have hP := hP.perm (List.Perm.swap (aJ cj a1 f1) (aD1 cd a2 fn) (v1w ++ v2w))
  have hD := hD.perm (List.Perm.swap (aJ cj a1 f1) (aD1 cd a2 fn) (v1w ++ v2w))
  refine lv_dstore (lv' := [(7, .double zm), (6, vi (cdMean S)), (5, vi (i : Int)), (0, .ref b), (1, .ref ox), (2, .ref om), (3, .ref a1), (4, .ref a2)]) hx hb dL_law_2136 hl (by decide) rfl (fun ls hl => ?_)
  refine lv_aload_n hx hb dL_law_2138 rfl (lv_at hl 5 rfl) ?_
  refine jk_Si (va_runV (As := []) (rest := []) ⟨hx, hb, hml, hown, htl⟩ (m_X11_thrownW l g om S9 (cdMean S) v2w hM9) (cwV 0 htl lk_L_140 rfl rfl rfl cwV_X11_thrown ⟨Nat.le_of_ble_eq_true rfl, Nat.le_of_ble_eq_true rfl⟩) (jp_V hKK hS hAb (MW.recv hKK hM9 (hP.mem fun q h => List.mem_cons_of_mem _ (List.mem_cons_of_mem _ (List.mem_append_right _ h)))) (hP.mem fun q h => List.mem_cons_of_mem _ (List.mem_cons_of_mem _ (List.mem_append_right _ h)))) rfl rfl hl.1 rfl (lv_room (Nat.le_of_ble_eq_true rfl)) dL_law_2139 ⟨by show _ ≤ 603072; omega, by show _ ≤ 7219306; omega⟩) (fun z4 hz4 => ?_)
  subst hz4
  refine lv_iload hx hb dL_law_2142 (lv_at hl 1 rfl) ?_
  refine lv_icmp_eq (tgt := 2149) hx hb dL_law_2144 (by decide) (fun _ => ?_) (fun h9 => absurd rfl h9)
  refine lv_iload hx hb dL_law_2149 (lv_at hl 1 rfl) ?_
  have hcdR : jR (cdMean S) := by unfold cdMean; (repeat' split) <;> exact ⟨by omega, by omega⟩
  refine lv_if_ne (tgt := 2186) hx hb dL_law_2151 (by decide) (fun h9 => ?_) (fun h9 => ?_)
  · refine lv_goto (tgt := 2202) hx hb dL_law_2186 (by decide) ?_
    refine jr_iinc (lv' := [(5, vi ((i : Int) + 5)), (7, .double zm), (6, vi (cdMean S)), (0, .ref b), (1, .ref ox), (2, .ref om), (3, .ref a1), (4, .ref a2)]) hx hb dL_law_2202 hl (k := 2) rfl rfl (by decide) rfl (fun ls hl => ?_)
    refine lv_goto (tgt := 28) hx hb dL_law_2205 (by decide) ?_
    exact K S9 _ v1w v2w f1 fn H locs hC9 hM9 hI9 hP hD hS ls (lv_sub hl [0, 3, 4, 5, 6, 7] rfl)
  · have hc0 : (cdMean S) = 0 := (jI_inj hcdR ⟨by omega, by omega⟩).mp h9
    obtain ⟨hLV, hZ⟩ := hval hc0
    subst hZ
    refine lv_aload hx hb dL_law_2154 (lv_at hl 7 rfl) ?_
    refine jr_iconst hx hb dL_law_2156 ?_
    refine va_dald hx hb hKJ hP 1 1 rfl rfl (jI_in (by omega) (by omega) (by omega)) dL_law_2157 ?_
    rw [show (jI 0).toNatClampNeg = 0 from rfl, hLV]
    refine lv_dload hx hb dL_law_2158 (lv_at hl 0 rfl) ?_
    have hnz : ¬ clv (uS S) (nU S) = 0 := fun q => by unfold cdMean at hc0; rw [if_pos q] at hc0; split at hc0 <;> exact absurd hc0 (by decide)
    have h40 := (CW.n60 hCW).1
    have hmn : vf_n64 (mnl (slv S.2.2.2.1 S.1 (uS S) (nU S)) (clv (uS S) (nU S))) := mean_ok hCW hnz
    refine lv_dcmp hx hb dL_law_2160 ?_
    rw [dself (hmn)]
    refine lv_if_eq (tgt := 2186) hx hb dL_law_2161 (by decide) (fun _ => ?_) (fun h9 => absurd rfl h9)
    refine lv_goto (tgt := 2202) hx hb dL_law_2186 (by decide) ?_
    refine jr_iinc (lv' := [(5, vi ((i : Int) + 5)), (7, .double (mnl (slv S.2.2.2.1 S.1 (uS S) (nU S)) (clv (uS S) (nU S)))), (6, vi (cdMean S)), (0, .ref b), (1, .ref ox), (2, .ref om), (3, .ref a1), (4, .ref a2)]) hx hb dL_law_2202 hl (k := 2) rfl rfl (by decide) rfl (fun ls hl => ?_)
    refine lv_goto (tgt := 28) hx hb dL_law_2205 (by decide) ?_
    exact K S9 _ v1w v2w f1 fn H locs hC9 hM9 hI9 hP hD hS ls (lv_sub hl [0, 3, 4, 5, 6, 7] rfl)
set_option maxHeartbeats 4000000 in
set_option maxRecDepth 100000 in
theorem lc_isSound (l : Launch) (hsT : l.stackTraces = false) {g : GT} {cj cd : ClassId} {p : Program} {e : Env} {s : State} {m : MethodId} {b : Nat} {below : List Frame} {meth : Method} {c : Code} {Q : State → Prop} {ox om a1 a2 i k L : Nat} {xs : Nat → Int32} (hx : p.tables.exec = Jvm.exec) (hb : c.code = cL_law) (hml : c.maxLocals = 9) (hown : s.vm.findClass RL = some m.cls) (htl : ∀ w ∈ WSL, w.before #[Value.ref b] s = true) (hKK : KK g s) (hKJ : KJ g cj cd s) (hgb : gb g = s.heap.size) (hX : va_X b L xs s s.heap) (hbl : b < s.heap.size) (hi : i + 5 ≤ L) (hL : L ≤ 2560) (hk : k < 512) (K : LK g cj cd p l e s m b below meth c Q ox om a1 a2 (i + 5) (k + 1))
    (S : SGM) (z : Int) (w1 w2 : va_W) (f1 : Nat → Int64) (f2 : Nat → UInt64) (H : Heap) (locs : List Loc) (hCW : CW g ox S w1) (hMW : MW g om S z w2) (hSI : SI S) (hP : PP g (aJ cj a1 f1 :: aD1 cd a2 f2 :: (w1 ++ w2)) H) (hD : va_D (fun q => gb g ≤ q) (aJ cj a1 f1 :: aD1 cd a2 f2 :: (w1 ++ w2))) (hS : va_S (fun q => gb g ≤ q) s.heap H locs) (ls : Array Slot) (hl : lv_has ls 9 [(5, vi (i : Int)), (0, .ref b), (1, .ref ox), (2, .ref om), (3, .ref a1), (4, .ref a2)]) : W p l e room_1 s m #[Value.ref b] below meth c H locs (50 + 361 * k) (13700 + 13026 * k) Q (F0 m 2189 ls []) := by
  have hbA : ¬ (fun q => gb g ≤ q) b := by show ¬ gb g ≤ b; omega
  have hAb : ∀ q, (fun q => gb g ≤ q) q → gb g ≤ q := fun _ h => h
  refine lv_aload_n hx hb dL_law_2189 rfl (lv_at hl 2 rfl) ?_
  have hDw := (hD.perm pmC).left
  have hPw : PP g w1 H := (hP.perm pmC).mem fun q h => List.mem_append_left _ h
  have hsz : ∀ q, H.size ≤ q → gb g ≤ q := fun q h => by have := hS.1; omega
  have hFl : ∀ q, va_A w1 H.size q → gb g ≤ q := va_A_sub hDw (Nat.le_refl _) hsz
  refine jk_Qi (va_runV (As := []) (rest := []) ⟨hx, hb, hml, hown, htl⟩ (m_X10_isSound l hsT g ox S w1 hCW H.size) (cwV 0 htl lk_L_265 rfl rfl rfl cwV_X10_isSound ⟨Nat.le_of_ble_eq_true rfl, Nat.le_of_ble_eq_true rfl⟩) (jp_V hKK hS hAb (CW.recv hKK hCW hPw) ⟨rfl, hPw, hDw⟩) rfl rfl hl.1 rfl (lv_room (Nat.le_of_ble_eq_true rfl)) dL_law_2190 ⟨by show _ ≤ 603072; omega, by show _ ≤ 7219306; omega⟩) hS (fun q _ h => hFl q h) hFl (fun z3 H1 locs hz3 hzs hks hS => ?_)
  obtain ⟨hz3, v1w, hC9, hP1, hD1⟩ := hz3
  obtain ⟨hP, hD⟩ := lj_C hP hD hks hFl hP1 hD1
  clear hks hzs hP1 hD1; generalize H1 = H at hP hD hS ⊢
  clear hFl hsz hPw hDw
  subst hz3
  refine W.widen (k := 50 + 361 * (k + 1)) (n := 13700 + 13026 * (k + 1)) (by omega) (by omega) ?_
  refine lv_aload_n hx hb dL_law_2193 rfl (lv_at hl 3 rfl) ?_
  have hPm : PP g w2 H := (hP.perm pmB).mem fun q h => List.mem_append_left _ h
  have hDm := (hD.perm pmB).left
  have hsz : ∀ q, H.size ≤ q → gb g ≤ q := fun q h => by have := hS.1; omega
  refine jk_Qi (va_runV (As := []) (rest := [vi 1]) ⟨hx, hb, hml, hown, htl⟩ (m_X11_isSound l g om S z w2 hMW) (cwV 0 htl lk_L_269 rfl rfl rfl cwV_X11_isSound ⟨Nat.le_of_ble_eq_true rfl, Nat.le_of_ble_eq_true rfl⟩) (jp_V hKK hS hAb (MW.recv hKK hMW hPm) ⟨hPm, hDm⟩) rfl rfl hl.1 rfl (lv_room (Nat.le_of_ble_eq_true rfl)) dL_law_2194 ⟨by show _ ≤ 603072; omega, by show _ ≤ 7219306; omega⟩) hS (fun q _ h => hDm.inA h) (fun q h => hDm.inA h) (fun zm H1 locs hzm hzs hks hS => ?_)
  obtain ⟨hzm, v2w, hM9, hP2, hD2⟩ := hzm
  obtain ⟨hP, hD⟩ := lj_M hP hD hsz hks hP2 hD2
  clear hks hzs hP2 hD2 hPm hDm hsz; generalize H1 = H at hP hD hS ⊢
  subst hzm
  refine lv_icmp_eq (tgt := 2202) hx hb dL_law_2197 (by decide) (fun _ => ?_) (fun h9 => absurd rfl h9)
  refine jr_iinc (lv' := [(5, vi ((i : Int) + 5)), (0, .ref b), (1, .ref ox), (2, .ref om), (3, .ref a1), (4, .ref a2)]) hx hb dL_law_2202 hl (k := 0) rfl rfl (by decide) rfl (fun ls hl => ?_)
  refine lv_goto (tgt := 28) hx hb dL_law_2205 (by decide) ?_
  exact K (S) _ v1w v2w f1 f2 H locs hC9 hM9 hSI hP hD hS ls (lv_sub hl [0, 1, 2, 3, 4, 5] rfl)
