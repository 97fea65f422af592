
theorem lk_L_15 : GoodIn WSL (wsV RL 15 RX10 yX10_word (ws_ yX10_word cX10_word 2 (some .int))) := gd_app (List.forall_mem_cons.mpr ⟨wd_9_3, List.forall_mem_cons.mpr ⟨wd_9_4, List.forall_mem_cons.mpr ⟨wd_9_5, List.forall_mem_cons.mpr ⟨wd_1_2, fun _ h => nomatch h⟩⟩⟩⟩) (gd_ wd_9_6)
theorem cwV_X10_word : yX10_word.cls = RX10 ∧ yX10_word.cls ≠ "java/lang/invoke/MethodHandle" ∧ yX10_word.cls ≠ "java/lang/invoke/VarHandle" ∧ (parseMethodDescriptor yX10_word.desc).map (fun d => d.parameters.length) = some 1 := by decide +kernel
theorem lk_L_69 : GoodIn WSL (va_wsS RL 69 yL_plain (ws_ yL_plain cL_plain 6 (some .int))) := gd_app (List.forall_mem_cons.mpr ⟨wd_9_0, List.forall_mem_cons.mpr ⟨wd_9_1, List.forall_mem_cons.mpr ⟨wd_8_17, fun _ h => nomatch h⟩⟩⟩) (gd_ wd_9_2)
theorem cwS_L_plain : yL_plain.cls ≠ "java/lang/invoke/MethodHandle" ∧ yL_plain.cls ≠ "java/lang/invoke/VarHandle" ∧ (parseMethodDescriptor yL_plain.desc).map (fun d => d.parameters.length) = some 6 := by decide +kernel
theorem lk_L_21 : GoodIn WSL (wsV RL 21 RX10 yX10_number (ws_ yX10_number cX10_number 2 (some .int))) := gd_app (List.forall_mem_cons.mpr ⟨wd_10_2, List.forall_mem_cons.mpr ⟨wd_10_3, List.forall_mem_cons.mpr ⟨wd_10_4, List.forall_mem_cons.mpr ⟨wd_1_2, fun _ h => nomatch h⟩⟩⟩⟩) (gd_ wd_10_5)
theorem cwV_X10_number : yX10_number.cls = RX10 ∧ yX10_number.cls ≠ "java/lang/invoke/MethodHandle" ∧ yX10_number.cls ≠ "java/lang/invoke/VarHandle" ∧ (parseMethodDescriptor yX10_number.desc).map (fun d => d.parameters.length) = some 1 := by decide +kernel
theorem lk_L_24 : GoodIn WSL (wsV RL 24 RX10 yX10_tag (ws_ yX10_tag cX10_tag 2 (some .int))) := gd_app (List.forall_mem_cons.mpr ⟨wd_10_6, List.forall_mem_cons.mpr ⟨wd_10_7, List.forall_mem_cons.mpr ⟨wd_10_8, List.forall_mem_cons.mpr ⟨wd_1_2, fun _ h => nomatch h⟩⟩⟩⟩) (gd_ wd_10_9)
theorem cwV_X10_tag : yX10_tag.cls = RX10 ∧ yX10_tag.cls ≠ "java/lang/invoke/MethodHandle" ∧ yX10_tag.cls ≠ "java/lang/invoke/VarHandle" ∧ (parseMethodDescriptor yX10_tag.desc).map (fun d => d.parameters.length) = some 1 := by decide +kernel
theorem lk_L_27 : GoodIn WSL (wsV RL 27 RX10 yX10_mark (ws_ yX10_mark cX10_mark 2 (some .int))) := gd_app (List.forall_mem_cons.mpr ⟨wd_10_10, List.forall_mem_cons.mpr ⟨wd_10_11, List.forall_mem_cons.mpr ⟨wd_10_12, List.forall_mem_cons.mpr ⟨wd_1_2, fun _ h => nomatch h⟩⟩⟩⟩) (gd_ wd_10_13)
theorem cwV_X10_mark : yX10_mark.cls = RX10 ∧ yX10_mark.cls ≠ "java/lang/invoke/MethodHandle" ∧ yX10_mark.cls ≠ "java/lang/invoke/VarHandle" ∧ (parseMethodDescriptor yX10_mark.desc).map (fun d => d.parameters.length) = some 1 := by decide +kernel
theorem lk_L_31 : GoodIn WSL (wsV RL 31 RX10 yX10_setWeights (ws_ yX10_setWeights cX10_setWeights 6 (some .int))) := gd_app (List.forall_mem_cons.mpr ⟨wd_10_14, List.forall_mem_cons.mpr ⟨wd_10_15, List.forall_mem_cons.mpr ⟨wd_10_16, List.forall_mem_cons.mpr ⟨wd_1_2, fun _ h => nomatch h⟩⟩⟩⟩) (gd_ wd_10_17)
theorem cwV_X10_setWeights : yX10_setWeights.cls = RX10 ∧ yX10_setWeights.cls ≠ "java/lang/invoke/MethodHandle" ∧ yX10_setWeights.cls ≠ "java/lang/invoke/VarHandle" ∧ (parseMethodDescriptor yX10_setWeights.desc).map (fun d => d.parameters.length) = some 4 := by decide +kernel
theorem lk_L_43 : GoodIn WSL (wsV RL 43 RX10 yX10_addTerm (ws_ yX10_addTerm cX10_addTerm 3 (some .int))) := gd_app (List.forall_mem_cons.mpr ⟨wd_11_9, List.forall_mem_cons.mpr ⟨wd_11_10, List.forall_mem_cons.mpr ⟨wd_11_11, List.forall_mem_cons.mpr ⟨wd_1_2, fun _ h => nomatch h⟩⟩⟩⟩) (gd_ wd_11_12)
theorem cwV_X10_addTerm : yX10_addTerm.cls = RX10 ∧ yX10_addTerm.cls ≠ "java/lang/invoke/MethodHandle" ∧ yX10_addTerm.cls ≠ "java/lang/invoke/VarHandle" ∧ (parseMethodDescriptor yX10_addTerm.desc).map (fun d => d.parameters.length) = some 2 := by decide +kernel
theorem lk_L_47 : GoodIn WSL (wsV RL 47 RX10 yX10_takeSource (ws_ yX10_takeSource cX10_takeSource 1 (some .int))) := gd_app (List.forall_mem_cons.mpr ⟨wd_12_3, List.forall_mem_cons.mpr ⟨wd_12_4, List.forall_mem_cons.mpr ⟨wd_12_5, List.forall_mem_cons.mpr ⟨wd_1_2, fun _ h => nomatch h⟩⟩⟩⟩) (gd_ wd_12_6)
theorem cwV_X10_takeSource : yX10_takeSource.cls = RX10 ∧ yX10_takeSource.cls ≠ "java/lang/invoke/MethodHandle" ∧ yX10_takeSource.cls ≠ "java/lang/invoke/VarHandle" ∧ (parseMethodDescriptor yX10_takeSource.desc).map (fun d => d.parameters.length) = some 0 := by decide +kernel
theorem lk_L_51 : GoodIn WSL (wsV RL 51 RX10 yX10_addUnit (ws_ yX10_addUnit cX10_addUnit 2 (some .int))) := gd_app (List.forall_mem_cons.mpr ⟨wd_13_5, List.forall_mem_cons.mpr ⟨wd_13_6, List.forall_mem_cons.mpr ⟨wd_13_7, List.forall_mem_cons.mpr ⟨wd_1_2, fun _ h => nomatch h⟩⟩⟩⟩) (gd_ wd_13_8)
theorem cwV_X10_addUnit : yX10_addUnit.cls = RX10 ∧ yX10_addUnit.cls ≠ "java/lang/invoke/MethodHandle" ∧ yX10_addUnit.cls ≠ "java/lang/invoke/VarHandle" ∧ (parseMethodDescriptor yX10_addUnit.desc).map (fun d => d.parameters.length) = some 0 := by decide +kernel
theorem lk_L_57 : GoodIn WSL (wsV RL 57 RX10 yX10_withdraw (ws_ yX10_withdraw cX10_withdraw 3 (some .int))) := gd_app (List.forall_mem_cons.mpr ⟨wd_17_14, List.forall_mem_cons.mpr ⟨wd_17_15, List.forall_mem_cons.mpr ⟨wd_17_16, List.forall_mem_cons.mpr ⟨wd_1_2, fun _ h => nomatch h⟩⟩⟩⟩) (gd_ wd_17_17)
theorem cwV_X10_withdraw : yX10_withdraw.cls = RX10 ∧ yX10_withdraw.cls ≠ "java/lang/invoke/MethodHandle" ∧ yX10_withdraw.cls ≠ "java/lang/invoke/VarHandle" ∧ (parseMethodDescriptor yX10_withdraw.desc).map (fun d => d.parameters.length) = some 1 := by decide +kernel
theorem lk_L_60 : GoodIn WSL (wsV RL 60 RX10 yX10_open (ws_ yX10_open cX10_open 1 (some .int))) := gd_app (List.forall_mem_cons.mpr ⟨wd_17_23, List.forall_mem_cons.mpr ⟨wd_18_0, List.forall_mem_cons.mpr ⟨wd_18_1, List.forall_mem_cons.mpr ⟨wd_1_2, fun _ h => nomatch h⟩⟩⟩⟩) (gd_ wd_18_2)
theorem cwV_X10_open : yX10_open.cls = RX10 ∧ yX10_open.cls ≠ "java/lang/invoke/MethodHandle" ∧ yX10_open.cls ≠ "java/lang/invoke/VarHandle" ∧ (parseMethodDescriptor yX10_open.desc).map (fun d => d.parameters.length) = some 0 := by decide +kernel
theorem lk_L_63 : GoodIn WSL (wsV RL 63 RX10 yX10_fill (ws_ yX10_fill cX10_fill 4 (some .int))) := gd_app (List.forall_mem_cons.mpr ⟨wd_19_12, List.forall_mem_cons.mpr ⟨wd_19_13, List.forall_mem_cons.mpr ⟨wd_19_14, List.forall_mem_cons.mpr ⟨wd_1_2, fun _ h => nomatch h⟩⟩⟩⟩) (gd_ wd_19_15)
theorem cwV_X10_fill : yX10_fill.cls = RX10 ∧ yX10_fill.cls ≠ "java/lang/invoke/MethodHandle" ∧ yX10_fill.cls ≠ "java/lang/invoke/VarHandle" ∧ (parseMethodDescriptor yX10_fill.desc).map (fun d => d.parameters.length) = some 1 := by decide +kernel
theorem lk_L_66 : GoodIn WSL (wsV RL 66 RX10 yX10_answer (ws_ yX10_answer cX10_answer 3 (some .int))) := gd_app (List.forall_mem_cons.mpr ⟨wd_24_15, List.forall_mem_cons.mpr ⟨wd_24_16, List.forall_mem_cons.mpr ⟨wd_24_17, List.forall_mem_cons.mpr ⟨wd_1_2, fun _ h => nomatch h⟩⟩⟩⟩) (gd_ wd_24_18)
theorem cwV_X10_answer : yX10_answer.cls = RX10 ∧ yX10_answer.cls ≠ "java/lang/invoke/MethodHandle" ∧ yX10_answer.cls ≠ "java/lang/invoke/VarHandle" ∧ (parseMethodDescriptor yX10_answer.desc).map (fun d => d.parameters.length) = some 1 := by decide +kernel
theorem i2c_id {v : Int} (h : 0 ≤ v ∧ v < 65536) : ((jI v).toUInt32 % 65536).toInt32 = jI v := by
  obtain ⟨u, h1, h2⟩ := i2c_ok v
  have h3 : ((jI v).toUInt32 % 65536).toInt32.toInt = v := by
    show ((jI v).toUInt32 % 65536).toBitVec.toInt = v
    have h4 : ((jI v).toUInt32 % 65536).toNat = v.toNat := by
      rw [UInt32.toNat_mod]
      have h5 : (jI v).toUInt32.toNat = v.toNat := by
        show (jI v).toBitVec.toNat = v.toNat
        have h6 : (jI v).toBitVec.toInt = v := jI_toInt ⟨by omega, by omega⟩
        rw [BitVec.toInt_eq_toNat_of_lt] at h6
        · omega
        · have h7 := (jI v).toBitVec.isLt
          rw [BitVec.toInt_eq_toNat_cond] at h6
          split at h6 <;> omega
      rw [h5]
      show v.toNat % 65536 = v.toNat
      exact Nat.mod_eq_of_lt (by omega)
    rw [BitVec.toInt_eq_toNat_of_lt (by have : ((jI v).toUInt32 % 65536).toBitVec.toNat = ((jI v).toUInt32 % 65536).toNat := rfl; omega)]
    show (((jI v).toUInt32 % 65536).toNat : Int) = v
    omega
  rw [jI_of (((jI v).toUInt32 % 65536).toInt32), h3]
theorem CW.live {g : GT} {o : Nat} {S : SGM} {W9 : va_W} (h : CW g o S W9) (v : Int) : (ug S v).2.2 = 0 ∨ (ug S v).2.2 = 1 := by
  obtain ⟨ad, fd, fk, g1, g2, g3, p1, p2, k1, k2, us, ss, lw1, lw2, hW, ho, -, -, -, -, ⟨hu, hs⟩, ⟨hUO, -⟩, -, h1, h2⟩ := h
  unfold ug
  rw [uS_uv hu]
  rcases Nat.lt_or_ge v.toNat us.length with q | q
  · obtain ⟨u, hq⟩ : ∃ u, us[v.toNat]? = some u := ⟨_, List.getElem?_eq_getElem q⟩
    rw [uv_get hq]
    obtain ⟨a1, a2, a3, a4, a5, a6, a7, a8, a9, a10⟩ := u
    exact (hUO _ (List.mem_of_getElem? hq)).2.2
  · left
    unfold uv
    rw [List.getD_eq_getElem?_getD, List.getElem?_eq_none (by rw [List.length_map]; exact q)]
    rfl
set_option maxHeartbeats 4000000 in
set_option maxRecDepth 100000 in
theorem m_L_told (l : Launch) (g : GT) (v0 : Int) (hv0 : v0 = 0 ∨ v0 = 1) : Met l yL_told (ws_ yL_told cL_told 1 (some .int)) (rmm 0 0 0) (jPc g [vi v0] (fun H => True)) (jSi (fun z => z = v0)) 0 0 jN := by
  refine jb_M (by decide) (Nat.le_of_ble_eq_true rfl) ?_
  intro p e s m below meth cq hx hb hr hml hown htl hlk hnm hKK hpre ls hl
  have hown : s.vm.findClass RL = some m.cls := hown
  have hl : lv_has ls 1 [(0, vi v0)] := hl
  refine lv_iload_n hx hb dL_told_0 rfl (lv_at hl 0 rfl) ?_
  refine jr_ifeq (tgt := 8) hx hb dL_told_1 (by decide) ⟨by omega, by omega⟩ (fun c1 => ?_) (fun c1 => ?_)
  · refine jr_iconst hx hb dL_told_8 ?_
    exact je_Si hx hb hr hlk rfl (by omega) dL_told_9
  · refine jr_iconst hx hb dL_told_4 ?_
    refine lv_goto (tgt := 9) hx hb dL_told_5 (by decide) ?_
    exact je_Si hx hb hr hlk rfl (by omega) dL_told_9
set_option maxHeartbeats 4000000 in
set_option maxRecDepth 100000 in
theorem m_L_plain_word (l : Launch) (hsT : l.stackTraces = false) (g : GT) (o : Nat) (S : SGM) (W9 : va_W) (hCW : CW g o S W9) (sz : Nat) (v : Int) (hv : jR v) (x2 : Int) (x3 : Int) (x4 : Int) : vx_Met l yL_plain (ws_ yL_plain cL_plain 6 (some .int)) (rmm 5 3 18) (jPc g [.ref o, vi 0, vi v, vi x2, vi x3, vi x4] (fun H => H.size = sz ∧ PP g W9 H ∧ va_D (fun q => gb g ≤ q) W9)) (jQi (fun z H1 => ((cdTok S (0 ≤ v ∧ v < 100)) = 0 ∧ z = (S.1.length : Int) + 1) ∧ ∃ w1 : va_W, CW g o ((S.1 ++ [0 * 10000 + v], S.2)) w1 ∧ PP g w1 H1 ∧ va_D (va_A W9 sz) w1) (va_A W9 sz)) (jXw (fun E => (E = eIA ∧ (cdTok S (0 ≤ v ∧ v < 100)) = 1) ∨ (E = eIS ∧ (cdTok S (0 ≤ v ∧ v < 100)) = 2)) (fun H1 => ∃ w1 : va_W, CW g o S w1 ∧ PP g w1 H1 ∧ va_D (va_A W9 sz) w1) (va_A W9 sz)) 3 18 (va_A W9 sz) := by
  refine jb_X (by decide) (Nat.le_of_ble_eq_true rfl) ?_
  intro p e s m below meth c hx hb hr hml hown htl hlk htab hKK hpre ls hl
  have hown : s.vm.findClass RL = some m.cls := hown
  obtain ⟨hsz, hP, hD0⟩ := hpre
  subst hsz
  have hD : va_D (va_A W9 s.heap.size) W9 := hD0.self
  have hl : lv_has ls 6 [(0, .ref o), (1, vi 0), (2, vi v), (3, vi x2), (4, vi x3), (5, vi x4)] := hl
  refine lv_iload_n hx hb dL_plain_0 rfl (lv_at hl 1 rfl) ?_
  refine lv_tableIn (tgt := 68) hx hb dL_plain_1 (by decide) (by decide) rfl rfl ?_
  refine lv_aload_n hx hb dL_plain_68 rfl (lv_at hl 0 rfl) ?_
  refine lv_iload_n hx hb dL_plain_69 rfl (lv_at hl 2 rfl) ?_
  refine jc_Qi (vx_runV (As := [vi v]) (rest := []) ⟨hx, hb, hml, hown, htl⟩ (m_X10_word l hsT g o S W9 hCW s.heap.size v hv) (cwV 1 htl lk_L_15 rfl rfl rfl cwV_X10_word ⟨Nat.le_of_ble_eq_true rfl, Nat.le_of_ble_eq_true rfl⟩) (jp_V hKK (va_S.rf (A := jN)) jNb (CW.recv hKK hCW hP) ⟨rfl, hP, hD0⟩) rfl rfl hl.1 rfl (lv_room (Nat.le_of_ble_eq_true rfl)) dL_plain_70 ⟨Nat.le_of_ble_eq_true rfl, Nat.le_of_ble_eq_true rfl⟩) hCW hP hD (jc_kx_out htab hlk (by omega) (by omega)) ?_
  intro z H L w1 hz hC hP hD hS
  refine vx_ret ?_
  refine W.widen (k := 3) (n := 18) (by omega) (by omega) ?_
  exact je_Qi hx hb hr hlk rfl hS ⟨hz, w1, hC, hP, hD⟩ dL_plain_73
set_option maxHeartbeats 4000000 in
set_option maxRecDepth 100000 in
theorem m_L_deed_word (l : Launch) (hsT : l.stackTraces = false) (g : GT) (o : Nat) (S : SGM) (W9 : va_W) (hCW : CW g o S W9) (sz : Nat) (v : Int) (hv : jR v) (x2 : Int) (x3 : Int) (x4 : Int) : Met l yL_deed (.codeWith yL_deed cL_deed 7 (some .int) [(0, 11, 12, 73), (0, 11, 18, 75), (0, 11, 24, 77), (0, 11, 30, 79), (0, 11, 36, 81)] :: WSL) (rmm 6 3 18) (jPc g [.ref o, vi 0, vi v, vi x2, vi x3, vi x4] (fun H => H.size = sz ∧ PP g W9 H ∧ va_D (fun q => gb g ≤ q) W9)) (jQi (fun z H1 => z = rs (cdTok S (0 ≤ v ∧ v < 100)) ((S.1.length : Int) + 1) (-2002) (-2003) 0 ∧ ∃ w1 : va_W, CW g o (rS (cdTok S (0 ≤ v ∧ v < 100)) ((S.1 ++ [0 * 10000 + v], S.2)) S) w1 ∧ PP g w1 H1 ∧ va_D (va_A W9 sz) w1) (va_A W9 sz)) 3 18 (va_A W9 sz) := by
  refine jc_M (by decide) (Nat.le_of_ble_eq_true rfl) ?_
  intro p e s m below meth c hx hb hr hml hown htl hlk htb hKK hpre ls hl
  have hown : s.vm.findClass RL = some m.cls := hown
  obtain ⟨hsz, hP, hD0⟩ := hpre
  subst hsz
  have hl : lv_has ls 7 [(0, .ref o), (1, vi 0), (2, vi v), (3, vi x2), (4, vi x3), (5, vi x4)] := hl
  refine lv_aload_n hx hb dL_deed_0 rfl (lv_at hl 0 rfl) ?_
  refine lv_iload_n hx hb dL_deed_1 rfl (lv_at hl 1 rfl) ?_
  refine lv_iload_n hx hb dL_deed_2 rfl (lv_at hl 2 rfl) ?_
  refine lv_iload_n hx hb dL_deed_3 rfl (lv_at hl 3 rfl) ?_
  refine lv_iload hx hb dL_deed_4 (lv_at hl 4 rfl) ?_
  refine lv_iload hx hb dL_deed_6 (lv_at hl 5 rfl) ?_
  refine jc_Qw (NP := fun z => ((cdTok S (0 ≤ v ∧ v < 100)) = 0 ∧ z = (S.1.length : Int) + 1)) (vx_runS (As := [.ref o, vi 0, vi v, vi x2, vi x3, vi x4]) (rest := []) ⟨hx, hb, hml, hown, htl⟩ (m_L_plain_word l hsT g o S W9 hCW s.heap.size v hv x2 x3 x4) (va_cwS 6 htl lk_L_69 rfl rfl rfl cwS_L_plain ⟨Nat.le_of_ble_eq_true rfl, Nat.le_of_ble_eq_true rfl⟩) (jp_S hKK (va_S.rf (A := jN)) jNb ⟨rfl, hP, hD0⟩) rfl rfl hl.1 rfl (lv_room (Nat.le_of_ble_eq_true rfl)) dL_deed_8 ⟨Nat.le_of_ble_eq_true rfl, Nat.le_of_ble_eq_true rfl⟩) ?_ ?_
  · intro E ce q9 H1 L w1 hE hC hP hD hS h2 h3 h4
    rcases hE with ⟨rfl, hcd⟩ | ⟨rfl, hcd⟩
    · refine vx_catch (name := eIA) hown [xe (0, 11, 12, 73)] (xe (0, 11, 18, 75)) [xe (0, 11, 24, 77), xe (0, 11, 30, 79), xe (0, 11, 36, 81)] (htb.trans rfl) (List.forall_mem_cons.mpr ⟨Or.inr ⟨(show (73 : Nat) ≠ 0 by decide), _, htl _ wd_8_19, hKK.1.2.2.2.2.2.1 (eIA, eIO) (List.mem_of_getElem? (i := 0) rfl)⟩, fun _ h => nomatch h⟩) rfl (show (75 : Nat) ≠ 0 by decide) (htl _ wd_8_20) (va_Nw.use rfl (hKK.1.2.2.1 (eIA, eIA) (List.mem_of_getElem? (i := 0) rfl))) h2 h3 h4 ?_
      refine lv_astore (lv' := [(6, .ref q9), (0, .ref o), (1, vi 0), (2, vi v), (3, vi x2), (4, vi x3), (5, vi x4)]) hx hb dL_deed_18 hl (by decide) rfl (fun ls hl => ?_)
      refine jr_sipush hx hb dL_deed_20 (by decide) ?_
      refine W.widen (k := 3) (n := 18) (by omega) (by omega) ?_
      exact je_Qi hx hb hr hlk rfl hS ⟨(rs_1 hcd).symm, w1, (by rw [rS_n (by omega)]; exact hC), hP, hD⟩ dL_deed_23
    · refine vx_catch (name := eIS) hown [xe (0, 11, 12, 73), xe (0, 11, 18, 75)] (xe (0, 11, 24, 77)) [xe (0, 11, 30, 79), xe (0, 11, 36, 81)] (htb.trans rfl) (List.forall_mem_cons.mpr ⟨Or.inr ⟨(show (73 : Nat) ≠ 0 by decide), _, htl _ wd_8_19, hKK.1.2.2.2.2.2.1 (eIS, eIO) (List.mem_of_getElem? (i := 1) rfl)⟩, List.forall_mem_cons.mpr ⟨Or.inr ⟨(show (75 : Nat) ≠ 0 by decide), _, htl _ wd_8_20, hKK.1.2.2.2.2.2.1 (eIS, eIA) (List.mem_of_getElem? (i := 2) rfl)⟩, fun _ h => nomatch h⟩⟩) rfl (show (77 : Nat) ≠ 0 by decide) (htl _ wd_8_21) (va_Nw.use rfl (hKK.1.2.2.1 (eIS, eIS) (List.mem_of_getElem? (i := 1) rfl))) h2 h3 h4 ?_
      refine lv_astore (lv' := [(6, .ref q9), (0, .ref o), (1, vi 0), (2, vi v), (3, vi x2), (4, vi x3), (5, vi x4)]) hx hb dL_deed_24 hl (by decide) rfl (fun ls hl => ?_)
      refine jr_sipush hx hb dL_deed_26 (by decide) ?_
      refine W.widen (k := 3) (n := 18) (by omega) (by omega) ?_
      exact je_Qi hx hb hr hlk rfl hS ⟨(rs_2 hcd).symm, w1, (by rw [rS_n (by omega)]; exact hC), hP, hD⟩ dL_deed_29
  · intro z9 H1 L w1 hz9 hC hP hD hS
    obtain ⟨hcd, hz9⟩ := hz9
    refine W.widen (k := 3) (n := 18) (by omega) (by omega) ?_
    exact je_Qi hx hb hr hlk rfl hS ⟨hz9.trans (rs_0 hcd).symm, w1, (by rw [rS_0 hcd]; exact hC), hP, hD⟩ dL_deed_11
set_option maxHeartbeats 4000000 in
set_option maxRecDepth 100000 in
theorem m_L_plain_number (l : Launch) (hsT : l.stackTraces = false) (g : GT) (o : Nat) (S : SGM) (W9 : va_W) (hCW : CW g o S W9) (sz : Nat) (v : Int) (hv : jR v) (x2 : Int) (x3 : Int) (x4 : Int) : vx_Met l yL_plain (ws_ yL_plain cL_plain 6 (some .int)) (rmm 5 3 18) (jPc g [.ref o, vi 1, vi v, vi x2, vi x3, vi x4] (fun H => H.size = sz ∧ PP g W9 H ∧ va_D (fun q => gb g ≤ q) W9)) (jQi (fun z H1 => ((cdTok S (0 ≤ v ∧ v < 10000)) = 0 ∧ z = (S.1.length : Int) + 1) ∧ ∃ w1 : va_W, CW g o ((S.1 ++ [1 * 10000 + v], S.2)) w1 ∧ PP g w1 H1 ∧ va_D (va_A W9 sz) w1) (va_A W9 sz)) (jXw (fun E => (E = eIA ∧ (cdTok S (0 ≤ v ∧ v < 10000)) = 1) ∨ (E = eIS ∧ (cdTok S (0 ≤ v ∧ v < 10000)) = 2)) (fun H1 => ∃ w1 : va_W, CW g o S w1 ∧ PP g w1 H1 ∧ va_D (va_A W9 sz) w1) (va_A W9 sz)) 3 18 (va_A W9 sz) := by
  refine jb_X (by decide) (Nat.le_of_ble_eq_true rfl) ?_
  intro p e s m below meth c hx hb hr hml hown htl hlk htab hKK hpre ls hl
  have hown : s.vm.findClass RL = some m.cls := hown
  obtain ⟨hsz, hP, hD0⟩ := hpre
  subst hsz
  have hD : va_D (va_A W9 s.heap.size) W9 := hD0.self
  have hl : lv_has ls 6 [(0, .ref o), (1, vi 1), (2, vi v), (3, vi x2), (4, vi x3), (5, vi x4)] := hl
  refine lv_iload_n hx hb dL_plain_0 rfl (lv_at hl 1 rfl) ?_
  refine lv_tableIn (tgt := 74) hx hb dL_plain_1 (by decide) (by decide) rfl rfl ?_
  refine lv_aload_n hx hb dL_plain_74 rfl (lv_at hl 0 rfl) ?_
  refine lv_iload_n hx hb dL_plain_75 rfl (lv_at hl 2 rfl) ?_
  refine jc_Qi (vx_runV (As := [vi v]) (rest := []) ⟨hx, hb, hml, hown, htl⟩ (m_X10_number l hsT g o S W9 hCW s.heap.size v hv) (cwV 1 htl lk_L_21 rfl rfl rfl cwV_X10_number ⟨Nat.le_of_ble_eq_true rfl, Nat.le_of_ble_eq_true rfl⟩) (jp_V hKK (va_S.rf (A := jN)) jNb (CW.recv hKK hCW hP) ⟨rfl, hP, hD0⟩) rfl rfl hl.1 rfl (lv_room (Nat.le_of_ble_eq_true rfl)) dL_plain_76 ⟨Nat.le_of_ble_eq_true rfl, Nat.le_of_ble_eq_true rfl⟩) hCW hP hD (jc_kx_out htab hlk (by omega) (by omega)) ?_
  intro z H L w1 hz hC hP hD hS
  refine vx_ret ?_
  refine W.widen (k := 3) (n := 18) (by omega) (by omega) ?_
  exact je_Qi hx hb hr hlk rfl hS ⟨hz, w1, hC, hP, hD⟩ dL_plain_79
set_option maxHeartbeats 4000000 in
set_option maxRecDepth 100000 in
theorem m_L_deed_number (l : Launch) (hsT : l.stackTraces = false) (g : GT) (o : Nat) (S : SGM) (W9 : va_W) (hCW : CW g o S W9) (sz : Nat) (v : Int) (hv : jR v) (x2 : Int) (x3 : Int) (x4 : Int) : Met l yL_deed (.codeWith yL_deed cL_deed 7 (some .int) [(0, 11, 12, 73), (0, 11, 18, 75), (0, 11, 24, 77), (0, 11, 30, 79), (0, 11, 36, 81)] :: WSL) (rmm 6 3 18) (jPc g [.ref o, vi 1, vi v, vi x2, vi x3, vi x4] (fun H => H.size = sz ∧ PP g W9 H ∧ va_D (fun q => gb g ≤ q) W9)) (jQi (fun z H1 => z = rs (cdTok S (0 ≤ v ∧ v < 10000)) ((S.1.length : Int) + 1) (-2002) (-2003) 0 ∧ ∃ w1 : va_W, CW g o (rS (cdTok S (0 ≤ v ∧ v < 10000)) ((S.1 ++ [1 * 10000 + v], S.2)) S) w1 ∧ PP g w1 H1 ∧ va_D (va_A W9 sz) w1) (va_A W9 sz)) 3 18 (va_A W9 sz) := by
  refine jc_M (by decide) (Nat.le_of_ble_eq_true rfl) ?_
  intro p e s m below meth c hx hb hr hml hown htl hlk htb hKK hpre ls hl
  have hown : s.vm.findClass RL = some m.cls := hown
  obtain ⟨hsz, hP, hD0⟩ := hpre
  subst hsz
  have hl : lv_has ls 7 [(0, .ref o), (1, vi 1), (2, vi v), (3, vi x2), (4, vi x3), (5, vi x4)] := hl
  refine lv_aload_n hx hb dL_deed_0 rfl (lv_at hl 0 rfl) ?_
  refine lv_iload_n hx hb dL_deed_1 rfl (lv_at hl 1 rfl) ?_
  refine lv_iload_n hx hb dL_deed_2 rfl (lv_at hl 2 rfl) ?_
  refine lv_iload_n hx hb dL_deed_3 rfl (lv_at hl 3 rfl) ?_
  refine lv_iload hx hb dL_deed_4 (lv_at hl 4 rfl) ?_
  refine lv_iload hx hb dL_deed_6 (lv_at hl 5 rfl) ?_
  refine jc_Qw (NP := fun z => ((cdTok S (0 ≤ v ∧ v < 10000)) = 0 ∧ z = (S.1.length : Int) + 1)) (vx_runS (As := [.ref o, vi 1, vi v, vi x2, vi x3, vi x4]) (rest := []) ⟨hx, hb, hml, hown, htl⟩ (m_L_plain_number l hsT g o S W9 hCW s.heap.size v hv x2 x3 x4) (va_cwS 6 htl lk_L_69 rfl rfl rfl cwS_L_plain ⟨Nat.le_of_ble_eq_true rfl, Nat.le_of_ble_eq_true rfl⟩) (jp_S hKK (va_S.rf (A := jN)) jNb ⟨rfl, hP, hD0⟩) rfl rfl hl.1 rfl (lv_room (Nat.le_of_ble_eq_true rfl)) dL_deed_8 ⟨Nat.le_of_ble_eq_true rfl, Nat.le_of_ble_eq_true rfl⟩) ?_ ?_
  · intro E ce q9 H1 L w1 hE hC hP hD hS h2 h3 h4
    rcases hE with ⟨rfl, hcd⟩ | ⟨rfl, hcd⟩
    · refine vx_catch (name := eIA) hown [xe (0, 11, 12, 73)] (xe (0, 11, 18, 75)) [xe (0, 11, 24, 77), xe (0, 11, 30, 79), xe (0, 11, 36, 81)] (htb.trans rfl) (List.forall_mem_cons.mpr ⟨Or.inr ⟨(show (73 : Nat) ≠ 0 by decide), _, htl _ wd_8_19, hKK.1.2.2.2.2.2.1 (eIA, eIO) (List.mem_of_getElem? (i := 0) rfl)⟩, fun _ h => nomatch h⟩) rfl (show (75 : Nat) ≠ 0 by decide) (htl _ wd_8_20) (va_Nw.use rfl (hKK.1.2.2.1 (eIA, eIA) (List.mem_of_getElem? (i := 0) rfl))) h2 h3 h4 ?_
      refine lv_astore (lv' := [(6, .ref q9), (0, .ref o), (1, vi 1), (2, vi v), (3, vi x2), (4, vi x3), (5, vi x4)]) hx hb dL_deed_18 hl (by decide) rfl (fun ls hl => ?_)
      refine jr_sipush hx hb dL_deed_20 (by decide) ?_
      refine W.widen (k := 3) (n := 18) (by omega) (by omega) ?_
      exact je_Qi hx hb hr hlk rfl hS ⟨(rs_1 hcd).symm, w1, (by rw [rS_n (by omega)]; exact hC), hP, hD⟩ dL_deed_23
    · refine vx_catch (name := eIS) hown [xe (0, 11, 12, 73), xe (0, 11, 18, 75)] (xe (0, 11, 24, 77)) [xe (0, 11, 30, 79), xe (0, 11, 36, 81)] (htb.trans rfl) (List.forall_mem_cons.mpr ⟨Or.inr ⟨(show (73 : Nat) ≠ 0 by decide), _, htl _ wd_8_19, hKK.1.2.2.2.2.2.1 (eIS, eIO) (List.mem_of_getElem? (i := 1) rfl)⟩, List.forall_mem_cons.mpr ⟨Or.inr ⟨(show (75 : Nat) ≠ 0 by decide), _, htl _ wd_8_20, hKK.1.2.2.2.2.2.1 (eIS, eIA) (List.mem_of_getElem? (i := 2) rfl)⟩, fun _ h => nomatch h⟩⟩) rfl (show (77 : Nat) ≠ 0 by decide) (htl _ wd_8_21) (va_Nw.use rfl (hKK.1.2.2.1 (eIS, eIS) (List.mem_of_getElem? (i := 1) rfl))) h2 h3 h4 ?_
      refine lv_astore (lv' := [(6, .ref q9), (0, .ref o), (1, vi 1), (2, vi v), (3, vi x2), (4, vi x3), (5, vi x4)]) hx hb dL_deed_24 hl (by decide) rfl (fun ls hl => ?_)
      refine jr_sipush hx hb dL_deed_26 (by decide) ?_
      refine W.widen (k := 3) (n := 18) (by omega) (by omega) ?_
      exact je_Qi hx hb hr hlk rfl hS ⟨(rs_2 hcd).symm, w1, (by rw [rS_n (by omega)]; exact hC), hP, hD⟩ dL_deed_29
  · intro z9 H1 L w1 hz9 hC hP hD hS
    obtain ⟨hcd, hz9⟩ := hz9
    refine W.widen (k := 3) (n := 18) (by omega) (by omega) ?_
    exact je_Qi hx hb hr hlk rfl hS ⟨hz9.trans (rs_0 hcd).symm, w1, (by rw [rS_0 hcd]; exact hC), hP, hD⟩ dL_deed_11
set_option maxHeartbeats 4000000 in
set_option maxRecDepth 100000 in
theorem m_L_plain_tag (l : Launch) (hsT : l.stackTraces = false) (g : GT) (o : Nat) (S : SGM) (W9 : va_W) (hCW : CW g o S W9) (sz : Nat) (v : Int) (hv : jR v) (x2 : Int) (x3 : Int) (x4 : Int) : vx_Met l yL_plain (ws_ yL_plain cL_plain 6 (some .int)) (rmm 5 3 18) (jPc g [.ref o, vi 2, vi v, vi x2, vi x3, vi x4] (fun H => H.size = sz ∧ PP g W9 H ∧ va_D (fun q => gb g ≤ q) W9)) (jQi (fun z H1 => ((cdTok S (0 ≤ v ∧ v < 10)) = 0 ∧ z = (S.1.length : Int) + 1) ∧ ∃ w1 : va_W, CW g o ((S.1 ++ [2 * 10000 + v], S.2)) w1 ∧ PP g w1 H1 ∧ va_D (va_A W9 sz) w1) (va_A W9 sz)) (jXw (fun E => (E = eIA ∧ (cdTok S (0 ≤ v ∧ v < 10)) = 1) ∨ (E = eIS ∧ (cdTok S (0 ≤ v ∧ v < 10)) = 2)) (fun H1 => ∃ w1 : va_W, CW g o S w1 ∧ PP g w1 H1 ∧ va_D (va_A W9 sz) w1) (va_A W9 sz)) 3 18 (va_A W9 sz) := by
  refine jb_X (by decide) (Nat.le_of_ble_eq_true rfl) ?_
  intro p e s m below meth c hx hb hr hml hown htl hlk htab hKK hpre ls hl
  have hown : s.vm.findClass RL = some m.cls := hown
  obtain ⟨hsz, hP, hD0⟩ := hpre
  subst hsz
  have hD : va_D (va_A W9 s.heap.size) W9 := hD0.self
  have hl : lv_has ls 6 [(0, .ref o), (1, vi 2), (2, vi v), (3, vi x2), (4, vi x3), (5, vi x4)] := hl
  refine lv_iload_n hx hb dL_plain_0 rfl (lv_at hl 1 rfl) ?_
  refine lv_tableIn (tgt := 80) hx hb dL_plain_1 (by decide) (by decide) rfl rfl ?_
  refine lv_aload_n hx hb dL_plain_80 rfl (lv_at hl 0 rfl) ?_
  refine lv_iload_n hx hb dL_plain_81 rfl (lv_at hl 2 rfl) ?_
  refine jc_Qi (vx_runV (As := [vi v]) (rest := []) ⟨hx, hb, hml, hown, htl⟩ (m_X10_tag l hsT g o S W9 hCW s.heap.size v hv) (cwV 1 htl lk_L_24 rfl rfl rfl cwV_X10_tag ⟨Nat.le_of_ble_eq_true rfl, Nat.le_of_ble_eq_true rfl⟩) (jp_V hKK (va_S.rf (A := jN)) jNb (CW.recv hKK hCW hP) ⟨rfl, hP, hD0⟩) rfl rfl hl.1 rfl (lv_room (Nat.le_of_ble_eq_true rfl)) dL_plain_82 ⟨Nat.le_of_ble_eq_true rfl, Nat.le_of_ble_eq_true rfl⟩) hCW hP hD (jc_kx_out htab hlk (by omega) (by omega)) ?_
  intro z H L w1 hz hC hP hD hS
  refine vx_ret ?_
  refine W.widen (k := 3) (n := 18) (by omega) (by omega) ?_
  exact je_Qi hx hb hr hlk rfl hS ⟨hz, w1, hC, hP, hD⟩ dL_plain_85
set_option maxHeartbeats 4000000 in
set_option maxRecDepth 100000 in
theorem m_L_deed_tag (l : Launch) (hsT : l.stackTraces = false) (g : GT) (o : Nat) (S : SGM) (W9 : va_W) (hCW : CW g o S W9) (sz : Nat) (v : Int) (hv : jR v) (x2 : Int) (x3 : Int) (x4 : Int) : Met l yL_deed (.codeWith yL_deed cL_deed 7 (some .int) [(0, 11, 12, 73), (0, 11, 18, 75), (0, 11, 24, 77), (0, 11, 30, 79), (0, 11, 36, 81)] :: WSL) (rmm 6 3 18) (jPc g [.ref o, vi 2, vi v, vi x2, vi x3, vi x4] (fun H => H.size = sz ∧ PP g W9 H ∧ va_D (fun q => gb g ≤ q) W9)) (jQi (fun z H1 => z = rs (cdTok S (0 ≤ v ∧ v < 10)) ((S.1.length : Int) + 1) (-2002) (-2003) 0 ∧ ∃ w1 : va_W, CW g o (rS (cdTok S (0 ≤ v ∧ v < 10)) ((S.1 ++ [2 * 10000 + v], S.2)) S) w1 ∧ PP g w1 H1 ∧ va_D (va_A W9 sz) w1) (va_A W9 sz)) 3 18 (va_A W9 sz) := by
  refine jc_M (by decide) (Nat.le_of_ble_eq_true rfl) ?_
  intro p e s m below meth c hx hb hr hml hown htl hlk htb hKK hpre ls hl
  have hown : s.vm.findClass RL = some m.cls := hown
  obtain ⟨hsz, hP, hD0⟩ := hpre
  subst hsz
  have hl : lv_has ls 7 [(0, .ref o), (1, vi 2), (2, vi v), (3, vi x2), (4, vi x3), (5, vi x4)] := hl
  refine lv_aload_n hx hb dL_deed_0 rfl (lv_at hl 0 rfl) ?_
  refine lv_iload_n hx hb dL_deed_1 rfl (lv_at hl 1 rfl) ?_
  refine lv_iload_n hx hb dL_deed_2 rfl (lv_at hl 2 rfl) ?_
  refine lv_iload_n hx hb dL_deed_3 rfl (lv_at hl 3 rfl) ?_
  refine lv_iload hx hb dL_deed_4 (lv_at hl 4 rfl) ?_
  refine lv_iload hx hb dL_deed_6 (lv_at hl 5 rfl) ?_
  refine jc_Qw (NP := fun z => ((cdTok S (0 ≤ v ∧ v < 10)) = 0 ∧ z = (S.1.length : Int) + 1)) (vx_runS (As := [.ref o, vi 2, vi v, vi x2, vi x3, vi x4]) (rest := []) ⟨hx, hb, hml, hown, htl⟩ (m_L_plain_tag l hsT g o S W9 hCW s.heap.size v hv x2 x3 x4) (va_cwS 6 htl lk_L_69 rfl rfl rfl cwS_L_plain ⟨Nat.le_of_ble_eq_true rfl, Nat.le_of_ble_eq_true rfl⟩) (jp_S hKK (va_S.rf (A := jN)) jNb ⟨rfl, hP, hD0⟩) rfl rfl hl.1 rfl (lv_room (Nat.le_of_ble_eq_true rfl)) dL_deed_8 ⟨Nat.le_of_ble_eq_true rfl, Nat.le_of_ble_eq_true rfl⟩) ?_ ?_
  · intro E ce q9 H1 L w1 hE hC hP hD hS h2 h3 h4
    rcases hE with ⟨rfl, hcd⟩ | ⟨rfl, hcd⟩
    · refine vx_catch (name := eIA) hown [xe (0, 11, 12, 73)] (xe (0, 11, 18, 75)) [xe (0, 11, 24, 77), xe (0, 11, 30, 79), xe (0, 11, 36, 81)] (htb.trans rfl) (List.forall_mem_cons.mpr ⟨Or.inr ⟨(show (73 : Nat) ≠ 0 by decide), _, htl _ wd_8_19, hKK.1.2.2.2.2.2.1 (eIA, eIO) (List.mem_of_getElem? (i := 0) rfl)⟩, fun _ h => nomatch h⟩) rfl (show (75 : Nat) ≠ 0 by decide) (htl _ wd_8_20) (va_Nw.use rfl (hKK.1.2.2.1 (eIA, eIA) (List.mem_of_getElem? (i := 0) rfl))) h2 h3 h4 ?_
      refine lv_astore (lv' := [(6, .ref q9), (0, .ref o), (1, vi 2), (2, vi v), (3, vi x2), (4, vi x3), (5, vi x4)]) hx hb dL_deed_18 hl (by decide) rfl (fun ls hl => ?_)
      refine jr_sipush hx hb dL_deed_20 (by decide) ?_
      refine W.widen (k := 3) (n := 18) (by omega) (by omega) ?_
      exact je_Qi hx hb hr hlk rfl hS ⟨(rs_1 hcd).symm, w1, (by rw [rS_n (by omega)]; exact hC), hP, hD⟩ dL_deed_23
    · refine vx_catch (name := eIS) hown [xe (0, 11, 12, 73), xe (0, 11, 18, 75)] (xe (0, 11, 24, 77)) [xe (0, 11, 30, 79), xe (0, 11, 36, 81)] (htb.trans rfl) (List.forall_mem_cons.mpr ⟨Or.inr ⟨(show (73 : Nat) ≠ 0 by decide), _, htl _ wd_8_19, hKK.1.2.2.2.2.2.1 (eIS, eIO) (List.mem_of_getElem? (i := 1) rfl)⟩, List.forall_mem_cons.mpr ⟨Or.inr ⟨(show (75 : Nat) ≠ 0 by decide), _, htl _ wd_8_20, hKK.1.2.2.2.2.2.1 (eIS, eIA) (List.mem_of_getElem? (i := 2) rfl)⟩, fun _ h => nomatch h⟩⟩) rfl (show (77 : Nat) ≠ 0 by decide) (htl _ wd_8_21) (va_Nw.use rfl (hKK.1.2.2.1 (eIS, eIS) (List.mem_of_getElem? (i := 1) rfl))) h2 h3 h4 ?_
      refine lv_astore (lv' := [(6, .ref q9), (0, .ref o), (1, vi 2), (2, vi v), (3, vi x2), (4, vi x3), (5, vi x4)]) hx hb dL_deed_24 hl (by decide) rfl (fun ls hl => ?_)
      refine jr_sipush hx hb dL_deed_26 (by decide) ?_
      refine W.widen (k := 3) (n := 18) (by omega) (by omega) ?_
      exact je_Qi hx hb hr hlk rfl hS ⟨(rs_2 hcd).symm, w1, (by rw [rS_n (by omega)]; exact hC), hP, hD⟩ dL_deed_29
  · intro z9 H1 L w1 hz9 hC hP hD hS
    obtain ⟨hcd, hz9⟩ := hz9
    refine W.widen (k := 3) (n := 18) (by omega) (by omega) ?_
    exact je_Qi hx hb hr hlk rfl hS ⟨hz9.trans (rs_0 hcd).symm, w1, (by rw [rS_0 hcd]; exact hC), hP, hD⟩ dL_deed_11
set_option maxHeartbeats 4000000 in
set_option maxRecDepth 100000 in
theorem m_L_plain_mark (l : Launch) (hsT : l.stackTraces = false) (g : GT) (o : Nat) (S : SGM) (W9 : va_W) (hCW : CW g o S W9) (sz : Nat) (v : Int) (hv : 0 ≤ v ∧ v < 65536) (x2 : Int) (x3 : Int) (x4 : Int) : vx_Met l yL_plain (ws_ yL_plain cL_plain 6 (some .int)) (rmm 5 3 18) (jPc g [.ref o, vi 3, vi v, vi x2, vi x3, vi x4] (fun H => H.size = sz ∧ PP g W9 H ∧ va_D (fun q => gb g ≤ q) W9)) (jQi (fun z H1 => ((cdTok S (v = 46 ∨ v = 33 ∨ v = 63 ∨ v = 44 ∨ v = 59)) = 0 ∧ z = (S.1.length : Int) + 1) ∧ ∃ w1 : va_W, CW g o ((S.1 ++ [3 * 10000 + v], S.2)) w1 ∧ PP g w1 H1 ∧ va_D (va_A W9 sz) w1) (va_A W9 sz)) (jXw (fun E => (E = eIA ∧ (cdTok S (v = 46 ∨ v = 33 ∨ v = 63 ∨ v = 44 ∨ v = 59)) = 1) ∨ (E = eIS ∧ (cdTok S (v = 46 ∨ v = 33 ∨ v = 63 ∨ v = 44 ∨ v = 59)) = 2)) (fun H1 => ∃ w1 : va_W, CW g o S w1 ∧ PP g w1 H1 ∧ va_D (va_A W9 sz) w1) (va_A W9 sz)) 3 18 (va_A W9 sz) := by
  refine jb_X (by decide) (Nat.le_of_ble_eq_true rfl) ?_
  intro p e s m below meth c hx hb hr hml hown htl hlk htab hKK hpre ls hl
  have hown : s.vm.findClass RL = some m.cls := hown
  obtain ⟨hsz, hP, hD0⟩ := hpre
  subst hsz
  have hD : va_D (va_A W9 s.heap.size) W9 := hD0.self
  have hl : lv_has ls 6 [(0, .ref o), (1, vi 3), (2, vi v), (3, vi x2), (4, vi x3), (5, vi x4)] := hl
  refine lv_iload_n hx hb dL_plain_0 rfl (lv_at hl 1 rfl) ?_
  refine lv_tableIn (tgt := 86) hx hb dL_plain_1 (by decide) (by decide) rfl rfl ?_
  refine lv_aload_n hx hb dL_plain_86 rfl (lv_at hl 0 rfl) ?_
  refine lv_iload_n hx hb dL_plain_87 rfl (lv_at hl 2 rfl) ?_
  refine lv_i2c hx hb dL_plain_88 (i2c_id hv) ?_
  refine jc_Qi (vx_runV (As := [vi v]) (rest := []) ⟨hx, hb, hml, hown, htl⟩ (m_X10_mark l hsT g o S W9 hCW s.heap.size v hv) (cwV 1 htl lk_L_27 rfl rfl rfl cwV_X10_mark ⟨Nat.le_of_ble_eq_true rfl, Nat.le_of_ble_eq_true rfl⟩) (jp_V hKK (va_S.rf (A := jN)) jNb (CW.recv hKK hCW hP) ⟨rfl, hP, hD0⟩) rfl rfl hl.1 rfl (lv_room (Nat.le_of_ble_eq_true rfl)) dL_plain_89 ⟨Nat.le_of_ble_eq_true rfl, Nat.le_of_ble_eq_true rfl⟩) hCW hP hD (jc_kx_out htab hlk (by omega) (by omega)) ?_
  intro z H L w1 hz hC hP hD hS
  refine vx_ret ?_
  refine W.widen (k := 3) (n := 18) (by omega) (by omega) ?_
  exact je_Qi hx hb hr hlk rfl hS ⟨hz, w1, hC, hP, hD⟩ dL_plain_92
set_option maxHeartbeats 4000000 in
set_option maxRecDepth 100000 in
theorem m_L_deed_mark (l : Launch) (hsT : l.stackTraces = false) (g : GT) (o : Nat) (S : SGM) (W9 : va_W) (hCW : CW g o S W9) (sz : Nat) (v : Int) (hv : 0 ≤ v ∧ v < 65536) (x2 : Int) (x3 : Int) (x4 : Int) : Met l yL_deed (.codeWith yL_deed cL_deed 7 (some .int) [(0, 11, 12, 73), (0, 11, 18, 75), (0, 11, 24, 77), (0, 11, 30, 79), (0, 11, 36, 81)] :: WSL) (rmm 6 3 18) (jPc g [.ref o, vi 3, vi v, vi x2, vi x3, vi x4] (fun H => H.size = sz ∧ PP g W9 H ∧ va_D (fun q => gb g ≤ q) W9)) (jQi (fun z H1 => z = rs (cdTok S (v = 46 ∨ v = 33 ∨ v = 63 ∨ v = 44 ∨ v = 59)) ((S.1.length : Int) + 1) (-2002) (-2003) 0 ∧ ∃ w1 : va_W, CW g o (rS (cdTok S (v = 46 ∨ v = 33 ∨ v = 63 ∨ v = 44 ∨ v = 59)) ((S.1 ++ [3 * 10000 + v], S.2)) S) w1 ∧ PP g w1 H1 ∧ va_D (va_A W9 sz) w1) (va_A W9 sz)) 3 18 (va_A W9 sz) := by
  refine jc_M (by decide) (Nat.le_of_ble_eq_true rfl) ?_
  intro p e s m below meth c hx hb hr hml hown htl hlk htb hKK hpre ls hl
  have hown : s.vm.findClass RL = some m.cls := hown
  obtain ⟨hsz, hP, hD0⟩ := hpre
  subst hsz
  have hl : lv_has ls 7 [(0, .ref o), (1, vi 3), (2, vi v), (3, vi x2), (4, vi x3), (5, vi x4)] := hl
  refine lv_aload_n hx hb dL_deed_0 rfl (lv_at hl 0 rfl) ?_
  refine lv_iload_n hx hb dL_deed_1 rfl (lv_at hl 1 rfl) ?_
  refine lv_iload_n hx hb dL_deed_2 rfl (lv_at hl 2 rfl) ?_
  refine lv_iload_n hx hb dL_deed_3 rfl (lv_at hl 3 rfl) ?_
  refine lv_iload hx hb dL_deed_4 (lv_at hl 4 rfl) ?_
  refine lv_iload hx hb dL_deed_6 (lv_at hl 5 rfl) ?_
  refine jc_Qw (NP := fun z => ((cdTok S (v = 46 ∨ v = 33 ∨ v = 63 ∨ v = 44 ∨ v = 59)) = 0 ∧ z = (S.1.length : Int) + 1)) (vx_runS (As := [.ref o, vi 3, vi v, vi x2, vi x3, vi x4]) (rest := []) ⟨hx, hb, hml, hown, htl⟩ (m_L_plain_mark l hsT g o S W9 hCW s.heap.size v hv x2 x3 x4) (va_cwS 6 htl lk_L_69 rfl rfl rfl cwS_L_plain ⟨Nat.le_of_ble_eq_true rfl, Nat.le_of_ble_eq_true rfl⟩) (jp_S hKK (va_S.rf (A := jN)) jNb ⟨rfl, hP, hD0⟩) rfl rfl hl.1 rfl (lv_room (Nat.le_of_ble_eq_true rfl)) dL_deed_8 ⟨Nat.le_of_ble_eq_true rfl, Nat.le_of_ble_eq_true rfl⟩) ?_ ?_
  · intro E ce q9 H1 L w1 hE hC hP hD hS h2 h3 h4
    rcases hE with ⟨rfl, hcd⟩ | ⟨rfl, hcd⟩
    · refine vx_catch (name := eIA) hown [xe (0, 11, 12, 73)] (xe (0, 11, 18, 75)) [xe (0, 11, 24, 77), xe (0, 11, 30, 79), xe (0, 11, 36, 81)] (htb.trans rfl) (List.forall_mem_cons.mpr ⟨Or.inr ⟨(show (73 : Nat) ≠ 0 by decide), _, htl _ wd_8_19, hKK.1.2.2.2.2.2.1 (eIA, eIO) (List.mem_of_getElem? (i := 0) rfl)⟩, fun _ h => nomatch h⟩) rfl (show (75 : Nat) ≠ 0 by decide) (htl _ wd_8_20) (va_Nw.use rfl (hKK.1.2.2.1 (eIA, eIA) (List.mem_of_getElem? (i := 0) rfl))) h2 h3 h4 ?_
      refine lv_astore (lv' := [(6, .ref q9), (0, .ref o), (1, vi 3), (2, vi v), (3, vi x2), (4, vi x3), (5, vi x4)]) hx hb dL_deed_18 hl (by decide) rfl (fun ls hl => ?_)
      refine jr_sipush hx hb dL_deed_20 (by decide) ?_
      refine W.widen (k := 3) (n := 18) (by omega) (by omega) ?_
      exact je_Qi hx hb hr hlk rfl hS ⟨(rs_1 hcd).symm, w1, (by rw [rS_n (by omega)]; exact hC), hP, hD⟩ dL_deed_23
    · refine vx_catch (name := eIS) hown [xe (0, 11, 12, 73), xe (0, 11, 18, 75)] (xe (0, 11, 24, 77)) [xe (0, 11, 30, 79), xe (0, 11, 36, 81)] (htb.trans rfl) (List.forall_mem_cons.mpr ⟨Or.inr ⟨(show (73 : Nat) ≠ 0 by decide), _, htl _ wd_8_19, hKK.1.2.2.2.2.2.1 (eIS, eIO) (List.mem_of_getElem? (i := 1) rfl)⟩, List.forall_mem_cons.mpr ⟨Or.inr ⟨(show (75 : Nat) ≠ 0 by decide), _, htl _ wd_8_20, hKK.1.2.2.2.2.2.1 (eIS, eIA) (List.mem_of_getElem? (i := 2) rfl)⟩, fun _ h => nomatch h⟩⟩) rfl (show (77 : Nat) ≠ 0 by decide) (htl _ wd_8_21) (va_Nw.use rfl (hKK.1.2.2.1 (eIS, eIS) (List.mem_of_getElem? (i := 1) rfl))) h2 h3 h4 ?_
      refine lv_astore (lv' := [(6, .ref q9), (0, .ref o), (1, vi 3), (2, vi v), (3, vi x2), (4, vi x3), (5, vi x4)]) hx hb dL_deed_24 hl (by decide) rfl (fun ls hl => ?_)
      refine jr_sipush hx hb dL_deed_26 (by decide) ?_
      refine W.widen (k := 3) (n := 18) (by omega) (by omega) ?_
      exact je_Qi hx hb hr hlk rfl hS ⟨(rs_2 hcd).symm, w1, (by rw [rS_n (by omega)]; exact hC), hP, hD⟩ dL_deed_29
  · intro z9 H1 L w1 hz9 hC hP hD hS
    obtain ⟨hcd, hz9⟩ := hz9
    refine W.widen (k := 3) (n := 18) (by omega) (by omega) ?_
    exact je_Qi hx hb hr hlk rfl hS ⟨hz9.trans (rs_0 hcd).symm, w1, (by rw [rS_0 hcd]; exact hC), hP, hD⟩ dL_deed_11
set_option maxHeartbeats 4000000 in
set_option maxRecDepth 100000 in
theorem m_L_plain_setWeights (l : Launch) (hsT : l.stackTraces = false) (g : GT) (o : Nat) (S : SGM) (W9 : va_W) (hCW : CW g o S W9) (sz : Nat) (va vb vc vd : Int) (hva : jR va) (hvb : jR vb) (hvc : jR vc) (hvd : jR vd) : vx_Met l yL_plain (ws_ yL_plain cL_plain 6 (some .int)) (rmm 4 4 24) (jPc g [.ref o, vi 4, vi va, vi vb, vi vc, vi vd] (fun H => H.size = sz ∧ PP g W9 H ∧ va_D (fun q => gb g ≤ q) W9)) (jQi (fun z H1 => ((cd1 ((1 ≤ va ∧ va ≤ 9) ∧ (1 ≤ vb ∧ vb ≤ 9) ∧ (1 ≤ vc ∧ vc ≤ 9) ∧ (1 ≤ vd ∧ vd ≤ 9))) = 0 ∧ z = wk S.2.2.2.1 0) ∧ ∃ w1 : va_W, CW g o (nxW S va vb vc vd) w1 ∧ PP g w1 H1 ∧ va_D (va_A W9 sz) w1) (va_A W9 sz)) (jXw (fun E => (E = eIA ∧ (cd1 ((1 ≤ va ∧ va ≤ 9) ∧ (1 ≤ vb ∧ vb ≤ 9) ∧ (1 ≤ vc ∧ vc ≤ 9) ∧ (1 ≤ vd ∧ vd ≤ 9))) = 1)) (fun H1 => ∃ w1 : va_W, CW g o S w1 ∧ PP g w1 H1 ∧ va_D (va_A W9 sz) w1) (va_A W9 sz)) 4 24 (va_A W9 sz) := by
  refine jb_X (by decide) (Nat.le_of_ble_eq_true rfl) ?_
  intro p e s m below meth c hx hb hr hml hown htl hlk htab hKK hpre ls hl
  have hown : s.vm.findClass RL = some m.cls := hown
  obtain ⟨hsz, hP, hD0⟩ := hpre
  subst hsz
  have hD : va_D (va_A W9 s.heap.size) W9 := hD0.self
  have hl : lv_has ls 6 [(0, .ref o), (1, vi 4), (2, vi va), (3, vi vb), (4, vi vc), (5, vi vd)] := hl
  refine lv_iload_n hx hb dL_plain_0 rfl (lv_at hl 1 rfl) ?_
  refine lv_tableIn (tgt := 93) hx hb dL_plain_1 (by decide) (by decide) rfl rfl ?_
  refine lv_aload_n hx hb dL_plain_93 rfl (lv_at hl 0 rfl) ?_
  refine lv_iload_n hx hb dL_plain_94 rfl (lv_at hl 2 rfl) ?_
  refine lv_iload_n hx hb dL_plain_95 rfl (lv_at hl 3 rfl) ?_
  refine lv_iload hx hb dL_plain_96 (lv_at hl 4 rfl) ?_
  refine lv_iload hx hb dL_plain_98 (lv_at hl 5 rfl) ?_
  refine jc_Qi (vx_runV (As := [vi va, vi vb, vi vc, vi vd]) (rest := []) ⟨hx, hb, hml, hown, htl⟩ (m_X10_setWeights l hsT g o S W9 hCW s.heap.size va vb vc vd hva hvb hvc hvd) (cwV 4 htl lk_L_31 rfl rfl rfl cwV_X10_setWeights ⟨Nat.le_of_ble_eq_true rfl, Nat.le_of_ble_eq_true rfl⟩) (jp_V hKK (va_S.rf (A := jN)) jNb (CW.recv hKK hCW hP) ⟨rfl, hP, hD0⟩) rfl rfl hl.1 rfl (lv_room (Nat.le_of_ble_eq_true rfl)) dL_plain_100 ⟨Nat.le_of_ble_eq_true rfl, Nat.le_of_ble_eq_true rfl⟩) hCW hP hD (jc_kx_out htab hlk (by omega) (by omega)) ?_
  intro z H L w1 hz hC hP hD hS
  refine vx_ret ?_
  refine W.widen (k := 4) (n := 24) (by omega) (by omega) ?_
  exact je_Qi hx hb hr hlk rfl hS ⟨hz, w1, hC, hP, hD⟩ dL_plain_103
set_option maxHeartbeats 4000000 in
set_option maxRecDepth 100000 in
theorem m_L_deed_setWeights (l : Launch) (hsT : l.stackTraces = false) (g : GT) (o : Nat) (S : SGM) (W9 : va_W) (hCW : CW g o S W9) (sz : Nat) (va vb vc vd : Int) (hva : jR va) (hvb : jR vb) (hvc : jR vc) (hvd : jR vd) : Met l yL_deed (.codeWith yL_deed cL_deed 7 (some .int) [(0, 11, 12, 73), (0, 11, 18, 75), (0, 11, 24, 77), (0, 11, 30, 79), (0, 11, 36, 81)] :: WSL) (rmm 5 4 24) (jPc g [.ref o, vi 4, vi va, vi vb, vi vc, vi vd] (fun H => H.size = sz ∧ PP g W9 H ∧ va_D (fun q => gb g ≤ q) W9)) (jQi (fun z H1 => z = rs (cd1 ((1 ≤ va ∧ va ≤ 9) ∧ (1 ≤ vb ∧ vb ≤ 9) ∧ (1 ≤ vc ∧ vc ≤ 9) ∧ (1 ≤ vd ∧ vd ≤ 9))) (wk S.2.2.2.1 0) (-2002) 0 0 ∧ ∃ w1 : va_W, CW g o (rS (cd1 ((1 ≤ va ∧ va ≤ 9) ∧ (1 ≤ vb ∧ vb ≤ 9) ∧ (1 ≤ vc ∧ vc ≤ 9) ∧ (1 ≤ vd ∧ vd ≤ 9))) (nxW S va vb vc vd) S) w1 ∧ PP g w1 H1 ∧ va_D (va_A W9 sz) w1) (va_A W9 sz)) 4 24 (va_A W9 sz) := by
  refine jc_M (by decide) (Nat.le_of_ble_eq_true rfl) ?_
  intro p e s m below meth c hx hb hr hml hown htl hlk htb hKK hpre ls hl
  have hown : s.vm.findClass RL = some m.cls := hown
  obtain ⟨hsz, hP, hD0⟩ := hpre
  subst hsz
  have hl : lv_has ls 7 [(0, .ref o), (1, vi 4), (2, vi va), (3, vi vb), (4, vi vc), (5, vi vd)] := hl
  refine lv_aload_n hx hb dL_deed_0 rfl (lv_at hl 0 rfl) ?_
  refine lv_iload_n hx hb dL_deed_1 rfl (lv_at hl 1 rfl) ?_
  refine lv_iload_n hx hb dL_deed_2 rfl (lv_at hl 2 rfl) ?_
  refine lv_iload_n hx hb dL_deed_3 rfl (lv_at hl 3 rfl) ?_
  refine lv_iload hx hb dL_deed_4 (lv_at hl 4 rfl) ?_
  refine lv_iload hx hb dL_deed_6 (lv_at hl 5 rfl) ?_
  refine jc_Qw (NP := fun z => ((cd1 ((1 ≤ va ∧ va ≤ 9) ∧ (1 ≤ vb ∧ vb ≤ 9) ∧ (1 ≤ vc ∧ vc ≤ 9) ∧ (1 ≤ vd ∧ vd ≤ 9))) = 0 ∧ z = wk S.2.2.2.1 0)) (vx_runS (As := [.ref o, vi 4, vi va, vi vb, vi vc, vi vd]) (rest := []) ⟨hx, hb, hml, hown, htl⟩ (m_L_plain_setWeights l hsT g o S W9 hCW s.heap.size va vb vc vd hva hvb hvc hvd) (va_cwS 6 htl lk_L_69 rfl rfl rfl cwS_L_plain ⟨Nat.le_of_ble_eq_true rfl, Nat.le_of_ble_eq_true rfl⟩) (jp_S hKK (va_S.rf (A := jN)) jNb ⟨rfl, hP, hD0⟩) rfl rfl hl.1 rfl (lv_room (Nat.le_of_ble_eq_true rfl)) dL_deed_8 ⟨Nat.le_of_ble_eq_true rfl, Nat.le_of_ble_eq_true rfl⟩) ?_ ?_
  · intro E ce q9 H1 L w1 hE hC hP hD hS h2 h3 h4
    rcases hE with ⟨rfl, hcd⟩
    · refine vx_catch (name := eIA) hown [xe (0, 11, 12, 73)] (xe (0, 11, 18, 75)) [xe (0, 11, 24, 77), xe (0, 11, 30, 79), xe (0, 11, 36, 81)] (htb.trans rfl) (List.forall_mem_cons.mpr ⟨Or.inr ⟨(show (73 : Nat) ≠ 0 by decide), _, htl _ wd_8_19, hKK.1.2.2.2.2.2.1 (eIA, eIO) (List.mem_of_getElem? (i := 0) rfl)⟩, fun _ h => nomatch h⟩) rfl (show (75 : Nat) ≠ 0 by decide) (htl _ wd_8_20) (va_Nw.use rfl (hKK.1.2.2.1 (eIA, eIA) (List.mem_of_getElem? (i := 0) rfl))) h2 h3 h4 ?_
      refine lv_astore (lv' := [(6, .ref q9), (0, .ref o), (1, vi 4), (2, vi va), (3, vi vb), (4, vi vc), (5, vi vd)]) hx hb dL_deed_18 hl (by decide) rfl (fun ls hl => ?_)
      refine jr_sipush hx hb dL_deed_20 (by decide) ?_
      refine W.widen (k := 4) (n := 24) (by omega) (by omega) ?_
      exact je_Qi hx hb hr hlk rfl hS ⟨(rs_1 hcd).symm, w1, (by rw [rS_n (by omega)]; exact hC), hP, hD⟩ dL_deed_23
  · intro z9 H1 L w1 hz9 hC hP hD hS
    obtain ⟨hcd, hz9⟩ := hz9
    refine W.widen (k := 4) (n := 24) (by omega) (by omega) ?_
    exact je_Qi hx hb hr hlk rfl hS ⟨hz9.trans (rs_0 hcd).symm, w1, (by rw [rS_0 hcd]; exact hC), hP, hD⟩ dL_deed_11
set_option maxHeartbeats 4000000 in
set_option maxRecDepth 100000 in
theorem m_L_plain_addTerm (l : Launch) (hsT : l.stackTraces = false) (g : GT) (o : Nat) (S : SGM) (W9 : va_W) (hCW : CW g o S W9) (sz : Nat) (va vb : Int) (hva : jR va) (hvb : jR vb) (x3 : Int) (x4 : Int) : vx_Met l yL_plain (ws_ yL_plain cL_plain 6 (some .int)) (rmm 4 3 18) (jPc g [.ref o, vi 6, vi va, vi vb, vi x3, vi x4] (fun H => H.size = sz ∧ PP g W9 H ∧ va_D (fun q => gb g ≤ q) W9)) (jQi (fun z H1 => ((cdTerm S va vb) = 0 ∧ z = ((S.2.2.2.2.1.1 + 1 : Nat) : Int)) ∧ ∃ w1 : va_W, CW g o (nxT S va vb) w1 ∧ PP g w1 H1 ∧ va_D (va_A W9 sz) w1) (va_A W9 sz)) (jXw (fun E => (E = eIA ∧ (cdTerm S va vb) = 1) ∨ (E = eUO ∧ (cdTerm S va vb) = 2) ∨ (E = eIS ∧ (cdTerm S va vb) = 3)) (fun H1 => ∃ w1 : va_W, CW g o S w1 ∧ PP g w1 H1 ∧ va_D (va_A W9 sz) w1) (va_A W9 sz)) 3 18 (va_A W9 sz) := by
  refine jb_X (by decide) (Nat.le_of_ble_eq_true rfl) ?_
  intro p e s m below meth c hx hb hr hml hown htl hlk htab hKK hpre ls hl
  have hown : s.vm.findClass RL = some m.cls := hown
  obtain ⟨hsz, hP, hD0⟩ := hpre
  subst hsz
  have hD : va_D (va_A W9 s.heap.size) W9 := hD0.self
  have hl : lv_has ls 6 [(0, .ref o), (1, vi 6), (2, vi va), (3, vi vb), (4, vi x3), (5, vi x4)] := hl
  refine lv_iload_n hx hb dL_plain_0 rfl (lv_at hl 1 rfl) ?_
  refine lv_tableIn (tgt := 113) hx hb dL_plain_1 (by decide) (by decide) rfl rfl ?_
  refine lv_aload_n hx hb dL_plain_113 rfl (lv_at hl 0 rfl) ?_
  refine lv_iload_n hx hb dL_plain_114 rfl (lv_at hl 2 rfl) ?_
  refine lv_iload_n hx hb dL_plain_115 rfl (lv_at hl 3 rfl) ?_
  refine jc_Qi (vx_runV (As := [vi va, vi vb]) (rest := []) ⟨hx, hb, hml, hown, htl⟩ (m_X10_addTerm l hsT g o S W9 hCW s.heap.size va vb hva hvb) (cwV 2 htl lk_L_43 rfl rfl rfl cwV_X10_addTerm ⟨Nat.le_of_ble_eq_true rfl, Nat.le_of_ble_eq_true rfl⟩) (jp_V hKK (va_S.rf (A := jN)) jNb (CW.recv hKK hCW hP) ⟨rfl, hP, hD0⟩) rfl rfl hl.1 rfl (lv_room (Nat.le_of_ble_eq_true rfl)) dL_plain_116 ⟨Nat.le_of_ble_eq_true rfl, Nat.le_of_ble_eq_true rfl⟩) hCW hP hD (jc_kx_out htab hlk (by omega) (by omega)) ?_
  intro z H L w1 hz hC hP hD hS
  refine vx_ret ?_
  refine W.widen (k := 3) (n := 18) (by omega) (by omega) ?_
  exact je_Qi hx hb hr hlk rfl hS ⟨hz, w1, hC, hP, hD⟩ dL_plain_119
set_option maxHeartbeats 4000000 in
set_option maxRecDepth 100000 in
theorem m_L_deed_addTerm (l : Launch) (hsT : l.stackTraces = false) (g : GT) (o : Nat) (S : SGM) (W9 : va_W) (hCW : CW g o S W9) (sz : Nat) (va vb : Int) (hva : jR va) (hvb : jR vb) (x3 : Int) (x4 : Int) : Met l yL_deed (.codeWith yL_deed cL_deed 7 (some .int) [(0, 11, 12, 73), (0, 11, 18, 75), (0, 11, 24, 77), (0, 11, 30, 79), (0, 11, 36, 81)] :: WSL) (rmm 5 3 18) (jPc g [.ref o, vi 6, vi va, vi vb, vi x3, vi x4] (fun H => H.size = sz ∧ PP g W9 H ∧ va_D (fun q => gb g ≤ q) W9)) (jQi (fun z H1 => z = rs (cdTerm S va vb) ((S.2.2.2.2.1.1 + 1 : Nat) : Int) (-2002) (-2004) (-2003) ∧ ∃ w1 : va_W, CW g o (rS (cdTerm S va vb) (nxT S va vb) S) w1 ∧ PP g w1 H1 ∧ va_D (va_A W9 sz) w1) (va_A W9 sz)) 3 18 (va_A W9 sz) := by
  refine jc_M (by decide) (Nat.le_of_ble_eq_true rfl) ?_
  intro p e s m below meth c hx hb hr hml hown htl hlk htb hKK hpre ls hl
  have hown : s.vm.findClass RL = some m.cls := hown
  obtain ⟨hsz, hP, hD0⟩ := hpre
  subst hsz
  have hl : lv_has ls 7 [(0, .ref o), (1, vi 6), (2, vi va), (3, vi vb), (4, vi x3), (5, vi x4)] := hl
  refine lv_aload_n hx hb dL_deed_0 rfl (lv_at hl 0 rfl) ?_
  refine lv_iload_n hx hb dL_deed_1 rfl (lv_at hl 1 rfl) ?_
  refine lv_iload_n hx hb dL_deed_2 rfl (lv_at hl 2 rfl) ?_
  refine lv_iload_n hx hb dL_deed_3 rfl (lv_at hl 3 rfl) ?_
  refine lv_iload hx hb dL_deed_4 (lv_at hl 4 rfl) ?_
  refine lv_iload hx hb dL_deed_6 (lv_at hl 5 rfl) ?_
  refine jc_Qw (NP := fun z => ((cdTerm S va vb) = 0 ∧ z = ((S.2.2.2.2.1.1 + 1 : Nat) : Int))) (vx_runS (As := [.ref o, vi 6, vi va, vi vb, vi x3, vi x4]) (rest := []) ⟨hx, hb, hml, hown, htl⟩ (m_L_plain_addTerm l hsT g o S W9 hCW s.heap.size va vb hva hvb x3 x4) (va_cwS 6 htl lk_L_69 rfl rfl rfl cwS_L_plain ⟨Nat.le_of_ble_eq_true rfl, Nat.le_of_ble_eq_true rfl⟩) (jp_S hKK (va_S.rf (A := jN)) jNb ⟨rfl, hP, hD0⟩) rfl rfl hl.1 rfl (lv_room (Nat.le_of_ble_eq_true rfl)) dL_deed_8 ⟨Nat.le_of_ble_eq_true rfl, Nat.le_of_ble_eq_true rfl⟩) ?_ ?_
  · intro E ce q9 H1 L w1 hE hC hP hD hS h2 h3 h4
    rcases hE with ⟨rfl, hcd⟩ | ⟨rfl, hcd⟩ | ⟨rfl, hcd⟩
    · refine vx_catch (name := eIA) hown [xe (0, 11, 12, 73)] (xe (0, 11, 18, 75)) [xe (0, 11, 24, 77), xe (0, 11, 30, 79), xe (0, 11, 36, 81)] (htb.trans rfl) (List.forall_mem_cons.mpr ⟨Or.inr ⟨(show (73 : Nat) ≠ 0 by decide), _, htl _ wd_8_19, hKK.1.2.2.2.2.2.1 (eIA, eIO) (List.mem_of_getElem? (i := 0) rfl)⟩, fun _ h => nomatch h⟩) rfl (show (75 : Nat) ≠ 0 by decide) (htl _ wd_8_20) (va_Nw.use rfl (hKK.1.2.2.1 (eIA, eIA) (List.mem_of_getElem? (i := 0) rfl))) h2 h3 h4 ?_
      refine lv_astore (lv' := [(6, .ref q9), (0, .ref o), (1, vi 6), (2, vi va), (3, vi vb), (4, vi x3), (5, vi x4)]) hx hb dL_deed_18 hl (by decide) rfl (fun ls hl => ?_)
      refine jr_sipush hx hb dL_deed_20 (by decide) ?_
      refine W.widen (k := 3) (n := 18) (by omega) (by omega) ?_
      exact je_Qi hx hb hr hlk rfl hS ⟨(rs_1 hcd).symm, w1, (by rw [rS_n (by omega)]; exact hC), hP, hD⟩ dL_deed_23
    · refine vx_catch (name := eUO) hown [xe (0, 11, 12, 73), xe (0, 11, 18, 75), xe (0, 11, 24, 77)] (xe (0, 11, 30, 79)) [xe (0, 11, 36, 81)] (htb.trans rfl) (List.forall_mem_cons.mpr ⟨Or.inr ⟨(show (73 : Nat) ≠ 0 by decide), _, htl _ wd_8_19, hKK.1.2.2.2.2.2.1 (eUO, eIO) (List.mem_of_getElem? (i := 3) rfl)⟩, List.forall_mem_cons.mpr ⟨Or.inr ⟨(show (75 : Nat) ≠ 0 by decide), _, htl _ wd_8_20, hKK.1.2.2.2.2.2.1 (eUO, eIA) (List.mem_of_getElem? (i := 4) rfl)⟩, List.forall_mem_cons.mpr ⟨Or.inr ⟨(show (77 : Nat) ≠ 0 by decide), _, htl _ wd_8_21, hKK.1.2.2.2.2.2.1 (eUO, eIS) (List.mem_of_getElem? (i := 5) rfl)⟩, fun _ h => nomatch h⟩⟩⟩) rfl (show (79 : Nat) ≠ 0 by decide) (htl _ wd_8_22) (va_Nw.use rfl (hKK.1.2.2.1 (eUO, eUO) (List.mem_of_getElem? (i := 4) rfl))) h2 h3 h4 ?_
      refine lv_astore (lv' := [(6, .ref q9), (0, .ref o), (1, vi 6), (2, vi va), (3, vi vb), (4, vi x3), (5, vi x4)]) hx hb dL_deed_30 hl (by decide) rfl (fun ls hl => ?_)
      refine jr_sipush hx hb dL_deed_32 (by decide) ?_
      refine W.widen (k := 3) (n := 18) (by omega) (by omega) ?_
      exact je_Qi hx hb hr hlk rfl hS ⟨(rs_2 hcd).symm, w1, (by rw [rS_n (by omega)]; exact hC), hP, hD⟩ dL_deed_35
    · refine vx_catch (name := eIS) hown [xe (0, 11, 12, 73), xe (0, 11, 18, 75)] (xe (0, 11, 24, 77)) [xe (0, 11, 30, 79), xe (0, 11, 36, 81)] (htb.trans rfl) (List.forall_mem_cons.mpr ⟨Or.inr ⟨(show (73 : Nat) ≠ 0 by decide), _, htl _ wd_8_19, hKK.1.2.2.2.2.2.1 (eIS, eIO) (List.mem_of_getElem? (i := 1) rfl)⟩, List.forall_mem_cons.mpr ⟨Or.inr ⟨(show (75 : Nat) ≠ 0 by decide), _, htl _ wd_8_20, hKK.1.2.2.2.2.2.1 (eIS, eIA) (List.mem_of_getElem? (i := 2) rfl)⟩, fun _ h => nomatch h⟩⟩) rfl (show (77 : Nat) ≠ 0 by decide) (htl _ wd_8_21) (va_Nw.use rfl (hKK.1.2.2.1 (eIS, eIS) (List.mem_of_getElem? (i := 1) rfl))) h2 h3 h4 ?_
      refine lv_astore (lv' := [(6, .ref q9), (0, .ref o), (1, vi 6), (2, vi va), (3, vi vb), (4, vi x3), (5, vi x4)]) hx hb dL_deed_24 hl (by decide) rfl (fun ls hl => ?_)
      refine jr_sipush hx hb dL_deed_26 (by decide) ?_
      refine W.widen (k := 3) (n := 18) (by omega) (by omega) ?_
      exact je_Qi hx hb hr hlk rfl hS ⟨(rs_3 hcd).symm, w1, (by rw [rS_n (by omega)]; exact hC), hP, hD⟩ dL_deed_29
  · intro z9 H1 L w1 hz9 hC hP hD hS
    obtain ⟨hcd, hz9⟩ := hz9
    refine W.widen (k := 3) (n := 18) (by omega) (by omega) ?_
    exact je_Qi hx hb hr hlk rfl hS ⟨hz9.trans (rs_0 hcd).symm, w1, (by rw [rS_0 hcd]; exact hC), hP, hD⟩ dL_deed_11
set_option maxHeartbeats 4000000 in
set_option maxRecDepth 100000 in
theorem m_L_plain_takeSource (l : Launch) (hsT : l.stackTraces = false) (g : GT) (o : Nat) (S : SGM) (W9 : va_W) (hCW : CW g o S W9) (sz : Nat) (x1 : Int) (x2 : Int) (x3 : Int) (x4 : Int) : vx_Met l yL_plain (ws_ yL_plain cL_plain 6 (some .int)) (rmm 6 1 6) (jPc g [.ref o, vi 7, vi x1, vi x2, vi x3, vi x4] (fun H => H.size = sz ∧ PP g W9 H ∧ va_D (fun q => gb g ≤ q) W9)) (jQi (fun z H1 => ((cd1 (¬ S.1.length = 0)) = 0 ∧ z = (S.1.length : Int)) ∧ ∃ w1 : va_W, CW g o (nxTake S) w1 ∧ PP g w1 H1 ∧ va_D (va_A W9 sz) w1) (va_A W9 sz)) (jXw (fun E => (E = eIS ∧ (cd1 (¬ S.1.length = 0)) = 1)) (fun H1 => ∃ w1 : va_W, CW g o S w1 ∧ PP g w1 H1 ∧ va_D (va_A W9 sz) w1) (va_A W9 sz)) 1 6 (va_A W9 sz) := by
  refine jb_X (by decide) (Nat.le_of_ble_eq_true rfl) ?_
  intro p e s m below meth c hx hb hr hml hown htl hlk htab hKK hpre ls hl
  have hown : s.vm.findClass RL = some m.cls := hown
  obtain ⟨hsz, hP, hD0⟩ := hpre
  subst hsz
  have hD : va_D (va_A W9 s.heap.size) W9 := hD0.self
  have hl : lv_has ls 6 [(0, .ref o), (1, vi 7), (2, vi x1), (3, vi x2), (4, vi x3), (5, vi x4)] := hl
  refine lv_iload_n hx hb dL_plain_0 rfl (lv_at hl 1 rfl) ?_
  refine lv_tableIn (tgt := 120) hx hb dL_plain_1 (by decide) (by decide) rfl rfl ?_
  refine lv_aload_n hx hb dL_plain_120 rfl (lv_at hl 0 rfl) ?_
  refine jc_Qi (vx_runV (As := []) (rest := []) ⟨hx, hb, hml, hown, htl⟩ (m_X10_takeSource l hsT g o S W9 hCW s.heap.size) (cwV 0 htl lk_L_47 rfl rfl rfl cwV_X10_takeSource ⟨Nat.le_of_ble_eq_true rfl, Nat.le_of_ble_eq_true rfl⟩) (jp_V hKK (va_S.rf (A := jN)) jNb (CW.recv hKK hCW hP) ⟨rfl, hP, hD0⟩) rfl rfl hl.1 rfl (lv_room (Nat.le_of_ble_eq_true rfl)) dL_plain_121 ⟨Nat.le_of_ble_eq_true rfl, Nat.le_of_ble_eq_true rfl⟩) hCW hP hD (jc_kx_out htab hlk (by omega) (by omega)) ?_
  intro z H L w1 hz hC hP hD hS
  refine vx_ret ?_
  refine W.widen (k := 1) (n := 6) (by omega) (by omega) ?_
  exact je_Qi hx hb hr hlk rfl hS ⟨hz, w1, hC, hP, hD⟩ dL_plain_124
set_option maxHeartbeats 4000000 in
set_option maxRecDepth 100000 in
theorem m_L_deed_takeSource (l : Launch) (hsT : l.stackTraces = false) (g : GT) (o : Nat) (S : SGM) (W9 : va_W) (hCW : CW g o S W9) (sz : Nat) (x1 : Int) (x2 : Int) (x3 : Int) (x4 : Int) : Met l yL_deed (.codeWith yL_deed cL_deed 7 (some .int) [(0, 11, 12, 73), (0, 11, 18, 75), (0, 11, 24, 77), (0, 11, 30, 79), (0, 11, 36, 81)] :: WSL) (rmm 7 1 6) (jPc g [.ref o, vi 7, vi x1, vi x2, vi x3, vi x4] (fun H => H.size = sz ∧ PP g W9 H ∧ va_D (fun q => gb g ≤ q) W9)) (jQi (fun z H1 => z = rs (cd1 (¬ S.1.length = 0)) (S.1.length : Int) (-2003) 0 0 ∧ ∃ w1 : va_W, CW g o (rS (cd1 (¬ S.1.length = 0)) (nxTake S) S) w1 ∧ PP g w1 H1 ∧ va_D (va_A W9 sz) w1) (va_A W9 sz)) 1 6 (va_A W9 sz) := by
  refine jc_M (by decide) (Nat.le_of_ble_eq_true rfl) ?_
  intro p e s m below meth c hx hb hr hml hown htl hlk htb hKK hpre ls hl
  have hown : s.vm.findClass RL = some m.cls := hown
  obtain ⟨hsz, hP, hD0⟩ := hpre
  subst hsz
  have hl : lv_has ls 7 [(0, .ref o), (1, vi 7), (2, vi x1), (3, vi x2), (4, vi x3), (5, vi x4)] := hl
  refine lv_aload_n hx hb dL_deed_0 rfl (lv_at hl 0 rfl) ?_
  refine lv_iload_n hx hb dL_deed_1 rfl (lv_at hl 1 rfl) ?_
  refine lv_iload_n hx hb dL_deed_2 rfl (lv_at hl 2 rfl) ?_
  refine lv_iload_n hx hb dL_deed_3 rfl (lv_at hl 3 rfl) ?_
  refine lv_iload hx hb dL_deed_4 (lv_at hl 4 rfl) ?_
  refine lv_iload hx hb dL_deed_6 (lv_at hl 5 rfl) ?_
  refine jc_Qw (NP := fun z => ((cd1 (¬ S.1.length = 0)) = 0 ∧ z = (S.1.length : Int))) (vx_runS (As := [.ref o, vi 7, vi x1, vi x2, vi x3, vi x4]) (rest := []) ⟨hx, hb, hml, hown, htl⟩ (m_L_plain_takeSource l hsT g o S W9 hCW s.heap.size x1 x2 x3 x4) (va_cwS 6 htl lk_L_69 rfl rfl rfl cwS_L_plain ⟨Nat.le_of_ble_eq_true rfl, Nat.le_of_ble_eq_true rfl⟩) (jp_S hKK (va_S.rf (A := jN)) jNb ⟨rfl, hP, hD0⟩) rfl rfl hl.1 rfl (lv_room (Nat.le_of_ble_eq_true rfl)) dL_deed_8 ⟨Nat.le_of_ble_eq_true rfl, Nat.le_of_ble_eq_true rfl⟩) ?_ ?_
  · intro E ce q9 H1 L w1 hE hC hP hD hS h2 h3 h4
    rcases hE with ⟨rfl, hcd⟩
    · refine vx_catch (name := eIS) hown [xe (0, 11, 12, 73), xe (0, 11, 18, 75)] (xe (0, 11, 24, 77)) [xe (0, 11, 30, 79), xe (0, 11, 36, 81)] (htb.trans rfl) (List.forall_mem_cons.mpr ⟨Or.inr ⟨(show (73 : Nat) ≠ 0 by decide), _, htl _ wd_8_19, hKK.1.2.2.2.2.2.1 (eIS, eIO) (List.mem_of_getElem? (i := 1) rfl)⟩, List.forall_mem_cons.mpr ⟨Or.inr ⟨(show (75 : Nat) ≠ 0 by decide), _, htl _ wd_8_20, hKK.1.2.2.2.2.2.1 (eIS, eIA) (List.mem_of_getElem? (i := 2) rfl)⟩, fun _ h => nomatch h⟩⟩) rfl (show (77 : Nat) ≠ 0 by decide) (htl _ wd_8_21) (va_Nw.use rfl (hKK.1.2.2.1 (eIS, eIS) (List.mem_of_getElem? (i := 1) rfl))) h2 h3 h4 ?_
      refine lv_astore (lv' := [(6, .ref q9), (0, .ref o), (1, vi 7), (2, vi x1), (3, vi x2), (4, vi x3), (5, vi x4)]) hx hb dL_deed_24 hl (by decide) rfl (fun ls hl => ?_)
      refine jr_sipush hx hb dL_deed_26 (by decide) ?_
      refine W.widen (k := 1) (n := 6) (by omega) (by omega) ?_
      exact je_Qi hx hb hr hlk rfl hS ⟨(rs_1 hcd).symm, w1, (by rw [rS_n (by omega)]; exact hC), hP, hD⟩ dL_deed_29
  · intro z9 H1 L w1 hz9 hC hP hD hS
    obtain ⟨hcd, hz9⟩ := hz9
    refine W.widen (k := 1) (n := 6) (by omega) (by omega) ?_
    exact je_Qi hx hb hr hlk rfl hS ⟨hz9.trans (rs_0 hcd).symm, w1, (by rw [rS_0 hcd]; exact hC), hP, hD⟩ dL_deed_11
set_option maxHeartbeats 4000000 in
set_option maxRecDepth 100000 in
theorem m_L_plain_addUnit (l : Launch) (hsT : l.stackTraces = false) (g : GT) (o : Nat) (S : SGM) (W9 : va_W) (hCW : CW g o S W9) (sz : Nat) (x1 : Int) (x2 : Int) (x3 : Int) (x4 : Int) : vx_Met l yL_plain (ws_ yL_plain cL_plain 6 (some .int)) (rmm 9 9 233) (jPc g [.ref o, vi 8, vi x1, vi x2, vi x3, vi x4] (fun H => H.size = sz ∧ PP g W9 H ∧ va_D (fun q => gb g ≤ q) W9)) (jQi (fun z H1 => ((cdAdd S) = 0 ∧ z = (nU S : Int)) ∧ ∃ w1 : va_W, CW g o (nxAdd S) w1 ∧ PP g w1 H1 ∧ va_D (va_A W9 sz) w1) (va_A W9 sz)) (jXw (fun E => (E = eNS ∧ (cdAdd S) = 1) ∨ (E = eIS ∧ (cdAdd S) = 2)) (fun H1 => ∃ w1 : va_W, CW g o S w1 ∧ PP g w1 H1 ∧ va_D (va_A W9 sz) w1) (va_A W9 sz)) 9 233 (va_A W9 sz) := by
  refine jb_X (by decide) (Nat.le_of_ble_eq_true rfl) ?_
  intro p e s m below meth c hx hb hr hml hown htl hlk htab hKK hpre ls hl
  have hown : s.vm.findClass RL = some m.cls := hown
  obtain ⟨hsz, hP, hD0⟩ := hpre
  subst hsz
  have hD : va_D (va_A W9 s.heap.size) W9 := hD0.self
  have hl : lv_has ls 6 [(0, .ref o), (1, vi 8), (2, vi x1), (3, vi x2), (4, vi x3), (5, vi x4)] := hl
  refine lv_iload_n hx hb dL_plain_0 rfl (lv_at hl 1 rfl) ?_
  refine lv_tableIn (tgt := 125) hx hb dL_plain_1 (by decide) (by decide) rfl rfl ?_
  refine lv_aload_n hx hb dL_plain_125 rfl (lv_at hl 0 rfl) ?_
  refine jc_Qi (vx_runV (As := []) (rest := []) ⟨hx, hb, hml, hown, htl⟩ (m_X10_addUnit l hsT g o S W9 hCW s.heap.size) (cwV 0 htl lk_L_51 rfl rfl rfl cwV_X10_addUnit ⟨Nat.le_of_ble_eq_true rfl, Nat.le_of_ble_eq_true rfl⟩) (jp_V hKK (va_S.rf (A := jN)) jNb (CW.recv hKK hCW hP) ⟨rfl, hP, hD0⟩) rfl rfl hl.1 rfl (lv_room (Nat.le_of_ble_eq_true rfl)) dL_plain_126 ⟨Nat.le_of_ble_eq_true rfl, Nat.le_of_ble_eq_true rfl⟩) hCW hP hD (jc_kx_out htab hlk (by omega) (by omega)) ?_
  intro z H L w1 hz hC hP hD hS
  refine vx_ret ?_
  refine W.widen (k := 9) (n := 233) (by omega) (by omega) ?_
  exact je_Qi hx hb hr hlk rfl hS ⟨hz, w1, hC, hP, hD⟩ dL_plain_129
set_option maxHeartbeats 4000000 in
set_option maxRecDepth 100000 in
theorem m_L_deed_addUnit (l : Launch) (hsT : l.stackTraces = false) (g : GT) (o : Nat) (S : SGM) (W9 : va_W) (hCW : CW g o S W9) (sz : Nat) (x1 : Int) (x2 : Int) (x3 : Int) (x4 : Int) : Met l yL_deed (.codeWith yL_deed cL_deed 7 (some .int) [(0, 11, 12, 73), (0, 11, 18, 75), (0, 11, 24, 77), (0, 11, 30, 79), (0, 11, 36, 81)] :: WSL) (rmm 10 9 233) (jPc g [.ref o, vi 8, vi x1, vi x2, vi x3, vi x4] (fun H => H.size = sz ∧ PP g W9 H ∧ va_D (fun q => gb g ≤ q) W9)) (jQi (fun z H1 => z = rs (cdAdd S) (nU S : Int) (-2005) (-2003) 0 ∧ ∃ w1 : va_W, CW g o (rS (cdAdd S) (nxAdd S) S) w1 ∧ PP g w1 H1 ∧ va_D (va_A W9 sz) w1) (va_A W9 sz)) 9 233 (va_A W9 sz) := by
  refine jc_M (by decide) (Nat.le_of_ble_eq_true rfl) ?_
  intro p e s m below meth c hx hb hr hml hown htl hlk htb hKK hpre ls hl
  have hown : s.vm.findClass RL = some m.cls := hown
  obtain ⟨hsz, hP, hD0⟩ := hpre
  subst hsz
  have hl : lv_has ls 7 [(0, .ref o), (1, vi 8), (2, vi x1), (3, vi x2), (4, vi x3), (5, vi x4)] := hl
  refine lv_aload_n hx hb dL_deed_0 rfl (lv_at hl 0 rfl) ?_
  refine lv_iload_n hx hb dL_deed_1 rfl (lv_at hl 1 rfl) ?_
  refine lv_iload_n hx hb dL_deed_2 rfl (lv_at hl 2 rfl) ?_
  refine lv_iload_n hx hb dL_deed_3 rfl (lv_at hl 3 rfl) ?_
  refine lv_iload hx hb dL_deed_4 (lv_at hl 4 rfl) ?_
  refine lv_iload hx hb dL_deed_6 (lv_at hl 5 rfl) ?_
  refine jc_Qw (NP := fun z => ((cdAdd S) = 0 ∧ z = (nU S : Int))) (vx_runS (As := [.ref o, vi 8, vi x1, vi x2, vi x3, vi x4]) (rest := []) ⟨hx, hb, hml, hown, htl⟩ (m_L_plain_addUnit l hsT g o S W9 hCW s.heap.size x1 x2 x3 x4) (va_cwS 6 htl lk_L_69 rfl rfl rfl cwS_L_plain ⟨Nat.le_of_ble_eq_true rfl, Nat.le_of_ble_eq_true rfl⟩) (jp_S hKK (va_S.rf (A := jN)) jNb ⟨rfl, hP, hD0⟩) rfl rfl hl.1 rfl (lv_room (Nat.le_of_ble_eq_true rfl)) dL_deed_8 ⟨Nat.le_of_ble_eq_true rfl, Nat.le_of_ble_eq_true rfl⟩) ?_ ?_
  · intro E ce q9 H1 L w1 hE hC hP hD hS h2 h3 h4
    rcases hE with ⟨rfl, hcd⟩ | ⟨rfl, hcd⟩
    · refine vx_catch (name := eNS) hown [xe (0, 11, 12, 73), xe (0, 11, 18, 75), xe (0, 11, 24, 77), xe (0, 11, 30, 79)] (xe (0, 11, 36, 81)) [] (htb.trans rfl) (List.forall_mem_cons.mpr ⟨Or.inr ⟨(show (73 : Nat) ≠ 0 by decide), _, htl _ wd_8_19, hKK.1.2.2.2.2.2.1 (eNS, eIO) (List.mem_of_getElem? (i := 6) rfl)⟩, List.forall_mem_cons.mpr ⟨Or.inr ⟨(show (75 : Nat) ≠ 0 by decide), _, htl _ wd_8_20, hKK.1.2.2.2.2.2.1 (eNS, eIA) (List.mem_of_getElem? (i := 7) rfl)⟩, List.forall_mem_cons.mpr ⟨Or.inr ⟨(show (77 : Nat) ≠ 0 by decide), _, htl _ wd_8_21, hKK.1.2.2.2.2.2.1 (eNS, eIS) (List.mem_of_getElem? (i := 8) rfl)⟩, List.forall_mem_cons.mpr ⟨Or.inr ⟨(show (79 : Nat) ≠ 0 by decide), _, htl _ wd_8_22, hKK.1.2.2.2.2.2.1 (eNS, eUO) (List.mem_of_getElem? (i := 9) rfl)⟩, fun _ h => nomatch h⟩⟩⟩⟩) rfl (show (81 : Nat) ≠ 0 by decide) (htl _ wd_8_23) (va_Nw.use rfl (hKK.1.2.2.1 (eNS, eNS) (List.mem_of_getElem? (i := 5) rfl))) h2 h3 h4 ?_
      refine lv_astore (lv' := [(6, .ref q9), (0, .ref o), (1, vi 8), (2, vi x1), (3, vi x2), (4, vi x3), (5, vi x4)]) hx hb dL_deed_36 hl (by decide) rfl (fun ls hl => ?_)
      refine jr_sipush hx hb dL_deed_38 (by decide) ?_
      refine W.widen (k := 9) (n := 233) (by omega) (by omega) ?_
      exact je_Qi hx hb hr hlk rfl hS ⟨(rs_1 hcd).symm, w1, (by rw [rS_n (by omega)]; exact hC), hP, hD⟩ dL_deed_41
    · refine vx_catch (name := eIS) hown [xe (0, 11, 12, 73), xe (0, 11, 18, 75)] (xe (0, 11, 24, 77)) [xe (0, 11, 30, 79), xe (0, 11, 36, 81)] (htb.trans rfl) (List.forall_mem_cons.mpr ⟨Or.inr ⟨(show (73 : Nat) ≠ 0 by decide), _, htl _ wd_8_19, hKK.1.2.2.2.2.2.1 (eIS, eIO) (List.mem_of_getElem? (i := 1) rfl)⟩, List.forall_mem_cons.mpr ⟨Or.inr ⟨(show (75 : Nat) ≠ 0 by decide), _, htl _ wd_8_20, hKK.1.2.2.2.2.2.1 (eIS, eIA) (List.mem_of_getElem? (i := 2) rfl)⟩, fun _ h => nomatch h⟩⟩) rfl (show (77 : Nat) ≠ 0 by decide) (htl _ wd_8_21) (va_Nw.use rfl (hKK.1.2.2.1 (eIS, eIS) (List.mem_of_getElem? (i := 1) rfl))) h2 h3 h4 ?_
      refine lv_astore (lv' := [(6, .ref q9), (0, .ref o), (1, vi 8), (2, vi x1), (3, vi x2), (4, vi x3), (5, vi x4)]) hx hb dL_deed_24 hl (by decide) rfl (fun ls hl => ?_)
      refine jr_sipush hx hb dL_deed_26 (by decide) ?_
      refine W.widen (k := 9) (n := 233) (by omega) (by omega) ?_
      exact je_Qi hx hb hr hlk rfl hS ⟨(rs_2 hcd).symm, w1, (by rw [rS_n (by omega)]; exact hC), hP, hD⟩ dL_deed_29
  · intro z9 H1 L w1 hz9 hC hP hD hS
    obtain ⟨hcd, hz9⟩ := hz9
    refine W.widen (k := 9) (n := 233) (by omega) (by omega) ?_
    exact je_Qi hx hb hr hlk rfl hS ⟨hz9.trans (rs_0 hcd).symm, w1, (by rw [rS_0 hcd]; exact hC), hP, hD⟩ dL_deed_11
set_option maxHeartbeats 4000000 in
set_option maxRecDepth 100000 in
theorem m_L_plain_withdraw (l : Launch) (hsT : l.stackTraces = false) (g : GT) (o : Nat) (S : SGM) (W9 : va_W) (hCW : CW g o S W9) (sz : Nat) (v : Int) (hv : jR v) (x2 : Int) (x3 : Int) (x4 : Int) : vx_Met l yL_plain (ws_ yL_plain cL_plain 6 (some .int)) (rmm 9 2 12) (jPc g [.ref o, vi 10, vi v, vi x2, vi x3, vi x4] (fun H => H.size = sz ∧ PP g W9 H ∧ va_D (fun q => gb g ≤ q) W9)) (jQi (fun z H1 => ((cdUL S v) = 0 ∧ z = clv (uS (nxWd S v)) (nU (nxWd S v))) ∧ ∃ w1 : va_W, CW g o (nxWd S v) w1 ∧ PP g w1 H1 ∧ va_D (va_A W9 sz) w1) (va_A W9 sz)) (jXw (fun E => (E = eNS ∧ (cdUL S v) = 1) ∨ (E = eUO ∧ (cdUL S v) = 2)) (fun H1 => ∃ w1 : va_W, CW g o S w1 ∧ PP g w1 H1 ∧ va_D (va_A W9 sz) w1) (va_A W9 sz)) 2 12 (va_A W9 sz) := by
  refine jb_X (by decide) (Nat.le_of_ble_eq_true rfl) ?_
  intro p e s m below meth c hx hb hr hml hown htl hlk htab hKK hpre ls hl
  have hown : s.vm.findClass RL = some m.cls := hown
  obtain ⟨hsz, hP, hD0⟩ := hpre
  subst hsz
  have hD : va_D (va_A W9 s.heap.size) W9 := hD0.self
  have hl : lv_has ls 6 [(0, .ref o), (1, vi 10), (2, vi v), (3, vi x2), (4, vi x3), (5, vi x4)] := hl
  refine lv_iload_n hx hb dL_plain_0 rfl (lv_at hl 1 rfl) ?_
  refine lv_tableIn (tgt := 136) hx hb dL_plain_1 (by decide) (by decide) rfl rfl ?_
  refine lv_aload_n hx hb dL_plain_136 rfl (lv_at hl 0 rfl) ?_
  refine lv_iload_n hx hb dL_plain_137 rfl (lv_at hl 2 rfl) ?_
  refine jc_Qi (vx_runV (As := [vi v]) (rest := []) ⟨hx, hb, hml, hown, htl⟩ (m_X10_withdraw l hsT g o S W9 hCW s.heap.size v hv) (cwV 1 htl lk_L_57 rfl rfl rfl cwV_X10_withdraw ⟨Nat.le_of_ble_eq_true rfl, Nat.le_of_ble_eq_true rfl⟩) (jp_V hKK (va_S.rf (A := jN)) jNb (CW.recv hKK hCW hP) ⟨rfl, hP, hD0⟩) rfl rfl hl.1 rfl (lv_room (Nat.le_of_ble_eq_true rfl)) dL_plain_138 ⟨Nat.le_of_ble_eq_true rfl, Nat.le_of_ble_eq_true rfl⟩) hCW hP hD (jc_kx_out htab hlk (by omega) (by omega)) ?_
  intro z H L w1 hz hC hP hD hS
  refine vx_ret ?_
  refine W.widen (k := 2) (n := 12) (by omega) (by omega) ?_
  exact je_Qi hx hb hr hlk rfl hS ⟨hz, w1, hC, hP, hD⟩ dL_plain_141
set_option maxHeartbeats 4000000 in
set_option maxRecDepth 100000 in
theorem m_L_deed_withdraw (l : Launch) (hsT : l.stackTraces = false) (g : GT) (o : Nat) (S : SGM) (W9 : va_W) (hCW : CW g o S W9) (sz : Nat) (v : Int) (hv : jR v) (x2 : Int) (x3 : Int) (x4 : Int) : Met l yL_deed (.codeWith yL_deed cL_deed 7 (some .int) [(0, 11, 12, 73), (0, 11, 18, 75), (0, 11, 24, 77), (0, 11, 30, 79), (0, 11, 36, 81)] :: WSL) (rmm 10 2 12) (jPc g [.ref o, vi 10, vi v, vi x2, vi x3, vi x4] (fun H => H.size = sz ∧ PP g W9 H ∧ va_D (fun q => gb g ≤ q) W9)) (jQi (fun z H1 => z = rs (cdUL S v) (clv (uS (nxWd S v)) (nU (nxWd S v))) (-2005) (-2004) 0 ∧ ∃ w1 : va_W, CW g o (rS (cdUL S v) (nxWd S v) S) w1 ∧ PP g w1 H1 ∧ va_D (va_A W9 sz) w1) (va_A W9 sz)) 2 12 (va_A W9 sz) := by
  refine jc_M (by decide) (Nat.le_of_ble_eq_true rfl) ?_
  intro p e s m below meth c hx hb hr hml hown htl hlk htb hKK hpre ls hl
  have hown : s.vm.findClass RL = some m.cls := hown
  obtain ⟨hsz, hP, hD0⟩ := hpre
  subst hsz
  have hl : lv_has ls 7 [(0, .ref o), (1, vi 10), (2, vi v), (3, vi x2), (4, vi x3), (5, vi x4)] := hl
  refine lv_aload_n hx hb dL_deed_0 rfl (lv_at hl 0 rfl) ?_
  refine lv_iload_n hx hb dL_deed_1 rfl (lv_at hl 1 rfl) ?_
  refine lv_iload_n hx hb dL_deed_2 rfl (lv_at hl 2 rfl) ?_
  refine lv_iload_n hx hb dL_deed_3 rfl (lv_at hl 3 rfl) ?_
  refine lv_iload hx hb dL_deed_4 (lv_at hl 4 rfl) ?_
  refine lv_iload hx hb dL_deed_6 (lv_at hl 5 rfl) ?_
  refine jc_Qw (NP := fun z => ((cdUL S v) = 0 ∧ z = clv (uS (nxWd S v)) (nU (nxWd S v)))) (vx_runS (As := [.ref o, vi 10, vi v, vi x2, vi x3, vi x4]) (rest := []) ⟨hx, hb, hml, hown, htl⟩ (m_L_plain_withdraw l hsT g o S W9 hCW s.heap.size v hv x2 x3 x4) (va_cwS 6 htl lk_L_69 rfl rfl rfl cwS_L_plain ⟨Nat.le_of_ble_eq_true rfl, Nat.le_of_ble_eq_true rfl⟩) (jp_S hKK (va_S.rf (A := jN)) jNb ⟨rfl, hP, hD0⟩) rfl rfl hl.1 rfl (lv_room (Nat.le_of_ble_eq_true rfl)) dL_deed_8 ⟨Nat.le_of_ble_eq_true rfl, Nat.le_of_ble_eq_true rfl⟩) ?_ ?_
  · intro E ce q9 H1 L w1 hE hC hP hD hS h2 h3 h4
    rcases hE with ⟨rfl, hcd⟩ | ⟨rfl, hcd⟩
    · refine vx_catch (name := eNS) hown [xe (0, 11, 12, 73), xe (0, 11, 18, 75), xe (0, 11, 24, 77), xe (0, 11, 30, 79)] (xe (0, 11, 36, 81)) [] (htb.trans rfl) (List.forall_mem_cons.mpr ⟨Or.inr ⟨(show (73 : Nat) ≠ 0 by decide), _, htl _ wd_8_19, hKK.1.2.2.2.2.2.1 (eNS, eIO) (List.mem_of_getElem? (i := 6) rfl)⟩, List.forall_mem_cons.mpr ⟨Or.inr ⟨(show (75 : Nat) ≠ 0 by decide), _, htl _ wd_8_20, hKK.1.2.2.2.2.2.1 (eNS, eIA) (List.mem_of_getElem? (i := 7) rfl)⟩, List.forall_mem_cons.mpr ⟨Or.inr ⟨(show (77 : Nat) ≠ 0 by decide), _, htl _ wd_8_21, hKK.1.2.2.2.2.2.1 (eNS, eIS) (List.mem_of_getElem? (i := 8) rfl)⟩, List.forall_mem_cons.mpr ⟨Or.inr ⟨(show (79 : Nat) ≠ 0 by decide), _, htl _ wd_8_22, hKK.1.2.2.2.2.2.1 (eNS, eUO) (List.mem_of_getElem? (i := 9) rfl)⟩, fun _ h => nomatch h⟩⟩⟩⟩) rfl (show (81 : Nat) ≠ 0 by decide) (htl _ wd_8_23) (va_Nw.use rfl (hKK.1.2.2.1 (eNS, eNS) (List.mem_of_getElem? (i := 5) rfl))) h2 h3 h4 ?_
      refine lv_astore (lv' := [(6, .ref q9), (0, .ref o), (1, vi 10), (2, vi v), (3, vi x2), (4, vi x3), (5, vi x4)]) hx hb dL_deed_36 hl (by decide) rfl (fun ls hl => ?_)
      refine jr_sipush hx hb dL_deed_38 (by decide) ?_
      refine W.widen (k := 2) (n := 12) (by omega) (by omega) ?_
      exact je_Qi hx hb hr hlk rfl hS ⟨(rs_1 hcd).symm, w1, (by rw [rS_n (by omega)]; exact hC), hP, hD⟩ dL_deed_41
    · refine vx_catch (name := eUO) hown [xe (0, 11, 12, 73), xe (0, 11, 18, 75), xe (0, 11, 24, 77)] (xe (0, 11, 30, 79)) [xe (0, 11, 36, 81)] (htb.trans rfl) (List.forall_mem_cons.mpr ⟨Or.inr ⟨(show (73 : Nat) ≠ 0 by decide), _, htl _ wd_8_19, hKK.1.2.2.2.2.2.1 (eUO, eIO) (List.mem_of_getElem? (i := 3) rfl)⟩, List.forall_mem_cons.mpr ⟨Or.inr ⟨(show (75 : Nat) ≠ 0 by decide), _, htl _ wd_8_20, hKK.1.2.2.2.2.2.1 (eUO, eIA) (List.mem_of_getElem? (i := 4) rfl)⟩, List.forall_mem_cons.mpr ⟨Or.inr ⟨(show (77 : Nat) ≠ 0 by decide), _, htl _ wd_8_21, hKK.1.2.2.2.2.2.1 (eUO, eIS) (List.mem_of_getElem? (i := 5) rfl)⟩, fun _ h => nomatch h⟩⟩⟩) rfl (show (79 : Nat) ≠ 0 by decide) (htl _ wd_8_22) (va_Nw.use rfl (hKK.1.2.2.1 (eUO, eUO) (List.mem_of_getElem? (i := 4) rfl))) h2 h3 h4 ?_
      refine lv_astore (lv' := [(6, .ref q9), (0, .ref o), (1, vi 10), (2, vi v), (3, vi x2), (4, vi x3), (5, vi x4)]) hx hb dL_deed_30 hl (by decide) rfl (fun ls hl => ?_)
      refine jr_sipush hx hb dL_deed_32 (by decide) ?_
      refine W.widen (k := 2) (n := 12) (by omega) (by omega) ?_
      exact je_Qi hx hb hr hlk rfl hS ⟨(rs_2 hcd).symm, w1, (by rw [rS_n (by omega)]; exact hC), hP, hD⟩ dL_deed_35
  · intro z9 H1 L w1 hz9 hC hP hD hS
    obtain ⟨hcd, hz9⟩ := hz9
    refine W.widen (k := 2) (n := 12) (by omega) (by omega) ?_
    exact je_Qi hx hb hr hlk rfl hS ⟨hz9.trans (rs_0 hcd).symm, w1, (by rw [rS_0 hcd]; exact hC), hP, hD⟩ dL_deed_11
set_option maxHeartbeats 4000000 in
set_option maxRecDepth 100000 in
theorem m_L_plain_open (l : Launch) (hsT : l.stackTraces = false) (g : GT) (o : Nat) (S : SGM) (W9 : va_W) (hCW : CW g o S W9) (sz : Nat) (x1 : Int) (x2 : Int) (x3 : Int) (x4 : Int) : vx_Met l yL_plain (ws_ yL_plain cL_plain 6 (some .int)) (rmm 10 361 13026) (jPc g [.ref o, vi 11, vi x1, vi x2, vi x3, vi x4] (fun H => H.size = sz ∧ PP g W9 H ∧ va_D (fun q => gb g ≤ q) W9)) (jQi (fun z H1 => ((cd1 (¬ S.1.length = 0)) = 0 ∧ z = ((ctP S.2.2.1 S.1 S.1.length).1.length : Int)) ∧ ∃ w1 : va_W, CW g o (nxOpen S) w1 ∧ PP g w1 H1 ∧ va_D (va_A W9 sz) w1) (va_A W9 sz)) (jXw (fun E => (E = eIS ∧ (cd1 (¬ S.1.length = 0)) = 1)) (fun H1 => ∃ w1 : va_W, CW g o S w1 ∧ PP g w1 H1 ∧ va_D (va_A W9 sz) w1) (va_A W9 sz)) 361 13026 (va_A W9 sz) := by
  refine jb_X (by decide) (Nat.le_of_ble_eq_true rfl) ?_
  intro p e s m below meth c hx hb hr hml hown htl hlk htab hKK hpre ls hl
  have hown : s.vm.findClass RL = some m.cls := hown
  obtain ⟨hsz, hP, hD0⟩ := hpre
  subst hsz
  have hD : va_D (va_A W9 s.heap.size) W9 := hD0.self
  have hl : lv_has ls 6 [(0, .ref o), (1, vi 11), (2, vi x1), (3, vi x2), (4, vi x3), (5, vi x4)] := hl
  refine lv_iload_n hx hb dL_plain_0 rfl (lv_at hl 1 rfl) ?_
  refine lv_tableIn (tgt := 142) hx hb dL_plain_1 (by decide) (by decide) rfl rfl ?_
  refine lv_aload_n hx hb dL_plain_142 rfl (lv_at hl 0 rfl) ?_
  refine jc_Qi (vx_runV (As := []) (rest := []) ⟨hx, hb, hml, hown, htl⟩ (m_X10_open l hsT g o S W9 hCW s.heap.size) (cwV 0 htl lk_L_60 rfl rfl rfl cwV_X10_open ⟨Nat.le_of_ble_eq_true rfl, Nat.le_of_ble_eq_true rfl⟩) (jp_V hKK (va_S.rf (A := jN)) jNb (CW.recv hKK hCW hP) ⟨rfl, hP, hD0⟩) rfl rfl hl.1 rfl (lv_room (Nat.le_of_ble_eq_true rfl)) dL_plain_143 ⟨Nat.le_of_ble_eq_true rfl, Nat.le_of_ble_eq_true rfl⟩) hCW hP hD (jc_kx_out htab hlk (by omega) (by omega)) ?_
  intro z H L w1 hz hC hP hD hS
  refine vx_ret ?_
  refine W.widen (k := 361) (n := 13026) (by omega) (by omega) ?_
  exact je_Qi hx hb hr hlk rfl hS ⟨hz, w1, hC, hP, hD⟩ dL_plain_146
set_option maxHeartbeats 4000000 in
set_option maxRecDepth 100000 in
theorem m_L_deed_open (l : Launch) (hsT : l.stackTraces = false) (g : GT) (o : Nat) (S : SGM) (W9 : va_W) (hCW : CW g o S W9) (sz : Nat) (x1 : Int) (x2 : Int) (x3 : Int) (x4 : Int) : Met l yL_deed (.codeWith yL_deed cL_deed 7 (some .int) [(0, 11, 12, 73), (0, 11, 18, 75), (0, 11, 24, 77), (0, 11, 30, 79), (0, 11, 36, 81)] :: WSL) (rmm 11 361 13026) (jPc g [.ref o, vi 11, vi x1, vi x2, vi x3, vi x4] (fun H => H.size = sz ∧ PP g W9 H ∧ va_D (fun q => gb g ≤ q) W9)) (jQi (fun z H1 => z = rs (cd1 (¬ S.1.length = 0)) ((ctP S.2.2.1 S.1 S.1.length).1.length : Int) (-2003) 0 0 ∧ ∃ w1 : va_W, CW g o (rS (cd1 (¬ S.1.length = 0)) (nxOpen S) S) w1 ∧ PP g w1 H1 ∧ va_D (va_A W9 sz) w1) (va_A W9 sz)) 361 13026 (va_A W9 sz) := by
  refine jc_M (by decide) (Nat.le_of_ble_eq_true rfl) ?_
  intro p e s m below meth c hx hb hr hml hown htl hlk htb hKK hpre ls hl
  have hown : s.vm.findClass RL = some m.cls := hown
  obtain ⟨hsz, hP, hD0⟩ := hpre
  subst hsz
  have hl : lv_has ls 7 [(0, .ref o), (1, vi 11), (2, vi x1), (3, vi x2), (4, vi x3), (5, vi x4)] := hl
  refine lv_aload_n hx hb dL_deed_0 rfl (lv_at hl 0 rfl) ?_
  refine lv_iload_n hx hb dL_deed_1 rfl (lv_at hl 1 rfl) ?_
  refine lv_iload_n hx hb dL_deed_2 rfl (lv_at hl 2 rfl) ?_
  refine lv_iload_n hx hb dL_deed_3 rfl (lv_at hl 3 rfl) ?_
  refine lv_iload hx hb dL_deed_4 (lv_at hl 4 rfl) ?_
  refine lv_iload hx hb dL_deed_6 (lv_at hl 5 rfl) ?_
  refine jc_Qw (NP := fun z => ((cd1 (¬ S.1.length = 0)) = 0 ∧ z = ((ctP S.2.2.1 S.1 S.1.length).1.length : Int))) (vx_runS (As := [.ref o, vi 11, vi x1, vi x2, vi x3, vi x4]) (rest := []) ⟨hx, hb, hml, hown, htl⟩ (m_L_plain_open l hsT g o S W9 hCW s.heap.size x1 x2 x3 x4) (va_cwS 6 htl lk_L_69 rfl rfl rfl cwS_L_plain ⟨Nat.le_of_ble_eq_true rfl, Nat.le_of_ble_eq_true rfl⟩) (jp_S hKK (va_S.rf (A := jN)) jNb ⟨rfl, hP, hD0⟩) rfl rfl hl.1 rfl (lv_room (Nat.le_of_ble_eq_true rfl)) dL_deed_8 ⟨Nat.le_of_ble_eq_true rfl, Nat.le_of_ble_eq_true rfl⟩) ?_ ?_
  · intro E ce q9 H1 L w1 hE hC hP hD hS h2 h3 h4
    rcases hE with ⟨rfl, hcd⟩
    · refine vx_catch (name := eIS) hown [xe (0, 11, 12, 73), xe (0, 11, 18, 75)] (xe (0, 11, 24, 77)) [xe (0, 11, 30, 79), xe (0, 11, 36, 81)] (htb.trans rfl) (List.forall_mem_cons.mpr ⟨Or.inr ⟨(show (73 : Nat) ≠ 0 by decide), _, htl _ wd_8_19, hKK.1.2.2.2.2.2.1 (eIS, eIO) (List.mem_of_getElem? (i := 1) rfl)⟩, List.forall_mem_cons.mpr ⟨Or.inr ⟨(show (75 : Nat) ≠ 0 by decide), _, htl _ wd_8_20, hKK.1.2.2.2.2.2.1 (eIS, eIA) (List.mem_of_getElem? (i := 2) rfl)⟩, fun _ h => nomatch h⟩⟩) rfl (show (77 : Nat) ≠ 0 by decide) (htl _ wd_8_21) (va_Nw.use rfl (hKK.1.2.2.1 (eIS, eIS) (List.mem_of_getElem? (i := 1) rfl))) h2 h3 h4 ?_
      refine lv_astore (lv' := [(6, .ref q9), (0, .ref o), (1, vi 11), (2, vi x1), (3, vi x2), (4, vi x3), (5, vi x4)]) hx hb dL_deed_24 hl (by decide) rfl (fun ls hl => ?_)
      refine jr_sipush hx hb dL_deed_26 (by decide) ?_
      refine W.widen (k := 361) (n := 13026) (by omega) (by omega) ?_
      exact je_Qi hx hb hr hlk rfl hS ⟨(rs_1 hcd).symm, w1, (by rw [rS_n (by omega)]; exact hC), hP, hD⟩ dL_deed_29
  · intro z9 H1 L w1 hz9 hC hP hD hS
    obtain ⟨hcd, hz9⟩ := hz9
    refine W.widen (k := 361) (n := 13026) (by omega) (by omega) ?_
    exact je_Qi hx hb hr hlk rfl hS ⟨hz9.trans (rs_0 hcd).symm, w1, (by rw [rS_0 hcd]; exact hC), hP, hD⟩ dL_deed_11
set_option maxHeartbeats 4000000 in
set_option maxRecDepth 100000 in
theorem m_L_plain_fill (l : Launch) (hsT : l.stackTraces = false) (g : GT) (o : Nat) (S : SGM) (W9 : va_W) (hCW : CW g o S W9) (sz : Nat) (v : Int) (hv : jR v) (x2 : Int) (x3 : Int) (x4 : Int) : vx_Met l yL_plain (ws_ yL_plain cL_plain 6 (some .int)) (rmm 12 1 6) (jPc g [.ref o, vi 12, vi v, vi x2, vi x3, vi x4] (fun H => H.size = sz ∧ PP g W9 H ∧ va_D (fun q => gb g ≤ q) W9)) (jQi (fun z H1 => ((cd1 (1 ≤ v ∧ v ≤ 100)) = 0 ∧ z = (flP v S (nS S)).2) ∧ ∃ w1 : va_W, CW g o ((flP v S (nS S)).1) w1 ∧ PP g w1 H1 ∧ va_D (va_A W9 sz) w1) (va_A W9 sz)) (jXw (fun E => (E = eIA ∧ (cd1 (1 ≤ v ∧ v ≤ 100)) = 1)) (fun H1 => ∃ w1 : va_W, CW g o S w1 ∧ PP g w1 H1 ∧ va_D (va_A W9 sz) w1) (va_A W9 sz)) 1 6 (va_A W9 sz) := by
  refine jb_X (by decide) (Nat.le_of_ble_eq_true rfl) ?_
  intro p e s m below meth c hx hb hr hml hown htl hlk htab hKK hpre ls hl
  have hown : s.vm.findClass RL = some m.cls := hown
  obtain ⟨hsz, hP, hD0⟩ := hpre
  subst hsz
  have hD : va_D (va_A W9 s.heap.size) W9 := hD0.self
  have hl : lv_has ls 6 [(0, .ref o), (1, vi 12), (2, vi v), (3, vi x2), (4, vi x3), (5, vi x4)] := hl
  refine lv_iload_n hx hb dL_plain_0 rfl (lv_at hl 1 rfl) ?_
  refine lv_tableIn (tgt := 147) hx hb dL_plain_1 (by decide) (by decide) rfl rfl ?_
  refine lv_aload_n hx hb dL_plain_147 rfl (lv_at hl 0 rfl) ?_
  refine lv_iload_n hx hb dL_plain_148 rfl (lv_at hl 2 rfl) ?_
  refine jc_Qi (vx_runV (As := [vi v]) (rest := []) ⟨hx, hb, hml, hown, htl⟩ (m_X10_fill l hsT g o S W9 hCW s.heap.size v hv) (cwV 1 htl lk_L_63 rfl rfl rfl cwV_X10_fill ⟨Nat.le_of_ble_eq_true rfl, Nat.le_of_ble_eq_true rfl⟩) (jp_V hKK (va_S.rf (A := jN)) jNb (CW.recv hKK hCW hP) ⟨rfl, hP, hD0⟩) rfl rfl hl.1 rfl (lv_room (Nat.le_of_ble_eq_true rfl)) dL_plain_149 ⟨Nat.le_of_ble_eq_true rfl, Nat.le_of_ble_eq_true rfl⟩) hCW hP hD (jc_kx_out htab hlk (by omega) (by omega)) ?_
  intro z H L w1 hz hC hP hD hS
  refine vx_ret ?_
  refine W.widen (k := 1) (n := 6) (by omega) (by omega) ?_
  exact je_Qi hx hb hr hlk rfl hS ⟨hz, w1, hC, hP, hD⟩ dL_plain_152
set_option maxHeartbeats 4000000 in
set_option maxRecDepth 100000 in
theorem m_L_deed_fill (l : Launch) (hsT : l.stackTraces = false) (g : GT) (o : Nat) (S : SGM) (W9 : va_W) (hCW : CW g o S W9) (sz : Nat) (v : Int) (hv : jR v) (x2 : Int) (x3 : Int) (x4 : Int) : Met l yL_deed (.codeWith yL_deed cL_deed 7 (some .int) [(0, 11, 12, 73), (0, 11, 18, 75), (0, 11, 24, 77), (0, 11, 30, 79), (0, 11, 36, 81)] :: WSL) (rmm 13 1 6) (jPc g [.ref o, vi 12, vi v, vi x2, vi x3, vi x4] (fun H => H.size = sz ∧ PP g W9 H ∧ va_D (fun q => gb g ≤ q) W9)) (jQi (fun z H1 => z = rs (cd1 (1 ≤ v ∧ v ≤ 100)) ((flP v S (nS S)).2) (-2002) 0 0 ∧ ∃ w1 : va_W, CW g o (rS (cd1 (1 ≤ v ∧ v ≤ 100)) ((flP v S (nS S)).1) S) w1 ∧ PP g w1 H1 ∧ va_D (va_A W9 sz) w1) (va_A W9 sz)) 1 6 (va_A W9 sz) := by
  refine jc_M (by decide) (Nat.le_of_ble_eq_true rfl) ?_
  intro p e s m below meth c hx hb hr hml hown htl hlk htb hKK hpre ls hl
  have hown : s.vm.findClass RL = some m.cls := hown
  obtain ⟨hsz, hP, hD0⟩ := hpre
  subst hsz
  have hl : lv_has ls 7 [(0, .ref o), (1, vi 12), (2, vi v), (3, vi x2), (4, vi x3), (5, vi x4)] := hl
  refine lv_aload_n hx hb dL_deed_0 rfl (lv_at hl 0 rfl) ?_
  refine lv_iload_n hx hb dL_deed_1 rfl (lv_at hl 1 rfl) ?_
  refine lv_iload_n hx hb dL_deed_2 rfl (lv_at hl 2 rfl) ?_
  refine lv_iload_n hx hb dL_deed_3 rfl (lv_at hl 3 rfl) ?_
  refine lv_iload hx hb dL_deed_4 (lv_at hl 4 rfl) ?_
  refine lv_iload hx hb dL_deed_6 (lv_at hl 5 rfl) ?_
  refine jc_Qw (NP := fun z => ((cd1 (1 ≤ v ∧ v ≤ 100)) = 0 ∧ z = (flP v S (nS S)).2)) (vx_runS (As := [.ref o, vi 12, vi v, vi x2, vi x3, vi x4]) (rest := []) ⟨hx, hb, hml, hown, htl⟩ (m_L_plain_fill l hsT g o S W9 hCW s.heap.size v hv x2 x3 x4) (va_cwS 6 htl lk_L_69 rfl rfl rfl cwS_L_plain ⟨Nat.le_of_ble_eq_true rfl, Nat.le_of_ble_eq_true rfl⟩) (jp_S hKK (va_S.rf (A := jN)) jNb ⟨rfl, hP, hD0⟩) rfl rfl hl.1 rfl (lv_room (Nat.le_of_ble_eq_true rfl)) dL_deed_8 ⟨Nat.le_of_ble_eq_true rfl, Nat.le_of_ble_eq_true rfl⟩) ?_ ?_
  · intro E ce q9 H1 L w1 hE hC hP hD hS h2 h3 h4
    rcases hE with ⟨rfl, hcd⟩
    · refine vx_catch (name := eIA) hown [xe (0, 11, 12, 73)] (xe (0, 11, 18, 75)) [xe (0, 11, 24, 77), xe (0, 11, 30, 79), xe (0, 11, 36, 81)] (htb.trans rfl) (List.forall_mem_cons.mpr ⟨Or.inr ⟨(show (73 : Nat) ≠ 0 by decide), _, htl _ wd_8_19, hKK.1.2.2.2.2.2.1 (eIA, eIO) (List.mem_of_getElem? (i := 0) rfl)⟩, fun _ h => nomatch h⟩) rfl (show (75 : Nat) ≠ 0 by decide) (htl _ wd_8_20) (va_Nw.use rfl (hKK.1.2.2.1 (eIA, eIA) (List.mem_of_getElem? (i := 0) rfl))) h2 h3 h4 ?_
      refine lv_astore (lv' := [(6, .ref q9), (0, .ref o), (1, vi 12), (2, vi v), (3, vi x2), (4, vi x3), (5, vi x4)]) hx hb dL_deed_18 hl (by decide) rfl (fun ls hl => ?_)
      refine jr_sipush hx hb dL_deed_20 (by decide) ?_
      refine W.widen (k := 1) (n := 6) (by omega) (by omega) ?_
      exact je_Qi hx hb hr hlk rfl hS ⟨(rs_1 hcd).symm, w1, (by rw [rS_n (by omega)]; exact hC), hP, hD⟩ dL_deed_23
  · intro z9 H1 L w1 hz9 hC hP hD hS
    obtain ⟨hcd, hz9⟩ := hz9
    refine W.widen (k := 1) (n := 6) (by omega) (by omega) ?_
    exact je_Qi hx hb hr hlk rfl hS ⟨hz9.trans (rs_0 hcd).symm, w1, (by rw [rS_0 hcd]; exact hC), hP, hD⟩ dL_deed_11
set_option maxHeartbeats 4000000 in
set_option maxRecDepth 100000 in
theorem m_L_plain_answer (l : Launch) (hsT : l.stackTraces = false) (g : GT) (o : Nat) (S : SGM) (W9 : va_W) (hCW : CW g o S W9) (sz : Nat) (v : Int) (hv : jR v) (x2 : Int) (x3 : Int) (x4 : Int) : vx_Met l yL_plain (ws_ yL_plain cL_plain 6 (some .int)) (rmm 10 9 233) (jPc g [.ref o, vi 13, vi v, vi x2, vi x3, vi x4] (fun H => H.size = sz ∧ PP g W9 H ∧ va_D (fun q => gb g ≤ q) W9)) (jQi (fun z H1 => ((cdAns S v) = 0 ∧ z = vlAns S v) ∧ ∃ w1 : va_W, CW g o (nxAns S v) w1 ∧ PP g w1 H1 ∧ va_D (va_A W9 sz) w1) (va_A W9 sz)) (jXw (fun E => (E = eIO ∧ (cdAns S v) = 1) ∨ (E = eIS ∧ (cdAns S v) = 2)) (fun H1 => ∃ w1 : va_W, CW g o S w1 ∧ PP g w1 H1 ∧ va_D (va_A W9 sz) w1) (va_A W9 sz)) 9 233 (va_A W9 sz) := by
  refine jb_X (by decide) (Nat.le_of_ble_eq_true rfl) ?_
  intro p e s m below meth c hx hb hr hml hown htl hlk htab hKK hpre ls hl
  have hown : s.vm.findClass RL = some m.cls := hown
  obtain ⟨hsz, hP, hD0⟩ := hpre
  subst hsz
  have hD : va_D (va_A W9 s.heap.size) W9 := hD0.self
  have hl : lv_has ls 6 [(0, .ref o), (1, vi 13), (2, vi v), (3, vi x2), (4, vi x3), (5, vi x4)] := hl
  refine lv_iload_n hx hb dL_plain_0 rfl (lv_at hl 1 rfl) ?_
  refine lv_tableOut (tgt := 153) hx hb dL_plain_1 (by decide) rfl ?_
  refine lv_aload_n hx hb dL_plain_153 rfl (lv_at hl 0 rfl) ?_
  refine lv_iload_n hx hb dL_plain_154 rfl (lv_at hl 2 rfl) ?_
  refine jc_Qi (vx_runV (As := [vi v]) (rest := []) ⟨hx, hb, hml, hown, htl⟩ (m_X10_answer l hsT g o S W9 hCW s.heap.size v hv) (cwV 1 htl lk_L_66 rfl rfl rfl cwV_X10_answer ⟨Nat.le_of_ble_eq_true rfl, Nat.le_of_ble_eq_true rfl⟩) (jp_V hKK (va_S.rf (A := jN)) jNb (CW.recv hKK hCW hP) ⟨rfl, hP, hD0⟩) rfl rfl hl.1 rfl (lv_room (Nat.le_of_ble_eq_true rfl)) dL_plain_155 ⟨Nat.le_of_ble_eq_true rfl, Nat.le_of_ble_eq_true rfl⟩) hCW hP hD (jc_kx_out htab hlk (by omega) (by omega)) ?_
  intro z H L w1 hz hC hP hD hS
  refine vx_ret ?_
  refine W.widen (k := 9) (n := 233) (by omega) (by omega) ?_
  exact je_Qi hx hb hr hlk rfl hS ⟨hz, w1, hC, hP, hD⟩ dL_plain_158
set_option maxHeartbeats 4000000 in
set_option maxRecDepth 100000 in
theorem m_L_deed_answer (l : Launch) (hsT : l.stackTraces = false) (g : GT) (o : Nat) (S : SGM) (W9 : va_W) (hCW : CW g o S W9) (sz : Nat) (v : Int) (hv : jR v) (x2 : Int) (x3 : Int) (x4 : Int) : Met l yL_deed (.codeWith yL_deed cL_deed 7 (some .int) [(0, 11, 12, 73), (0, 11, 18, 75), (0, 11, 24, 77), (0, 11, 30, 79), (0, 11, 36, 81)] :: WSL) (rmm 11 9 233) (jPc g [.ref o, vi 13, vi v, vi x2, vi x3, vi x4] (fun H => H.size = sz ∧ PP g W9 H ∧ va_D (fun q => gb g ≤ q) W9)) (jQi (fun z H1 => z = rs (cdAns S v) (vlAns S v) (-2001) (-2003) 0 ∧ ∃ w1 : va_W, CW g o (rS (cdAns S v) (nxAns S v) S) w1 ∧ PP g w1 H1 ∧ va_D (va_A W9 sz) w1) (va_A W9 sz)) 9 233 (va_A W9 sz) := by
  refine jc_M (by decide) (Nat.le_of_ble_eq_true rfl) ?_
  intro p e s m below meth c hx hb hr hml hown htl hlk htb hKK hpre ls hl
  have hown : s.vm.findClass RL = some m.cls := hown
  obtain ⟨hsz, hP, hD0⟩ := hpre
  subst hsz
  have hl : lv_has ls 7 [(0, .ref o), (1, vi 13), (2, vi v), (3, vi x2), (4, vi x3), (5, vi x4)] := hl
  refine lv_aload_n hx hb dL_deed_0 rfl (lv_at hl 0 rfl) ?_
  refine lv_iload_n hx hb dL_deed_1 rfl (lv_at hl 1 rfl) ?_
  refine lv_iload_n hx hb dL_deed_2 rfl (lv_at hl 2 rfl) ?_
  refine lv_iload_n hx hb dL_deed_3 rfl (lv_at hl 3 rfl) ?_
  refine lv_iload hx hb dL_deed_4 (lv_at hl 4 rfl) ?_
  refine lv_iload hx hb dL_deed_6 (lv_at hl 5 rfl) ?_
  refine jc_Qw (NP := fun z => ((cdAns S v) = 0 ∧ z = vlAns S v)) (vx_runS (As := [.ref o, vi 13, vi v, vi x2, vi x3, vi x4]) (rest := []) ⟨hx, hb, hml, hown, htl⟩ (m_L_plain_answer l hsT g o S W9 hCW s.heap.size v hv x2 x3 x4) (va_cwS 6 htl lk_L_69 rfl rfl rfl cwS_L_plain ⟨Nat.le_of_ble_eq_true rfl, Nat.le_of_ble_eq_true rfl⟩) (jp_S hKK (va_S.rf (A := jN)) jNb ⟨rfl, hP, hD0⟩) rfl rfl hl.1 rfl (lv_room (Nat.le_of_ble_eq_true rfl)) dL_deed_8 ⟨Nat.le_of_ble_eq_true rfl, Nat.le_of_ble_eq_true rfl⟩) ?_ ?_
  · intro E ce q9 H1 L w1 hE hC hP hD hS h2 h3 h4
    rcases hE with ⟨rfl, hcd⟩ | ⟨rfl, hcd⟩
    · refine vx_catch (name := eIO) hown [] (xe (0, 11, 12, 73)) [xe (0, 11, 18, 75), xe (0, 11, 24, 77), xe (0, 11, 30, 79), xe (0, 11, 36, 81)] (htb.trans rfl) (fun _ h => nomatch h) rfl (show (73 : Nat) ≠ 0 by decide) (htl _ wd_8_19) (va_Nw.use rfl (hKK.1.2.2.1 (eIO, eIO) (List.mem_of_getElem? (i := 2) rfl))) h2 h3 h4 ?_
      refine lv_astore (lv' := [(6, .ref q9), (0, .ref o), (1, vi 13), (2, vi v), (3, vi x2), (4, vi x3), (5, vi x4)]) hx hb dL_deed_12 hl (by decide) rfl (fun ls hl => ?_)
      refine jr_sipush hx hb dL_deed_14 (by decide) ?_
      refine W.widen (k := 9) (n := 233) (by omega) (by omega) ?_
      exact je_Qi hx hb hr hlk rfl hS ⟨(rs_1 hcd).symm, w1, (by rw [rS_n (by omega)]; exact hC), hP, hD⟩ dL_deed_17
    · refine vx_catch (name := eIS) hown [xe (0, 11, 12, 73), xe (0, 11, 18, 75)] (xe (0, 11, 24, 77)) [xe (0, 11, 30, 79), xe (0, 11, 36, 81)] (htb.trans rfl) (List.forall_mem_cons.mpr ⟨Or.inr ⟨(show (73 : Nat) ≠ 0 by decide), _, htl _ wd_8_19, hKK.1.2.2.2.2.2.1 (eIS, eIO) (List.mem_of_getElem? (i := 1) rfl)⟩, List.forall_mem_cons.mpr ⟨Or.inr ⟨(show (75 : Nat) ≠ 0 by decide), _, htl _ wd_8_20, hKK.1.2.2.2.2.2.1 (eIS, eIA) (List.mem_of_getElem? (i := 2) rfl)⟩, fun _ h => nomatch h⟩⟩) rfl (show (77 : Nat) ≠ 0 by decide) (htl _ wd_8_21) (va_Nw.use rfl (hKK.1.2.2.1 (eIS, eIS) (List.mem_of_getElem? (i := 1) rfl))) h2 h3 h4 ?_
      refine lv_astore (lv' := [(6, .ref q9), (0, .ref o), (1, vi 13), (2, vi v), (3, vi x2), (4, vi x3), (5, vi x4)]) hx hb dL_deed_24 hl (by decide) rfl (fun ls hl => ?_)
      refine jr_sipush hx hb dL_deed_26 (by decide) ?_
      refine W.widen (k := 9) (n := 233) (by omega) (by omega) ?_
      exact je_Qi hx hb hr hlk rfl hS ⟨(rs_2 hcd).symm, w1, (by rw [rS_n (by omega)]; exact hC), hP, hD⟩ dL_deed_29
  · intro z9 H1 L w1 hz9 hC hP hD hS
    obtain ⟨hcd, hz9⟩ := hz9
    refine W.widen (k := 9) (n := 233) (by omega) (by omega) ?_
    exact je_Qi hx hb hr hlk rfl hS ⟨hz9.trans (rs_0 hcd).symm, w1, (by rw [rS_0 hcd]; exact hC), hP, hD⟩ dL_deed_11
