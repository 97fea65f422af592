

set_option maxHeartbeats 4000000 in
set_option maxRecDepth 100000 in
theorem lc_default (l : Launch) (hsT : l.stackTraces = false) {g : GT} {cj cd : ClassId} {p : Program} {e : Env} {s : State} {m : MethodId} {b : Nat} {below : List Frame} {meth : Method} {c : Code} {Q : State → Prop} {ox om a1 a2 i k L : Nat} {xs : Nat → Int32} (hx : p.tables.exec = Jvm.exec) (hb : c.code = cL_law) (hml : c.maxLocals = 9) (hown : s.vm.findClass RL = some m.cls) (htl : ∀ w ∈ WSL, w.before #[Value.ref b] s = true) (hKK : KK g s) (hKJ : KJ g cj cd s) (hgb : gb g = s.heap.size) (hX : va_X b L xs s s.heap) (hbl : b < s.heap.size) (hi : i + 5 ≤ L) (hL : L ≤ 2560) (hk : k < 512) (K : LK g cj cd p l e s m b below meth c Q ox om a1 a2 (i + 5) (k + 1))
    (S : SGM) (z : Int) (w1 w2 : va_W) (f1 : Nat → Int64) (f2 : Nat → UInt64) (H : Heap) (locs : List Loc) (hCW : CW g ox S w1) (hMW : MW g om S z w2) (hSI : SI S) (hP : PP g (aJ cj a1 f1 :: aD1 cd a2 f2 :: (w1 ++ w2)) H) (hD : va_D (fun q => gb g ≤ q) (aJ cj a1 f1 :: aD1 cd a2 f2 :: (w1 ++ w2))) (hS : va_S (fun q => gb g ≤ q) s.heap H locs) (ls : Array Slot) (hl : lv_has ls 9 [(5, vi (i : Int)), (0, .ref b), (1, .ref ox), (2, .ref om), (3, .ref a1), (4, .ref a2)]) : W p l e room_1 s m #[Value.ref b] below meth c H locs (50 + 361 * k) (13700 + 13026 * k) Q (F0 m 2202 ls []) := by
  have hbA : ¬ (fun q => gb g ≤ q) b := by show ¬ gb g ≤ b; omega
  have hAb : ∀ q, (fun q => gb g ≤ q) q → gb g ≤ q := fun _ h => h
  refine W.widen (k := 50 + 361 * (k + 1)) (n := 13700 + 13026 * (k + 1)) (by omega) (by omega) ?_
  refine jr_iinc (lv' := [(5, vi ((i : Int) + 5)), (0, .ref b), (1, .ref ox), (2, .ref om), (3, .ref a1), (4, .ref a2)]) hx hb dL_law_2202 hl (k := 0) rfl rfl (by decide) rfl (fun ls hl => ?_)
  refine lv_goto (tgt := 28) hx hb dL_law_2205 (by decide) ?_
  exact K S _ w1 w2 f1 f2 H locs hCW hMW hSI hP hD hS ls (lv_sub hl [0, 1, 2, 3, 4, 5] rfl)
set_option maxHeartbeats 4000000 in
set_option maxRecDepth 100000 in
theorem law_step (l : Launch) (hsT : l.stackTraces = false) {g : GT} {cj cd : ClassId} {p : Program} {e : Env} {s : State} {m : MethodId} {b : Nat} {below : List Frame} {meth : Method} {c : Code} {Q : State → Prop} {ox om a1 a2 i k L : Nat} {xs : Nat → Int32} (hx : p.tables.exec = Jvm.exec) (hb : c.code = cL_law) (hml : c.maxLocals = 9) (hown : s.vm.findClass RL = some m.cls) (htl : ∀ w ∈ WSL, w.before #[Value.ref b] s = true) (hKK : KK g s) (hKJ : KJ g cj cd s) (hgb : gb g = s.heap.size) (hX : va_X b L xs s s.heap) (hbl : b < s.heap.size) (hi : i ≤ L) (hL : L ≤ 2560) (hik : i = 5 * k) (K : i + 5 ≤ L → LK g cj cd p l e s m b below meth c Q ox om a1 a2 (i + 5) (k + 1)) (Z : ∀ (H : Heap) (locs : List Loc), va_S (fun q => gb g ≤ q) s.heap H locs → ∀ ls : Array Slot, ls.size = 9 → W p l e room_1 s m #[Value.ref b] below meth c H locs (50 + 361 * k) (13700 + 13026 * k) Q (F0 m 2208 ls [])) : LK g cj cd p l e s m b below meth c Q ox om a1 a2 i k := by
  intro S z w1 w2 f1 f2 H locs hCW hMW hSI hP hD hS ls hl
  have hbA : ¬ (fun q => gb g ≤ q) b := by show ¬ gb g ≤ b; omega
  refine lv_iload hx hb dL_law_28 (lv_at hl 0 rfl) ?_
  refine lv_aload_n hx hb dL_law_30 rfl (lv_at hl 1 rfl) ?_
  refine va_slen hx hb hX hbl hbA hS dL_law_31 ?_
  rw [show (Int32.ofNat L) = jI (L : Int) from jI_nI L]
  refine jr_iconst hx hb dL_law_32 ?_
  refine jr_isub hx hb dL_law_33 ?_
  refine jr_gt (tgt := 2208) hx hb dL_law_34 (by decide) ⟨by omega, by omega⟩ ⟨by omega, by omega⟩ (fun c34 => ?_) (fun c34 => ?_)
  · exact Z H locs hS ls hl.1
  · have hi5 : i + 5 ≤ L := by omega
    have hk : k < 512 := by omega
    have K := K hi5
    refine lv_aload_n hx hb dL_law_37 rfl (lv_at hl 1 rfl) ?_
    refine lv_iload hx hb dL_law_38 (lv_at hl 0 rfl) ?_
    refine va_sld hx hb hX hbl hbA hS (jI_in (by omega) (by omega) (by omega)) dL_law_40 ?_
    refine lv_bipush (v := 63) hx hb dL_law_41 (by decide) ?_
    refine lv_iand hx hb dL_law_43 ?_
    obtain ⟨v, hv⟩ : ∃ v : Int32, v = xs (jI (i : Int)).toNatClampNeg &&& 63 := ⟨_, rfl⟩
    rw [← hv]
    rcases Int.lt_or_le v.toInt 0 with h0 | h0
    · exact lv_tableOut (tgt := 2202) hx hb dL_law_44 (Or.inl h0) (by decide) (lc_default l hsT hx hb hml hown htl hKK hKJ hgb hX hbl hi5 hL hk K S z w1 w2 f1 f2 H locs hCW hMW hSI hP hD hS ls hl)
    rcases Int.lt_or_le 38 v.toInt with h1 | h1
    · exact lv_tableOut (tgt := 2202) hx hb dL_law_44 (Or.inr h1) (by decide) (lc_default l hsT hx hb hml hown htl hKK hKJ hgb hX hbl hi5 hL hk K S z w1 w2 f1 f2 H locs hCW hMW hSI hP hD hS ls hl)
    rcases (show v.toInt = 0 ∨ v.toInt = 1 ∨ v.toInt = 2 ∨ v.toInt = 3 ∨ v.toInt = 4 ∨ v.toInt = 5 ∨ v.toInt = 6 ∨ v.toInt = 7 ∨ v.toInt = 8 ∨ v.toInt = 9 ∨ v.toInt = 10 ∨ v.toInt = 11 ∨ v.toInt = 12 ∨ v.toInt = 13 ∨ v.toInt = 14 ∨ v.toInt = 15 ∨ v.toInt = 16 ∨ v.toInt = 17 ∨ v.toInt = 18 ∨ v.toInt = 19 ∨ v.toInt = 20 ∨ v.toInt = 21 ∨ v.toInt = 22 ∨ v.toInt = 23 ∨ v.toInt = 24 ∨ v.toInt = 25 ∨ v.toInt = 26 ∨ v.toInt = 27 ∨ v.toInt = 28 ∨ v.toInt = 29 ∨ v.toInt = 30 ∨ v.toInt = 31 ∨ v.toInt = 32 ∨ v.toInt = 33 ∨ v.toInt = 34 ∨ v.toInt = 35 ∨ v.toInt = 36 ∨ v.toInt = 37 ∨ v.toInt = 38 by omega) with h2 | h2 | h2 | h2 | h2 | h2 | h2 | h2 | h2 | h2 | h2 | h2 | h2 | h2 | h2 | h2 | h2 | h2 | h2 | h2 | h2 | h2 | h2 | h2 | h2 | h2 | h2 | h2 | h2 | h2 | h2 | h2 | h2 | h2 | h2 | h2 | h2 | h2 | h2
    · exact lv_tableIn (off := 172) (tgt := 216) hx hb dL_law_44 (by omega) (by omega) (by rw [h2]; rfl) (by decide) (lc_word l hsT hx hb hml hown htl hKK hKJ hgb hX hbl hi5 hL hk K S z w1 w2 f1 f2 H locs hCW hMW hSI hP hD hS ls hl)
    · exact lv_tableIn (off := 228) (tgt := 272) hx hb dL_law_44 (by omega) (by omega) (by rw [h2]; rfl) (by decide) (lc_number l hsT hx hb hml hown htl hKK hKJ hgb hX hbl hi5 hL hk K S z w1 w2 f1 f2 H locs hCW hMW hSI hP hD hS ls hl)
    · exact lv_tableIn (off := 284) (tgt := 328) hx hb dL_law_44 (by omega) (by omega) (by rw [h2]; rfl) (by decide) (lc_tag l hsT hx hb hml hown htl hKK hKJ hgb hX hbl hi5 hL hk K S z w1 w2 f1 f2 H locs hCW hMW hSI hP hD hS ls hl)
    · exact lv_tableIn (off := 340) (tgt := 384) hx hb dL_law_44 (by omega) (by omega) (by rw [h2]; rfl) (by decide) (lc_mark l hsT hx hb hml hown htl hKK hKJ hgb hX hbl hi5 hL hk K S z w1 w2 f1 f2 H locs hCW hMW hSI hP hD hS ls hl)
    · exact lv_tableIn (off := 398) (tgt := 442) hx hb dL_law_44 (by omega) (by omega) (by rw [h2]; rfl) (by decide) (lc_clear l hsT hx hb hml hown htl hKK hKJ hgb hX hbl hi5 hL hk K S z w1 w2 f1 f2 H locs hCW hMW hSI hP hD hS ls hl)
    · exact lv_tableIn (off := 411) (tgt := 455) hx hb dL_law_44 (by omega) (by omega) (by rw [h2]; rfl) (by decide) (lc_setWeights l hsT hx hb hml hown htl hKK hKJ hgb hX hbl hi5 hL hk K S z w1 w2 f1 f2 H locs hCW hMW hSI hP hD hS ls hl)
    · exact lv_tableIn (off := 503) (tgt := 547) hx hb dL_law_44 (by omega) (by omega) (by rw [h2]; rfl) (by decide) (lc_addAbbreviation l hsT hx hb hml hown htl hKK hKJ hgb hX hbl hi5 hL hk K S z w1 w2 f1 f2 H locs hCW hMW hSI hP hD hS ls hl)
    · exact lv_tableIn (off := 566) (tgt := 610) hx hb dL_law_44 (by omega) (by omega) (by rw [h2]; rfl) (by decide) (lc_addTerm l hsT hx hb hml hown htl hKK hKJ hgb hX hbl hi5 hL hk K S z w1 w2 f1 f2 H locs hCW hMW hSI hP hD hS ls hl)
    · exact lv_tableIn (off := 634) (tgt := 678) hx hb dL_law_44 (by omega) (by omega) (by rw [h2]; rfl) (by decide) (lc_takeSource l hsT hx hb hml hown htl hKK hKJ hgb hX hbl hi5 hL hk K S z w1 w2 f1 f2 H locs hCW hMW hSI hP hD hS ls hl)
    · exact lv_tableIn (off := 678) (tgt := 722) hx hb dL_law_44 (by omega) (by omega) (by rw [h2]; rfl) (by decide) (lc_addUnit l hsT hx hb hml hown htl hKK hKJ hgb hX hbl hi5 hL hk K S z w1 w2 f1 f2 H locs hCW hMW hSI hP hD hS ls hl)
    · exact lv_tableIn (off := 722) (tgt := 766) hx hb dL_law_44 (by omega) (by omega) (by rw [h2]; rfl) (by decide) (lc_correct l hsT hx hb hml hown htl hKK hKJ hgb hX hbl hi5 hL hk K S z w1 w2 f1 f2 H locs hCW hMW hSI hP hD hS ls hl)
    · exact lv_tableIn (off := 778) (tgt := 822) hx hb dL_law_44 (by omega) (by omega) (by rw [h2]; rfl) (by decide) (lc_withdraw l hsT hx hb hml hown htl hKK hKJ hgb hX hbl hi5 hL hk K S z w1 w2 f1 f2 H locs hCW hMW hSI hP hD hS ls hl)
    · exact lv_tableIn (off := 834) (tgt := 878) hx hb dL_law_44 (by omega) (by omega) (by rw [h2]; rfl) (by decide) (lc_units l hsT hx hb hml hown htl hKK hKJ hgb hX hbl hi5 hL hk K S z w1 w2 f1 f2 H locs hCW hMW hSI hP hD hS ls hl)
    · exact lv_tableIn (off := 847) (tgt := 891) hx hb dL_law_44 (by omega) (by omega) (by rw [h2]; rfl) (by decide) (lc_isLive l hsT hx hb hml hown htl hKK hKJ hgb hX hbl hi5 hL hk K S z w1 w2 f1 f2 H locs hCW hMW hSI hP hD hS ls hl)
    · exact lv_tableIn (off := 910) (tgt := 954) hx hb dL_law_44 (by omega) (by omega) (by rw [h2]; rfl) (by decide) (lc_cost l hsT hx hb hml hown htl hKK hKJ hgb hX hbl hi5 hL hk K S z w1 w2 f1 f2 H locs hCW hMW hSI hP hD hS ls hl)
    · exact lv_tableIn (off := 966) (tgt := 1010) hx hb dL_law_44 (by omega) (by omega) (by rw [h2]; rfl) (by decide) (lc_costFromEnds l hsT hx hb hml hown htl hKK hKJ hgb hX hbl hi5 hL hk K S z w1 w2 f1 f2 H locs hCW hMW hSI hP hD hS ls hl)
    · exact lv_tableIn (off := 1022) (tgt := 1066) hx hb dL_law_44 (by omega) (by omega) (by rw [h2]; rfl) (by decide) (lc_likeness l hsT hx hb hml hown htl hKK hKJ hgb hX hbl hi5 hL hk K S z w1 w2 f1 f2 H locs hCW hMW hSI hP hD hS ls hl)
    · exact lv_tableIn (off := 1078) (tgt := 1122) hx hb dL_law_44 (by omega) (by omega) (by rw [h2]; rfl) (by decide) (lc_missing l hsT hx hb hml hown htl hKK hKJ hgb hX hbl hi5 hL hk K S z w1 w2 f1 f2 H locs hCW hMW hSI hP hD hS ls hl)
    · exact lv_tableIn (off := 1134) (tgt := 1178) hx hb dL_law_44 (by omega) (by omega) (by rw [h2]; rfl) (by decide) (lc_score l hsT hx hb hml hown htl hKK hKJ hgb hX hbl hi5 hL hk K S z w1 w2 f1 f2 H locs hCW hMW hSI hP hD hS ls hl)
    · exact lv_tableIn (off := 1190) (tgt := 1234) hx hb dL_law_44 (by omega) (by omega) (by rw [h2]; rfl) (by decide) (lc_sharedPairs l hsT hx hb hml hown htl hKK hKJ hgb hX hbl hi5 hL hk K S z w1 w2 f1 f2 H locs hCW hMW hSI hP hD hS ls hl)
    · exact lv_tableIn (off := 1246) (tgt := 1290) hx hb dL_law_44 (by omega) (by omega) (by rw [h2]; rfl) (by decide) (lc_best l hsT hx hb hml hown htl hKK hKJ hgb hX hbl hi5 hL hk K S z w1 w2 f1 f2 H locs hCW hMW hSI hP hD hS ls hl)
    · exact lv_tableIn (off := 1290) (tgt := 1334) hx hb dL_law_44 (by omega) (by omega) (by rw [h2]; rfl) (by decide) (lc_bestOfAll l hsT hx hb hml hown htl hKK hKJ hgb hX hbl hi5 hL hk K S z w1 w2 f1 f2 H locs hCW hMW hSI hP hD hS ls hl)
    · exact lv_tableIn (off := 1334) (tgt := 1378) hx hb dL_law_44 (by omega) (by omega) (by rw [h2]; rfl) (by decide) (lc_open l hsT hx hb hml hown htl hKK hKJ hgb hX hbl hi5 hL hk K S z w1 w2 f1 f2 H locs hCW hMW hSI hP hD hS ls hl)
    · exact lv_tableIn (off := 1378) (tgt := 1422) hx hb dL_law_44 (by omega) (by omega) (by rw [h2]; rfl) (by decide) (lc_segments l hsT hx hb hml hown htl hKK hKJ hgb hX hbl hi5 hL hk K S z w1 w2 f1 f2 H locs hCW hMW hSI hP hD hS ls hl)
    · exact lv_tableIn (off := 1391) (tgt := 1435) hx hb dL_law_44 (by omega) (by omega) (by rw [h2]; rfl) (by decide) (lc_fill l hsT hx hb hml hown htl hKK hKJ hgb hX hbl hi5 hL hk K S z w1 w2 f1 f2 H locs hCW hMW hSI hP hD hS ls hl)
    · exact lv_tableIn (off := 1447) (tgt := 1491) hx hb dL_law_44 (by omega) (by omega) (by rw [h2]; rfl) (by decide) (lc_answer l hsT hx hb hml hown htl hKK hKJ hgb hX hbl hi5 hL hk K S z w1 w2 f1 f2 H locs hCW hMW hSI hP hD hS ls hl)
    · exact lv_tableIn (off := 1503) (tgt := 1547) hx hb dL_law_44 (by omega) (by omega) (by rw [h2]; rfl) (by decide) (lc_stateOf l hsT hx hb hml hown htl hKK hKJ hgb hX hbl hi5 hL hk K S z w1 w2 f1 f2 H locs hCW hMW hSI hP hD hS ls hl)
    · exact lv_tableIn (off := 1559) (tgt := 1603) hx hb dL_law_44 (by omega) (by omega) (by rw [h2]; rfl) (by decide) (lc_unitOf l hsT hx hb hml hown htl hKK hKJ hgb hX hbl hi5 hL hk K S z w1 w2 f1 f2 H locs hCW hMW hSI hP hD hS ls hl)
    · exact lv_tableIn (off := 1615) (tgt := 1659) hx hb dL_law_44 (by omega) (by omega) (by rw [h2]; rfl) (by decide) (lc_scoreOf l hsT hx hb hml hown htl hKK hKJ hgb hX hbl hi5 hL hk K S z w1 w2 f1 f2 H locs hCW hMW hSI hP hD hS ls hl)
    · exact lv_tableIn (off := 1671) (tgt := 1715) hx hb dL_law_44 (by omega) (by omega) (by rw [h2]; rfl) (by decide) (lc_segmentLength l hsT hx hb hml hown htl hKK hKJ hgb hX hbl hi5 hL hk K S z w1 w2 f1 f2 H locs hCW hMW hSI hP hD hS ls hl)
    · exact lv_tableIn (off := 1727) (tgt := 1771) hx hb dL_law_44 (by omega) (by omega) (by rw [h2]; rfl) (by decide) (lc_segmentToken l hsT hx hb hml hown htl hKK hKJ hgb hX hbl hi5 hL hk K S z w1 w2 f1 f2 H locs hCW hMW hSI hP hD hS ls hl)
    · exact lv_tableIn (off := 1795) (tgt := 1839) hx hb dL_law_44 (by omega) (by omega) (by rw [h2]; rfl) (by decide) (lc_targetLength l hsT hx hb hml hown htl hKK hKJ hgb hX hbl hi5 hL hk K S z w1 w2 f1 f2 H locs hCW hMW hSI hP hD hS ls hl)
    · exact lv_tableIn (off := 1851) (tgt := 1895) hx hb dL_law_44 (by omega) (by omega) (by rw [h2]; rfl) (by decide) (lc_targetToken l hsT hx hb hml hown htl hKK hKJ hgb hX hbl hi5 hL hk K S z w1 w2 f1 f2 H locs hCW hMW hSI hP hD hS ls hl)
    · exact lv_tableIn (off := 1919) (tgt := 1963) hx hb dL_law_44 (by omega) (by omega) (by rw [h2]; rfl) (by decide) (lc_targetKind l hsT hx hb hml hown htl hKK hKJ hgb hX hbl hi5 hL hk K S z w1 w2 f1 f2 H locs hCW hMW hSI hP hD hS ls hl)
    · exact lv_tableIn (off := 1987) (tgt := 2031) hx hb dL_law_44 (by omega) (by omega) (by rw [h2]; rfl) (by decide) (lc_repeats l hsT hx hb hml hown htl hKK hKJ hgb hX hbl hi5 hL hk K S z w1 w2 f1 f2 H locs hCW hMW hSI hP hD hS ls hl)
    · exact lv_tableIn (off := 2000) (tgt := 2044) hx hb dL_law_44 (by omega) (by omega) (by rw [h2]; rfl) (by decide) (lc_openWeight l hsT hx hb hml hown htl hKK hKJ hgb hX hbl hi5 hL hk K S z w1 w2 f1 f2 H locs hCW hMW hSI hP hD hS ls hl)
    · exact lv_tableIn (off := 2014) (tgt := 2058) hx hb dL_law_44 (by omega) (by omega) (by rw [h2]; rfl) (by decide) (lc_filledShare l hsT hx hb hml hown htl hKK hKJ hgb hX hbl hi5 hL hk K S z w1 w2 f1 f2 H locs hCW hMW hSI hP hD hS ls hl)
    · exact lv_tableIn (off := 2080) (tgt := 2124) hx hb dL_law_44 (by omega) (by omega) (by rw [h2]; rfl) (by decide) (lc_meanLikeness l hsT hx hb hml hown htl hKK hKJ hgb hX hbl hi5 hL hk K S z w1 w2 f1 f2 H locs hCW hMW hSI hP hD hS ls hl)
    · exact lv_tableIn (off := 2145) (tgt := 2189) hx hb dL_law_44 (by omega) (by omega) (by rw [h2]; rfl) (by decide) (lc_isSound l hsT hx hb hml hown htl hKK hKJ hgb hX hbl hi5 hL hk K S z w1 w2 f1 f2 H locs hCW hMW hSI hP hD hS ls hl)
