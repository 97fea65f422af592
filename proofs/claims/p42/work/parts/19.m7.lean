

set_option maxHeartbeats 4000000 in
set_option maxRecDepth 100000 in
theorem m_Jclear_E (l : Launch) (g : GT) (a : Nat) (mc : Int) (sz : Nat) : Met l yJx4a65c_clear_da8c8 (ws_ yJx4a65c_clear_da8c8 cJx4a65c_clear_da8c8 4 none) (rmm 0 0 0) (jPc g [.ref a] (fun H => H.size = sz ∧ PP g [ob a 11 [vi mc, .ref (gE g), vi 0]] H ∧ va_D (fun q => gb g ≤ q) [ob a 11 [vi mc, .ref (gE g), vi 0]])) (jQv (fun H1 => ∃ lw : va_W, LW g a [] lw ∧ PP g lw H1 ∧ va_D (va_A [ob a 11 [vi mc, .ref (gE g), vi 0]] sz) lw) (va_A [ob a 11 [vi mc, .ref (gE g), vi 0]] sz)) 0 0 (va_A [ob a 11 [vi mc, .ref (gE g), vi 0]] sz) := by
  refine jb_M (by decide) (Nat.le_of_ble_eq_true rfl) ?_
  intro p e s m below meth cq hx hb hr hml hown htl hlk hnm hKK hpre ls hl
  have hown : s.vm.findClass RJx4a65c = some m.cls := hown
  have hl : lv_has ls 4 [(0, .ref a)] := hl
  obtain ⟨hsz, hP, hD0⟩ := hpre
  subst hsz
  have hD : va_D (va_A [ob a 11 [vi mc, .ref (gE g), vi 0]] s.heap.size) [ob a 11 [vi mc, .ref (gE g), vi 0]] := hD0.self
  have hAb : ∀ q, (va_A [ob a 11 [vi mc, .ref (gE g), vi 0]] s.heap.size) q → gb g ≤ q := fun q h => h.elim (fun ⟨k, e, h⟩ => hD0.2 k _ h) (fun h => Nat.le_trans hKK.2.1 h)
  generalize hAe : va_A [ob a 11 [vi mc, .ref (gE g), vi 0]] s.heap.size = A at *
  have hA : ∀ q, s.heap.size ≤ q → A q := fun q h => by rw [← hAe]; exact Or.inr h
  have hS : va_S A s.heap s.heap [] := va_S.rf
  suffices K : ∀ (H : Heap) (locs : List Loc), PP g [ob a 11 [vi mc, .ref (gE g), vi 0]] H → va_D A [ob a 11 [vi mc, .ref (gE g), vi 0]] → va_S A s.heap H locs → ∀ ls : Array Slot, lv_has ls 4 [(0, .ref a)] → W p l e (rmm 0 0 0) s m ([.ref a] : List Value).toArray below meth cq H locs 0 0 (MQ below (jQv (fun H1 => ∃ lw : va_W, LW g a [] lw ∧ PP g lw H1 ∧ va_D (A) lw) A) ([.ref a] : List Value).toArray s 0 0 A) (F0 m 0 ls []) from K _ _ hP hD hS _ hl
  clear hl; intro H locs hP hD hS ls hl
  refine lv_aload_n hx hb dJx4a65c_clear_da8c8_0 rfl (lv_at hl 0 rfl) ?_
  refine lv_dup hx hb dJx4a65c_clear_da8c8_1 rfl ?_
  refine va_get (D := gD g) (ci := 11) (v := vi mc) (C := RJx4a65c) (T := TJx4a65c) (N := 3) hx hb htl ck_Jx4a65c hown hKK.k hP 0 rfl rfl 0 (by decide) (htl _ wd_14_17) (u_same (htl _ wd_14_18)) rfl dJx4a65c_clear_da8c8_2 ?_
  refine jr_iconst hx hb dJx4a65c_clear_da8c8_5 ?_
  refine jr_iadd hx hb dJx4a65c_clear_da8c8_6 ?_
  refine va_put (D := gD g) (ci := 11) (v := vi (mc + 1)) (ty := .int) (C := RJx4a65c) (T := TJx4a65c) (N := 3) hx hb htl ck_Jx4a65c tyJx4a65c tyJx4a65c_ok nmJx4a65c hown hKK.k hP hD hS 0 rfl rfl 0 (by decide) (htl _ wd_14_17) (u_same (htl _ wd_14_18)) rfl (by decide +kernel) rfl rfl (Nat.le_of_ble_eq_true rfl) dJx4a65c_clear_da8c8_7 (fun H locs hP hD hS => ?_)
  have hP : PP g [ob a 11 [vi (mc + 1), .ref (gE g), vi 0]] H := hP
  have hD : va_D A [ob a 11 [vi (mc + 1), .ref (gE g), vi 0]] := hD
  refine lv_aload_n hx hb dJx4a65c_clear_da8c8_10 rfl (lv_at hl 0 rfl) ?_
  refine va_get (D := gD g) (ci := 11) (v := .ref (gE g)) (C := RJx4a65c) (T := TJx4a65c) (N := 3) hx hb htl ck_Jx4a65c hown hKK.k hP 0 rfl rfl 1 (by decide) (htl _ wd_4_8) (fun _ h9 => h9) rfl dJx4a65c_clear_da8c8_11 ?_
  refine lv_astore_n (lv' := [(1, .ref (gE g)), (0, .ref a)]) hx hb dJx4a65c_clear_da8c8_14 rfl hl (by decide) rfl (fun ls hl => ?_)
  refine lv_aload_n hx hb dJx4a65c_clear_da8c8_15 rfl (lv_at hl 1 rfl) ?_
  refine va_get (D := gD g) (ci := 11) (v := vi 0) (C := RJx4a65c) (T := TJx4a65c) (N := 3) hx hb htl ck_Jx4a65c hown hKK.k hP 0 rfl rfl 2 (by decide) (htl _ wd_5_19) (fun _ h9 => h9) rfl dJx4a65c_clear_da8c8_16 ?_
  refine lv_istore_n (lv' := [(2, vi 0), (1, .ref (gE g)), (0, .ref a)]) hx hb dJx4a65c_clear_da8c8_19 rfl hl (by decide) rfl (fun ls hl => ?_)
  refine lv_aload_n hx hb dJx4a65c_clear_da8c8_20 rfl (lv_at hl 2 rfl) ?_
  refine jr_iconst hx hb dJx4a65c_clear_da8c8_21 ?_
  refine lv_dup_x1 hx hb dJx4a65c_clear_da8c8_22 rfl rfl ?_
  refine va_put (D := gD g) (ci := 11) (v := vi 0) (ty := .int) (C := RJx4a65c) (T := TJx4a65c) (N := 3) hx hb htl ck_Jx4a65c tyJx4a65c tyJx4a65c_ok nmJx4a65c hown hKK.k hP hD hS 0 rfl rfl 2 (by decide) (htl _ wd_5_19) (fun _ h9 => h9) rfl (by decide +kernel) rfl rfl (Nat.le_of_ble_eq_true rfl) dJx4a65c_clear_da8c8_23 (fun H locs hP hD hS => ?_)
  have hP : PP g [ob a 11 [vi (mc + 1), .ref (gE g), vi 0]] H := hP
  have hD : va_D A [ob a 11 [vi (mc + 1), .ref (gE g), vi 0]] := hD
  refine lv_istore_n (lv' := [(3, vi 0), (2, vi 0), (1, .ref (gE g)), (0, .ref a)]) hx hb dJx4a65c_clear_da8c8_26 rfl hl (by decide) rfl (fun ls hl => ?_)
  refine lv_iload_n hx hb dJx4a65c_clear_da8c8_27 rfl (lv_at hl 0 rfl) ?_
  refine lv_iload_n hx hb dJx4a65c_clear_da8c8_28 rfl (lv_at hl 1 rfl) ?_
  refine jr_ge (tgt := 42) hx hb dJx4a65c_clear_da8c8_29 (by decide) ⟨by omega, by omega⟩ ⟨by omega, by omega⟩ (fun c29 => ?_) (fun c29 => absurd c29 (by omega))
  exact je_Qv hx hb hr hlk hS (⟨_, Or.inl ⟨rfl, mc + 1, rfl⟩, hP, hD⟩) dJx4a65c_clear_da8c8_42
set_option maxHeartbeats 4000000 in
set_option maxRecDepth 100000 in
theorem m_Jclear_F (l : Launch) (g : GT) (a : Nat) (mc : Int) (ea cap n sz : Nat) (f : Nat → Option Nat) (h1 : n ≤ cap) (h2 : 10 ≤ cap) (h3 : cap ≤ 88) : Met l yJx4a65c_clear_da8c8 (ws_ yJx4a65c_clear_da8c8 cJx4a65c_clear_da8c8 4 none) (rmm 0 0 0) (jPc g [.ref a] (fun H => H.size = sz ∧ PP g [ob a 11 [vi mc, .ref ea, vi (n : Int)], aO g ea cap f] H ∧ va_D (fun q => gb g ≤ q) [ob a 11 [vi mc, .ref ea, vi (n : Int)], aO g ea cap f])) (jQv (fun H1 => ∃ lw : va_W, LW g a [] lw ∧ PP g lw H1 ∧ va_D (va_A [ob a 11 [vi mc, .ref ea, vi (n : Int)], aO g ea cap f] sz) lw) (va_A [ob a 11 [vi mc, .ref ea, vi (n : Int)], aO g ea cap f] sz)) 0 0 (va_A [ob a 11 [vi mc, .ref ea, vi (n : Int)], aO g ea cap f] sz) := by
  refine jb_M (by decide) (Nat.le_of_ble_eq_true rfl) ?_
  intro p e s m below meth cq hx hb hr hml hown htl hlk hnm hKK hpre ls hl
  have hown : s.vm.findClass RJx4a65c = some m.cls := hown
  have hl : lv_has ls 4 [(0, .ref a)] := hl
  obtain ⟨hsz, hP, hD0⟩ := hpre
  subst hsz
  have hD : va_D (va_A [ob a 11 [vi mc, .ref ea, vi (n : Int)], aO g ea cap f] s.heap.size) [ob a 11 [vi mc, .ref ea, vi (n : Int)], aO g ea cap f] := hD0.self
  have hAb : ∀ q, (va_A [ob a 11 [vi mc, .ref ea, vi (n : Int)], aO g ea cap f] s.heap.size) q → gb g ≤ q := fun q h => h.elim (fun ⟨k, e, h⟩ => hD0.2 k _ h) (fun h => Nat.le_trans hKK.2.1 h)
  generalize hAe : va_A [ob a 11 [vi mc, .ref ea, vi (n : Int)], aO g ea cap f] s.heap.size = A at *
  have hA : ∀ q, s.heap.size ≤ q → A q := fun q h => by rw [← hAe]; exact Or.inr h
  have hS : va_S A s.heap s.heap [] := va_S.rf
  suffices K : ∀ (H : Heap) (locs : List Loc), PP g [ob a 11 [vi mc, .ref ea, vi (n : Int)], aO g ea cap f] H → va_D A [ob a 11 [vi mc, .ref ea, vi (n : Int)], aO g ea cap f] → va_S A s.heap H locs → ∀ ls : Array Slot, lv_has ls 4 [(0, .ref a)] → W p l e (rmm 0 0 0) s m ([.ref a] : List Value).toArray below meth cq H locs 0 0 (MQ below (jQv (fun H1 => ∃ lw : va_W, LW g a [] lw ∧ PP g lw H1 ∧ va_D (A) lw) A) ([.ref a] : List Value).toArray s 0 0 A) (F0 m 0 ls []) from K _ _ hP hD hS _ hl
  clear hl; intro H locs hP hD hS ls hl
  refine lv_aload_n hx hb dJx4a65c_clear_da8c8_0 rfl (lv_at hl 0 rfl) ?_
  refine lv_dup hx hb dJx4a65c_clear_da8c8_1 rfl ?_
  refine va_get (D := gD g) (ci := 11) (v := vi mc) (C := RJx4a65c) (T := TJx4a65c) (N := 3) hx hb htl ck_Jx4a65c hown hKK.k hP 0 rfl rfl 0 (by decide) (htl _ wd_14_17) (u_same (htl _ wd_14_18)) rfl dJx4a65c_clear_da8c8_2 ?_
  refine jr_iconst hx hb dJx4a65c_clear_da8c8_5 ?_
  refine jr_iadd hx hb dJx4a65c_clear_da8c8_6 ?_
  refine va_put (D := gD g) (ci := 11) (v := vi (mc + 1)) (ty := .int) (C := RJx4a65c) (T := TJx4a65c) (N := 3) hx hb htl ck_Jx4a65c tyJx4a65c tyJx4a65c_ok nmJx4a65c hown hKK.k hP hD hS 0 rfl rfl 0 (by decide) (htl _ wd_14_17) (u_same (htl _ wd_14_18)) rfl (by decide +kernel) rfl rfl (Nat.le_of_ble_eq_true rfl) dJx4a65c_clear_da8c8_7 (fun H locs hP hD hS => ?_)
  have hP : PP g [ob a 11 [vi (mc + 1), .ref ea, vi (n : Int)], aO g ea cap f] H := hP
  have hD : va_D A [ob a 11 [vi (mc + 1), .ref ea, vi (n : Int)], aO g ea cap f] := hD
  refine lv_aload_n hx hb dJx4a65c_clear_da8c8_10 rfl (lv_at hl 0 rfl) ?_
  refine va_get (D := gD g) (ci := 11) (v := .ref ea) (C := RJx4a65c) (T := TJx4a65c) (N := 3) hx hb htl ck_Jx4a65c hown hKK.k hP 0 rfl rfl 1 (by decide) (htl _ wd_4_8) (fun _ h9 => h9) rfl dJx4a65c_clear_da8c8_11 ?_
  refine lv_astore_n (lv' := [(1, .ref ea), (0, .ref a)]) hx hb dJx4a65c_clear_da8c8_14 rfl hl (by decide) rfl (fun ls hl => ?_)
  refine lv_aload_n hx hb dJx4a65c_clear_da8c8_15 rfl (lv_at hl 1 rfl) ?_
  refine va_get (D := gD g) (ci := 11) (v := vi (n : Int)) (C := RJx4a65c) (T := TJx4a65c) (N := 3) hx hb htl ck_Jx4a65c hown hKK.k hP 0 rfl rfl 2 (by decide) (htl _ wd_5_19) (fun _ h9 => h9) rfl dJx4a65c_clear_da8c8_16 ?_
  refine lv_istore_n (lv' := [(2, vi (n : Int)), (1, .ref ea), (0, .ref a)]) hx hb dJx4a65c_clear_da8c8_19 rfl hl (by decide) rfl (fun ls hl => ?_)
  refine lv_aload_n hx hb dJx4a65c_clear_da8c8_20 rfl (lv_at hl 2 rfl) ?_
  refine jr_iconst hx hb dJx4a65c_clear_da8c8_21 ?_
  refine lv_dup_x1 hx hb dJx4a65c_clear_da8c8_22 rfl rfl ?_
  refine va_put (D := gD g) (ci := 11) (v := vi 0) (ty := .int) (C := RJx4a65c) (T := TJx4a65c) (N := 3) hx hb htl ck_Jx4a65c tyJx4a65c tyJx4a65c_ok nmJx4a65c hown hKK.k hP hD hS 0 rfl rfl 2 (by decide) (htl _ wd_5_19) (fun _ h9 => h9) rfl (by decide +kernel) rfl rfl (Nat.le_of_ble_eq_true rfl) dJx4a65c_clear_da8c8_23 (fun H locs hP hD hS => ?_)
  have hP : PP g [ob a 11 [vi (mc + 1), .ref ea, vi 0], aO g ea cap f] H := hP
  have hD : va_D A [ob a 11 [vi (mc + 1), .ref ea, vi 0], aO g ea cap f] := hD
  refine lv_istore_n (lv' := [(3, vi 0), (2, vi (n : Int)), (1, .ref ea), (0, .ref a)]) hx hb dJx4a65c_clear_da8c8_26 rfl hl (by decide) rfl (fun ls hl => ?_)
  have lp27 : ∀ (N : Nat) (i : Nat) (f2 : Nat → Option Nat), (i ≤ n) → n - i < N → ∀ (H : Heap) (locs : List Loc), PP g [ob a 11 [vi (mc + 1), .ref ea, vi 0], aO g ea cap f2] H → va_D A [ob a 11 [vi (mc + 1), .ref ea, vi 0], aO g ea cap f2] → va_S A s.heap H locs → ∀ ls : Array Slot, lv_has ls 4 [(3, vi (i : Int)), (2, vi (n : Int)), (1, .ref ea), (0, .ref a)] → W p l e (rmm 0 0 0) s m ([.ref a] : List Value).toArray below meth cq H locs 0 0 (MQ below (jQv (fun H1 => ∃ lw : va_W, LW g a [] lw ∧ PP g lw H1 ∧ va_D (A) lw) A) ([.ref a] : List Value).toArray s 0 0 A) (F0 m 27 ls []) := by
    intro N
    induction N with
    | zero => intro i f2 hi hM; exact absurd hM (Nat.not_lt_zero _)
    | succ N ih27 =>
      intro i f2 hi hM H locs hP hD hS ls hl
      refine lv_iload_n hx hb dJx4a65c_clear_da8c8_27 rfl (lv_at hl 0 rfl) ?_
      refine lv_iload_n hx hb dJx4a65c_clear_da8c8_28 rfl (lv_at hl 1 rfl) ?_
      refine jr_ge (tgt := 42) hx hb dJx4a65c_clear_da8c8_29 (by decide) ⟨by omega, by omega⟩ ⟨by omega, by omega⟩ (fun c29 => ?_) (fun c29 => ?_)
      · exact je_Qv hx hb hr hlk hS (⟨_, LW.nil h2 h3, hP, hD⟩) dJx4a65c_clear_da8c8_42
      · refine lv_aload_n hx hb dJx4a65c_clear_da8c8_32 rfl (lv_at hl 2 rfl) ?_
        refine lv_iload_n hx hb dJx4a65c_clear_da8c8_33 rfl (lv_at hl 0 rfl) ?_
        refine lv_null hx hb dJx4a65c_clear_da8c8_34 ?_
        refine jr_aastN hx hb hKK.k hP hD hS 1 rfl i rfl (by omega) (by omega) dJx4a65c_clear_da8c8_35 (fun H locs hP hD hS => ?_)
        have hP : PP g [ob a 11 [vi (mc + 1), .ref ea, vi 0], aO g ea cap (va_up f2 i none)] H := hP
        have hD : va_D A [ob a 11 [vi (mc + 1), .ref ea, vi 0], aO g ea cap (va_up f2 i none)] := hD
        refine jr_iinc (lv' := [(3, vi ((i : Int) + 1)), (2, vi (n : Int)), (1, .ref ea), (0, .ref a)]) hx hb dJx4a65c_clear_da8c8_36 hl (k := 0) rfl rfl (by decide) rfl (fun ls hl => ?_)
        refine lv_goto (tgt := 27) hx hb dJx4a65c_clear_da8c8_39 (by decide) ?_
        exact ih27 (i + 1) _ (by omega) (by omega) _ _ hP hD hS ls (lv_sub hl [0, 1, 2, 3] rfl)
  exact lp27 _ 0 f (Nat.zero_le _) (Nat.lt_succ_self _) _ _ hP hD hS ls (lv_sub hl [0, 1, 2, 3] rfl)
theorem m_Lclear (l : Launch) (g : GT) (a : Nat) (xs : List Nat) (lw : va_W) (sz : Nat) (h : LW g a xs lw) : Met l yJx4a65c_clear_da8c8 (ws_ yJx4a65c_clear_da8c8 cJx4a65c_clear_da8c8 4 none) (rmm 0 0 0) (jPc g [.ref a] (fun H => H.size = sz ∧ PP g lw H ∧ va_D (fun q => gb g ≤ q) lw)) (jQv (fun H1 => ∃ lw1 : va_W, LW g a [] lw1 ∧ PP g lw1 H1 ∧ va_D (va_A lw sz) lw1) (va_A lw sz)) 0 0 (va_A lw sz) := by
  rcases h with ⟨rfl, mc, rfl⟩ | ⟨mc, ea, cap, f, rfl, h1, h2, h3, -⟩
  · exact m_Jclear_E l g a mc sz
  · exact m_Jclear_F l g a mc ea cap xs.length sz f h1 h2 h3
theorem m_Ladd (l : Launch) (g : GT) (a : Nat) (xs : List Nat) (lw : va_W) (q sz : Nat) (h : LW g a xs lw) (hlen : xs.length < 60) : Met l yJx4a65c_add_9ea2d (ws_ yJx4a65c_add_9ea2d cJx4a65c_add_9ea2d 2 (some .boolean)) (rmm 5 1 88) (jPc g [.ref a, .ref q] (fun H => H.size = sz ∧ PP g lw H ∧ va_D (fun q => gb g ≤ q) lw ∧ EL g (q :: xs) (lw.map (·.1)) H)) (jQi (fun z H1 => z = 1 ∧ ∃ lw1 : va_W, LW g a (xs ++ [q]) lw1 ∧ PP g lw1 H1 ∧ va_D (va_A lw sz) lw1) (va_A lw sz)) 1 88 (va_A lw sz) := by
  rcases h with ⟨rfl, mc, rfl⟩ | ⟨mc, ea, cap, f, rfl, h1, h2, h3, h4⟩
  · exact m_Jx4a65c_add_9ea2d_E l g a mc q sz
  · by_cases e : xs.length < cap
    · exact m_Jx4a65c_add_9ea2d_N l g a mc ea cap xs.length q sz f xs rfl e h2 h3 h4
    · obtain rfl : cap = xs.length := by omega
      exact m_Jx4a65c_add_9ea2d_F l g a mc ea xs.length q sz f xs rfl h2 hlen h4
