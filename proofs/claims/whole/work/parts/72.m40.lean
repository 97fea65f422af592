

set_option maxHeartbeats 4000000 in
set_option maxRecDepth 100000 in
theorem m_X11_areEqual (l : Launch) (g : GT) (ad : Nat → Nat) (th dn nt tn nu ns tz : Int) (f12 f13 : Nat → Int) (k1 b1 : Nat) (x1 : List Int) (hk1 : k1 < 60) (h1 : f13 k1 = (b1 : Int)) (h1b : f13 (k1 + 1) = ((b1 + x1.length : Nat) : Int)) (hb1 : b1 + x1.length ≤ 60) (hr1 : RWS f12 b1 x1) (k2 b2 : Nat) (x2 : List Int) (hk2 : k2 < 60) (h2 : f13 k2 = (b2 : Int)) (h2b : f13 (k2 + 1) = ((b2 + x2.length : Nat) : Int)) (hb2 : b2 + x2.length ≤ 60) (hr2 : RWS f12 b2 x2) : Met l yX11_areEqual (ws_ yX11_areEqual cX11_areEqual 5 (some .boolean)) (rmm 1 0 0) (jPc g [.ref (ad 0), vi (k1 : Int), vi (k2 : Int)] (fun H => PP g [ob (ad 0) 10 [vi th, .ref (ad 1), vi dn, .ref (ad 2), .ref (ad 3), vi nt, .ref (ad 4), .ref (ad 5), .ref (ad 6), vi tn, vi nu, .ref (ad 7), .ref (ad 8), .ref (ad 9), .ref (ad 10), .ref (ad 11), .ref (ad 12), vi ns, .ref (ad 13), .ref (ad 14), .ref (ad 15), .ref (ad 16), .ref (ad 17), .ref (ad 18), .ref (ad 19), vi tz, .ref (ad 20), .ref (ad 21), .ref (ad 22)], aI g (ad 12) 60 f12, aI g (ad 13) 61 f13] H)) (jSi (fun z => z = i01 (x1 = x2))) 0 0 jN := by
  refine jb_M (by decide) (Nat.le_of_ble_eq_true rfl) ?_
  intro p e s m below meth cq hx hb hr hml hown htl hlk hnm hKK hpre ls hl
  have hown : s.vm.findClass RX11 = some m.cls := hown
  have hl : lv_has ls 5 [(0, .ref (ad 0)), (1, vi (k1 : Int)), (2, vi (k2 : Int))] := hl
  have hP : PP g [ob (ad 0) 10 [vi th, .ref (ad 1), vi dn, .ref (ad 2), .ref (ad 3), vi nt, .ref (ad 4), .ref (ad 5), .ref (ad 6), vi tn, vi nu, .ref (ad 7), .ref (ad 8), .ref (ad 9), .ref (ad 10), .ref (ad 11), .ref (ad 12), vi ns, .ref (ad 13), .ref (ad 14), .ref (ad 15), .ref (ad 16), .ref (ad 17), .ref (ad 18), .ref (ad 19), vi tz, .ref (ad 20), .ref (ad 21), .ref (ad 22)], aI g (ad 12) 60 f12, aI g (ad 13) 61 f13] s.heap := hpre
  refine lv_aload_n hx hb dX11_areEqual_0 rfl (lv_at hl 0 rfl) ?_
  refine lv_iload_n hx hb dX11_areEqual_1 rfl (lv_at hl 1 rfl) ?_
  refine jk_Si (va_runV (As := [vi (k1 : Int)]) (rest := []) ⟨hx, hb, hml, hown, htl⟩ (m_X11_length l g ad th dn nt tn nu ns tz f13 k1 b1 x1.length hk1 h1 h1b hb1) (cwV 1 htl lk_X11_176 rfl rfl rfl cwV_X11_length ⟨Nat.le_of_ble_eq_true rfl, Nat.le_of_ble_eq_true rfl⟩) (jp_V hKK (va_S.rf (A := jN)) jNb (va_recv hKK.k hP (ci := 10) (q0 := 0) rfl rfl) (va_P.sub hP [0, 2] rfl)) rfl rfl hl.1 rfl (lv_room (Nat.le_of_ble_eq_true rfl)) dX11_areEqual_2 ⟨Nat.le_of_ble_eq_true rfl, Nat.le_of_ble_eq_true rfl⟩) (fun z2 hz2 => ?_)
  subst hz2
  refine lv_aload_n hx hb dX11_areEqual_5 rfl (lv_at hl 0 rfl) ?_
  refine lv_iload_n hx hb dX11_areEqual_6 rfl (lv_at hl 2 rfl) ?_
  refine jk_Si (va_runV (As := [vi (k2 : Int)]) (rest := [vi (x1.length : Int)]) ⟨hx, hb, hml, hown, htl⟩ (m_X11_length l g ad th dn nt tn nu ns tz f13 k2 b2 x2.length hk2 h2 h2b hb2) (cwV 1 htl lk_X11_176 rfl rfl rfl cwV_X11_length ⟨Nat.le_of_ble_eq_true rfl, Nat.le_of_ble_eq_true rfl⟩) (jp_V hKK (va_S.rf (A := jN)) jNb (va_recv hKK.k hP (ci := 10) (q0 := 0) rfl rfl) (va_P.sub hP [0, 2] rfl)) rfl rfl hl.1 rfl (lv_room (Nat.le_of_ble_eq_true rfl)) dX11_areEqual_7 ⟨Nat.le_of_ble_eq_true rfl, Nat.le_of_ble_eq_true rfl⟩) (fun z7 hz7 => ?_)
  subst hz7
  refine jr_ne (tgt := 17) hx hb dX11_areEqual_10 (by decide) ⟨by omega, by omega⟩ ⟨by omega, by omega⟩ (fun c10 => ?_) (fun c10 => ?_)
  · refine jr_iconst hx hb dX11_areEqual_17 ?_
    refine lv_istore_n (lv' := [(3, vi 0), (0, .ref (ad 0)), (1, vi (k1 : Int)), (2, vi (k2 : Int))]) hx hb dX11_areEqual_18 rfl hl (by decide) rfl (fun ls hl => ?_)
    refine jr_iconst hx hb dX11_areEqual_19 ?_
    refine lv_istore (lv' := [(4, vi 0), (3, vi 0), (0, .ref (ad 0)), (1, vi (k1 : Int)), (2, vi (k2 : Int))]) hx hb dX11_areEqual_20 hl (by decide) rfl (fun ls hl => ?_)
    have lp22 : ∀ (N : Nat) (i : Nat) (ee : Int), (i ≤ x1.length) → (0 ≤ ee ∧ ee ≤ 1) → (ee = i01 (x1.length = x2.length ∧ x1.take i = x2.take i)) → x1.length - i < N → ∀ ls : Array Slot, lv_has ls 5 [(4, vi (i : Int)), (3, vi ee), (0, .ref (ad 0)), (1, vi (k1 : Int)), (2, vi (k2 : Int))] → W p l e (rmm 1 0 0) s m ([.ref (ad 0), vi (k1 : Int), vi (k2 : Int)] : List Value).toArray below meth cq s.heap [] 0 0 (MQ below (jSi (fun z => z = i01 (x1 = x2))) ([.ref (ad 0), vi (k1 : Int), vi (k2 : Int)] : List Value).toArray s 0 0 jN) (F0 m 22 ls []) := by
      intro N
      induction N with
      | zero => intro i ee hi heb he hM; exact absurd hM (Nat.not_lt_zero _)
      | succ N ih22 =>
        intro i ee hi heb he hM ls hl
        refine lv_iload hx hb dX11_areEqual_22 (lv_at hl 0 rfl) ?_
        refine lv_aload_n hx hb dX11_areEqual_24 rfl (lv_at hl 2 rfl) ?_
        refine lv_iload_n hx hb dX11_areEqual_25 rfl (lv_at hl 3 rfl) ?_
        refine jk_Si (va_runV (As := [vi (k1 : Int)]) (rest := [vi (i : Int)]) ⟨hx, hb, hml, hown, htl⟩ (m_X11_length l g ad th dn nt tn nu ns tz f13 k1 b1 x1.length hk1 h1 h1b hb1) (cwV 1 htl lk_X11_176 rfl rfl rfl cwV_X11_length ⟨Nat.le_of_ble_eq_true rfl, Nat.le_of_ble_eq_true rfl⟩) (jp_V hKK (va_S.rf (A := jN)) jNb (va_recv hKK.k hP (ci := 10) (q0 := 0) rfl rfl) (va_P.sub hP [0, 2] rfl)) rfl rfl hl.1 rfl (lv_room (Nat.le_of_ble_eq_true rfl)) dX11_areEqual_26 ⟨Nat.le_of_ble_eq_true rfl, Nat.le_of_ble_eq_true rfl⟩) (fun z26 hz26 => ?_)
        subst hz26
        refine jr_ge (tgt := 79) hx hb dX11_areEqual_29 (by decide) ⟨by omega, by omega⟩ ⟨by omega, by omega⟩ (fun c29 => ?_) (fun c29 => ?_)
        · refine lv_iload_n hx hb dX11_areEqual_79 rfl (lv_at hl 1 rfl) ?_
          exact je_Si hx hb hr hlk (nz_b (by omega)).1 (by rw [he]; exact i01_eq ⟨fun q => by have h9 := q.2; rw [List.take_of_length_le (show x1.length ≤ i by omega), List.take_of_length_le (show x2.length ≤ i by have := q.1; omega)] at h9; exact h9, fun q => ⟨by rw [q], by rw [q]⟩⟩) dX11_areEqual_80
        · refine lv_iload_n hx hb dX11_areEqual_32 rfl (lv_at hl 1 rfl) ?_
          refine jr_ifeq (tgt := 79) hx hb dX11_areEqual_33 (by decide) ⟨by omega, by omega⟩ (fun c33 => ?_) (fun c33 => ?_)
          · refine lv_iload_n hx hb dX11_areEqual_79 rfl (lv_at hl 1 rfl) ?_
            exact je_Si hx hb hr hlk (nz_b (by omega)).1 (by rw [c33]; exact i01_0 (fun q => by rw [he] at c33; exact i01f c33 ⟨by rw [q], by rw [q]⟩)) dX11_areEqual_80
          · have hee : x1.length = x2.length ∧ x1.take i = x2.take i := by rw [he] at c33; exact i01t c33
            have tb1 := hr1.b (j := i) (by omega)
            have tb2 := hr2.b (j := i) (by omega)
            refine lv_aload_n hx hb dX11_areEqual_36 rfl (lv_at hl 2 rfl) ?_
            refine va_get (D := gD g) (ci := 10) (v := .ref (ad 12)) (C := RX11) (T := TX11) (N := 29) hx hb htl ck_X11 hown hKK.k hP 0 rfl rfl 16 (by decide) (htl _ wd_6_2) (fun _ h9 => h9) rfl dX11_areEqual_37 ?_
            refine lv_aload_n hx hb dX11_areEqual_40 rfl (lv_at hl 2 rfl) ?_
            refine va_get (D := gD g) (ci := 10) (v := .ref (ad 13)) (C := RX11) (T := TX11) (N := 29) hx hb htl ck_X11 hown hKK.k hP 0 rfl rfl 18 (by decide) (htl _ wd_6_3) (fun _ h9 => h9) rfl dX11_areEqual_41 ?_
            refine lv_iload_n hx hb dX11_areEqual_44 rfl (lv_at hl 3 rfl) ?_
            refine jr_iald hx hb hKK.k hP 2 rfl k1 (by omega) (by omega) (by omega) dX11_areEqual_45 ?_
            refine lv_iload hx hb dX11_areEqual_46 (lv_at hl 0 rfl) ?_
            refine jr_iadd hx hb dX11_areEqual_48 ?_
            refine jr_iald hx hb hKK.k hP 1 rfl (b1 + i) (by omega) (by omega) (by omega) dX11_areEqual_49 ?_
            refine jr_nm (b := (x1.getD i 0)) (hr1.at (by omega)) ?_
            refine lv_aload_n hx hb dX11_areEqual_50 rfl (lv_at hl 2 rfl) ?_
            refine va_get (D := gD g) (ci := 10) (v := .ref (ad 12)) (C := RX11) (T := TX11) (N := 29) hx hb htl ck_X11 hown hKK.k hP 0 rfl rfl 16 (by decide) (htl _ wd_6_2) (fun _ h9 => h9) rfl dX11_areEqual_51 ?_
            refine lv_aload_n hx hb dX11_areEqual_54 rfl (lv_at hl 2 rfl) ?_
            refine va_get (D := gD g) (ci := 10) (v := .ref (ad 13)) (C := RX11) (T := TX11) (N := 29) hx hb htl ck_X11 hown hKK.k hP 0 rfl rfl 18 (by decide) (htl _ wd_6_3) (fun _ h9 => h9) rfl dX11_areEqual_55 ?_
            refine lv_iload_n hx hb dX11_areEqual_58 rfl (lv_at hl 4 rfl) ?_
            refine jr_iald hx hb hKK.k hP 2 rfl k2 (by omega) (by omega) (by omega) dX11_areEqual_59 ?_
            refine lv_iload hx hb dX11_areEqual_60 (lv_at hl 0 rfl) ?_
            refine jr_iadd hx hb dX11_areEqual_62 ?_
            refine jr_iald hx hb hKK.k hP 1 rfl (b2 + i) (by omega) (by omega) (by omega) dX11_areEqual_63 ?_
            refine jr_nm (b := (x2.getD i 0)) (hr2.at (by omega)) ?_
            refine jr_ne (tgt := 71) hx hb dX11_areEqual_64 (by decide) ⟨by omega, by omega⟩ ⟨by omega, by omega⟩ (fun c64 => ?_) (fun c64 => ?_)
            · refine jr_iconst hx hb dX11_areEqual_71 ?_
              refine lv_istore_n (lv' := [(3, vi 0), (4, vi (i : Int)), (0, .ref (ad 0)), (1, vi (k1 : Int)), (2, vi (k2 : Int))]) hx hb dX11_areEqual_72 rfl hl (by decide) rfl (fun ls hl => ?_)
              refine jr_iinc (lv' := [(4, vi ((i : Int) + 1)), (3, vi 0), (0, .ref (ad 0)), (1, vi (k1 : Int)), (2, vi (k2 : Int))]) hx hb dX11_areEqual_73 hl (k := 1) rfl rfl (by decide) rfl (fun ls hl => ?_)
              refine lv_goto (tgt := 22) hx hb dX11_areEqual_76 (by decide) ?_
              exact ih22 (i + 1) _ (by omega) (by omega) (i01_0 (fun q => c64 ((take_s (show i < x1.length by omega) (show i < x2.length by omega)).mp q.2).2)) (by omega) ls (lv_sub hl [0, 1, 2, 3, 4] rfl)
            · refine jr_iconst hx hb dX11_areEqual_67 ?_
              refine lv_goto (tgt := 72) hx hb dX11_areEqual_68 (by decide) ?_
              refine lv_istore_n (lv' := [(3, vi 1), (4, vi (i : Int)), (0, .ref (ad 0)), (1, vi (k1 : Int)), (2, vi (k2 : Int))]) hx hb dX11_areEqual_72 rfl hl (by decide) rfl (fun ls hl => ?_)
              refine jr_iinc (lv' := [(4, vi ((i : Int) + 1)), (3, vi 1), (0, .ref (ad 0)), (1, vi (k1 : Int)), (2, vi (k2 : Int))]) hx hb dX11_areEqual_73 hl (k := 1) rfl rfl (by decide) rfl (fun ls hl => ?_)
              refine lv_goto (tgt := 22) hx hb dX11_areEqual_76 (by decide) ?_
              exact ih22 (i + 1) _ (by omega) (by omega) (i01_1 ⟨hee.1, (take_s (show i < x1.length by omega) (show i < x2.length by omega)).mpr ⟨hee.2, c64⟩⟩) (by omega) ls (lv_sub hl [0, 1, 2, 3, 4] rfl)
    exact lp22 _ 0 _ (Nat.zero_le _) (by omega) (i01_0 (fun q => by have h9 := q.1; omega)) (Nat.lt_succ_self _) ls (lv_sub hl [0, 1, 2, 3, 4] rfl)
  · refine jr_iconst hx hb dX11_areEqual_13 ?_
    refine lv_goto (tgt := 18) hx hb dX11_areEqual_14 (by decide) ?_
    refine lv_istore_n (lv' := [(3, vi 1), (0, .ref (ad 0)), (1, vi (k1 : Int)), (2, vi (k2 : Int))]) hx hb dX11_areEqual_18 rfl hl (by decide) rfl (fun ls hl => ?_)
    refine jr_iconst hx hb dX11_areEqual_19 ?_
    refine lv_istore (lv' := [(4, vi 0), (3, vi 1), (0, .ref (ad 0)), (1, vi (k1 : Int)), (2, vi (k2 : Int))]) hx hb dX11_areEqual_20 hl (by decide) rfl (fun ls hl => ?_)
    have lp22 : ∀ (N : Nat) (i : Nat) (ee : Int), (i ≤ x1.length) → (0 ≤ ee ∧ ee ≤ 1) → (ee = i01 (x1.length = x2.length ∧ x1.take i = x2.take i)) → x1.length - i < N → ∀ ls : Array Slot, lv_has ls 5 [(4, vi (i : Int)), (3, vi ee), (0, .ref (ad 0)), (1, vi (k1 : Int)), (2, vi (k2 : Int))] → W p l e (rmm 1 0 0) s m ([.ref (ad 0), vi (k1 : Int), vi (k2 : Int)] : List Value).toArray below meth cq s.heap [] 0 0 (MQ below (jSi (fun z => z = i01 (x1 = x2))) ([.ref (ad 0), vi (k1 : Int), vi (k2 : Int)] : List Value).toArray s 0 0 jN) (F0 m 22 ls []) := by
      intro N
      induction N with
      | zero => intro i ee hi heb he hM; exact absurd hM (Nat.not_lt_zero _)
      | succ N ih22 =>
        intro i ee hi heb he hM ls hl
        refine lv_iload hx hb dX11_areEqual_22 (lv_at hl 0 rfl) ?_
        refine lv_aload_n hx hb dX11_areEqual_24 rfl (lv_at hl 2 rfl) ?_
        refine lv_iload_n hx hb dX11_areEqual_25 rfl (lv_at hl 3 rfl) ?_
        refine jk_Si (va_runV (As := [vi (k1 : Int)]) (rest := [vi (i : Int)]) ⟨hx, hb, hml, hown, htl⟩ (m_X11_length l g ad th dn nt tn nu ns tz f13 k1 b1 x1.length hk1 h1 h1b hb1) (cwV 1 htl lk_X11_176 rfl rfl rfl cwV_X11_length ⟨Nat.le_of_ble_eq_true rfl, Nat.le_of_ble_eq_true rfl⟩) (jp_V hKK (va_S.rf (A := jN)) jNb (va_recv hKK.k hP (ci := 10) (q0 := 0) rfl rfl) (va_P.sub hP [0, 2] rfl)) rfl rfl hl.1 rfl (lv_room (Nat.le_of_ble_eq_true rfl)) dX11_areEqual_26 ⟨Nat.le_of_ble_eq_true rfl, Nat.le_of_ble_eq_true rfl⟩) (fun z26 hz26 => ?_)
        subst hz26
        refine jr_ge (tgt := 79) hx hb dX11_areEqual_29 (by decide) ⟨by omega, by omega⟩ ⟨by omega, by omega⟩ (fun c29 => ?_) (fun c29 => ?_)
        · refine lv_iload_n hx hb dX11_areEqual_79 rfl (lv_at hl 1 rfl) ?_
          exact je_Si hx hb hr hlk (nz_b (by omega)).1 (by rw [he]; exact i01_eq ⟨fun q => by have h9 := q.2; rw [List.take_of_length_le (show x1.length ≤ i by omega), List.take_of_length_le (show x2.length ≤ i by have := q.1; omega)] at h9; exact h9, fun q => ⟨by rw [q], by rw [q]⟩⟩) dX11_areEqual_80
        · refine lv_iload_n hx hb dX11_areEqual_32 rfl (lv_at hl 1 rfl) ?_
          refine jr_ifeq (tgt := 79) hx hb dX11_areEqual_33 (by decide) ⟨by omega, by omega⟩ (fun c33 => ?_) (fun c33 => ?_)
          · refine lv_iload_n hx hb dX11_areEqual_79 rfl (lv_at hl 1 rfl) ?_
            exact je_Si hx hb hr hlk (nz_b (by omega)).1 (by rw [c33]; exact i01_0 (fun q => by rw [he] at c33; exact i01f c33 ⟨by rw [q], by rw [q]⟩)) dX11_areEqual_80
          · have hee : x1.length = x2.length ∧ x1.take i = x2.take i := by rw [he] at c33; exact i01t c33
            have tb1 := hr1.b (j := i) (by omega)
            have tb2 := hr2.b (j := i) (by omega)
            refine lv_aload_n hx hb dX11_areEqual_36 rfl (lv_at hl 2 rfl) ?_
            refine va_get (D := gD g) (ci := 10) (v := .ref (ad 12)) (C := RX11) (T := TX11) (N := 29) hx hb htl ck_X11 hown hKK.k hP 0 rfl rfl 16 (by decide) (htl _ wd_6_2) (fun _ h9 => h9) rfl dX11_areEqual_37 ?_
            refine lv_aload_n hx hb dX11_areEqual_40 rfl (lv_at hl 2 rfl) ?_
            refine va_get (D := gD g) (ci := 10) (v := .ref (ad 13)) (C := RX11) (T := TX11) (N := 29) hx hb htl ck_X11 hown hKK.k hP 0 rfl rfl 18 (by decide) (htl _ wd_6_3) (fun _ h9 => h9) rfl dX11_areEqual_41 ?_
            refine lv_iload_n hx hb dX11_areEqual_44 rfl (lv_at hl 3 rfl) ?_
            refine jr_iald hx hb hKK.k hP 2 rfl k1 (by omega) (by omega) (by omega) dX11_areEqual_45 ?_
            refine lv_iload hx hb dX11_areEqual_46 (lv_at hl 0 rfl) ?_
            refine jr_iadd hx hb dX11_areEqual_48 ?_
            refine jr_iald hx hb hKK.k hP 1 rfl (b1 + i) (by omega) (by omega) (by omega) dX11_areEqual_49 ?_
            refine jr_nm (b := (x1.getD i 0)) (hr1.at (by omega)) ?_
            refine lv_aload_n hx hb dX11_areEqual_50 rfl (lv_at hl 2 rfl) ?_
            refine va_get (D := gD g) (ci := 10) (v := .ref (ad 12)) (C := RX11) (T := TX11) (N := 29) hx hb htl ck_X11 hown hKK.k hP 0 rfl rfl 16 (by decide) (htl _ wd_6_2) (fun _ h9 => h9) rfl dX11_areEqual_51 ?_
            refine lv_aload_n hx hb dX11_areEqual_54 rfl (lv_at hl 2 rfl) ?_
            refine va_get (D := gD g) (ci := 10) (v := .ref (ad 13)) (C := RX11) (T := TX11) (N := 29) hx hb htl ck_X11 hown hKK.k hP 0 rfl rfl 18 (by decide) (htl _ wd_6_3) (fun _ h9 => h9) rfl dX11_areEqual_55 ?_
            refine lv_iload_n hx hb dX11_areEqual_58 rfl (lv_at hl 4 rfl) ?_
            refine jr_iald hx hb hKK.k hP 2 rfl k2 (by omega) (by omega) (by omega) dX11_areEqual_59 ?_
            refine lv_iload hx hb dX11_areEqual_60 (lv_at hl 0 rfl) ?_
            refine jr_iadd hx hb dX11_areEqual_62 ?_
            refine jr_iald hx hb hKK.k hP 1 rfl (b2 + i) (by omega) (by omega) (by omega) dX11_areEqual_63 ?_
            refine jr_nm (b := (x2.getD i 0)) (hr2.at (by omega)) ?_
            refine jr_ne (tgt := 71) hx hb dX11_areEqual_64 (by decide) ⟨by omega, by omega⟩ ⟨by omega, by omega⟩ (fun c64 => ?_) (fun c64 => ?_)
            · refine jr_iconst hx hb dX11_areEqual_71 ?_
              refine lv_istore_n (lv' := [(3, vi 0), (4, vi (i : Int)), (0, .ref (ad 0)), (1, vi (k1 : Int)), (2, vi (k2 : Int))]) hx hb dX11_areEqual_72 rfl hl (by decide) rfl (fun ls hl => ?_)
              refine jr_iinc (lv' := [(4, vi ((i : Int) + 1)), (3, vi 0), (0, .ref (ad 0)), (1, vi (k1 : Int)), (2, vi (k2 : Int))]) hx hb dX11_areEqual_73 hl (k := 1) rfl rfl (by decide) rfl (fun ls hl => ?_)
              refine lv_goto (tgt := 22) hx hb dX11_areEqual_76 (by decide) ?_
              exact ih22 (i + 1) _ (by omega) (by omega) (i01_0 (fun q => c64 ((take_s (show i < x1.length by omega) (show i < x2.length by omega)).mp q.2).2)) (by omega) ls (lv_sub hl [0, 1, 2, 3, 4] rfl)
            · refine jr_iconst hx hb dX11_areEqual_67 ?_
              refine lv_goto (tgt := 72) hx hb dX11_areEqual_68 (by decide) ?_
              refine lv_istore_n (lv' := [(3, vi 1), (4, vi (i : Int)), (0, .ref (ad 0)), (1, vi (k1 : Int)), (2, vi (k2 : Int))]) hx hb dX11_areEqual_72 rfl hl (by decide) rfl (fun ls hl => ?_)
              refine jr_iinc (lv' := [(4, vi ((i : Int) + 1)), (3, vi 1), (0, .ref (ad 0)), (1, vi (k1 : Int)), (2, vi (k2 : Int))]) hx hb dX11_areEqual_73 hl (k := 1) rfl rfl (by decide) rfl (fun ls hl => ?_)
              refine lv_goto (tgt := 22) hx hb dX11_areEqual_76 (by decide) ?_
              exact ih22 (i + 1) _ (by omega) (by omega) (i01_1 ⟨hee.1, (take_s (show i < x1.length by omega) (show i < x2.length by omega)).mpr ⟨hee.2, c64⟩⟩) (by omega) ls (lv_sub hl [0, 1, 2, 3, 4] rfl)
    exact lp22 _ 0 _ (Nat.zero_le _) (by omega) (i01_1 ⟨by omega, by rw [List.take_zero, List.take_zero]⟩) (Nat.lt_succ_self _) ls (lv_sub hl [0, 1, 2, 3, 4] rfl)
set_option maxHeartbeats 4000000 in
set_option maxRecDepth 100000 in
theorem m_X11_repeat (l : Launch) (g : GT) (ad : Nat → Nat) (th dn nt tn nu ns tz : Int) (f14 f17 f18 : Nat → Int) (s0 k : Nat) (y : List Int) (hs0 : s0 < 60) (hk : k < 60) (hne : s0 ≠ k) (h18 : f18 k = (y.length : Int)) (hy : RWS f17 (60 * k) y) : Met l yX11_repeat (ws_ yX11_repeat cX11_repeat 4 none) (rmm 0 0 0) (jPc g [.ref (ad 0), vi (s0 : Int), vi (k : Int)] (fun H => PP g [ob (ad 0) 10 [vi th, .ref (ad 1), vi dn, .ref (ad 2), .ref (ad 3), vi nt, .ref (ad 4), .ref (ad 5), .ref (ad 6), vi tn, vi nu, .ref (ad 7), .ref (ad 8), .ref (ad 9), .ref (ad 10), .ref (ad 11), .ref (ad 12), vi ns, .ref (ad 13), .ref (ad 14), .ref (ad 15), .ref (ad 16), .ref (ad 17), .ref (ad 18), .ref (ad 19), vi tz, .ref (ad 20), .ref (ad 21), .ref (ad 22)], aC g (ad 14) 60 f14, aI g (ad 17) 3600 f17, aI g (ad 18) 60 f18] H ∧ va_D (fun q => gb g ≤ q) [ob (ad 0) 10 [vi th, .ref (ad 1), vi dn, .ref (ad 2), .ref (ad 3), vi nt, .ref (ad 4), .ref (ad 5), .ref (ad 6), vi tn, vi nu, .ref (ad 7), .ref (ad 8), .ref (ad 9), .ref (ad 10), .ref (ad 11), .ref (ad 12), vi ns, .ref (ad 13), .ref (ad 14), .ref (ad 15), .ref (ad 16), .ref (ad 17), .ref (ad 18), .ref (ad 19), vi tz, .ref (ad 20), .ref (ad 21), .ref (ad 22)], aC g (ad 14) 60 f14, aI g (ad 17) 3600 f17, aI g (ad 18) 60 f18])) (jQv (fun H1 => ∃ g17 : Nat → Int, (∀ q, q < 60 * s0 ∨ 60 * s0 + 60 ≤ q → g17 q = f17 q) ∧ RWS g17 (60 * s0) y ∧ PP g [ob (ad 0) 10 [vi th, .ref (ad 1), vi dn, .ref (ad 2), .ref (ad 3), vi nt, .ref (ad 4), .ref (ad 5), .ref (ad 6), vi tn, vi nu, .ref (ad 7), .ref (ad 8), .ref (ad 9), .ref (ad 10), .ref (ad 11), .ref (ad 12), vi ns, .ref (ad 13), .ref (ad 14), .ref (ad 15), .ref (ad 16), .ref (ad 17), .ref (ad 18), .ref (ad 19), vi tz, .ref (ad 20), .ref (ad 21), .ref (ad 22)], aC g (ad 14) 60 (ju f14 s0 114), aI g (ad 17) 3600 g17, aI g (ad 18) 60 (ju f18 s0 (f18 k))] H1) (jA [ob (ad 0) 10 [vi th, .ref (ad 1), vi dn, .ref (ad 2), .ref (ad 3), vi nt, .ref (ad 4), .ref (ad 5), .ref (ad 6), vi tn, vi nu, .ref (ad 7), .ref (ad 8), .ref (ad 9), .ref (ad 10), .ref (ad 11), .ref (ad 12), vi ns, .ref (ad 13), .ref (ad 14), .ref (ad 15), .ref (ad 16), .ref (ad 17), .ref (ad 18), .ref (ad 19), vi tz, .ref (ad 20), .ref (ad 21), .ref (ad 22)], aC g (ad 14) 60 f14, aI g (ad 17) 3600 f17, aI g (ad 18) 60 f18])) 0 0 (jA [ob (ad 0) 10 [vi th, .ref (ad 1), vi dn, .ref (ad 2), .ref (ad 3), vi nt, .ref (ad 4), .ref (ad 5), .ref (ad 6), vi tn, vi nu, .ref (ad 7), .ref (ad 8), .ref (ad 9), .ref (ad 10), .ref (ad 11), .ref (ad 12), vi ns, .ref (ad 13), .ref (ad 14), .ref (ad 15), .ref (ad 16), .ref (ad 17), .ref (ad 18), .ref (ad 19), vi tz, .ref (ad 20), .ref (ad 21), .ref (ad 22)], aC g (ad 14) 60 f14, aI g (ad 17) 3600 f17, aI g (ad 18) 60 f18]) := by
  refine jb_M (by decide) (Nat.le_of_ble_eq_true rfl) ?_
  intro p e s m below meth cq hx hb hr hml hown htl hlk hnm hKK hpre ls hl
  have hown : s.vm.findClass RX11 = some m.cls := hown
  have hl : lv_has ls 4 [(0, .ref (ad 0)), (1, vi (s0 : Int)), (2, vi (k : Int))] := hl
  obtain ⟨hP, hD0⟩ := hpre
  have hyl := hy.len
  have hD : va_D (jA [ob (ad 0) 10 [vi th, .ref (ad 1), vi dn, .ref (ad 2), .ref (ad 3), vi nt, .ref (ad 4), .ref (ad 5), .ref (ad 6), vi tn, vi nu, .ref (ad 7), .ref (ad 8), .ref (ad 9), .ref (ad 10), .ref (ad 11), .ref (ad 12), vi ns, .ref (ad 13), .ref (ad 14), .ref (ad 15), .ref (ad 16), .ref (ad 17), .ref (ad 18), .ref (ad 19), vi tz, .ref (ad 20), .ref (ad 21), .ref (ad 22)], aC g (ad 14) 60 f14, aI g (ad 17) 3600 f17, aI g (ad 18) 60 f18]) [ob (ad 0) 10 [vi th, .ref (ad 1), vi dn, .ref (ad 2), .ref (ad 3), vi nt, .ref (ad 4), .ref (ad 5), .ref (ad 6), vi tn, vi nu, .ref (ad 7), .ref (ad 8), .ref (ad 9), .ref (ad 10), .ref (ad 11), .ref (ad 12), vi ns, .ref (ad 13), .ref (ad 14), .ref (ad 15), .ref (ad 16), .ref (ad 17), .ref (ad 18), .ref (ad 19), vi tz, .ref (ad 20), .ref (ad 21), .ref (ad 22)], aC g (ad 14) 60 f14, aI g (ad 17) 3600 f17, aI g (ad 18) 60 f18] := hD0.inD
  have hAb : ∀ q, (jA [ob (ad 0) 10 [vi th, .ref (ad 1), vi dn, .ref (ad 2), .ref (ad 3), vi nt, .ref (ad 4), .ref (ad 5), .ref (ad 6), vi tn, vi nu, .ref (ad 7), .ref (ad 8), .ref (ad 9), .ref (ad 10), .ref (ad 11), .ref (ad 12), vi ns, .ref (ad 13), .ref (ad 14), .ref (ad 15), .ref (ad 16), .ref (ad 17), .ref (ad 18), .ref (ad 19), vi tz, .ref (ad 20), .ref (ad 21), .ref (ad 22)], aC g (ad 14) 60 f14, aI g (ad 17) 3600 f17, aI g (ad 18) 60 f18]) q → gb g ≤ q := fun q h => hD0.inA h
  generalize hAe : jA [ob (ad 0) 10 [vi th, .ref (ad 1), vi dn, .ref (ad 2), .ref (ad 3), vi nt, .ref (ad 4), .ref (ad 5), .ref (ad 6), vi tn, vi nu, .ref (ad 7), .ref (ad 8), .ref (ad 9), .ref (ad 10), .ref (ad 11), .ref (ad 12), vi ns, .ref (ad 13), .ref (ad 14), .ref (ad 15), .ref (ad 16), .ref (ad 17), .ref (ad 18), .ref (ad 19), vi tz, .ref (ad 20), .ref (ad 21), .ref (ad 22)], aC g (ad 14) 60 f14, aI g (ad 17) 3600 f17, aI g (ad 18) 60 f18] = A at *
  have hS : va_S A s.heap s.heap [] := va_S.rf
  suffices K : ∀ (H : Heap) (locs : List Loc), PP g [ob (ad 0) 10 [vi th, .ref (ad 1), vi dn, .ref (ad 2), .ref (ad 3), vi nt, .ref (ad 4), .ref (ad 5), .ref (ad 6), vi tn, vi nu, .ref (ad 7), .ref (ad 8), .ref (ad 9), .ref (ad 10), .ref (ad 11), .ref (ad 12), vi ns, .ref (ad 13), .ref (ad 14), .ref (ad 15), .ref (ad 16), .ref (ad 17), .ref (ad 18), .ref (ad 19), vi tz, .ref (ad 20), .ref (ad 21), .ref (ad 22)], aC g (ad 14) 60 f14, aI g (ad 17) 3600 f17, aI g (ad 18) 60 f18] H → va_D A [ob (ad 0) 10 [vi th, .ref (ad 1), vi dn, .ref (ad 2), .ref (ad 3), vi nt, .ref (ad 4), .ref (ad 5), .ref (ad 6), vi tn, vi nu, .ref (ad 7), .ref (ad 8), .ref (ad 9), .ref (ad 10), .ref (ad 11), .ref (ad 12), vi ns, .ref (ad 13), .ref (ad 14), .ref (ad 15), .ref (ad 16), .ref (ad 17), .ref (ad 18), .ref (ad 19), vi tz, .ref (ad 20), .ref (ad 21), .ref (ad 22)], aC g (ad 14) 60 f14, aI g (ad 17) 3600 f17, aI g (ad 18) 60 f18] → va_S A s.heap H locs → ∀ ls : Array Slot, lv_has ls 4 [(0, .ref (ad 0)), (1, vi (s0 : Int)), (2, vi (k : Int))] → W p l e (rmm 0 0 0) s m ([.ref (ad 0), vi (s0 : Int), vi (k : Int)] : List Value).toArray below meth cq H locs 0 0 (MQ below (jQv (fun H1 => ∃ g17 : Nat → Int, (∀ q, q < 60 * s0 ∨ 60 * s0 + 60 ≤ q → g17 q = f17 q) ∧ RWS g17 (60 * s0) y ∧ PP g [ob (ad 0) 10 [vi th, .ref (ad 1), vi dn, .ref (ad 2), .ref (ad 3), vi nt, .ref (ad 4), .ref (ad 5), .ref (ad 6), vi tn, vi nu, .ref (ad 7), .ref (ad 8), .ref (ad 9), .ref (ad 10), .ref (ad 11), .ref (ad 12), vi ns, .ref (ad 13), .ref (ad 14), .ref (ad 15), .ref (ad 16), .ref (ad 17), .ref (ad 18), .ref (ad 19), vi tz, .ref (ad 20), .ref (ad 21), .ref (ad 22)], aC g (ad 14) 60 (ju f14 s0 114), aI g (ad 17) 3600 g17, aI g (ad 18) 60 (ju f18 s0 (f18 k))] H1) A) ([.ref (ad 0), vi (s0 : Int), vi (k : Int)] : List Value).toArray s 0 0 A) (F0 m 0 ls []) from K _ _ hP hD hS _ hl
  clear hl; intro H locs hP hD hS ls hl
  refine lv_aload_n hx hb dX11_repeat_0 rfl (lv_at hl 0 rfl) ?_
  refine va_get (D := gD g) (ci := 10) (v := .ref (ad 14)) (C := RX11) (T := TX11) (N := 29) hx hb htl ck_X11 hown hKK.k hP 0 rfl rfl 19 (by decide) (htl _ wd_6_5) (fun _ h9 => h9) rfl dX11_repeat_1 ?_
  refine lv_iload_n hx hb dX11_repeat_4 rfl (lv_at hl 1 rfl) ?_
  refine jr_bipush hx hb dX11_repeat_5 (by decide) ?_
  refine jr_cast hx hb hKK.k hP hD hS 1 rfl s0 (by omega) (by omega) (by omega) (by omega) (by omega) dX11_repeat_7 (fun H locs hP hD hS => ?_)
  have hP : PP g [ob (ad 0) 10 [vi th, .ref (ad 1), vi dn, .ref (ad 2), .ref (ad 3), vi nt, .ref (ad 4), .ref (ad 5), .ref (ad 6), vi tn, vi nu, .ref (ad 7), .ref (ad 8), .ref (ad 9), .ref (ad 10), .ref (ad 11), .ref (ad 12), vi ns, .ref (ad 13), .ref (ad 14), .ref (ad 15), .ref (ad 16), .ref (ad 17), .ref (ad 18), .ref (ad 19), vi tz, .ref (ad 20), .ref (ad 21), .ref (ad 22)], aC g (ad 14) 60 (ju f14 s0 114), aI g (ad 17) 3600 f17, aI g (ad 18) 60 f18] H := hP
  have hD : va_D A [ob (ad 0) 10 [vi th, .ref (ad 1), vi dn, .ref (ad 2), .ref (ad 3), vi nt, .ref (ad 4), .ref (ad 5), .ref (ad 6), vi tn, vi nu, .ref (ad 7), .ref (ad 8), .ref (ad 9), .ref (ad 10), .ref (ad 11), .ref (ad 12), vi ns, .ref (ad 13), .ref (ad 14), .ref (ad 15), .ref (ad 16), .ref (ad 17), .ref (ad 18), .ref (ad 19), vi tz, .ref (ad 20), .ref (ad 21), .ref (ad 22)], aC g (ad 14) 60 (ju f14 s0 114), aI g (ad 17) 3600 f17, aI g (ad 18) 60 f18] := hD
  refine lv_aload_n hx hb dX11_repeat_8 rfl (lv_at hl 0 rfl) ?_
  refine va_get (D := gD g) (ci := 10) (v := .ref (ad 18)) (C := RX11) (T := TX11) (N := 29) hx hb htl ck_X11 hown hKK.k hP 0 rfl rfl 23 (by decide) (htl _ wd_6_9) (fun _ h9 => h9) rfl dX11_repeat_9 ?_
  refine lv_iload_n hx hb dX11_repeat_12 rfl (lv_at hl 1 rfl) ?_
  refine lv_aload_n hx hb dX11_repeat_13 rfl (lv_at hl 0 rfl) ?_
  refine va_get (D := gD g) (ci := 10) (v := .ref (ad 18)) (C := RX11) (T := TX11) (N := 29) hx hb htl ck_X11 hown hKK.k hP 0 rfl rfl 23 (by decide) (htl _ wd_6_9) (fun _ h9 => h9) rfl dX11_repeat_14 ?_
  refine lv_iload_n hx hb dX11_repeat_17 rfl (lv_at hl 2 rfl) ?_
  refine jr_iald hx hb hKK.k hP 3 rfl k (by omega) (by omega) (by omega) dX11_repeat_18 ?_
  refine jr_iast hx hb hKK.k hP hD hS 3 rfl s0 (by omega) (by omega) (by omega) dX11_repeat_19 (fun H locs hP hD hS => ?_)
  have hP : PP g [ob (ad 0) 10 [vi th, .ref (ad 1), vi dn, .ref (ad 2), .ref (ad 3), vi nt, .ref (ad 4), .ref (ad 5), .ref (ad 6), vi tn, vi nu, .ref (ad 7), .ref (ad 8), .ref (ad 9), .ref (ad 10), .ref (ad 11), .ref (ad 12), vi ns, .ref (ad 13), .ref (ad 14), .ref (ad 15), .ref (ad 16), .ref (ad 17), .ref (ad 18), .ref (ad 19), vi tz, .ref (ad 20), .ref (ad 21), .ref (ad 22)], aC g (ad 14) 60 (ju f14 s0 114), aI g (ad 17) 3600 f17, aI g (ad 18) 60 (ju f18 s0 (f18 k))] H := hP
  have hD : va_D A [ob (ad 0) 10 [vi th, .ref (ad 1), vi dn, .ref (ad 2), .ref (ad 3), vi nt, .ref (ad 4), .ref (ad 5), .ref (ad 6), vi tn, vi nu, .ref (ad 7), .ref (ad 8), .ref (ad 9), .ref (ad 10), .ref (ad 11), .ref (ad 12), vi ns, .ref (ad 13), .ref (ad 14), .ref (ad 15), .ref (ad 16), .ref (ad 17), .ref (ad 18), .ref (ad 19), vi tz, .ref (ad 20), .ref (ad 21), .ref (ad 22)], aC g (ad 14) 60 (ju f14 s0 114), aI g (ad 17) 3600 f17, aI g (ad 18) 60 (ju f18 s0 (f18 k))] := hD
  refine jr_iconst hx hb dX11_repeat_20 ?_
  refine lv_istore_n (lv' := [(3, vi 0), (0, .ref (ad 0)), (1, vi (s0 : Int)), (2, vi (k : Int))]) hx hb dX11_repeat_21 rfl hl (by decide) rfl (fun ls hl => ?_)
  have lp22 : ∀ (N : Nat) (i : Nat) (h : Nat → Int), (i ≤ y.length) → (∀ j, j < i → h (60 * s0 + j) = y.getD j 0) → (∀ q, q < 60 * s0 ∨ 60 * s0 + 60 ≤ q → h q = f17 q) → y.length - i < N → ∀ (H : Heap) (locs : List Loc), PP g [ob (ad 0) 10 [vi th, .ref (ad 1), vi dn, .ref (ad 2), .ref (ad 3), vi nt, .ref (ad 4), .ref (ad 5), .ref (ad 6), vi tn, vi nu, .ref (ad 7), .ref (ad 8), .ref (ad 9), .ref (ad 10), .ref (ad 11), .ref (ad 12), vi ns, .ref (ad 13), .ref (ad 14), .ref (ad 15), .ref (ad 16), .ref (ad 17), .ref (ad 18), .ref (ad 19), vi tz, .ref (ad 20), .ref (ad 21), .ref (ad 22)], aC g (ad 14) 60 (ju f14 s0 114), aI g (ad 17) 3600 h, aI g (ad 18) 60 (ju f18 s0 (f18 k))] H → va_D A [ob (ad 0) 10 [vi th, .ref (ad 1), vi dn, .ref (ad 2), .ref (ad 3), vi nt, .ref (ad 4), .ref (ad 5), .ref (ad 6), vi tn, vi nu, .ref (ad 7), .ref (ad 8), .ref (ad 9), .ref (ad 10), .ref (ad 11), .ref (ad 12), vi ns, .ref (ad 13), .ref (ad 14), .ref (ad 15), .ref (ad 16), .ref (ad 17), .ref (ad 18), .ref (ad 19), vi tz, .ref (ad 20), .ref (ad 21), .ref (ad 22)], aC g (ad 14) 60 (ju f14 s0 114), aI g (ad 17) 3600 h, aI g (ad 18) 60 (ju f18 s0 (f18 k))] → va_S A s.heap H locs → ∀ ls : Array Slot, lv_has ls 4 [(3, vi (i : Int)), (0, .ref (ad 0)), (1, vi (s0 : Int)), (2, vi (k : Int))] → W p l e (rmm 0 0 0) s m ([.ref (ad 0), vi (s0 : Int), vi (k : Int)] : List Value).toArray below meth cq H locs 0 0 (MQ below (jQv (fun H1 => ∃ g17 : Nat → Int, (∀ q, q < 60 * s0 ∨ 60 * s0 + 60 ≤ q → g17 q = f17 q) ∧ RWS g17 (60 * s0) y ∧ PP g [ob (ad 0) 10 [vi th, .ref (ad 1), vi dn, .ref (ad 2), .ref (ad 3), vi nt, .ref (ad 4), .ref (ad 5), .ref (ad 6), vi tn, vi nu, .ref (ad 7), .ref (ad 8), .ref (ad 9), .ref (ad 10), .ref (ad 11), .ref (ad 12), vi ns, .ref (ad 13), .ref (ad 14), .ref (ad 15), .ref (ad 16), .ref (ad 17), .ref (ad 18), .ref (ad 19), vi tz, .ref (ad 20), .ref (ad 21), .ref (ad 22)], aC g (ad 14) 60 (ju f14 s0 114), aI g (ad 17) 3600 g17, aI g (ad 18) 60 (ju f18 s0 (f18 k))] H1) A) ([.ref (ad 0), vi (s0 : Int), vi (k : Int)] : List Value).toArray s 0 0 A) (F0 m 22 ls []) := by
    intro N
    induction N with
    | zero => intro i h hi hF hE hM; exact absurd hM (Nat.not_lt_zero _)
    | succ N ih22 =>
      intro i h hi hF hE hM H locs hP hD hS ls hl
      refine lv_iload_n hx hb dX11_repeat_22 rfl (lv_at hl 0 rfl) ?_
      refine lv_aload_n hx hb dX11_repeat_23 rfl (lv_at hl 1 rfl) ?_
      refine va_get (D := gD g) (ci := 10) (v := .ref (ad 18)) (C := RX11) (T := TX11) (N := 29) hx hb htl ck_X11 hown hKK.k hP 0 rfl rfl 23 (by decide) (htl _ wd_6_9) (fun _ h9 => h9) rfl dX11_repeat_24 ?_
      refine lv_iload_n hx hb dX11_repeat_27 rfl (lv_at hl 3 rfl) ?_
      refine jr_iald hx hb hKK.k hP 3 rfl k (by omega) (by omega) (by omega) dX11_repeat_28 ?_
      refine jr_nm (b := (y.length : Int)) (by rw [ju_n _ _ (Ne.symm hne)]; exact h18) ?_
      refine jr_ge (tgt := 60) hx hb dX11_repeat_29 (by decide) ⟨by omega, by omega⟩ ⟨by omega, by omega⟩ (fun c29 => ?_) (fun c29 => ?_)
      · exact je_Qv hx hb hr hlk hS (⟨h, hE, ⟨hyl, fun j hj => ⟨hF j (by omega), hy.b hj⟩⟩, hP⟩) dX11_repeat_60
      · refine lv_aload_n hx hb dX11_repeat_32 rfl (lv_at hl 1 rfl) ?_
        refine va_get (D := gD g) (ci := 10) (v := .ref (ad 17)) (C := RX11) (T := TX11) (N := 29) hx hb htl ck_X11 hown hKK.k hP 0 rfl rfl 22 (by decide) (htl _ wd_6_8) (fun _ h9 => h9) rfl dX11_repeat_33 ?_
        refine jr_bipush hx hb dX11_repeat_36 (by decide) ?_
        refine lv_iload_n hx hb dX11_repeat_38 rfl (lv_at hl 2 rfl) ?_
        refine jr_imul hx hb dX11_repeat_39 ?_
        refine lv_iload_n hx hb dX11_repeat_40 rfl (lv_at hl 0 rfl) ?_
        refine jr_iadd hx hb dX11_repeat_41 ?_
        refine lv_aload_n hx hb dX11_repeat_42 rfl (lv_at hl 1 rfl) ?_
        refine va_get (D := gD g) (ci := 10) (v := .ref (ad 17)) (C := RX11) (T := TX11) (N := 29) hx hb htl ck_X11 hown hKK.k hP 0 rfl rfl 22 (by decide) (htl _ wd_6_8) (fun _ h9 => h9) rfl dX11_repeat_43 ?_
        refine jr_bipush hx hb dX11_repeat_46 (by decide) ?_
        refine lv_iload_n hx hb dX11_repeat_48 rfl (lv_at hl 3 rfl) ?_
        refine jr_imul hx hb dX11_repeat_49 ?_
        refine lv_iload_n hx hb dX11_repeat_50 rfl (lv_at hl 0 rfl) ?_
        refine jr_iadd hx hb dX11_repeat_51 ?_
        refine jr_iald hx hb hKK.k hP 2 rfl (60 * k + i) (by omega) (by omega) (by omega) dX11_repeat_52 ?_
        refine jr_iast hx hb hKK.k hP hD hS 2 rfl (60 * s0 + i) (by omega) (by omega) (by omega) dX11_repeat_53 (fun H locs hP hD hS => ?_)
        have hP : PP g [ob (ad 0) 10 [vi th, .ref (ad 1), vi dn, .ref (ad 2), .ref (ad 3), vi nt, .ref (ad 4), .ref (ad 5), .ref (ad 6), vi tn, vi nu, .ref (ad 7), .ref (ad 8), .ref (ad 9), .ref (ad 10), .ref (ad 11), .ref (ad 12), vi ns, .ref (ad 13), .ref (ad 14), .ref (ad 15), .ref (ad 16), .ref (ad 17), .ref (ad 18), .ref (ad 19), vi tz, .ref (ad 20), .ref (ad 21), .ref (ad 22)], aC g (ad 14) 60 (ju f14 s0 114), aI g (ad 17) 3600 (ju h (60 * s0 + i) (h (60 * k + i))), aI g (ad 18) 60 (ju f18 s0 (f18 k))] H := hP
        have hD : va_D A [ob (ad 0) 10 [vi th, .ref (ad 1), vi dn, .ref (ad 2), .ref (ad 3), vi nt, .ref (ad 4), .ref (ad 5), .ref (ad 6), vi tn, vi nu, .ref (ad 7), .ref (ad 8), .ref (ad 9), .ref (ad 10), .ref (ad 11), .ref (ad 12), vi ns, .ref (ad 13), .ref (ad 14), .ref (ad 15), .ref (ad 16), .ref (ad 17), .ref (ad 18), .ref (ad 19), vi tz, .ref (ad 20), .ref (ad 21), .ref (ad 22)], aC g (ad 14) 60 (ju f14 s0 114), aI g (ad 17) 3600 (ju h (60 * s0 + i) (h (60 * k + i))), aI g (ad 18) 60 (ju f18 s0 (f18 k))] := hD
        refine jr_iinc (lv' := [(3, vi ((i : Int) + 1)), (0, .ref (ad 0)), (1, vi (s0 : Int)), (2, vi (k : Int))]) hx hb dX11_repeat_54 hl (k := 0) rfl rfl (by decide) rfl (fun ls hl => ?_)
        refine lv_goto (tgt := 22) hx hb dX11_repeat_57 (by decide) ?_
        obtain ⟨hF9, hE9⟩ := row_s (v := h (60 * k + i)) hF hE (by omega) (by rw [hE _ (by omega)]; exact hy.at (by omega))
        exact ih22 (i + 1) _ (by omega) (hF9) (hE9) (by omega) _ _ hP hD hS ls (lv_sub hl [0, 1, 2, 3] rfl)
  exact lp22 _ 0 f17 (Nat.zero_le _) (fun j hj => absurd hj (Nat.not_lt_zero _)) (fun _ _ => rfl) (Nat.lt_succ_self _) _ _ hP hD hS ls (lv_sub hl [0, 1, 2, 3] rfl)
set_option maxHeartbeats 4000000 in
set_option maxRecDepth 100000 in
theorem m_X11_numbers (l : Launch) (g : GT) (a n : Nat) (f : Nat → Int) (k : Nat) (y : List Int) (hy : RWS f k y) (hn : k + y.length ≤ n) (hn9 : n ≤ 5000) : Met l yX11_numbers (ws_ yX11_numbers cX11_numbers 5 (some .int)) (rmm 0 0 0) (jPc g [.ref a, vi (k : Int), vi (y.length : Int)] (fun H => PP g [aI g a n f] H)) (jSi (fun z => z = cntA y 1 0)) 0 0 jN := by
  refine jb_M (by decide) (Nat.le_of_ble_eq_true rfl) ?_
  intro p e s m below meth cq hx hb hr hml hown htl hlk hnm hKK hpre ls hl
  have hown : s.vm.findClass RX11 = some m.cls := hown
  have hl : lv_has ls 5 [(0, .ref a), (1, vi (k : Int)), (2, vi (y.length : Int))] := hl
  have hP : PP g [aI g a n f] s.heap := hpre
  have hyl := hy.len
  refine jr_iconst hx hb dX11_numbers_0 ?_
  refine lv_istore_n (lv' := [(3, vi 0), (0, .ref a), (1, vi (k : Int)), (2, vi (y.length : Int))]) hx hb dX11_numbers_1 rfl hl (by decide) rfl (fun ls hl => ?_)
  refine jr_iconst hx hb dX11_numbers_2 ?_
  refine lv_istore (lv' := [(4, vi 0), (3, vi 0), (0, .ref a), (1, vi (k : Int)), (2, vi (y.length : Int))]) hx hb dX11_numbers_3 hl (by decide) rfl (fun ls hl => ?_)
  have lp5 : ∀ (N : Nat) (i : Nat) (c : Int), (i ≤ y.length) → (0 ≤ c ∧ c ≤ i) → (cntA (y.drop i) 1 c = cntA y 1 0) → y.length - i < N → ∀ ls : Array Slot, lv_has ls 5 [(4, vi (i : Int)), (3, vi c), (0, .ref a), (1, vi (k : Int)), (2, vi (y.length : Int))] → W p l e (rmm 0 0 0) s m ([.ref a, vi (k : Int), vi (y.length : Int)] : List Value).toArray below meth cq s.heap [] 0 0 (MQ below (jSi (fun z => z = cntA y 1 0)) ([.ref a, vi (k : Int), vi (y.length : Int)] : List Value).toArray s 0 0 jN) (F0 m 5 ls []) := by
    intro N
    induction N with
    | zero => intro i c hi hcb hF hM; exact absurd hM (Nat.not_lt_zero _)
    | succ N ih5 =>
      intro i c hi hcb hF hM ls hl
      refine lv_iload hx hb dX11_numbers_5 (lv_at hl 0 rfl) ?_
      refine lv_iload_n hx hb dX11_numbers_7 rfl (lv_at hl 4 rfl) ?_
      refine jr_ge (tgt := 39) hx hb dX11_numbers_8 (by decide) ⟨by omega, by omega⟩ ⟨by omega, by omega⟩ (fun c8 => ?_) (fun c8 => ?_)
      · refine lv_iload_n hx hb dX11_numbers_39 rfl (lv_at hl 1 rfl) ?_
        exact je_Si hx hb hr hlk rfl (by rw [← hF, dr_e (by omega)]; rfl) dX11_numbers_40
      · refine lv_iload_n hx hb dX11_numbers_11 rfl (lv_at hl 1 rfl) ?_
        refine lv_aload_n hx hb dX11_numbers_12 rfl (lv_at hl 2 rfl) ?_
        refine lv_iload_n hx hb dX11_numbers_13 rfl (lv_at hl 3 rfl) ?_
        refine lv_iload hx hb dX11_numbers_14 (lv_at hl 0 rfl) ?_
        refine jr_iadd hx hb dX11_numbers_16 ?_
        refine jr_iald hx hb hKK.k hP 0 rfl (k + i) (by omega) (by omega) (by omega) dX11_numbers_17 ?_
        have tby := hy.b (j := i) (by omega)
        have hky := kd_n tby.1
        have hcs := cnt_s hF (show i < y.length by omega)
        refine jr_nm (b := (y.getD i 0)) (hy.at (by omega)) ?_
        refine jr_sipush hx hb dX11_numbers_18 (by decide) ?_
        refine jr_idiv hx hb (by omega) (by omega) (by omega) (by omega) dX11_numbers_21 ?_
        refine jr_iconst hx hb dX11_numbers_22 ?_
        refine jr_ne (tgt := 30) hx hb dX11_numbers_23 (by decide) ⟨by omega, by omega⟩ ⟨by omega, by omega⟩ (fun c23 => ?_) (fun c23 => ?_)
        · refine jr_iconst hx hb dX11_numbers_30 ?_
          refine jr_iadd hx hb dX11_numbers_31 ?_
          refine lv_istore_n (lv' := [(3, vi (c + 0)), (4, vi (i : Int)), (0, .ref a), (1, vi (k : Int)), (2, vi (y.length : Int))]) hx hb dX11_numbers_32 rfl hl (by decide) rfl (fun ls hl => ?_)
          refine jr_iinc (lv' := [(4, vi ((i : Int) + 1)), (3, vi (c + 0)), (0, .ref a), (1, vi (k : Int)), (2, vi (y.length : Int))]) hx hb dX11_numbers_33 hl (k := 1) rfl rfl (by decide) rfl (fun ls hl => ?_)
          refine lv_goto (tgt := 5) hx hb dX11_numbers_36 (by decide) ?_
          exact ih5 (i + 1) _ (by omega) (by omega) (by rw [if_neg (by omega)] at hcs; rw [Int.add_zero]; exact hcs) (by omega) ls (lv_sub hl [0, 1, 2, 3, 4] rfl)
        · refine jr_iconst hx hb dX11_numbers_26 ?_
          refine lv_goto (tgt := 31) hx hb dX11_numbers_27 (by decide) ?_
          refine jr_iadd hx hb dX11_numbers_31 ?_
          refine lv_istore_n (lv' := [(3, vi (c + 1)), (4, vi (i : Int)), (0, .ref a), (1, vi (k : Int)), (2, vi (y.length : Int))]) hx hb dX11_numbers_32 rfl hl (by decide) rfl (fun ls hl => ?_)
          refine jr_iinc (lv' := [(4, vi ((i : Int) + 1)), (3, vi (c + 1)), (0, .ref a), (1, vi (k : Int)), (2, vi (y.length : Int))]) hx hb dX11_numbers_33 hl (k := 1) rfl rfl (by decide) rfl (fun ls hl => ?_)
          refine lv_goto (tgt := 5) hx hb dX11_numbers_36 (by decide) ?_
          exact ih5 (i + 1) _ (by omega) (by omega) (by rw [if_pos (by omega)] at hcs; exact hcs) (by omega) ls (lv_sub hl [0, 1, 2, 3, 4] rfl)
  exact lp5 _ 0 0 (Nat.zero_le _) (⟨by omega, by omega⟩) (rfl) (Nat.lt_succ_self _) ls (lv_sub hl [0, 1, 2, 3, 4] rfl)
set_option maxHeartbeats 4000000 in
set_option maxRecDepth 100000 in
theorem m_X11_placeOf (l : Launch) (g : GT) (ad : Nat → Nat) (th dn nt tn nu ns tz : Int) (f7 f8 : Nat → Int) (u : Nat) (x : List Int) (c : Int) (hu : u < 40) (hc : jR c) (h8 : f8 u = (x.length : Int)) (hx9 : RWS f7 (60 * u) x) : Met l yX11_placeOf (ws_ yX11_placeOf cX11_placeOf 6 (some .int)) (rmm 0 0 0) (jPc g [.ref (ad 0), vi (u : Int), vi c] (fun H => PP g [ob (ad 0) 10 [vi th, .ref (ad 1), vi dn, .ref (ad 2), .ref (ad 3), vi nt, .ref (ad 4), .ref (ad 5), .ref (ad 6), vi tn, vi nu, .ref (ad 7), .ref (ad 8), .ref (ad 9), .ref (ad 10), .ref (ad 11), .ref (ad 12), vi ns, .ref (ad 13), .ref (ad 14), .ref (ad 15), .ref (ad 16), .ref (ad 17), .ref (ad 18), .ref (ad 19), vi tz, .ref (ad 20), .ref (ad 21), .ref (ad 22)], aI g (ad 7) 2400 f7, aI g (ad 8) 40 f8] H)) (jSi (fun z => z = ponA x c 0)) 0 0 jN := by
  refine jb_M (by decide) (Nat.le_of_ble_eq_true rfl) ?_
  intro p e s m below meth cq hx hb hr hml hown htl hlk hnm hKK hpre ls hl
  have hown : s.vm.findClass RX11 = some m.cls := hown
  have hl : lv_has ls 6 [(0, .ref (ad 0)), (1, vi (u : Int)), (2, vi c)] := hl
  have hP : PP g [ob (ad 0) 10 [vi th, .ref (ad 1), vi dn, .ref (ad 2), .ref (ad 3), vi nt, .ref (ad 4), .ref (ad 5), .ref (ad 6), vi tn, vi nu, .ref (ad 7), .ref (ad 8), .ref (ad 9), .ref (ad 10), .ref (ad 11), .ref (ad 12), vi ns, .ref (ad 13), .ref (ad 14), .ref (ad 15), .ref (ad 16), .ref (ad 17), .ref (ad 18), .ref (ad 19), vi tz, .ref (ad 20), .ref (ad 21), .ref (ad 22)], aI g (ad 7) 2400 f7, aI g (ad 8) 40 f8] s.heap := hpre
  have hxl := hx9.len
  refine jr_iconst hx hb dX11_placeOf_0 ?_
  refine lv_istore_n (lv' := [(3, vi 0), (0, .ref (ad 0)), (1, vi (u : Int)), (2, vi c)]) hx hb dX11_placeOf_1 rfl hl (by decide) rfl (fun ls hl => ?_)
  refine jr_iconst hx hb dX11_placeOf_2 ?_
  refine lv_istore (lv' := [(4, vi 0), (3, vi 0), (0, .ref (ad 0)), (1, vi (u : Int)), (2, vi c)]) hx hb dX11_placeOf_3 hl (by decide) rfl (fun ls hl => ?_)
  have lp5 : ∀ (N : Nat) (i : Nat) (k : Int), (i ≤ x.length) → (0 ≤ k ∧ k ≤ i) → (ponA (x.drop i) c k = ponA x c 0) → x.length - i < N → ∀ ls : Array Slot, lv_has ls 6 [(4, vi (i : Int)), (3, vi k), (0, .ref (ad 0)), (1, vi (u : Int)), (2, vi c)] → W p l e (rmm 0 0 0) s m ([.ref (ad 0), vi (u : Int), vi c] : List Value).toArray below meth cq s.heap [] 0 0 (MQ below (jSi (fun z => z = ponA x c 0)) ([.ref (ad 0), vi (u : Int), vi c] : List Value).toArray s 0 0 jN) (F0 m 5 ls []) := by
    intro N
    induction N with
    | zero => intro i k hi hcb hF hM; exact absurd hM (Nat.not_lt_zero _)
    | succ N ih5 =>
      intro i k hi hcb hF hM ls hl
      refine lv_iload hx hb dX11_placeOf_5 (lv_at hl 0 rfl) ?_
      refine lv_aload_n hx hb dX11_placeOf_7 rfl (lv_at hl 2 rfl) ?_
      refine va_get (D := gD g) (ci := 10) (v := .ref (ad 8)) (C := RX11) (T := TX11) (N := 29) hx hb htl ck_X11 hown hKK.k hP 0 rfl rfl 12 (by decide) (htl _ wd_5_22) (fun _ h9 => h9) rfl dX11_placeOf_8 ?_
      refine lv_iload_n hx hb dX11_placeOf_11 rfl (lv_at hl 3 rfl) ?_
      refine jr_iald hx hb hKK.k hP 2 rfl u (by omega) (by omega) (by omega) dX11_placeOf_12 ?_
      refine jr_ge (tgt := 62) hx hb dX11_placeOf_13 (by decide) ⟨by omega, by omega⟩ ⟨by omega, by omega⟩ (fun c13 => ?_) (fun c13 => ?_)
      · refine jr_iconst hx hb dX11_placeOf_62 ?_
        exact je_Si hx hb hr hlk rfl (by rw [← hF, dr_e (by omega)]; rfl) dX11_placeOf_63
      · refine lv_aload_n hx hb dX11_placeOf_16 rfl (lv_at hl 2 rfl) ?_
        refine va_get (D := gD g) (ci := 10) (v := .ref (ad 7)) (C := RX11) (T := TX11) (N := 29) hx hb htl ck_X11 hown hKK.k hP 0 rfl rfl 11 (by decide) (htl _ wd_5_21) (fun _ h9 => h9) rfl dX11_placeOf_17 ?_
        refine jr_bipush hx hb dX11_placeOf_20 (by decide) ?_
        refine lv_iload_n hx hb dX11_placeOf_22 rfl (lv_at hl 3 rfl) ?_
        refine jr_imul hx hb dX11_placeOf_23 ?_
        refine lv_iload hx hb dX11_placeOf_24 (lv_at hl 0 rfl) ?_
        refine jr_iadd hx hb dX11_placeOf_26 ?_
        refine jr_iald hx hb hKK.k hP 1 rfl (60 * u + i) (by omega) (by omega) (by omega) dX11_placeOf_27 ?_
        have tbx := hx9.b (j := i) (by omega)
        have hky := kd_n tbx.1
        refine jr_nm (b := (x.getD i 0)) (hx9.at (by omega)) ?_
        refine lv_istore (lv' := [(5, vi (x.getD i 0)), (4, vi (i : Int)), (3, vi k), (0, .ref (ad 0)), (1, vi (u : Int)), (2, vi c)]) hx hb dX11_placeOf_28 hl (by decide) rfl (fun ls hl => ?_)
        refine lv_iload hx hb dX11_placeOf_30 (lv_at hl 0 rfl) ?_
        refine lv_iload_n hx hb dX11_placeOf_32 rfl (lv_at hl 5 rfl) ?_
        refine jr_ne (tgt := 38) hx hb dX11_placeOf_33 (by decide) ⟨by omega, by omega⟩ ⟨by omega, by omega⟩ (fun c33 => ?_) (fun c33 => ?_)
        · have hcs := pon_s hF (show i < x.length by omega) c33
          refine lv_iload_n hx hb dX11_placeOf_38 rfl (lv_at hl 2 rfl) ?_
          refine lv_iload hx hb dX11_placeOf_39 (lv_at hl 0 rfl) ?_
          refine jr_sipush hx hb dX11_placeOf_41 (by decide) ?_
          refine jr_idiv hx hb (by omega) (by omega) (by omega) (by omega) dX11_placeOf_44 ?_
          refine jr_iconst hx hb dX11_placeOf_45 ?_
          refine jr_ne (tgt := 53) hx hb dX11_placeOf_46 (by decide) ⟨by omega, by omega⟩ ⟨by omega, by omega⟩ (fun c46 => ?_) (fun c46 => ?_)
          · refine jr_iconst hx hb dX11_placeOf_53 ?_
            refine jr_iadd hx hb dX11_placeOf_54 ?_
            refine lv_istore_n (lv' := [(3, vi (k + 0)), (5, vi (x.getD i 0)), (4, vi (i : Int)), (0, .ref (ad 0)), (1, vi (u : Int)), (2, vi c)]) hx hb dX11_placeOf_55 rfl hl (by decide) rfl (fun ls hl => ?_)
            refine jr_iinc (lv' := [(4, vi ((i : Int) + 1)), (3, vi (k + 0)), (5, vi (x.getD i 0)), (0, .ref (ad 0)), (1, vi (u : Int)), (2, vi c)]) hx hb dX11_placeOf_56 hl (k := 2) rfl rfl (by decide) rfl (fun ls hl => ?_)
            refine lv_goto (tgt := 5) hx hb dX11_placeOf_59 (by decide) ?_
            exact ih5 (i + 1) _ (by omega) (by omega) (by rw [if_neg (by omega)] at hcs; rw [Int.add_zero]; exact hcs) (by omega) ls (lv_sub hl [0, 1, 3, 4, 5] rfl)
          · refine jr_iconst hx hb dX11_placeOf_49 ?_
            refine lv_goto (tgt := 54) hx hb dX11_placeOf_50 (by decide) ?_
            refine jr_iadd hx hb dX11_placeOf_54 ?_
            refine lv_istore_n (lv' := [(3, vi (k + 1)), (5, vi (x.getD i 0)), (4, vi (i : Int)), (0, .ref (ad 0)), (1, vi (u : Int)), (2, vi c)]) hx hb dX11_placeOf_55 rfl hl (by decide) rfl (fun ls hl => ?_)
            refine jr_iinc (lv' := [(4, vi ((i : Int) + 1)), (3, vi (k + 1)), (5, vi (x.getD i 0)), (0, .ref (ad 0)), (1, vi (u : Int)), (2, vi c)]) hx hb dX11_placeOf_56 hl (k := 2) rfl rfl (by decide) rfl (fun ls hl => ?_)
            refine lv_goto (tgt := 5) hx hb dX11_placeOf_59 (by decide) ?_
            exact ih5 (i + 1) _ (by omega) (by omega) (by rw [if_pos (by omega)] at hcs; exact hcs) (by omega) ls (lv_sub hl [0, 1, 3, 4, 5] rfl)
        · refine lv_iload_n hx hb dX11_placeOf_36 rfl (lv_at hl 2 rfl) ?_
          exact je_Si hx hb hr hlk rfl (pon_h hF (show i < x.length by omega) c33) dX11_placeOf_37
  exact lp5 _ 0 0 (Nat.zero_le _) (⟨by omega, by omega⟩) (rfl) (Nat.lt_succ_self _) ls (lv_sub hl [0, 1, 2, 3, 4] rfl)
set_option maxHeartbeats 4000000 in
set_option maxRecDepth 100000 in
theorem m_X11_numberAt (l : Launch) (g : GT) (a n : Nat) (f : Nat → Int) (k : Nat) (t : List Int) (n0 : Int) (ht : RWS f k t) (hn : k + t.length ≤ n) (hn9 : n ≤ 5000) (h0 : 0 ≤ n0 ∧ n0 ≤ 100) (hok : ¬ napA t n0 = -1) : Met l yX11_numberAt (ws_ yX11_numberAt cX11_numberAt 5 (some .int)) (rmm 0 0 0) (jPc g [.ref a, vi (k : Int), vi n0] (fun H => PP g [aI g a n f] H)) (jSi (fun z => z = napA t n0)) 0 0 jN := by
  refine jb_M (by decide) (Nat.le_of_ble_eq_true rfl) ?_
  intro p e s m below meth cq hx hb hr hml hown htl hlk hnm hKK hpre ls hl
  have hown : s.vm.findClass RX11 = some m.cls := hown
  have hl : lv_has ls 5 [(0, .ref a), (1, vi (k : Int)), (2, vi n0)] := hl
  have hP : PP g [aI g a n f] s.heap := hpre
  have htl0 := ht.len
  refine lv_iload_n hx hb dX11_numberAt_0 rfl (lv_at hl 2 rfl) ?_
  refine lv_istore_n (lv' := [(3, vi n0), (0, .ref a), (1, vi (k : Int)), (2, vi n0)]) hx hb dX11_numberAt_1 rfl hl (by decide) rfl (fun ls hl => ?_)
  refine lv_iload_n hx hb dX11_numberAt_2 rfl (lv_at hl 2 rfl) ?_
  refine lv_istore (lv' := [(4, vi (k : Int)), (3, vi n0), (0, .ref a), (1, vi (k : Int)), (2, vi n0)]) hx hb dX11_numberAt_3 hl (by decide) rfl (fun ls hl => ?_)
  have lp5 : ∀ (N : Nat) (i : Nat) (c : Int), (i ≤ t.length) → (0 ≤ c ∧ c ≤ 100) → (napA (t.drop i) c = napA t n0) → t.length - i < N → ∀ ls : Array Slot, lv_has ls 5 [(4, vi ((k + i : Nat) : Int)), (3, vi c), (0, .ref a), (1, vi (k : Int)), (2, vi n0)] → W p l e (rmm 0 0 0) s m ([.ref a, vi (k : Int), vi n0] : List Value).toArray below meth cq s.heap [] 0 0 (MQ below (jSi (fun z => z = napA t n0)) ([.ref a, vi (k : Int), vi n0] : List Value).toArray s 0 0 jN) (F0 m 5 ls []) := by
    intro N
    induction N with
    | zero => intro i c hi hcb hF hM; exact absurd hM (Nat.not_lt_zero _)
    | succ N ih5 =>
      intro i c hi hcb hF hM ls hl
      have hil := nap_e hF hok
      have tby := ht.b (j := i) (by omega)
      have hky := kd_n tby.1
      refine lv_aload_n hx hb dX11_numberAt_5 rfl (lv_at hl 2 rfl) ?_
      refine lv_iload hx hb dX11_numberAt_6 (lv_at hl 0 rfl) ?_
      refine jr_iald hx hb hKK.k hP 0 rfl (k + i) (by omega) (by omega) (by omega) dX11_numberAt_8 ?_
      refine jr_nm (b := (t.getD i 0)) (ht.at (by omega)) ?_
      refine jr_sipush hx hb dX11_numberAt_9 (by decide) ?_
      refine jr_idiv hx hb (by omega) (by omega) (by omega) (by omega) dX11_numberAt_12 ?_
      refine jr_iconst hx hb dX11_numberAt_13 ?_
      refine jr_ne (tgt := 21) hx hb dX11_numberAt_14 (by decide) ⟨by omega, by omega⟩ ⟨by omega, by omega⟩ (fun c14 => ?_) (fun c14 => ?_)
      · refine lv_iload_n hx hb dX11_numberAt_21 rfl (lv_at hl 1 rfl) ?_
        refine lv_aload_n hx hb dX11_numberAt_22 rfl (lv_at hl 2 rfl) ?_
        refine lv_iload hx hb dX11_numberAt_23 (lv_at hl 0 rfl) ?_
        refine jr_iald hx hb hKK.k hP 0 rfl (k + i) (by omega) (by omega) (by omega) dX11_numberAt_25 ?_
        refine jr_nm (b := (t.getD i 0)) (ht.at (by omega)) ?_
        refine jr_sipush hx hb dX11_numberAt_26 (by decide) ?_
        refine jr_idiv hx hb (by omega) (by omega) (by omega) (by omega) dX11_numberAt_29 ?_
        refine jr_iconst hx hb dX11_numberAt_30 ?_
        refine jr_ne (tgt := 38) hx hb dX11_numberAt_31 (by decide) ⟨by omega, by omega⟩ ⟨by omega, by omega⟩ (fun c31 => ?_) (fun c31 => absurd c31 (by omega))
        refine jr_iconst hx hb dX11_numberAt_38 ?_
        refine jr_isub hx hb dX11_numberAt_39 ?_
        refine lv_istore_n (lv' := [(3, vi (c - 0)), (4, vi ((k + i : Nat) : Int)), (0, .ref a), (1, vi (k : Int)), (2, vi n0)]) hx hb dX11_numberAt_40 rfl hl (by decide) rfl (fun ls hl => ?_)
        refine jr_iinc (lv' := [(4, vi (((k + i : Nat) : Int) + 1)), (3, vi (c - 0)), (0, .ref a), (1, vi (k : Int)), (2, vi n0)]) hx hb dX11_numberAt_41 hl (k := 1) rfl rfl (by decide) rfl (fun ls hl => ?_)
        have hl : lv_has ls 5 [(4, vi ((k + (i + 1) : Nat) : Int)), (3, vi (c - 0)), (0, .ref a), (1, vi (k : Int)), (2, vi n0)] := (show ((((k + i : Nat) : Int) + 1) : Int) = ((k + (i + 1) : Nat) : Int) from by omega) ▸ hl
        refine lv_goto (tgt := 5) hx hb dX11_numberAt_44 (by decide) ?_
        exact ih5 (i + 1) _ (by omega) (by omega) (by rw [Int.sub_zero]; exact nap_s0 hF (by omega) (by omega)) (by omega) ls (lv_sub hl [0, 1, 2, 3, 4] rfl)
      · refine lv_iload_n hx hb dX11_numberAt_17 rfl (lv_at hl 1 rfl) ?_
        refine jr_ifle (tgt := 47) hx hb dX11_numberAt_18 (by decide) ⟨by omega, by omega⟩ (fun c18 => ?_) (fun c18 => ?_)
        · refine lv_aload_n hx hb dX11_numberAt_47 rfl (lv_at hl 2 rfl) ?_
          refine lv_iload hx hb dX11_numberAt_48 (lv_at hl 0 rfl) ?_
          refine jr_iald hx hb hKK.k hP 0 rfl (k + i) (by omega) (by omega) (by omega) dX11_numberAt_50 ?_
          refine jr_nm (b := (t.getD i 0)) (ht.at (by omega)) ?_
          exact je_Si hx hb hr hlk rfl (nap_h hF (by omega) (by omega) (by omega)) dX11_numberAt_51
        · refine lv_iload_n hx hb dX11_numberAt_21 rfl (lv_at hl 1 rfl) ?_
          refine lv_aload_n hx hb dX11_numberAt_22 rfl (lv_at hl 2 rfl) ?_
          refine lv_iload hx hb dX11_numberAt_23 (lv_at hl 0 rfl) ?_
          refine jr_iald hx hb hKK.k hP 0 rfl (k + i) (by omega) (by omega) (by omega) dX11_numberAt_25 ?_
          refine jr_nm (b := (t.getD i 0)) (ht.at (by omega)) ?_
          refine jr_sipush hx hb dX11_numberAt_26 (by decide) ?_
          refine jr_idiv hx hb (by omega) (by omega) (by omega) (by omega) dX11_numberAt_29 ?_
          refine jr_iconst hx hb dX11_numberAt_30 ?_
          refine jr_ne (tgt := 38) hx hb dX11_numberAt_31 (by decide) ⟨by omega, by omega⟩ ⟨by omega, by omega⟩ (fun c31 => absurd c31 (by omega)) (fun c31 => ?_)
          refine jr_iconst hx hb dX11_numberAt_34 ?_
          refine lv_goto (tgt := 39) hx hb dX11_numberAt_35 (by decide) ?_
          refine jr_isub hx hb dX11_numberAt_39 ?_
          refine lv_istore_n (lv' := [(3, vi (c - 1)), (4, vi ((k + i : Nat) : Int)), (0, .ref a), (1, vi (k : Int)), (2, vi n0)]) hx hb dX11_numberAt_40 rfl hl (by decide) rfl (fun ls hl => ?_)
          refine jr_iinc (lv' := [(4, vi (((k + i : Nat) : Int) + 1)), (3, vi (c - 1)), (0, .ref a), (1, vi (k : Int)), (2, vi n0)]) hx hb dX11_numberAt_41 hl (k := 1) rfl rfl (by decide) rfl (fun ls hl => ?_)
          have hl : lv_has ls 5 [(4, vi ((k + (i + 1) : Nat) : Int)), (3, vi (c - 1)), (0, .ref a), (1, vi (k : Int)), (2, vi n0)] := (show ((((k + i : Nat) : Int) + 1) : Int) = ((k + (i + 1) : Nat) : Int) from by omega) ▸ hl
          refine lv_goto (tgt := 5) hx hb dX11_numberAt_44 (by decide) ?_
          exact ih5 (i + 1) _ (by omega) (by omega) (nap_s1 hF (by omega) (by omega) (by omega)) (by omega) ls (lv_sub hl [0, 1, 2, 3, 4] rfl)
  exact lp5 _ 0 n0 (Nat.zero_le _) (by omega) (rfl) (Nat.lt_succ_self _) ls (lv_sub hl [0, 1, 2, 3, 4] rfl)
