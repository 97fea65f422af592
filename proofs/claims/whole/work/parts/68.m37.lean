

set_option maxHeartbeats 4000000 in
set_option maxRecDepth 100000 in
theorem m_X11_bares (l : Launch) (g : GT) (a n : Nat) (f : Nat → Int) (b : Nat) (f2 : Nat → Int) (k : Nat) (y : List Int) (hy : RWS f k y) (hn : k + y.length ≤ n) (hn9 : n ≤ 5000) (hne : ∀ x ∈ ([a] : List Nat), x ∉ ([b] : List Nat)) : Met l yX11_bares (ws_ yX11_bares cX11_bares 7 (some .int)) (rmm 0 0 0) (jPc g [.ref a, vi (k : Int), vi (y.length : Int), .ref b] (fun H => PP g [aI g a n f] H ∧ PP g [aI g b 60 f2] H ∧ va_D (fun q => gb g ≤ q) [aI g b 60 f2])) (jQi (fun z H1 => z = ((pl y).length : Int) ∧ ∃ g2 : Nat → Int, TT (pl y) g2 ∧ PP g [aI g b 60 g2] H1) (jA [aI g b 60 f2])) 0 0 (jA [aI g b 60 f2]) := by
  refine jb_M (by decide) (Nat.le_of_ble_eq_true rfl) ?_
  intro p e s m below meth cq hx hb hr hml hown htl hlk hnm hKK hpre ls hl
  have hown : s.vm.findClass RX11 = some m.cls := hown
  have hl : lv_has ls 7 [(0, .ref a), (1, vi (k : Int)), (2, vi (y.length : Int)), (3, .ref b)] := hl
  obtain ⟨hPa, hP, hD0⟩ := hpre
  have hyl := hy.len
  have ap_hPa : ∀ (k : Nat) (q : Nat × va_E), ([aI g a n f] : va_W)[k]? = some q → ¬ (jA [aI g b 60 f2]) q.1 := jap (hne)
  have hD : va_D (jA [aI g b 60 f2]) [aI g b 60 f2] := hD0.inD
  have hAb : ∀ q, (jA [aI g b 60 f2]) q → gb g ≤ q := fun q h => hD0.inA h
  generalize hAe : jA [aI g b 60 f2] = A at *
  have hS : va_S A s.heap s.heap [] := va_S.rf
  suffices K : ∀ (H : Heap) (locs : List Loc), PP g [aI g b 60 f2] H → va_D A [aI g b 60 f2] → va_S A s.heap H locs → ∀ ls : Array Slot, lv_has ls 7 [(0, .ref a), (1, vi (k : Int)), (2, vi (y.length : Int)), (3, .ref b)] → W p l e (rmm 0 0 0) s m ([.ref a, vi (k : Int), vi (y.length : Int), .ref b] : List Value).toArray below meth cq H locs 0 0 (MQ below (jQi (fun z H1 => z = ((pl y).length : Int) ∧ ∃ g2 : Nat → Int, TT (pl y) g2 ∧ PP g [aI g b 60 g2] H1) A) ([.ref a, vi (k : Int), vi (y.length : Int), .ref b] : List Value).toArray s 0 0 A) (F0 m 0 ls []) from K _ _ hP hD hS _ hl
  clear hl; intro H locs hP hD hS ls hl
  refine jr_iconst hx hb dX11_bares_0 ?_
  refine lv_istore (lv' := [(4, vi 0), (0, .ref a), (1, vi (k : Int)), (2, vi (y.length : Int)), (3, .ref b)]) hx hb dX11_bares_1 hl (by decide) rfl (fun ls hl => ?_)
  refine jr_iconst hx hb dX11_bares_3 ?_
  refine lv_istore (lv' := [(5, vi 0), (4, vi 0), (0, .ref a), (1, vi (k : Int)), (2, vi (y.length : Int)), (3, .ref b)]) hx hb dX11_bares_4 hl (by decide) rfl (fun ls hl => ?_)
  have lp6 : ∀ (N : Nat) (i : Nat) (v : List Int) (h : Nat → Int), (i ≤ y.length) → (v.length ≤ i) → (v ++ pl (y.drop i) = pl y) → (TT v h) → y.length - i < N → ∀ (H : Heap) (locs : List Loc), PP g [aI g b 60 h] H → va_D A [aI g b 60 h] → va_S A s.heap H locs → ∀ ls : Array Slot, lv_has ls 7 [(5, vi (i : Int)), (4, vi (v.length : Int)), (0, .ref a), (1, vi (k : Int)), (2, vi (y.length : Int)), (3, .ref b)] → W p l e (rmm 0 0 0) s m ([.ref a, vi (k : Int), vi (y.length : Int), .ref b] : List Value).toArray below meth cq H locs 0 0 (MQ below (jQi (fun z H1 => z = ((pl y).length : Int) ∧ ∃ g2 : Nat → Int, TT (pl y) g2 ∧ PP g [aI g b 60 g2] H1) A) ([.ref a, vi (k : Int), vi (y.length : Int), .ref b] : List Value).toArray s 0 0 A) (F0 m 6 ls []) := by
    intro N
    induction N with
    | zero => intro i v h hi hvl hv hh hM; exact absurd hM (Nat.not_lt_zero _)
    | succ N ih6 =>
      intro i v h hi hvl hv hh hM H locs hP hD hS ls hl
      refine lv_iload hx hb dX11_bares_6 (lv_at hl 0 rfl) ?_
      refine lv_iload_n hx hb dX11_bares_8 rfl (lv_at hl 4 rfl) ?_
      refine jr_ge (tgt := 61) hx hb dX11_bares_9 (by decide) ⟨by omega, by omega⟩ ⟨by omega, by omega⟩ (fun c9 => ?_) (fun c9 => ?_)
      · refine lv_iload hx hb dX11_bares_61 (lv_at hl 1 rfl) ?_
        exact je_Qi hx hb hr hlk rfl hS (by obtain rfl : i = y.length := (by omega); rw [dr_e (Nat.le_refl _), pl, List.append_nil] at hv; rw [← hv]; exact ⟨rfl, h, hh, hP⟩) dX11_bares_63
      · refine lv_aload_n hx hb dX11_bares_12 rfl (lv_at hl 2 rfl) ?_
        refine lv_iload_n hx hb dX11_bares_13 rfl (lv_at hl 3 rfl) ?_
        refine lv_iload hx hb dX11_bares_14 (lv_at hl 0 rfl) ?_
        refine jr_iadd hx hb dX11_bares_16 ?_
        refine jr_iald hx hb hKK.k (jat hPa hS ap_hPa) 0 rfl (k + i) (by omega) (by omega) (by omega) dX11_bares_17 ?_
        have tby := hy.b (j := i) (by omega)
        have hky := kd_n tby.1
        refine jr_nm (b := (y.getD i 0)) (hy.at (by omega)) ?_
        refine lv_istore (lv' := [(6, vi (y.getD i 0)), (5, vi (i : Int)), (4, vi (v.length : Int)), (0, .ref a), (1, vi (k : Int)), (2, vi (y.length : Int)), (3, .ref b)]) hx hb dX11_bares_18 hl (by decide) rfl (fun ls hl => ?_)
        refine lv_iload hx hb dX11_bares_20 (lv_at hl 0 rfl) ?_
        refine jr_sipush hx hb dX11_bares_22 (by decide) ?_
        refine jr_idiv hx hb (by omega) (by omega) (by omega) (by omega) dX11_bares_25 ?_
        refine jr_iconst hx hb dX11_bares_26 ?_
        refine jr_eq (tgt := 55) hx hb dX11_bares_27 (by decide) ⟨by omega, by omega⟩ ⟨by omega, by omega⟩ (fun c27 => ?_) (fun c27 => ?_)
        · refine jr_iinc (lv' := [(5, vi ((i : Int) + 1)), (6, vi (y.getD i 0)), (4, vi (v.length : Int)), (0, .ref a), (1, vi (k : Int)), (2, vi (y.length : Int)), (3, .ref b)]) hx hb dX11_bares_55 hl (k := 1) rfl rfl (by decide) rfl (fun ls hl => ?_)
          refine lv_goto (tgt := 6) hx hb dX11_bares_58 (by decide) ?_
          exact ih6 (i + 1) v h (by omega) (by omega) (pl_2 (by rw [← dr_c (t := y) (i := i) (by omega)]; exact hv) (by omega)) (hh) (by omega) _ _ hP hD hS ls (lv_sub hl [0, 2, 3, 4, 5, 6] rfl)
        · refine lv_aload_n hx hb dX11_bares_30 rfl (lv_at hl 6 rfl) ?_
          refine lv_iload hx hb dX11_bares_31 (lv_at hl 2 rfl) ?_
          refine lv_iload hx hb dX11_bares_33 (lv_at hl 0 rfl) ?_
          refine jr_sipush hx hb dX11_bares_35 (by decide) ?_
          refine jr_idiv hx hb (by omega) (by omega) (by omega) (by omega) dX11_bares_38 ?_
          refine jr_iconst hx hb dX11_bares_39 ?_
          refine jr_ne (tgt := 49) hx hb dX11_bares_40 (by decide) ⟨by omega, by omega⟩ ⟨by omega, by omega⟩ (fun c40 => ?_) (fun c40 => ?_)
          · refine lv_iload hx hb dX11_bares_49 (lv_at hl 0 rfl) ?_
            refine jr_iast hx hb hKK.k hP hD hS 0 rfl v.length (by omega) (by omega) (by omega) dX11_bares_51 (fun H locs hP hD hS => ?_)
            have hP : PP g [aI g b 60 (ju h v.length (y.getD i 0))] H := hP
            have hD : va_D A [aI g b 60 (ju h v.length (y.getD i 0))] := hD
            refine jr_iinc (lv' := [(4, vi ((v.length : Int) + 1)), (6, vi (y.getD i 0)), (5, vi (i : Int)), (0, .ref a), (1, vi (k : Int)), (2, vi (y.length : Int)), (3, .ref b)]) hx hb dX11_bares_52 hl (k := 2) rfl rfl (by decide) rfl (fun ls hl => ?_)
            have hl : lv_has ls 7 [(4, vi (((v ++ [y.getD i 0]).length : Nat) : Int)), (6, vi (y.getD i 0)), (5, vi (i : Int)), (0, .ref a), (1, vi (k : Int)), (2, vi (y.length : Int)), (3, .ref b)] := (show ((v.length : Int) + 1) = (((v ++ [y.getD i 0]).length : Nat) : Int) from by rw [List.length_append, List.length_singleton]; omega) ▸ hl
            refine jr_iinc (lv' := [(5, vi ((i : Int) + 1)), (4, vi (((v ++ [y.getD i 0]).length : Nat) : Int)), (6, vi (y.getD i 0)), (0, .ref a), (1, vi (k : Int)), (2, vi (y.length : Int)), (3, .ref b)]) hx hb dX11_bares_55 hl (k := 2) rfl rfl (by decide) rfl (fun ls hl => ?_)
            refine lv_goto (tgt := 6) hx hb dX11_bares_58 (by decide) ?_
            exact ih6 (i + 1) (v ++ [y.getD i 0]) _ (by omega) (by rw [List.length_append, List.length_singleton]; omega) (pl_0 (by rw [← dr_c (t := y) (i := i) (by omega)]; exact hv) (by omega) (by omega)) (hh.push (by omega) (by omega)) (by omega) _ _ hP hD hS ls (lv_sub hl [0, 1, 3, 4, 5, 6] rfl)
          · refine jr_sipush hx hb dX11_bares_43 (by decide) ?_
            refine lv_goto (tgt := 51) hx hb dX11_bares_46 (by decide) ?_
            refine jr_iast hx hb hKK.k hP hD hS 0 rfl v.length (by omega) (by omega) (by omega) dX11_bares_51 (fun H locs hP hD hS => ?_)
            have hP : PP g [aI g b 60 (ju h v.length 10000)] H := hP
            have hD : va_D A [aI g b 60 (ju h v.length 10000)] := hD
            refine jr_iinc (lv' := [(4, vi ((v.length : Int) + 1)), (6, vi (y.getD i 0)), (5, vi (i : Int)), (0, .ref a), (1, vi (k : Int)), (2, vi (y.length : Int)), (3, .ref b)]) hx hb dX11_bares_52 hl (k := 2) rfl rfl (by decide) rfl (fun ls hl => ?_)
            have hl : lv_has ls 7 [(4, vi (((v ++ [10000]).length : Nat) : Int)), (6, vi (y.getD i 0)), (5, vi (i : Int)), (0, .ref a), (1, vi (k : Int)), (2, vi (y.length : Int)), (3, .ref b)] := (show ((v.length : Int) + 1) = (((v ++ [10000]).length : Nat) : Int) from by rw [List.length_append, List.length_singleton]; omega) ▸ hl
            refine jr_iinc (lv' := [(5, vi ((i : Int) + 1)), (4, vi (((v ++ [10000]).length : Nat) : Int)), (6, vi (y.getD i 0)), (0, .ref a), (1, vi (k : Int)), (2, vi (y.length : Int)), (3, .ref b)]) hx hb dX11_bares_55 hl (k := 2) rfl rfl (by decide) rfl (fun ls hl => ?_)
            refine lv_goto (tgt := 6) hx hb dX11_bares_58 (by decide) ?_
            exact ih6 (i + 1) (v ++ [10000]) _ (by omega) (by rw [List.length_append, List.length_singleton]; omega) (pl_1 (by rw [← dr_c (t := y) (i := i) (by omega)]; exact hv) (by omega)) (hh.push (by omega) (by omega)) (by omega) _ _ hP hD hS ls (lv_sub hl [0, 1, 3, 4, 5, 6] rfl)
  exact lp6 _ 0 [] f2 (Nat.zero_le _) (Nat.le_refl _) (rfl) (TT.nil _) (Nat.lt_succ_self _) _ _ hP hD hS ls (lv_sub hl [0, 1, 2, 3, 4, 5] rfl)
set_option maxHeartbeats 4000000 in
set_option maxRecDepth 100000 in
theorem m_X11_hasPair (l : Launch) (g : GT) (a : Nat) (f : Nat → Int) (p9 : List Int) (hp : TT p9 f) (n x y : Int) (hn : 0 ≤ n ∧ n ≤ (p9.length : Int)) (hx0 : jR x) (hy0 : jR y) : Met l yX11_hasPair (ws_ yX11_hasPair cX11_hasPair 6 (some .boolean)) (rmm 0 0 0) (jPc g [.ref a, vi n, vi x, vi y] (fun H => PP g [aI g a 60 f] H)) (jSi (fun z => z = i01 (hpr p9 (n - 1) x y = true))) 0 0 jN := by
  refine jb_M (by decide) (Nat.le_of_ble_eq_true rfl) ?_
  intro p e s m below meth cq hx hb hr hml hown htl hlk hnm hKK hpre ls hl
  have hown : s.vm.findClass RX11 = some m.cls := hown
  have hl : lv_has ls 6 [(0, .ref a), (1, vi n), (2, vi x), (3, vi y)] := hl
  have hP : PP g [aI g a 60 f] s.heap := hpre
  have hpl := hp.len
  refine jr_iconst hx hb dX11_hasPair_0 ?_
  refine lv_istore (lv' := [(4, vi 0), (0, .ref a), (1, vi n), (2, vi x), (3, vi y)]) hx hb dX11_hasPair_1 hl (by decide) rfl (fun ls hl => ?_)
  refine jr_iconst hx hb dX11_hasPair_3 ?_
  refine lv_istore (lv' := [(5, vi 0), (4, vi 0), (0, .ref a), (1, vi n), (2, vi x), (3, vi y)]) hx hb dX11_hasPair_4 hl (by decide) rfl (fun ls hl => ?_)
  have lp6 : ∀ (N : Nat) (i : Nat) (ee : Int), (i ≤ 60) → ((i : Int) ≤ n - 1 ∨ i = 0) → (0 ≤ ee ∧ ee ≤ 1) → (ee = i01 (hpr p9 (i : Int) x y = true)) → 60 - i < N → ∀ ls : Array Slot, lv_has ls 6 [(5, vi (i : Int)), (4, vi ee), (0, .ref a), (1, vi n), (2, vi x), (3, vi y)] → W p l e (rmm 0 0 0) s m ([.ref a, vi n, vi x, vi y] : List Value).toArray below meth cq s.heap [] 0 0 (MQ below (jSi (fun z => z = i01 (hpr p9 (n - 1) x y = true))) ([.ref a, vi n, vi x, vi y] : List Value).toArray s 0 0 jN) (F0 m 6 ls []) := by
    intro N
    induction N with
    | zero => intro i ee hi hi2 heb he hM; exact absurd hM (Nat.not_lt_zero _)
    | succ N ih6 =>
      intro i ee hi hi2 heb he hM ls hl
      refine lv_iload hx hb dX11_hasPair_6 (lv_at hl 0 rfl) ?_
      refine jr_iconst hx hb dX11_hasPair_8 ?_
      refine jr_iadd hx hb dX11_hasPair_9 ?_
      refine lv_iload_n hx hb dX11_hasPair_10 rfl (lv_at hl 3 rfl) ?_
      refine jr_ge (tgt := 50) hx hb dX11_hasPair_11 (by decide) ⟨by omega, by omega⟩ ⟨by omega, by omega⟩ (fun c11 => ?_) (fun c11 => ?_)
      · refine lv_iload hx hb dX11_hasPair_50 (lv_at hl 1 rfl) ?_
        exact je_Si hx hb hr hlk (nz_b (by omega)).1 (by rw [he]; exact congrArg (fun b : Bool => i01 (b = true)) (hpr_eq (by omega))) dX11_hasPair_52
      · refine lv_iload hx hb dX11_hasPair_14 (lv_at hl 1 rfl) ?_
        refine jr_ifne (tgt := 37) hx hb dX11_hasPair_16 (by decide) ⟨by omega, by omega⟩ (fun c16 => ?_) (fun c16 => ?_)
        · refine jr_iconst hx hb dX11_hasPair_37 ?_
          refine lv_goto (tgt := 42) hx hb dX11_hasPair_38 (by decide) ?_
          refine lv_istore (lv' := [(4, vi 1), (5, vi (i : Int)), (0, .ref a), (1, vi n), (2, vi x), (3, vi y)]) hx hb dX11_hasPair_42 hl (by decide) rfl (fun ls hl => ?_)
          refine jr_iinc (lv' := [(5, vi ((i : Int) + 1)), (4, vi 1), (0, .ref a), (1, vi n), (2, vi x), (3, vi y)]) hx hb dX11_hasPair_44 hl (k := 1) rfl rfl (by decide) rfl (fun ls hl => ?_)
          refine lv_goto (tgt := 6) hx hb dX11_hasPair_47 (by decide) ?_
          exact ih6 (i + 1) _ (by omega) (by omega) (by omega) (i01_1 (hpr_s.mpr (Or.inl (by rw [he] at c16; exact i01t c16)))) (by omega) ls (lv_sub hl [0, 1, 2, 3, 4, 5] rfl)
        · have hpq := hprp hp (i := i) (by omega)
          have tb1 := hp.b (j := i) (by omega)
          have tb2 := hp.b (j := i + 1) (by omega)
          rw [← hp.at (by omega)] at tb1 tb2
          refine lv_aload_n hx hb dX11_hasPair_19 rfl (lv_at hl 2 rfl) ?_
          refine lv_iload hx hb dX11_hasPair_20 (lv_at hl 0 rfl) ?_
          refine jr_iald hx hb hKK.k hP 0 rfl i rfl (by omega) (by omega) dX11_hasPair_22 ?_
          refine lv_iload_n hx hb dX11_hasPair_23 rfl (lv_at hl 4 rfl) ?_
          refine jr_ne (tgt := 41) hx hb dX11_hasPair_24 (by decide) ⟨by omega, by omega⟩ ⟨by omega, by omega⟩ (fun c24 => ?_) (fun c24 => ?_)
          · refine jr_iconst hx hb dX11_hasPair_41 ?_
            refine lv_istore (lv' := [(4, vi 0), (5, vi (i : Int)), (0, .ref a), (1, vi n), (2, vi x), (3, vi y)]) hx hb dX11_hasPair_42 hl (by decide) rfl (fun ls hl => ?_)
            refine jr_iinc (lv' := [(5, vi ((i : Int) + 1)), (4, vi 0), (0, .ref a), (1, vi n), (2, vi x), (3, vi y)]) hx hb dX11_hasPair_44 hl (k := 1) rfl rfl (by decide) rfl (fun ls hl => ?_)
            refine lv_goto (tgt := 6) hx hb dX11_hasPair_47 (by decide) ?_
            exact ih6 (i + 1) _ (by omega) (by omega) (by omega) (i01_0 (fun q => (hpr_s.mp q).elim (by rw [he] at c16; exact i01f c16) (fun q => c24 (hpq.1.symm.trans q.1)))) (by omega) ls (lv_sub hl [0, 1, 2, 3, 4, 5] rfl)
          · refine lv_aload_n hx hb dX11_hasPair_27 rfl (lv_at hl 2 rfl) ?_
            refine lv_iload hx hb dX11_hasPair_28 (lv_at hl 0 rfl) ?_
            refine jr_iconst hx hb dX11_hasPair_30 ?_
            refine jr_iadd hx hb dX11_hasPair_31 ?_
            refine jr_iald hx hb hKK.k hP 0 rfl (i + 1) (by omega) (by omega) (by omega) dX11_hasPair_32 ?_
            refine lv_iload_n hx hb dX11_hasPair_33 rfl (lv_at hl 5 rfl) ?_
            refine jr_ne (tgt := 41) hx hb dX11_hasPair_34 (by decide) ⟨by omega, by omega⟩ ⟨by omega, by omega⟩ (fun c34 => ?_) (fun c34 => ?_)
            · refine jr_iconst hx hb dX11_hasPair_41 ?_
              refine lv_istore (lv' := [(4, vi 0), (5, vi (i : Int)), (0, .ref a), (1, vi n), (2, vi x), (3, vi y)]) hx hb dX11_hasPair_42 hl (by decide) rfl (fun ls hl => ?_)
              refine jr_iinc (lv' := [(5, vi ((i : Int) + 1)), (4, vi 0), (0, .ref a), (1, vi n), (2, vi x), (3, vi y)]) hx hb dX11_hasPair_44 hl (k := 1) rfl rfl (by decide) rfl (fun ls hl => ?_)
              refine lv_goto (tgt := 6) hx hb dX11_hasPair_47 (by decide) ?_
              exact ih6 (i + 1) _ (by omega) (by omega) (by omega) (i01_0 (fun q => (hpr_s.mp q).elim (by rw [he] at c16; exact i01f c16) (fun q => c34 (hpq.2.symm.trans q.2)))) (by omega) ls (lv_sub hl [0, 1, 2, 3, 4, 5] rfl)
            · refine jr_iconst hx hb dX11_hasPair_37 ?_
              refine lv_goto (tgt := 42) hx hb dX11_hasPair_38 (by decide) ?_
              refine lv_istore (lv' := [(4, vi 1), (5, vi (i : Int)), (0, .ref a), (1, vi n), (2, vi x), (3, vi y)]) hx hb dX11_hasPair_42 hl (by decide) rfl (fun ls hl => ?_)
              refine jr_iinc (lv' := [(5, vi ((i : Int) + 1)), (4, vi 1), (0, .ref a), (1, vi n), (2, vi x), (3, vi y)]) hx hb dX11_hasPair_44 hl (k := 1) rfl rfl (by decide) rfl (fun ls hl => ?_)
              refine lv_goto (tgt := 6) hx hb dX11_hasPair_47 (by decide) ?_
              exact ih6 (i + 1) _ (by omega) (by omega) (by omega) (i01_1 (hpr_s.mpr (Or.inr ⟨hpq.1.trans c24, hpq.2.trans c34⟩))) (by omega) ls (lv_sub hl [0, 1, 2, 3, 4, 5] rfl)
  exact lp6 _ 0 0 (Nat.zero_le _) (Or.inr rfl) (⟨by omega, by omega⟩) (i01_0 (hpr_0 (by omega))) (Nat.lt_succ_self _) ls (lv_sub hl [0, 1, 2, 3, 4, 5] rfl)
