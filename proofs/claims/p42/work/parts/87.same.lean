

theorem as_s {x1 x2 : List Int} {i : Nat} (h : ∀ j, j < i → x1.getD j 0 = x2.getD j 0) (e : x1.getD i 0 = x2.getD i 0) : ∀ j, j < i + 1 → x1.getD j 0 = x2.getD j 0 := by
  intro j hj
  by_cases q : j = i
  · subst q; exact e
  · exact h j (by omega)
theorem as_e {x1 x2 : List Int} {i : Nat} {b : Int} (hF : (b = 1 ∧ x1.length = x2.length ∧ ∀ j, j < i → x1.getD j 0 = x2.getD j 0) ∨ (b = 0 ∧ ¬ x1 = x2)) (hi : x1.length ≤ i ∨ b = 0) : b = i01 (x1 = x2) := by
  rcases hF with ⟨h1, h2, h3⟩ | ⟨h1, h2⟩
  · rw [h1, i01, if_pos (ext_getD h2 (fun j hj => h3 j (by omega)))]
  · rw [h1, i01, if_neg h2]
set_option maxHeartbeats 4000000 in
set_option maxRecDepth 100000 in
theorem m_L_areSame (l : Launch) (g : GT) (a1 a2 : Nat) (x1 x2 : List Int) (f1 f2 : Nat → Int) (hx1 : AT x1 f1) (hx2 : AT x2 f2) : Met l yL_areSame (ws_ yL_areSame cL_areSame 4 (some .boolean)) (rmm 0 0 0) (jPc g [.ref a1, .ref a2] (fun H => PP g [aI g a1 61 f1] H ∧ PP g [aI g a2 61 f2] H)) (jSi (fun z => z = i01 (x1 = x2))) 0 0 jN := by
  refine jb_M (by decide) (Nat.le_of_ble_eq_true rfl) ?_
  intro p e s m below meth cq hx hb hr hml hown htl hlk hnm hKK hpre ls hl
  have hown : s.vm.findClass RL = some m.cls := hown
  have hl : lv_has ls 4 [(0, .ref a1), (1, .ref a2)] := hl
  obtain ⟨hP1, hP2⟩ := hpre
  have hl1 := hx1.len
  have hl2 := hx2.len
  refine lv_aload_n hx hb dL_areSame_0 rfl (lv_at hl 0 rfl) ?_
  refine jr_iconst hx hb dL_areSame_1 ?_
  refine jr_iald hx hb hKK.k hP1 0 rfl 0 rfl (by omega) (by omega) dL_areSame_2 ?_
  refine jr_nm (b := (x1.length : Int)) (by rw [hx1.n]) ?_
  refine lv_aload_n hx hb dL_areSame_3 rfl (lv_at hl 1 rfl) ?_
  refine jr_iconst hx hb dL_areSame_4 ?_
  refine jr_iald hx hb hKK.k hP2 0 rfl 0 rfl (by omega) (by omega) dL_areSame_5 ?_
  refine jr_nm (b := (x2.length : Int)) (by rw [hx2.n]) ?_
  refine jr_ne (tgt := 13) hx hb dL_areSame_6 (by decide) ⟨by omega, by omega⟩ ⟨by omega, by omega⟩ (fun c6 => ?_) (fun c6 => ?_)
  · refine jr_iconst hx hb dL_areSame_13 ?_
    refine lv_istore_n (lv' := [(2, vi 0), (0, .ref a1), (1, .ref a2)]) hx hb dL_areSame_14 rfl hl (by decide) rfl (fun ls hl => ?_)
    refine jr_iconst hx hb dL_areSame_15 ?_
    refine lv_istore_n (lv' := [(3, vi 1), (2, vi 0), (0, .ref a1), (1, .ref a2)]) hx hb dL_areSame_16 rfl hl (by decide) rfl (fun ls hl => ?_)
    have lp17 : ∀ (N : Nat) (i : Nat) (b : Int), (i ≤ x1.length) → ((b = 1 ∧ x1.length = x2.length ∧ ∀ j, j < i → x1.getD j 0 = x2.getD j 0) ∨ (b = 0 ∧ ¬ x1 = x2)) → x1.length - i < N → ∀ ls : Array Slot, lv_has ls 4 [(3, vi ((i : Int) + 1)), (2, vi b), (0, .ref a1), (1, .ref a2)] → W p l e (rmm 0 0 0) s m ([.ref a1, .ref a2] : List Value).toArray below meth cq s.heap [] 0 0 (MQ below (jSi (fun z => z = i01 (x1 = x2))) ([.ref a1, .ref a2] : List Value).toArray s 0 0 jN) (F0 m 17 ls []) := by
      intro N
      induction N with
      | zero => intro i b hi hF hM; exact absurd hM (Nat.not_lt_zero _)
      | succ N ih17 =>
        intro i b hi hF hM ls hl
        refine lv_iload_n hx hb dL_areSame_17 rfl (lv_at hl 0 rfl) ?_
        refine lv_aload_n hx hb dL_areSame_18 rfl (lv_at hl 2 rfl) ?_
        refine jr_iconst hx hb dL_areSame_19 ?_
        refine jr_iald hx hb hKK.k hP1 0 rfl 0 rfl (by omega) (by omega) dL_areSame_20 ?_
        refine jr_nm (b := (x1.length : Int)) (by rw [hx1.n]) ?_
        refine jr_gt (tgt := 49) hx hb dL_areSame_21 (by decide) ⟨by omega, by omega⟩ ⟨by omega, by omega⟩ (fun c21 => ?_) (fun c21 => ?_)
        · refine lv_iload_n hx hb dL_areSame_49 rfl (lv_at hl 1 rfl) ?_
          exact je_Si hx hb hr hlk (nz_b (by omega)).1 (as_e hF (by omega)) dL_areSame_50
        · refine lv_iload_n hx hb dL_areSame_24 rfl (lv_at hl 1 rfl) ?_
          refine jr_ifeq (tgt := 49) hx hb dL_areSame_25 (by decide) ⟨by omega, by omega⟩ (fun c25 => ?_) (fun c25 => ?_)
          · refine lv_iload_n hx hb dL_areSame_49 rfl (lv_at hl 1 rfl) ?_
            exact je_Si hx hb hr hlk (nz_b (by omega)).1 (as_e hF (by omega)) dL_areSame_50
          · have hE := hF.resolve_right (fun q => c25 q.1)
            refine lv_aload_n hx hb dL_areSame_28 rfl (lv_at hl 2 rfl) ?_
            refine lv_iload_n hx hb dL_areSame_29 rfl (lv_at hl 0 rfl) ?_
            refine jr_iald hx hb hKK.k hP1 0 rfl (i + 1) (by omega) (by omega) (by omega) dL_areSame_30 ?_
            refine jr_nm (b := x1.getD i 0) (hx1.s (by omega)) ?_
            have hv1 := (hx1.v (k := i) (by omega)).b
            refine lv_aload_n hx hb dL_areSame_31 rfl (lv_at hl 3 rfl) ?_
            refine lv_iload_n hx hb dL_areSame_32 rfl (lv_at hl 0 rfl) ?_
            refine jr_iald hx hb hKK.k hP2 0 rfl (i + 1) (by omega) (by omega) (by omega) dL_areSame_33 ?_
            refine jr_nm (b := x2.getD i 0) (hx2.s (by omega)) ?_
            have hv2 := (hx2.v (k := i) (by omega)).b
            refine jr_ne (tgt := 41) hx hb dL_areSame_34 (by decide) ⟨by omega, by omega⟩ ⟨by omega, by omega⟩ (fun c34 => ?_) (fun c34 => ?_)
            · refine jr_iconst hx hb dL_areSame_41 ?_
              refine lv_istore_n (lv' := [(2, vi 0), (3, vi ((i : Int) + 1)), (0, .ref a1), (1, .ref a2)]) hx hb dL_areSame_42 rfl hl (by decide) rfl (fun ls hl => ?_)
              refine jr_iinc (lv' := [(3, vi (((i : Int) + 1) + 1)), (2, vi 0), (0, .ref a1), (1, .ref a2)]) hx hb dL_areSame_43 hl (k := 1) rfl rfl (by decide) rfl (fun ls hl => ?_)
              refine lv_goto (tgt := 17) hx hb dL_areSame_46 (by decide) ?_
              exact ih17 (i + 1) 0 (by omega) (Or.inr ⟨rfl, fun q => c34 (by rw [q])⟩) (by omega) ls (lv_sub hl [0, 1, 2, 3] rfl)
            · refine jr_iconst hx hb dL_areSame_37 ?_
              refine lv_goto (tgt := 42) hx hb dL_areSame_38 (by decide) ?_
              refine lv_istore_n (lv' := [(2, vi 1), (3, vi ((i : Int) + 1)), (0, .ref a1), (1, .ref a2)]) hx hb dL_areSame_42 rfl hl (by decide) rfl (fun ls hl => ?_)
              refine jr_iinc (lv' := [(3, vi (((i : Int) + 1) + 1)), (2, vi 1), (0, .ref a1), (1, .ref a2)]) hx hb dL_areSame_43 hl (k := 1) rfl rfl (by decide) rfl (fun ls hl => ?_)
              refine lv_goto (tgt := 17) hx hb dL_areSame_46 (by decide) ?_
              exact ih17 (i + 1) 1 (by omega) (Or.inl ⟨rfl, hE.2.1, as_s hE.2.2 c34⟩) (by omega) ls (lv_sub hl [0, 1, 2, 3] rfl)
    exact lp17 _ 0 0 (Nat.zero_le _) (Or.inr ⟨rfl, fun q => c6 (by rw [q])⟩) (Nat.lt_succ_self _) ls (lv_sub hl [0, 1, 2, 3] rfl)
  · refine jr_iconst hx hb dL_areSame_9 ?_
    refine lv_goto (tgt := 14) hx hb dL_areSame_10 (by decide) ?_
    refine lv_istore_n (lv' := [(2, vi 1), (0, .ref a1), (1, .ref a2)]) hx hb dL_areSame_14 rfl hl (by decide) rfl (fun ls hl => ?_)
    refine jr_iconst hx hb dL_areSame_15 ?_
    refine lv_istore_n (lv' := [(3, vi 1), (2, vi 1), (0, .ref a1), (1, .ref a2)]) hx hb dL_areSame_16 rfl hl (by decide) rfl (fun ls hl => ?_)
    have lp17 : ∀ (N : Nat) (i : Nat) (b : Int), (i ≤ x1.length) → ((b = 1 ∧ x1.length = x2.length ∧ ∀ j, j < i → x1.getD j 0 = x2.getD j 0) ∨ (b = 0 ∧ ¬ x1 = x2)) → x1.length - i < N → ∀ ls : Array Slot, lv_has ls 4 [(3, vi ((i : Int) + 1)), (2, vi b), (0, .ref a1), (1, .ref a2)] → W p l e (rmm 0 0 0) s m ([.ref a1, .ref a2] : List Value).toArray below meth cq s.heap [] 0 0 (MQ below (jSi (fun z => z = i01 (x1 = x2))) ([.ref a1, .ref a2] : List Value).toArray s 0 0 jN) (F0 m 17 ls []) := by
      intro N
      induction N with
      | zero => intro i b hi hF hM; exact absurd hM (Nat.not_lt_zero _)
      | succ N ih17 =>
        intro i b hi hF hM ls hl
        refine lv_iload_n hx hb dL_areSame_17 rfl (lv_at hl 0 rfl) ?_
        refine lv_aload_n hx hb dL_areSame_18 rfl (lv_at hl 2 rfl) ?_
        refine jr_iconst hx hb dL_areSame_19 ?_
        refine jr_iald hx hb hKK.k hP1 0 rfl 0 rfl (by omega) (by omega) dL_areSame_20 ?_
        refine jr_nm (b := (x1.length : Int)) (by rw [hx1.n]) ?_
        refine jr_gt (tgt := 49) hx hb dL_areSame_21 (by decide) ⟨by omega, by omega⟩ ⟨by omega, by omega⟩ (fun c21 => ?_) (fun c21 => ?_)
        · refine lv_iload_n hx hb dL_areSame_49 rfl (lv_at hl 1 rfl) ?_
          exact je_Si hx hb hr hlk (nz_b (by omega)).1 (as_e hF (by omega)) dL_areSame_50
        · refine lv_iload_n hx hb dL_areSame_24 rfl (lv_at hl 1 rfl) ?_
          refine jr_ifeq (tgt := 49) hx hb dL_areSame_25 (by decide) ⟨by omega, by omega⟩ (fun c25 => ?_) (fun c25 => ?_)
          · refine lv_iload_n hx hb dL_areSame_49 rfl (lv_at hl 1 rfl) ?_
            exact je_Si hx hb hr hlk (nz_b (by omega)).1 (as_e hF (by omega)) dL_areSame_50
          · have hE := hF.resolve_right (fun q => c25 q.1)
            refine lv_aload_n hx hb dL_areSame_28 rfl (lv_at hl 2 rfl) ?_
            refine lv_iload_n hx hb dL_areSame_29 rfl (lv_at hl 0 rfl) ?_
            refine jr_iald hx hb hKK.k hP1 0 rfl (i + 1) (by omega) (by omega) (by omega) dL_areSame_30 ?_
            refine jr_nm (b := x1.getD i 0) (hx1.s (by omega)) ?_
            have hv1 := (hx1.v (k := i) (by omega)).b
            refine lv_aload_n hx hb dL_areSame_31 rfl (lv_at hl 3 rfl) ?_
            refine lv_iload_n hx hb dL_areSame_32 rfl (lv_at hl 0 rfl) ?_
            refine jr_iald hx hb hKK.k hP2 0 rfl (i + 1) (by omega) (by omega) (by omega) dL_areSame_33 ?_
            refine jr_nm (b := x2.getD i 0) (hx2.s (by omega)) ?_
            have hv2 := (hx2.v (k := i) (by omega)).b
            refine jr_ne (tgt := 41) hx hb dL_areSame_34 (by decide) ⟨by omega, by omega⟩ ⟨by omega, by omega⟩ (fun c34 => ?_) (fun c34 => ?_)
            · refine jr_iconst hx hb dL_areSame_41 ?_
              refine lv_istore_n (lv' := [(2, vi 0), (3, vi ((i : Int) + 1)), (0, .ref a1), (1, .ref a2)]) hx hb dL_areSame_42 rfl hl (by decide) rfl (fun ls hl => ?_)
              refine jr_iinc (lv' := [(3, vi (((i : Int) + 1) + 1)), (2, vi 0), (0, .ref a1), (1, .ref a2)]) hx hb dL_areSame_43 hl (k := 1) rfl rfl (by decide) rfl (fun ls hl => ?_)
              refine lv_goto (tgt := 17) hx hb dL_areSame_46 (by decide) ?_
              exact ih17 (i + 1) 0 (by omega) (Or.inr ⟨rfl, fun q => c34 (by rw [q])⟩) (by omega) ls (lv_sub hl [0, 1, 2, 3] rfl)
            · refine jr_iconst hx hb dL_areSame_37 ?_
              refine lv_goto (tgt := 42) hx hb dL_areSame_38 (by decide) ?_
              refine lv_istore_n (lv' := [(2, vi 1), (3, vi ((i : Int) + 1)), (0, .ref a1), (1, .ref a2)]) hx hb dL_areSame_42 rfl hl (by decide) rfl (fun ls hl => ?_)
              refine jr_iinc (lv' := [(3, vi (((i : Int) + 1) + 1)), (2, vi 1), (0, .ref a1), (1, .ref a2)]) hx hb dL_areSame_43 hl (k := 1) rfl rfl (by decide) rfl (fun ls hl => ?_)
              refine lv_goto (tgt := 17) hx hb dL_areSame_46 (by decide) ?_
              exact ih17 (i + 1) 1 (by omega) (Or.inl ⟨rfl, hE.2.1, as_s hE.2.2 c34⟩) (by omega) ls (lv_sub hl [0, 1, 2, 3] rfl)
    exact lp17 _ 0 1 (Nat.zero_le _) (Or.inl ⟨rfl, by omega, fun j h => absurd h (Nat.not_lt_zero _)⟩) (Nat.lt_succ_self _) ls (lv_sub hl [0, 1, 2, 3] rfl)
