/-! the best unit is one, whichever way it is sought -/
section BEST
variable {w : Nat → Int} {tm : TM} {t : List Int} {v : Nat → UV}
def off (w : Nat → Int) (tm : TM) (t : List Int) (u : UV) : Prop := ¬ u.2.2 = 0 ∧ 1 ≤ rate w tm t u
/-- x is the best of those in S -/
def bst (w : Nat → Int) (tm : TM) (t : List Int) (v : Nat → UV) (S : Nat → Prop) (z : Int) (x : F3) : Prop :=
  (x = (-1, 0, z) ∧ ∀ i, S i → ¬ off w tm t (v i)) ∨ ∃ k : Nat, S k ∧ off w tm t (v k) ∧ x = ((k : Int), rate w tm t (v k), lk w t (v k).1) ∧ ∀ i, S i → off w tm t (v i) → ¬ bt (rate w tm t (v i)) (lk w t (v i).1) (rate w tm t (v k)) (lk w t (v k).1) ∧ (k < i → bt (rate w tm t (v k)) (lk w t (v k).1) (rate w tm t (v i)) (lk w t (v i).1))
theorem bst_un {S S2 : Nat → Prop} {z z2 : Int} {x y : F3} (hS : ∀ i, S i ↔ S2 i) (h1 : bst w tm t v S z x) (h2 : bst w tm t v S2 z2 y) : x.1 = y.1 := by
  rcases h1 with ⟨rfl, h1⟩ | ⟨k, a1, a2, rfl, a3⟩
  · rcases h2 with ⟨rfl, h2⟩ | ⟨k, b1, b2, rfl, b3⟩
    · rfl
    · exact absurd b2 (h1 k ((hS k).mpr b1))
  · rcases h2 with ⟨rfl, h2⟩ | ⟨j, b1, b2, rfl, b3⟩
    · exact absurd a2 (h2 k ((hS k).mp a1))
    · have c1 := a3 j ((hS j).mpr b1) b2
      have c2 := b3 k ((hS k).mp a1) a2
      rcases Nat.lt_trichotomy k j with q | q | q
      · exact absurd (c1.2 q) c2.1
      · subst q; rfl
      · exact absurd (c2.2 q) c1.1
theorem fa_bst (hw : WB w) (n : Nat) : bst w tm t v (fun i => i < n) 0 (fa w tm t v n) := by
  induction n with
  | zero => exact Or.inl ⟨by rw [fa], fun i h => absurd h (Nat.not_lt_zero _)⟩
  | succ n ih =>
    rw [fa, faS]
    have hr := rate_b hw tm t (v n)
    have hl := lk_b hw t (v n).1
    by_cases ho : off w tm t (v n)
    · rcases ih with ⟨h1, h2⟩ | ⟨k, a1, a2, a3, a4⟩
      · rw [h1, if_pos ⟨ho, fun q => by have q2 : rate w tm t (v n) < 0 ∨ (0 = rate w tm t (v n) ∧ lk w t (v n).1 < 0) := q; omega⟩]
        refine Or.inr ⟨n, Nat.lt_succ_self n, ho, rfl, fun i hi hoi => ?_⟩
        rcases Nat.lt_or_ge i n with q | q
        · exact absurd hoi (h2 i q)
        · have hi2 : i < n + 1 := hi
          obtain rfl : i = n := by omega
          exact ⟨fun z => by have z2 := z; unfold bt at z2; omega, fun z => absurd z (Nat.lt_irrefl _)⟩
      · rw [a3]
        by_cases hb : bt (rate w tm t (v k)) (lk w t (v k).1) (rate w tm t (v n)) (lk w t (v n).1)
        · rw [if_neg (fun q => q.2 hb)]
          refine Or.inr ⟨k, Nat.lt_succ_of_lt a1, a2, rfl, fun i hi hoi => ?_⟩
          rcases Nat.lt_or_ge i n with q | q
          · exact a4 i q hoi
          · have hi2 : i < n + 1 := hi
            obtain rfl : i = n := by omega
            exact ⟨fun z => by unfold bt at z hb; omega, fun _ => hb⟩
        · rw [if_pos ⟨ho, hb⟩]
          refine Or.inr ⟨n, Nat.lt_succ_self n, ho, rfl, fun i hi hoi => ?_⟩
          rcases Nat.lt_or_ge i n with q | q
          · have c := a4 i q hoi
            refine ⟨fun z => c.1 ?_, fun z => absurd z (by omega)⟩
            unfold bt at z hb ⊢
            omega
          · have hi2 : i < n + 1 := hi
            obtain rfl : i = n := by omega
            exact ⟨fun z => by unfold bt at z; omega, fun z => absurd z (Nat.lt_irrefl _)⟩
    · rw [if_neg (fun q => ho q.1)]
      rcases ih with ⟨h1, h2⟩ | ⟨k, a1, a2, a3, a4⟩
      · refine Or.inl ⟨h1, fun i hi => ?_⟩
        rcases Nat.lt_or_ge i n with q | q
        · exact h2 i q
        · have hi2 : i < n + 1 := hi
          obtain rfl : i = n := by omega
          exact ho
      · refine Or.inr ⟨k, Nat.lt_succ_of_lt a1, a2, a3, fun i hi hoi => ?_⟩
        rcases Nat.lt_or_ge i n with q | q
        · exact a4 i q hoi
        · have hi2 : i < n + 1 := hi
          obtain rfl : i = n := by omega
          exact absurd hoi ho
theorem fb_bst (hw : WB w) (ht : t.length ≤ 60) (n : Nat) (hv : ∀ i, i < n → (v i).1.length ≤ 60) (j : Nat) (hj : j ≤ n) : bst w tm t v (fun i => n - j ≤ i ∧ i < n) 100 (fb w tm t v n j) := by
  induction j with
  | zero => exact Or.inl ⟨by rw [fb], fun i h => by have h1 := h.1; have h2 := h.2; omega⟩
  | succ j ih =>
    have ih := ih (by omega)
    rw [fb]
    obtain ⟨m, hm⟩ : ∃ m, m = n - 1 - j := ⟨_, rfl⟩
    rw [← hm]
    have hr := rate_b hw tm t (v m)
    have hl := lk_b hw t (v m).1
    have hbd : lk w t (v m).1 ≤ lkB w t (v m).1 := lk_lkB hw ht (hv m (by omega))
    have hbd2 : rate w tm t (v m) ≤ lm (lkB w t (v m).1) (ms tm t (v m).2.1) := by unfold rate lm; omega
    -- the step, without the look at the bound
    have e : fbS w tm t (v m) m (fb w tm t v n j) = if (v m).2.2 = 0 then fb w tm t v n j else if bt (rate w tm t (v m)) (lk w t (v m).1) (fb w tm t v n j).2.1 (fb w tm t v n j).2.2 then ((m : Int), rate w tm t (v m), lk w t (v m).1) else fb w tm t v n j := by
      rw [fbS]
      by_cases q : (v m).2.2 = 0
      · rw [if_pos q, if_pos q]
      · rw [if_neg q, if_neg q]
        by_cases q2 : bt (lm (lkB w t (v m).1) (ms tm t (v m).2.1)) (lkB w t (v m).1) (fb w tm t v n j).2.1 (fb w tm t v n j).2.2
        · rw [if_neg (fun z => z q2)]
        · rw [if_pos q2, if_neg]
          intro z
          unfold bt at z q2
          omega
    rw [e]
    have hS : ∀ i, (n - (j + 1) ≤ i ∧ i < n) ↔ (i = m ∨ (n - j ≤ i ∧ i < n)) := by intro i; omega
    have hmj : ¬ (n - j ≤ m ∧ m < n) := by omega
    have hlt : ∀ i, (n - j ≤ i ∧ i < n) → m < i := by intro i h; omega
    rcases ih with ⟨h1, h2⟩ | ⟨k, a1, a2, a3, a4⟩
    · by_cases ho : off w tm t (v m)
      · have ho1 := ho.1
        have ho2 := ho.2
        rw [if_neg ho1, h1, if_pos (show bt (rate w tm t (v m)) (lk w t (v m).1) 0 100 from Or.inl (by omega))]
        refine Or.inr ⟨m, (hS m).mpr (Or.inl rfl), ho, rfl, fun i hi hoi => ?_⟩
        rcases (hS i).mp hi with q | q
        · subst q; exact ⟨fun z => by unfold bt at z; omega, fun z => absurd z (Nat.lt_irrefl _)⟩
        · exact absurd hoi (h2 i q)
      · have hx : (if (v m).2.2 = 0 then fb w tm t v n j else if bt (rate w tm t (v m)) (lk w t (v m).1) (fb w tm t v n j).2.1 (fb w tm t v n j).2.2 then ((m : Int), rate w tm t (v m), lk w t (v m).1) else fb w tm t v n j) = fb w tm t v n j := by
          by_cases q : (v m).2.2 = 0
          · rw [if_pos q]
          · rw [if_neg q, if_neg]
            intro z
            rw [h1] at z
            have z2 : 0 < rate w tm t (v m) ∨ (rate w tm t (v m) = 0 ∧ 100 < lk w t (v m).1) := z
            exact ho ⟨q, by omega⟩
        rw [hx]
        refine Or.inl ⟨h1, fun i hi => ?_⟩
        rcases (hS i).mp hi with q | q
        · subst q; exact ho
        · exact h2 i q
    · have ak := a2.2
      by_cases ho : ¬ (v m).2.2 = 0 ∧ bt (rate w tm t (v m)) (lk w t (v m).1) (rate w tm t (v k)) (lk w t (v k).1)
      · have ho2 := ho.2
        rw [a3, if_neg ho.1, if_pos ho2]
        have hom : off w tm t (v m) := ⟨ho.1, by unfold bt at ho2; omega⟩
        refine Or.inr ⟨m, (hS m).mpr (Or.inl rfl), hom, rfl, fun i hi hoi => ?_⟩
        rcases (hS i).mp hi with q | q
        · subst q; exact ⟨fun z => by unfold bt at z; omega, fun z => absurd z (Nat.lt_irrefl _)⟩
        · have c := (a4 i q hoi).1
          refine ⟨fun z => ?_, fun _ => ?_⟩
          · unfold bt at z ho2 c; omega
          · unfold bt at ho2 c ⊢; omega
      · have hx : (if (v m).2.2 = 0 then fb w tm t v n j else if bt (rate w tm t (v m)) (lk w t (v m).1) (fb w tm t v n j).2.1 (fb w tm t v n j).2.2 then ((m : Int), rate w tm t (v m), lk w t (v m).1) else fb w tm t v n j) = fb w tm t v n j := by
          by_cases q : (v m).2.2 = 0
          · rw [if_pos q]
          · rw [if_neg q, if_neg]
            intro z
            rw [a3] at z
            exact ho ⟨q, z⟩
        rw [hx, a3]
        refine Or.inr ⟨k, (hS k).mpr (Or.inr a1), a2, rfl, fun i hi hoi => ?_⟩
        rcases (hS i).mp hi with q | q
        · subst q; exact ⟨fun z => ho ⟨hoi.1, z⟩, fun z => absurd z (by have := hlt k a1; omega)⟩
        · exact a4 i q hoi
theorem fb_fa (hw : WB w) (ht : t.length ≤ 60) (n : Nat) (hv : ∀ i, i < n → (v i).1.length ≤ 60) : (fb w tm t v n n).1 = (fa w tm t v n).1 :=
  bst_un (fun i => ⟨fun h => h.2, fun h => ⟨by omega, h⟩⟩) (fb_bst (v := v) (tm := tm) hw ht n hv n (Nat.le_refl _)) (fa_bst (v := v) (tm := tm) (t := t) hw n)
end BEST
