theorem wt_run {w : Nat → Int} (h : WB w) {x : List Int} {i : Nat} {n : Int} (hF : wtA w (x.drop i) n = wtA w x 0) (hx : x.length ≤ 60) (hi : i < x.length) : n + wk w (kd (x.getD i 0)) ≤ 540 ∧ wtA w (x.drop (i + 1)) (n + wk w (kd (x.getD i 0))) = wtA w x 0 := by
  have e : wtA w (x.drop (i + 1)) (n + wk w (kd (x.getD i 0))) = wtA w x 0 := by rw [← hF, dr_c (i := i) hi, wtA]
  have h1 := wtA_b h (x.drop (i + 1)) (n + wk w (kd (x.getD i 0)))
  have h2 := wtA_b h x 0
  exact ⟨by omega, e⟩
theorem hpr_s {p : List Int} {i : Nat} {x y : Int} : hpr p ((i + 1 : Nat) : Int) x y = true ↔ hpr p (i : Int) x y = true ∨ (tAt p (i : Int) = x ∧ tAt p ((i : Int) + 1) = y) := by
  rw [hpr_iff, hpr_iff]
  constructor
  · rintro ⟨j, h1, h2⟩
    by_cases e : j = i
    · subst e; exact Or.inr h2
    · exact Or.inl ⟨j, by omega, h2⟩
  · rintro (⟨j, h1, h2⟩ | h)
    · exact ⟨j, by omega, h2⟩
    · exact ⟨i, by omega, h⟩
theorem hpr_0 {p : List Int} {e x y : Int} (h : e ≤ 0) : ¬ hpr p e x y = true := fun q => by
  obtain ⟨j, h1, -⟩ := hpr_iff.mp q
  omega
theorem hpr_eq {p : List Int} {e e2 x y : Int} (h : e = e2 ∨ (e ≤ 0 ∧ e2 ≤ 0)) : hpr p e x y = hpr p e2 x y := by
  rcases h with rfl | ⟨h1, h2⟩
  · rfl
  · have a := hpr_0 (p := p) (x := x) (y := y) h1
    have b := hpr_0 (p := p) (x := x) (y := y) h2
    cases q : hpr p e x y
    · cases q2 : hpr p e2 x y
      · rfl
      · exact absurd q2 b
    · exact absurd q a
