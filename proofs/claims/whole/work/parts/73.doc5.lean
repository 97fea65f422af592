theorem fl1_len (t x y : List Int) : (fl1 t x y).length = y.length := by
  unfold fl1
  split
  · exact List.length_map _
  · rfl
theorem eqB_s {v : Nat → SV} {x : List Int} {k : Nat} : eqB v x (k + 1) = true ↔ eqB v x k = true ∨ (v k).1 = x := by
  rw [eqB_iff, eqB_iff]
  constructor
  · rintro ⟨j, h1, h2⟩
    by_cases e : j = k
    · subst e; exact Or.inr h2
    · exact Or.inl ⟨j, by omega, h2⟩
  · rintro (⟨j, h1, h2⟩ | h)
    · exact ⟨j, by omega, h2⟩
    · exact ⟨k, by omega, h⟩
theorem eqB_0 {v : Nat → SV} {x : List Int} : ¬ eqB v x 0 = true := fun q => by
  obtain ⟨j, h1, -⟩ := eqB_iff.mp q
  exact Nat.not_lt_zero _ h1
theorem owA_b {w : Nat → Int} (hw : WB w) (v : Nat → SV) (n : Nat) (hv : ∀ i, i < n → (v i).1.length ≤ 60) : 0 ≤ owA w v n ∧ owA w v n ≤ 540 * n := by
  induction n with
  | zero => simp [owA]
  | succ n ih =>
    have h1 := ih (fun i hi => hv i (by omega))
    have h2 := wtA_b hw (v n).1 0
    have h3 := hv n (by omega)
    rw [owA]
    split <;> omega
