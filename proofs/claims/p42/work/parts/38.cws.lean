theorem WB.set4 {w : Nat → Int} (h : WB w) {a b c d : Int} (ha : 1 ≤ a ∧ a ≤ 9) (hb : 1 ≤ b ∧ b ≤ 9) (hc : 1 ≤ c ∧ c ≤ 9) (hd : 1 ≤ d ∧ d ≤ 9) : WB (ju (ju (ju (ju w 0 a) 1 b) 2 c) 3 d) := by
  intro j hj
  have h1 := h j hj
  unfold ju
  by_cases e3 : j = 3
  · rw [if_pos e3]; exact hd
  · rw [if_neg e3]
    by_cases e2 : j = 2
    · rw [if_pos e2]; exact hc
    · rw [if_neg e2]
      by_cases e1 : j = 1
      · rw [if_pos e1]; exact hb
      · rw [if_neg e1]
        by_cases e0 : j = 0
        · rw [if_pos e0]; exact ha
        · rw [if_neg e0]; exact h1
theorem ab_set {ab : Nat → Int} (h : ∀ j, j < 100 → ab j = 0 ∨ ab j = 1) (k : Nat) : ∀ j, j < 100 → ju ab k 1 j = 0 ∨ ju ab k 1 j = 1 := by
  intro j hj
  unfold ju
  by_cases e : j = k
  · rw [if_pos e]; exact Or.inr rfl
  · rw [if_neg e]; exact h j hj
