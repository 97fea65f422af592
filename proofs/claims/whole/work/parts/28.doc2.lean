/-! where a segment ends -/
def isAb (ab : Nat → Int) (c : Int) : Bool := decide (kd c = 0 ∧ 0 ≤ vl c ∧ vl c < 100 ∧ ¬ ab (vl c).toNat = 0)
theorem isAb_iff {ab : Nat → Int} {c : Int} : isAb ab c = true ↔ (kd c = 0 ∧ 0 ≤ vl c ∧ vl c < 100 ∧ ¬ ab (vl c).toNat = 0) := by unfold isAb; exact decide_eq_true_iff
def isE (ab : Nat → Int) (t : List Int) (i : Int) : Bool := decide (tAt t i = 30033 ∨ tAt t i = 30063 ∨ (tAt t i = 30046 ∧ ¬ (kd (tAt t (i - 1)) = 1 ∧ kd (tAt t (i + 1)) = 1) ∧ ¬ isAb ab (tAt t (i - 1)) = true))
theorem isE_iff {ab : Nat → Int} {t : List Int} {i : Int} : isE ab t i = true ↔ (tAt t i = 30033 ∨ tAt t i = 30063 ∨ (tAt t i = 30046 ∧ ¬ (kd (tAt t (i - 1)) = 1 ∧ kd (tAt t (i + 1)) = 1) ∧ ¬ isAb ab (tAt t (i - 1)) = true)) := by unfold isE; exact decide_eq_true_iff
theorem vl_b (c : Int) (h : jR c) : -1 ≤ vl c ∧ vl c < 10000 := by unfold vl; split <;> omega
