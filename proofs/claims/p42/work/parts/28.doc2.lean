/-! where a segment ends -/
def isAb (ab : Nat → Int) (c : Int) : Bool := decide (kd c = 0 ∧ 0 ≤ vl c ∧ vl c < 100 ∧ ¬ ab (vl c).toNat = 0)
theorem isAb_iff {ab : Nat → Int} {c : Int} : isAb ab c = true ↔ (kd c = 0 ∧ 0 ≤ vl c ∧ vl c < 100 ∧ ¬ ab (vl c).toNat = 0) := by unfold isAb; exact decide_eq_true_iff
def isE (ab : Nat → Int) (t : List Int) (i : Int) : Bool := decide (tAt t i = 30033 ∨ tAt t i = 30063 ∨ (tAt t i = 30046 ∧ ¬ (kd (tAt t (i - 1)) = 1 ∧ kd (tAt t (i + 1)) = 1) ∧ ¬ isAb ab (tAt t (i - 1)) = true))
theorem isE_iff {ab : Nat → Int} {t : List Int} {i : Int} : isE ab t i = true ↔ (tAt t i = 30033 ∨ tAt t i = 30063 ∨ (tAt t i = 30046 ∧ ¬ (kd (tAt t (i - 1)) = 1 ∧ kd (tAt t (i + 1)) = 1) ∧ ¬ isAb ab (tAt t (i - 1)) = true)) := by unfold isE; exact decide_eq_true_iff
theorem vl_b (c : Int) (h : jR c) : -1 ≤ vl c ∧ vl c < 10000 := by unfold vl; split <;> omega
theorem EL.cons {g : GT} {xs as : List Nat} {H : Heap} {q ci : Nat} {fs : List Value} (h : EL g xs as H) (hq : q ∉ as) (hci : ci = 7 ∨ ci = 4) (hP : PP g [ob q ci fs] H) : EL g (q :: xs) as H := by
  intro y hy
  rcases List.mem_cons.mp hy with rfl | hy
  · exact ⟨hq, ci, fs, hci, hP⟩
  · exact h y hy
