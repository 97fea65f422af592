/-! weights, terms, costs -/
def w0 : Nat → Int := ju (ju (ju (ju (fun _ => 0) 0 4) 1 2) 2 1) 3 1
def WB (w : Nat → Int) : Prop := ∀ j, j < 4 → 1 ≤ w j ∧ w j ≤ 9
theorem w0_b : WB w0 := by
  intro j hj
  rcases (show j = 0 ∨ j = 1 ∨ j = 2 ∨ j = 3 by omega) with rfl | rfl | rfl | rfl <;> decide
def wk (w : Nat → Int) (k : Int) : Int := if 0 ≤ k ∧ k < 4 then w k.toNat else 0
theorem wk_b {w : Nat → Int} (h : WB w) (k : Int) : 0 ≤ wk w k ∧ wk w k ≤ 9 := by
  unfold wk
  split
  · have := h k.toNat (by omega); omega
  · omega
def wtA (w : Nat → Int) : List Int → Int → Int
  | [], n => n
  | c :: t, n => wtA w t (n + wk w (kd c))
theorem wtA_b {w : Nat → Int} (h : WB w) (t : List Int) (n : Int) : n ≤ wtA w t n ∧ wtA w t n ≤ n + 9 * t.length := by
  induction t generalizing n with
  | nil => simp [wtA]
  | cons c t ih =>
    have h1 := ih (n + wk w (kd c))
    have h2 := wk_b h (kd c)
    simp only [wtA, List.length_cons]
    omega
def rp (w : Nat → Int) (c d : Int) : Int := if c = d then 0 else if kd c ≠ kd d then 1000000 else if kd c = 1 ∨ (kd c = 0 ∧ sm c = sm d) then (wk w (kd c) + 1) / 2 else wk w (kd c)
theorem rp_b {w : Nat → Int} (h : WB w) (c d : Int) : 0 ≤ rp w c d ∧ rp w c d ≤ 1000000 := by
  have h2 := wk_b h (kd c)
  unfold rp
  repeat' split
  all_goals omega
/-- is there the term -/
def thas (fs ft : Nat → Int) (n : Nat) (x y : Int) : Bool := (List.range n).any (fun j => decide (fs j = x ∧ ft j = y))
theorem thas_iff {fs ft : Nat → Int} {n : Nat} {x y : Int} : thas fs ft n x y = true ↔ ∃ j, j < n ∧ fs j = x ∧ ft j = y := by
  unfold thas
  rw [List.any_eq_true]
  constructor
  · rintro ⟨j, h1, h2⟩
    exact ⟨j, List.mem_range.mp h1, of_decide_eq_true h2⟩
  · rintro ⟨j, h1, h2⟩
    exact ⟨j, List.mem_range.mpr h1, decide_eq_true h2⟩
/-- how many terms the text t has and the target u hasn't -/
def cm (fs ft : Nat → Int) (t u : List Int) : Nat → Int
  | 0 => 0
  | n + 1 => cm fs ft t u n + if fs n ∈ t ∧ ft n ∉ u then 1 else 0
theorem cm_b (fs ft : Nat → Int) (t u : List Int) (n : Nat) : 0 ≤ cm fs ft t u n ∧ cm fs ft t u n ≤ n := by
  induction n with
  | zero => simp [cm]
  | succ n ih => simp only [cm]; split <;> omega
def TB (n : Nat) (fs ft : Nat → Int) : Prop := n ≤ 20 ∧ ∀ j, j < n → 0 ≤ fs j ∧ fs j < 100 ∧ 0 ≤ ft j ∧ ft j < 100
theorem TB.push {n : Nat} {fs ft : Nat → Int} (h : TB n fs ft) (hn : n < 20) {x y : Int} (hx : 0 ≤ x ∧ x < 100) (hy : 0 ≤ y ∧ y < 100) : TB (n + 1) (ju fs n x) (ju ft n y) := by
  refine ⟨by omega, fun j hj => ?_⟩
  by_cases e : j = n
  · subst e; rw [ju_s, ju_s]; exact ⟨hx.1, hx.2, hy.1, hy.2⟩
  · rw [ju_n _ _ e, ju_n _ _ e]; exact h.2 j (by omega)
