/-! tokens and texts, as integers -/
def kd (c : Int) : Int := if c < 0 then -1 else c / 10000
def vl (c : Int) : Int := if c < 0 then -1 else c % 10000
def sm (c : Int) : Int := if c < 0 then -1 else c % 10000 / 10
def tAt (t : List Int) (i : Int) : Int := if 0 ≤ i ∧ i < t.length then t.getD i.toNat 0 else -1
/-- a text's row holds its tokens -/
def TT (t : List Int) (f : Nat → Int) : Prop := t.length ≤ 60 ∧ ∀ j, j < t.length → f j = t.getD j 0 ∧ 0 ≤ t.getD j 0 ∧ t.getD j 0 < 40000
theorem TT.len {t : List Int} {f : Nat → Int} (h : TT t f) : t.length ≤ 60 := h.1
theorem TT.at {t : List Int} {f : Nat → Int} (h : TT t f) {j : Nat} (hj : j < t.length) : f j = t.getD j 0 := (h.2 j hj).1
theorem TT.b {t : List Int} {f : Nat → Int} (h : TT t f) {j : Nat} (hj : j < t.length) : 0 ≤ t.getD j 0 ∧ t.getD j 0 < 40000 := (h.2 j hj).2
theorem tAt_in {t : List Int} {j : Nat} (h : j < t.length) : tAt t (j : Int) = t.getD j 0 := by
  unfold tAt
  rw [if_pos ⟨by omega, by omega⟩, Int.toNat_natCast]
theorem tAt_out {t : List Int} {i : Int} (h : i < 0 ∨ (t.length : Int) ≤ i) : tAt t i = -1 := by
  unfold tAt
  rw [if_neg (by omega)]
theorem TT.tAt_b {t : List Int} {f : Nat → Int} (h : TT t f) (i : Int) : -1 ≤ tAt t i ∧ tAt t i < 40000 := by
  unfold tAt
  split
  · have := h.b (j := i.toNat) (by omega); omega
  · omega
theorem i01f {P : Prop} [Decidable P] (h : (if P then (1 : Int) else 0) = 0) : ¬ P := fun q => by rw [if_pos q] at h; omega
theorem i01t {P : Prop} [Decidable P] (h : (if P then (1 : Int) else 0) ≠ 0) : P := by
  by_cases q : P
  · exact q
  · rw [if_neg q] at h; omega
theorem i01R (P : Prop) [Decidable P] : jR (if P then (1 : Int) else 0) := by split <;> omega
theorem i01b (P : Prop) [Decidable P] : (if P then (1 : Int) else 0) = 0 ∨ (if P then (1 : Int) else 0) = 1 := by split <;> omega
theorem kd_R {c : Int} (h : jR c) : jR (kd c) := by unfold kd; split <;> omega
theorem kd_b {c : Int} (h : -1 ≤ c ∧ c < 40000) : -1 ≤ kd c ∧ kd c < 4 := by unfold kd; split <;> omega
abbrev i01 (P : Prop) [Decidable P] : Int := if P then 1 else 0
