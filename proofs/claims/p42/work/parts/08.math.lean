/-! tokens and texts, as integers -/
def kd (c : Int) : Int := if c < 0 then -1 else c / 10000
def vl (c : Int) : Int := if c < 0 then -1 else c % 10000
def sm (c : Int) : Int := if c < 0 then -1 else c % 10000 / 10
def tAt (t : List Int) (i : Int) : Int := if 0 ≤ i ∧ i < t.length then t.getD i.toNat 0 else -1
/-- a text's row holds its tokens -/
def TT (t : List Int) (f : Nat → Int) : Prop := t.length ≤ 60 ∧ ∀ j, j < t.length → f j = t.getD j 0 ∧ 0 ≤ t.getD j 0 ∧ t.getD j 0 < 40000
theorem TT.len {t : List Int} {f : Nat → Int} (h : TT t f) : t.length ≤ 60 := h.1
theorem TT.at {t : List Int} {f : Nat → Int} (h : TT t f) {j : Nat} (hj : j < t.length) : f j = t.getD j 0 := (h.2 j hj).1
theorem TT.b {t : List Int} {f : Nat → Int} (h : TT t f) {j : Nat} (hj : j < t.length) : 0 ≤ t.getD j 0 ∧ t.getD j 0 < 40000 := (h.2 j hj).2
theorem tAt_in {t : List Int} {j : Nat} (h : j < t.length) : tAt t (j : Int) = t.getD j 0 := by
  unfold tAt
  rw [if_pos ⟨by omega, by omega⟩, Int.toNat_natCast]
theorem tAt_out {t : List Int} {i : Int} (h : i < 0 ∨ (t.length : Int) ≤ i) : tAt t i = -1 := by
  unfold tAt
  rw [if_neg (by omega)]
theorem TT.tAt_b {t : List Int} {f : Nat → Int} (h : TT t f) (i : Int) : -1 ≤ tAt t i ∧ tAt t i < 40000 := by
  unfold tAt
  split
  · have := h.b (j := i.toNat) (by omega); omega
  · omega
theorem i01f {P : Prop} [Decidable P] (h : (if P then (1 : Int) else 0) = 0) : ¬ P := fun q => by rw [if_pos q] at h; omega
theorem i01t {P : Prop} [Decidable P] (h : (if P then (1 : Int) else 0) ≠ 0) : P := by
  by_cases q : P
  · exact q
  · rw [if_neg q] at h; omega
theorem i01R (P : Prop) [Decidable P] : jR (if P then (1 : Int) else 0) := by split <;> omega
theorem i01b (P : Prop) [Decidable P] : (if P then (1 : Int) else 0) = 0 ∨ (if P then (1 : Int) else 0) = 1 := by split <;> omega
theorem kd_R {c : Int} (h : jR c) : jR (kd c) := by unfold kd; split <;> omega
theorem kd_b {c : Int} (h : -1 ≤ c ∧ c < 40000) : -1 ≤ kd c ∧ kd c < 4 := by unfold kd; split <;> omega
abbrev i01 (P : Prop) [Decidable P] : Int := if P then 1 else 0
theorem dr_c {t : List Int} {i : Nat} (h : i < t.length) : t.drop i = t.getD i 0 :: t.drop (i + 1) := by
  rw [List.drop_eq_getElem_cons h, List.getD_eq_getElem?_getD, List.getElem?_eq_getElem h]; rfl
theorem dr_e {t : List Int} {i : Nat} (h : t.length ≤ i) : t.drop i = [] := List.drop_eq_nil_of_le h
/-- how many tokens of a kind: n ahead -/
def cntA : List Int → Int → Int → Int
  | [], _, n => n
  | c :: t, k, n => cntA t k (if kd c = k then n + 1 else n)
/-- the place among the numbers of the first token that is x; none: -1 -/
def ponA : List Int → Int → Int → Int
  | [], _, _ => -1
  | c :: t, x, n => if c = x then n else ponA t x (if kd c = 1 then n + 1 else n)
/-- the number at a place among the numbers; none: -1 -/
def napA : List Int → Int → Int
  | [], _ => -1
  | c :: t, n => if kd c = 1 then (if n = 0 then c else napA t (n - 1)) else napA t n
theorem cntA_b (t : List Int) (k n : Int) : n ≤ cntA t k n ∧ cntA t k n ≤ n + t.length := by
  induction t generalizing n with
  | nil => simp [cntA]
  | cons c t ih =>
    have h := ih (if kd c = k then n + 1 else n)
    have h1 : n ≤ (if kd c = k then n + 1 else n) ∧ (if kd c = k then n + 1 else n) ≤ n + 1 := by split <;> omega
    simp only [cntA, List.length_cons]
    omega
theorem ponA_b (t : List Int) (x n : Int) (hn : 0 ≤ n) : -1 ≤ ponA t x n ∧ ponA t x n < n + t.length + 1 := by
  induction t generalizing n with
  | nil => simp [ponA]; omega
  | cons c t ih =>
    have h := ih (if kd c = 1 then n + 1 else n) (by split <;> omega)
    have h1 : n ≤ (if kd c = 1 then n + 1 else n) ∧ (if kd c = 1 then n + 1 else n) ≤ n + 1 := by split <;> omega
    simp only [ponA, List.length_cons]
    split <;> omega
theorem napA_b {t : List Int} {f : Nat → Int} (h : TT t f) (n : Int) : -1 ≤ napA t n ∧ napA t n < 40000 := by
  have hb : ∀ c ∈ t, 0 ≤ c ∧ c < 40000 := by
    intro c hc
    obtain ⟨i, hi, e⟩ := List.getElem_of_mem hc
    have := h.b hi
    rw [List.getD_eq_getElem?_getD, List.getElem?_eq_getElem hi] at this
    rw [← e]; exact this
  clear h
  induction t generalizing n with
  | nil => simp [napA]
  | cons c t ih =>
    have h1 := hb c List.mem_cons_self
    simp only [napA]
    split
    · split
      · omega
      · exact ih _ (fun d hd => hb d (List.mem_cons_of_mem _ hd))
    · exact ih _ (fun d hd => hb d (List.mem_cons_of_mem _ hd))
