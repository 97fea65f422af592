/-! the cost, row by row: D i j is the cost of the first i tokens and the first j -/
def D (w : Nat → Int) (x y : List Int) : Nat → Nat → Int
  | 0, 0 => 0
  | 0, j + 1 => D w x y 0 j + wk w (kd (y.getD j 0))
  | i + 1, 0 => D w x y i 0 + wk w (kd (x.getD i 0))
  | i + 1, j + 1 => min (min (D w x y i (j + 1) + wk w (kd (x.getD i 0))) (D w x y (i + 1) j + wk w (kd (y.getD j 0)))) (D w x y i j + rp w (x.getD i 0) (y.getD j 0))
termination_by i j => (i, j)
theorem D_b {w : Nat → Int} (h : WB w) (x y : List Int) (i j : Nat) : 0 ≤ D w x y i j ∧ D w x y i j ≤ 9 * ((i : Int) + j) := by
  induction i generalizing j with
  | zero =>
    induction j with
    | zero => simp [D]
    | succ j ih => have := wk_b h (kd (y.getD j 0)); rw [D]; omega
  | succ i ih =>
    induction j with
    | zero => have := wk_b h (kd (x.getD i 0)); have := ih 0; rw [D]; omega
    | succ j ih2 =>
      have h1 := wk_b h (kd (x.getD i 0)); have h2 := wk_b h (kd (y.getD j 0)); have h3 := ih (j + 1); have h4 := ih j
      have h5 := rp_b h (x.getD i 0) (y.getD j 0)
      rw [D]; omega
/-- the first n places of a row -/
def RW (w : Nat → Int) (x y : List Int) (h : Nat → Int) (i n : Nat) : Prop := ∀ k, k < n → h k = D w x y i k
def IN (w : Nat → Int) (y : List Int) (h : Nat → Int) (n : Nat) : Prop := ∀ k, k < n → h k = wk w (kd (y.getD k 0))
theorem IN.s {w : Nat → Int} {y : List Int} {h : Nat → Int} {n : Nat} (a : IN w y h n) : IN w y (ju h n (wk w (kd (y.getD n 0)))) (n + 1) := by
  intro k hk
  by_cases e : k = n
  · subst e; rw [ju_s]
  · rw [ju_n _ _ e]; exact a k (by omega)
theorem RW.z {w : Nat → Int} {x y : List Int} {h : Nat → Int} : RW w x y (ju h 0 0) 0 1 := by
  intro k hk
  obtain rfl : k = 0 := by omega
  rw [ju_s, D]
theorem RW.s0 {w : Nat → Int} {x y : List Int} {h : Nat → Int} {j : Nat} (hj : 1 ≤ j) (a : RW w x y h 0 j) : RW w x y (ju h j (D w x y 0 (j - 1) + wk w (kd (y.getD (j - 1) 0)))) 0 (j + 1) := by
  intro k hk
  by_cases e : k = j
  · subst e
    rw [ju_s]
    obtain ⟨j', rfl⟩ : ∃ j', k = j' + 1 := ⟨k - 1, by omega⟩
    rw [D]; rfl
  · rw [ju_n _ _ e]; exact a k (by omega)
theorem RW.f {w : Nat → Int} {x y : List Int} {h : Nat → Int} {i : Nat} : RW w x y (ju h 0 (D w x y i 0 + wk w (kd (x.getD i 0)))) (i + 1) 1 := by
  intro k hk
  obtain rfl : k = 0 := by omega
  rw [ju_s, D]
theorem RW.s {w : Nat → Int} {x y : List Int} {h : Nat → Int} {i j : Nat} (hj : 1 ≤ j) (a : RW w x y h (i + 1) j) :
    RW w x y (ju h j (min (min (D w x y i j + wk w (kd (x.getD i 0))) (D w x y (i + 1) (j - 1) + wk w (kd (y.getD (j - 1) 0)))) (D w x y i (j - 1) + rp w (x.getD i 0) (y.getD (j - 1) 0)))) (i + 1) (j + 1) := by
  intro k hk
  by_cases e : k = j
  · subst e
    rw [ju_s]
    obtain ⟨j', rfl⟩ : ∃ j', k = j' + 1 := ⟨k - 1, by omega⟩
    rw [D]; rfl
  · rw [ju_n _ _ e]; exact a k (by omega)
/-- the cost, from the ends -/
def ed (w : Nat → Int) : List Int → List Int → Int
  | [], [] => 0
  | [], d :: y => ed w [] y + wk w (kd d)
  | c :: x, [] => ed w x [] + wk w (kd c)
  | c :: x, d :: y => min (min (ed w x (d :: y) + wk w (kd c)) (ed w (c :: x) y + wk w (kd d))) (ed w x y + rp w c d)
termination_by x y => (x.length + y.length)
theorem ed_b {w : Nat → Int} (h : WB w) (x y : List Int) : 0 ≤ ed w x y ∧ ed w x y ≤ 9 * ((x.length : Int) + y.length) := by
  induction x generalizing y with
  | nil =>
    induction y with
    | nil => simp [ed]
    | cons d y ih => have := wk_b h (kd d); rw [ed]; simp only [List.length_cons, List.length_nil] at *; omega
  | cons c x ih =>
    induction y with
    | nil => have := wk_b h (kd c); have := ih []; rw [ed]; simp only [List.length_cons, List.length_nil] at *; omega
    | cons d y ih2 =>
      have h1 := wk_b h (kd c); have h2 := wk_b h (kd d); have h3 := ih (d :: y); have h4 := ih y; have h5 := rp_b h c d
      rw [ed]; simp only [List.length_cons] at *; omega
/-- the row of the suffixes from n on, behind i tokens of x -/
def SW (w : Nat → Int) (x y : List Int) (h : Nat → Int) (i n : Nat) : Prop := ∀ k, n ≤ k → k ≤ y.length → h k = ed w (x.drop i) (y.drop k)
def INt (w : Nat → Int) (y : List Int) (h : Nat → Int) (n : Nat) : Prop := ∀ k, n ≤ k → k < y.length → h k = wk w (kd (y.getD k 0))
theorem INt.s {w : Nat → Int} {y : List Int} {h : Nat → Int} {n : Nat} (a : INt w y h (n + 1)) : INt w y (ju h n (wk w (kd (y.getD n 0)))) n := by
  intro k hk hl
  by_cases e : k = n
  · subst e; rw [ju_s]
  · rw [ju_n _ _ e]; exact a k (by omega) hl
theorem SW.z {w : Nat → Int} {x y : List Int} {h : Nat → Int} : SW w x y (ju h y.length 0) x.length y.length := by
  intro k hk hl
  obtain rfl : k = y.length := by omega
  rw [ju_s, dr_e (Nat.le_refl _), dr_e (Nat.le_refl _), ed]
theorem SW.s0 {w : Nat → Int} {x y : List Int} {h : Nat → Int} {j : Nat} (hj : j < y.length) (a : SW w x y h x.length (j + 1)) : SW w x y (ju h j (ed w [] (y.drop (j + 1)) + wk w (kd (y.getD j 0)))) x.length j := by
  intro k hk hl
  by_cases e : k = j
  · subst e; rw [ju_s, dr_e (Nat.le_refl _), dr_c hj, ed]
  · rw [ju_n _ _ e]; exact a k (by omega) hl
theorem SW.f {w : Nat → Int} {x y : List Int} {h : Nat → Int} {i : Nat} (hi : i < x.length) : SW w x y (ju h y.length (ed w (x.drop (i + 1)) [] + wk w (kd (x.getD i 0)))) i y.length := by
  intro k hk hl
  obtain rfl : k = y.length := by omega
  rw [ju_s, dr_e (Nat.le_refl _), dr_c hi, ed]
theorem SW.s {w : Nat → Int} {x y : List Int} {h : Nat → Int} {i j : Nat} (hi : i < x.length) (hj : j < y.length) (a : SW w x y h i (j + 1)) :
    SW w x y (ju h j (min (min (ed w (x.drop (i + 1)) (y.drop j) + wk w (kd (x.getD i 0))) (ed w (x.drop i) (y.drop (j + 1)) + wk w (kd (y.getD j 0)))) (ed w (x.drop (i + 1)) (y.drop (j + 1)) + rp w (x.getD i 0) (y.getD j 0)))) i j := by
  intro k hk hl
  by_cases e : k = j
  · subst e; rw [ju_s, dr_c hi, dr_c hj, ed]
  · rw [ju_n _ _ e]; exact a k (by omega) hl
/-- likeness out of what was paid -/
def lkf (w : Nat → Int) (x y : List Int) (paid : Int) : Int := if max (wtA w x 0) (wtA w y 0) ≤ 0 ∨ max (wtA w x 0) (wtA w y 0) ≤ paid then 0 else 100 * (max (wtA w x 0) (wtA w y 0) - paid) / max (wtA w x 0) (wtA w y 0)
theorem lkf_b (w : Nat → Int) (x y : List Int) {paid : Int} (h : 0 ≤ paid) : 0 ≤ lkf w x y paid ∧ lkf w x y paid ≤ 100 := by
  unfold lkf
  generalize max (wtA w x 0) (wtA w y 0) = W
  split
  · omega
  · next hn =>
    refine ⟨Int.ediv_nonneg (by omega) (by omega), ?_⟩
    have : 100 * (W - paid) / W ≤ 100 * W / W := Int.ediv_le_ediv (by omega) (by omega)
    rw [Int.mul_ediv_cancel _ (by omega)] at this
    exact this
/-- at least so much: tokens of a kind too many -/
def calA (w : Nat → Int) (x y : List Int) : Nat → Int
  | 0 => 0
  | k + 1 => calA w x y k + (if 0 ≤ cntA x k 0 - cntA y k 0 then cntA x k 0 - cntA y k 0 else 0 - (cntA x k 0 - cntA y k 0)) * wk w k
theorem mul_b {a b m n : Int} (ha : 0 ≤ a) (ha2 : a ≤ m) (hb : 0 ≤ b) (hb2 : b ≤ n) : 0 ≤ a * b ∧ a * b ≤ m * n :=
  ⟨Int.mul_nonneg ha hb, Int.mul_le_mul ha2 hb2 hb (by omega)⟩
theorem calA_b {w : Nat → Int} (h : WB w) {x y : List Int} (hx : x.length ≤ 60) (hy : y.length ≤ 60) (k : Nat) : 0 ≤ calA w x y k ∧ calA w x y k ≤ 540 * k := by
  induction k with
  | zero => simp [calA]
  | succ k ih =>
    have h1 := cntA_b x k 0
    have h2 := cntA_b y k 0
    have h3 := wk_b h (k : Int)
    have h4 : 0 ≤ (if 0 ≤ cntA x k 0 - cntA y k 0 then cntA x k 0 - cntA y k 0 else 0 - (cntA x k 0 - cntA y k 0)) ∧ (if 0 ≤ cntA x k 0 - cntA y k 0 then cntA x k 0 - cntA y k 0 else 0 - (cntA x k 0 - cntA y k 0)) ≤ 60 := by split <;> omega
    have h5 := mul_b h4.1 h4.2 h3.1 h3.2
    simp only [calA]
    omega
theorem tAt_p {t : List Int} {j : Nat} (h1 : 1 ≤ j) (h2 : j ≤ t.length) : tAt t ((j : Int) - 1) = t.getD (j - 1) 0 := by
  rw [show ((j : Int) - 1) = ((j - 1 : Nat) : Int) by omega]
  exact tAt_in (by omega)
theorem INt.t {w : Nat → Int} {y : List Int} {h : Nat → Int} {j : Nat} (h1 : 1 ≤ j) (a : INt w y h j) : INt w y (ju h (j - 1) (wk w (kd (y.getD (j - 1) 0)))) (j - 1) :=
  INt.s (by rw [show j - 1 + 1 = j by omega]; exact a)
theorem SW.t0 {w : Nat → Int} {x y : List Int} {h : Nat → Int} {j : Nat} (h1 : 1 ≤ j) (h2 : j ≤ y.length) (a : SW w x y h x.length j) : SW w x y (ju h (j - 1) (ed w [] (y.drop j) + wk w (kd (y.getD (j - 1) 0)))) x.length (j - 1) := by
  have := SW.s0 (w := w) (x := x) (y := y) (h := h) (j := j - 1) (by omega) (by rw [show j - 1 + 1 = j by omega]; exact a)
  rwa [show j - 1 + 1 = j by omega] at this
theorem SW.tf {w : Nat → Int} {x y : List Int} {h : Nat → Int} {i : Nat} (h1 : 1 ≤ i) (h2 : i ≤ x.length) : SW w x y (ju h y.length (ed w (x.drop i) [] + wk w (kd (x.getD (i - 1) 0)))) (i - 1) y.length := by
  have := SW.f (w := w) (x := x) (y := y) (h := h) (i := i - 1) (by omega)
  rwa [show i - 1 + 1 = i by omega] at this
theorem SW.t {w : Nat → Int} {x y : List Int} {h : Nat → Int} {i j : Nat} (h1 : 1 ≤ i) (h2 : i ≤ x.length) (h3 : 1 ≤ j) (h4 : j ≤ y.length) (a : SW w x y h (i - 1) j) :
    SW w x y (ju h (j - 1) (min (min (ed w (x.drop i) (y.drop (j - 1)) + wk w (kd (x.getD (i - 1) 0))) (ed w (x.drop (i - 1)) (y.drop j) + wk w (kd (y.getD (j - 1) 0)))) (ed w (x.drop i) (y.drop j) + rp w (x.getD (i - 1) 0) (y.getD (j - 1) 0)))) (i - 1) (j - 1) := by
  have := SW.s (w := w) (x := x) (y := y) (h := h) (i := i - 1) (j := j - 1) (by omega) (by omega) (by rw [show j - 1 + 1 = j by omega]; exact a)
  rwa [show j - 1 + 1 = j by omega, show i - 1 + 1 = i by omega] at this
theorem SW.nil {w : Nat → Int} {x y : List Int} {h : Nat → Int} {i : Nat} (a : SW w x y h i (y.length)) : h y.length = ed w (x.drop i) [] := by
  rw [a y.length (Nat.le_refl _) (Nat.le_refl _), dr_e (Nat.le_refl _)]
theorem SW.nil2 {w : Nat → Int} {x y : List Int} {h : Nat → Int} {n : Nat} (a : SW w x y h x.length n) {k : Nat} (h1 : n ≤ k) (h2 : k ≤ y.length) : h k = ed w [] (y.drop k) := by
  rw [a k h1 h2, dr_e (Nat.le_refl _)]
theorem SW.le {w : Nat → Int} {x y : List Int} {h : Nat → Int} {i n m : Nat} (a : SW w x y h i n) (hn : n ≤ m) : SW w x y h i m := fun k h1 h2 => a k (by omega) h2
def lk (w : Nat → Int) (x y : List Int) : Int := lkf w x y (D w x y x.length y.length)
theorem lk_b {w : Nat → Int} (h : WB w) (x y : List Int) : 0 ≤ lk w x y ∧ lk w x y ≤ 100 := lkf_b w x y (D_b h x y _ _).1
