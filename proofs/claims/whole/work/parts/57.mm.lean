theorem TT.of_eq {t : List Int} {f h : Nat → Int} (ht : TT t f) (e : ∀ j, j < t.length → h j = t.getD j 0) : TT t h := ⟨ht.1, fun j hj => ⟨e j hj, ht.b hj⟩⟩
theorem RWS.tt {f h : Nat → Int} {b : Nat} {y : List Int} (hy : RWS f b y) (e : ∀ j, j < y.length → h j = y.getD j 0) : TT y h := ⟨hy.1, fun j hj => ⟨e j hj, hy.b hj⟩⟩
/-- a row written one place further -/
theorem ju_pre {h : Nat → Int} {y : List Int} {i b : Nat} {v : Int} (hF : ∀ j, j < i → h (b + j) = y.getD j 0) (hv : v = y.getD i 0) : ∀ j, j < i + 1 → ju h (b + i) v (b + j) = y.getD j 0 := by
  intro j hj
  by_cases e : j = i
  · subst e; rw [ju_s]; exact hv
  · rw [ju_n _ _ (by omega)]; exact hF j (by omega)
theorem D_00 (w : Nat → Int) (x y : List Int) : D w x y 0 0 = 0 := by rw [D]
theorem D_0j (w : Nat → Int) (x y : List Int) {j : Nat} (h : 1 ≤ j) : D w x y 0 j = D w x y 0 (j - 1) + wk w (kd (y.getD (j - 1) 0)) := by
  obtain ⟨j, rfl⟩ : ∃ q, j = q + 1 := ⟨j - 1, by omega⟩
  rw [D]; rfl
theorem D_i0 (w : Nat → Int) (x y : List Int) {i : Nat} (h : 1 ≤ i) : D w x y i 0 = D w x y (i - 1) 0 + wk w (kd (x.getD (i - 1) 0)) := by
  obtain ⟨i, rfl⟩ : ∃ q, i = q + 1 := ⟨i - 1, by omega⟩
  rw [D]; rfl
theorem D_ij (w : Nat → Int) (x y : List Int) {i j : Nat} (h : 1 ≤ i) (h2 : 1 ≤ j) : D w x y i j = min (min (D w x y (i - 1) j + wk w (kd (x.getD (i - 1) 0))) (D w x y i (j - 1) + wk w (kd (y.getD (j - 1) 0)))) (D w x y (i - 1) (j - 1) + rp w (x.getD (i - 1) 0) (y.getD (j - 1) 0)) := by
  obtain ⟨i, rfl⟩ : ∃ q, i = q + 1 := ⟨i - 1, by omega⟩
  obtain ⟨j, rfl⟩ : ∃ q, j = q + 1 := ⟨j - 1, by omega⟩
  rw [D]; rfl
theorem rp_far {w : Nat → Int} {c d : Int} (h : ¬ kd c = kd d) : rp w c d = 1000000 := by
  unfold rp
  rw [if_neg (fun q => h (by rw [q])), if_pos h]
/-- rows of costs, one place further -/
theorem cost_s {w : Nat → Int} {x y : List Int} {h : Nat → Int} {i j : Nat} {v : Int} (hC : ∀ a c, a < i → c ≤ y.length → h (61 * a + c) = D w x y a c) (hE : ∀ c, c < j → h (61 * i + c) = D w x y i c) (hj : j ≤ y.length) (hy : y.length ≤ 60) (hv : v = D w x y i j) :
    (∀ a c, a < i → c ≤ y.length → ju h (61 * i + j) v (61 * a + c) = D w x y a c) ∧ (∀ c, c < j + 1 → ju h (61 * i + j) v (61 * i + c) = D w x y i c) := by
  constructor
  · intro a c ha hc
    rw [ju_n _ _ (by omega)]; exact hC a c ha hc
  · intro c hc
    by_cases e : c = j
    · subst e; rw [ju_s]; exact hv
    · rw [ju_n _ _ (by omega)]; exact hE c (by omega)
theorem tk_1 {t : List Int} {i : Nat} (h : i < t.length) : t.take (i + 1) = t.take i ++ [t.getD i 0] := by
  rw [List.take_add_one, List.getElem?_eq_getElem h, List.getD_eq_getElem?_getD, List.getElem?_eq_getElem h]; rfl
theorem mem_tk {t : List Int} {i : Nat} {c : Int} (h : i < t.length) : c ∈ t.take (i + 1) ↔ c ∈ t.take i ∨ t.getD i 0 = c := by
  rw [tk_1 h, List.mem_append, List.mem_singleton]
  exact ⟨fun q => q.imp id Eq.symm, fun q => q.imp id Eq.symm⟩
theorem i01_eq {P Q : Prop} [Decidable P] [Decidable Q] (h : P ↔ Q) : i01 P = i01 Q := by
  by_cases p : P
  · show (if P then (1 : Int) else 0) = if Q then 1 else 0
    rw [if_pos p, if_pos (h.mp p)]
  · show (if P then (1 : Int) else 0) = if Q then 1 else 0
    rw [if_neg p, if_neg (fun q => p (h.mpr q))]
theorem i01_1 {P : Prop} [Decidable P] (h : P) : (1 : Int) = i01 P := (if_pos h).symm
theorem i01_0 {P : Prop} [Decidable P] (h : ¬ P) : (0 : Int) = i01 P := (if_neg h).symm
