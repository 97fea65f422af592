/-! segments: address; text's address and row's; target's; tokens and rows; state, filling unit, filling score -/
abbrev SR := Nat × Nat × Nat × Nat × Nat × List Int × (Nat → Int) × List Int × (Nat → Int) × Int × Int × Int
abbrev SV := List Int × List Int × Int × Int × Int
def sA (u : SR) : Nat := u.1
def sV (u : SR) : SV := (u.2.2.2.2.2.1, u.2.2.2.2.2.2.2.1, u.2.2.2.2.2.2.2.2.2)
def sC (g : GT) : SR → va_W
  | (a, tx, txc, ty, tyc, t, f, u, f2, st, un, sc) => [ob a 4 [.ref tx, .ref ty, vi st, vi un, vi sc], ob tx 6 [.ref txc, vi (t.length : Int)], aI g txc 60 f, ob ty 6 [.ref tyc, vi (u.length : Int)], aI g tyc 60 f2]
def SOK : SR → Prop
  | (_, _, _, _, _, t, f, u, f2, st, un, sc) => TT t f ∧ TT u f2 ∧ (0 ≤ st ∧ st < 65536) ∧ (-1 ≤ un ∧ un < 60) ∧ (0 ≤ sc ∧ sc ≤ 100)
def DR (g : GT) (ss : List SR) (lw : va_W) : va_W := lw ++ ss.flatMap (sC g)
theorem DR.l {g : GT} {ss : List SR} {lw : va_W} : ∀ q ∈ lw, q ∈ DR g ss lw := fun _ h => List.mem_append_left _ h
theorem DR.u {g : GT} {ss : List SR} {lw : va_W} {u : SR} {i : Nat} (h : ss[i]? = some u) : ∀ q ∈ sC g u, q ∈ DR g ss lw := fun _ hq => List.mem_append_right _ (List.mem_flatMap.mpr ⟨u, List.mem_of_getElem? h, hq⟩)
theorem sA_get {ss : List SR} {u : SR} {i : Nat} (h : ss[i]? = some u) : (ss.map sA).getD i 0 = sA u := by
  rw [List.getD_eq_getElem?_getD, List.getElem?_map, h]; rfl
def sv (ss : List SR) (j : Nat) : SV := (ss.map sV).getD j ([], [], 0, 0, 0)
theorem sv_get {ss : List SR} {u : SR} {i : Nat} (h : ss[i]? = some u) : sv ss i = sV u := by
  unfold sv
  rw [List.getD_eq_getElem?_getD, List.getElem?_map, h]; rfl
/-- is one of the first k equal to it -/
def eqb (v : Nat → SV) (x : List Int) : Nat → Prop
  | 0 => False
  | k + 1 => eqb v x k ∨ (v k).1 = x
def eqB (v : Nat → SV) (x : List Int) (k : Nat) : Bool := (List.range k).any (fun j => decide ((v j).1 = x))
theorem eqB_iff {v : Nat → SV} {x : List Int} {k : Nat} : eqB v x k = true ↔ ∃ j, j < k ∧ (v j).1 = x := by
  unfold eqB
  rw [List.any_eq_true]
  constructor
  · rintro ⟨j, h1, h2⟩; exact ⟨j, List.mem_range.mp h1, of_decide_eq_true h2⟩
  · rintro ⟨j, h1, h2⟩; exact ⟨j, List.mem_range.mpr h1, decide_eq_true h2⟩
/-- the first of k that is filled and equal, from j on; none: -1 -/
def ffA (v : Nat → SV) (x : List Int) (k : Nat) : Nat → Int
  | 0 => -1
  | n + 1 => if ¬ (v (k - (n + 1))).2.2.1 = 101 ∧ (v (k - (n + 1))).1 = x then ((k - (n + 1) : Nat) : Int) else ffA v x k n
/-- how many are not empty of the first k -/
def cne (v : Nat → SV) : Nat → Int
  | 0 => 0
  | k + 1 => cne v k + if (v k).2.2.1 = 101 then 0 else 1
theorem cne_b (v : Nat → SV) (k : Nat) : 0 ≤ cne v k ∧ cne v k ≤ k := by
  induction k with
  | zero => simp [cne]
  | succ k ih => simp only [cne]; split <;> omega
theorem ffA_s {v : Nat → SV} {x : List Int} {k i : Nat} (h : i < k) : ffA v x k (k - i) = if ¬ (v i).2.2.1 = 101 ∧ (v i).1 = x then (i : Int) else ffA v x k (k - (i + 1)) := by
  obtain ⟨n, hn⟩ : ∃ n, k - i = n + 1 := ⟨k - i - 1, by omega⟩
  rw [hn, ffA, show k - (n + 1) = i by omega, show n = k - (i + 1) by omega]
