/-! the reference's world -/
/-- a text in a row, from a place on -/
def RWS (f : Nat → Int) (b : Nat) (y : List Int) : Prop := y.length ≤ 60 ∧ ∀ j, j < y.length → f (b + j) = y.getD j 0 ∧ 0 ≤ y.getD j 0 ∧ y.getD j 0 < 40000
theorem RWS.len {f : Nat → Int} {b : Nat} {y : List Int} (h : RWS f b y) : y.length ≤ 60 := h.1
theorem RWS.at {f : Nat → Int} {b : Nat} {y : List Int} (h : RWS f b y) {j : Nat} (hj : j < y.length) : f (b + j) = y.getD j 0 := (h.2 j hj).1
theorem RWS.b {f : Nat → Int} {b : Nat} {y : List Int} (h : RWS f b y) {j : Nat} (hj : j < y.length) : 0 ≤ y.getD j 0 ∧ y.getD j 0 < 40000 := (h.2 j hj).2
theorem RWS.nil (f : Nat → Int) (b : Nat) : RWS f b [] := ⟨Nat.zero_le _, fun _ h => absurd h (Nat.not_lt_zero _)⟩
theorem TT.row {t : List Int} {f : Nat → Int} (h : TT t f) : RWS f 0 t := ⟨h.1, fun j hj => by rw [Nat.zero_add]; exact h.2 j hj⟩
/-- written elsewhere -/
theorem RWS.off {f f1 : Nat → Int} {b : Nat} {y : List Int} (h : RWS f b y) (he : ∀ j, j < 60 → f1 (b + j) = f (b + j)) : RWS f1 b y := ⟨h.1, fun j hj => by rw [he j (by have := h.1; omega)]; exact h.2 j hj⟩
theorem kd_n {c : Int} (h : 0 ≤ c) : kd c = c / 10000 := by unfold kd; rw [if_neg (by omega)]
theorem vl_n {c : Int} (h : 0 ≤ c) : vl c = c % 10000 := by unfold vl; rw [if_neg (by omega)]
/-- units, as rows -/
def MU (U : List UV) (f7 f8 f9 f10 f11 : Nat → Int) : Prop := ∀ j, j < U.length → f8 j = ((U.getD j ([], [], 0)).1.length : Int) ∧ RWS f7 (60 * j) (U.getD j ([], [], 0)).1 ∧ f10 j = ((U.getD j ([], [], 0)).2.1.length : Int) ∧ RWS f9 (60 * j) (U.getD j ([], [], 0)).2.1 ∧ f11 j = (U.getD j ([], [], 0)).2.2 ∧ (f11 j = 0 ∨ f11 j = 1)
/-- segments, as rows -/
def MD (L : List SV) (f12 f13 f14 f15 f16 f17 f18 : Nat → Int) : Prop := ∀ j, j < L.length → f13 (j + 1) = f13 j + ((L.getD j ([], [], 0, 0, 0)).1.length : Int) ∧ (0 ≤ f13 j ∧ f13 (j + 1) ≤ 60) ∧ RWS f12 (f13 j).toNat (L.getD j ([], [], 0, 0, 0)).1 ∧ (f14 j = (L.getD j ([], [], 0, 0, 0)).2.2.1 ∧ 0 ≤ f14 j ∧ f14 j < 65536) ∧ (¬ (L.getD j ([], [], 0, 0, 0)).2.2.2.1 = -1 → f15 j = (L.getD j ([], [], 0, 0, 0)).2.2.2.1 ∧ f16 j = (L.getD j ([], [], 0, 0, 0)).2.2.2.2) ∧ f18 j = ((L.getD j ([], [], 0, 0, 0)).2.1.length : Int) ∧ RWS f17 (60 * j) (L.getD j ([], [], 0, 0, 0)).2.1 ∧ ((L.getD j ([], [], 0, 0, 0)).2.2.2.1 = -1 ↔ ¬ (f14 j = 120 ∨ f14 j = 102)) ∧ (-1 ≤ (L.getD j ([], [], 0, 0, 0)).2.2.2.1 ∧ (L.getD j ([], [], 0, 0, 0)).2.2.2.1 < 60) ∧ (0 ≤ (L.getD j ([], [], 0, 0, 0)).2.2.2.2 ∧ (L.getD j ([], [], 0, 0, 0)).2.2.2.2 ≤ 100)
/-- the object -/
abbrev mob (ad : Nat → Nat) (th dn nt tn nu ns sz : Int) : Nat × va_E := ob (ad 0) 10 [vi th, .ref (ad 1), vi dn, .ref (ad 2), .ref (ad 3), vi nt, .ref (ad 4), .ref (ad 5), .ref (ad 6), vi tn, vi nu, .ref (ad 7), .ref (ad 8), .ref (ad 9), .ref (ad 10), .ref (ad 11), .ref (ad 12), vi ns, .ref (ad 13), .ref (ad 14), .ref (ad 15), .ref (ad 16), .ref (ad 17), .ref (ad 18), .ref (ad 19), vi sz, .ref (ad 20), .ref (ad 21), .ref (ad 22)]
theorem MU.at {U : List UV} {f7 f8 f9 f10 f11 : Nat → Int} (h : MU U f7 f8 f9 f10 f11) {j : Nat} (hj : j < U.length) : ∃ (x y : List Int) (v : Int), U.getD j ([], [], 0) = (x, y, v) ∧ f8 j = (x.length : Int) ∧ RWS f7 (60 * j) x ∧ f10 j = (y.length : Int) ∧ RWS f9 (60 * j) y ∧ f11 j = v ∧ (v = 0 ∨ v = 1) := by
  have h9 := h j hj
  generalize U.getD j ([], [], 0) = q at h9 ⊢
  obtain ⟨x, y, v⟩ := q
  obtain ⟨h1, h2, h3, h4, h5, h6⟩ := h9
  dsimp only at h5
  exact ⟨x, y, v, rfl, h1, h2, h3, h4, h5, by rw [← h5]; exact h6⟩
theorem MD.at {L : List SV} {f12 f13 f14 f15 f16 f17 f18 : Nat → Int} (h : MD L f12 f13 f14 f15 f16 f17 f18) {j : Nat} (hj : j < L.length) : ∃ (x y : List Int) (st un sc : Int) (b : Nat), L.getD j ([], [], 0, 0, 0) = (x, y, st, un, sc) ∧ f13 j = (b : Int) ∧ f13 (j + 1) = ((b + x.length : Nat) : Int) ∧ b + x.length ≤ 60 ∧ RWS f12 b x ∧ f14 j = st ∧ (0 ≤ st ∧ st < 65536) ∧ (¬ un = -1 → f15 j = un ∧ f16 j = sc) ∧ f18 j = (y.length : Int) ∧ RWS f17 (60 * j) y ∧ (un = -1 ↔ ¬ (st = 120 ∨ st = 102)) ∧ (-1 ≤ un ∧ un < 60) ∧ (0 ≤ sc ∧ sc ≤ 100) := by
  have h0 := h j hj
  generalize L.getD j ([], [], 0, 0, 0) = q at h0 ⊢
  obtain ⟨x, y, st, un, sc⟩ := q
  obtain ⟨h1, ⟨h2, h3⟩, h4, ⟨h5, h6⟩, h7, h8, h9, h10, h11, h12⟩ := h0
  dsimp only at h1 h4 h5 h7 h8 h9 h10 h11 h12
  refine ⟨x, y, st, un, sc, (f13 j).toNat, rfl, by omega, by omega, by omega, h4, h5, by rw [← h5]; exact h6, h7, h8, h9, by rw [← h5]; exact h10, h11, h12⟩
