/-! units: address; source's address and row's; target's; tokens and rows; alive -/
abbrev UR := Nat × Nat × Nat × Nat × Nat × List Int × (Nat → Int) × List Int × (Nat → Int) × Int
abbrev UV := List Int × List Int × Int
def uA (u : UR) : Nat := u.1
def uV (u : UR) : UV := (u.2.2.2.2.2.1, u.2.2.2.2.2.2.2.1, u.2.2.2.2.2.2.2.2.2)
def uC (g : GT) : UR → va_W
  | (ua, us, usc, ut, utc, s, fs, t, ft, lv) => [ob ua 7 [.ref us, .ref ut, vi lv], ob us 6 [.ref usc, vi (s.length : Int)], aI g usc 60 fs, ob ut 6 [.ref utc, vi (t.length : Int)], aI g utc 60 ft]
def UOK : UR → Prop
  | (_, _, _, _, _, s, fs, t, ft, lv) => TT s fs ∧ TT t ft ∧ (lv = 0 ∨ lv = 1)
/-- the memory's list and its units -/
def MR (g : GT) (us : List UR) (lw : va_W) : va_W := lw ++ us.flatMap (uC g)
theorem PP.mem {g : GT} {ws w1 : va_W} {H : Heap} (h : PP g ws H) (hs : ∀ q ∈ w1, q ∈ ws) : PP g w1 H := by
  intro k q hk
  obtain ⟨j, hj⟩ := List.getElem?_of_mem (hs q (List.mem_of_getElem? hk))
  exact h j q hj
theorem ap_mem {A : Nat → Prop} {ws w1 : va_W} (h : ∀ (k : Nat) (q : Nat × va_E), ws[k]? = some q → ¬ A q.1) (hs : ∀ q ∈ w1, q ∈ ws) : ∀ (k : Nat) (q : Nat × va_E), w1[k]? = some q → ¬ A q.1 := by
  intro k q hk
  obtain ⟨j, hj⟩ := List.getElem?_of_mem (hs q (List.mem_of_getElem? hk))
  exact h j q hj
theorem MR.l {g : GT} {us : List UR} {lw : va_W} : ∀ q ∈ lw, q ∈ MR g us lw := fun _ h => List.mem_append_left _ h
theorem MR.u {g : GT} {us : List UR} {lw : va_W} {u : UR} {i : Nat} (h : us[i]? = some u) : ∀ q ∈ uC g u, q ∈ MR g us lw := fun _ hq => List.mem_append_right _ (List.mem_flatMap.mpr ⟨u, List.mem_of_getElem? h, hq⟩)
theorem uA_get {us : List UR} {u : UR} {i : Nat} (h : us[i]? = some u) : (us.map uA).getD i 0 = uA u := by
  rw [List.getD_eq_getElem?_getD, List.getElem?_map, h]; rfl
def uv (us : List UR) (j : Nat) : UV := (us.map uV).getD j ([], [], 0)
theorem uv_get {us : List UR} {u : UR} {i : Nat} (h : us[i]? = some u) : uv us i = uV u := by
  unfold uv
  rw [List.getD_eq_getElem?_getD, List.getElem?_map, h]; rfl
/-- how many are alive of the first k -/
def clv (v : Nat → UV) : Nat → Int
  | 0 => 0
  | k + 1 => clv v k + if (v k).2.2 = 0 then 0 else 1
theorem clv_b (v : Nat → UV) (k : Nat) : 0 ≤ clv v k ∧ clv v k ≤ k := by
  induction k with
  | zero => simp [clv]
  | succ k ih => simp only [clv]; split <;> omega
/-- the likenesses of those alive, together -/
def slv (w : Nat → Int) (t : List Int) (v : Nat → UV) : Nat → Int
  | 0 => 0
  | k + 1 => slv w t v k + if (v k).2.2 = 0 then 0 else lk w t (v k).1
theorem slv_b {w : Nat → Int} (h : WB w) (t : List Int) (v : Nat → UV) (k : Nat) : 0 ≤ slv w t v k ∧ slv w t v k ≤ 100 * k := by
  induction k with
  | zero => simp [slv]
  | succ k ih => have := lk_b h t (v k).1; simp only [slv]; split <;> omega
def lm (a m : Int) : Int := max 0 (a - 10 * m)
abbrev bt (r a r2 a2 : Int) : Prop := r2 < r ∨ (r = r2 ∧ a2 < a)
/-- terms: how many, their sources, their targets -/
abbrev TM := Nat × (Nat → Int) × (Nat → Int)
def ms (tm : TM) (t u : List Int) : Int := cm tm.2.1 tm.2.2 t u tm.1
def rate (w : Nat → Int) (tm : TM) (t : List Int) (u : UV) : Int := lm (lk w t u.1) (ms tm t u.2.1)
abbrev F3 := Int × Int × Int
def faS (w : Nat → Int) (tm : TM) (t : List Int) (u : UV) (k : Nat) (x : F3) : F3 := if (¬ u.2.2 = 0 ∧ 1 ≤ rate w tm t u) ∧ ¬ bt x.2.1 x.2.2 (rate w tm t u) (lk w t u.1) then ((k : Int), rate w tm t u, lk w t u.1) else x
def fa (w : Nat → Int) (tm : TM) (t : List Int) (v : Nat → UV) : Nat → F3
  | 0 => (-1, 0, 0)
  | k + 1 => faS w tm t (v k) k (fa w tm t v k)
def lkB (w : Nat → Int) (t u : List Int) : Int := lkf w t u (calA w t u 4)
def fbS (w : Nat → Int) (tm : TM) (t : List Int) (u : UV) (k : Nat) (x : F3) : F3 :=
  if u.2.2 = 0 then x else if ¬ bt (lm (lkB w t u.1) (ms tm t u.2.1)) (lkB w t u.1) x.2.1 x.2.2 then x else if bt (rate w tm t u) (lk w t u.1) x.2.1 x.2.2 then ((k : Int), rate w tm t u, lk w t u.1) else x
/-- the state of the search from the highest number down, j of n looked at -/
def fb (w : Nat → Int) (tm : TM) (t : List Int) (v : Nat → UV) (n : Nat) : Nat → F3
  | 0 => (-1, 0, 100)
  | j + 1 => fbS w tm t (v (n - 1 - j)) (n - 1 - j) (fb w tm t v n j)
theorem lm_b {a m : Int} (ha : 0 ≤ a ∧ a ≤ 100) (hm : 0 ≤ m) : 0 ≤ lm a m ∧ lm a m ≤ 100 := by unfold lm; omega
theorem rate_b {w : Nat → Int} (h : WB w) (tm : TM) (t : List Int) (u : UV) : 0 ≤ rate w tm t u ∧ rate w tm t u ≤ 100 := lm_b (lk_b h t u.1) (cm_b _ _ _ _ _).1
def F3b (n : Nat) (x : F3) : Prop := (-1 ≤ x.1 ∧ x.1 < n) ∧ (0 ≤ x.2.1 ∧ x.2.1 ≤ 100) ∧ (0 ≤ x.2.2 ∧ x.2.2 ≤ 100)
theorem fa_b {w : Nat → Int} (h : WB w) (tm : TM) (t : List Int) (v : Nat → UV) (k : Nat) : F3b k (fa w tm t v k) := by
  induction k with
  | zero => rw [fa]; exact ⟨⟨by decide, by decide⟩, ⟨by decide, by decide⟩, by decide, by decide⟩
  | succ k ih =>
    obtain ⟨h1, h2, h3⟩ := ih
    have h4 := rate_b h tm t (v k); have h5 := lk_b h t (v k).1
    rw [fa, faS]
    split
    · exact ⟨⟨by show -1 ≤ (k : Int); omega, by show (k : Int) < _; omega⟩, h4, h5⟩
    · exact ⟨⟨h1.1, by omega⟩, h2, h3⟩
theorem fb_b {w : Nat → Int} (h : WB w) (tm : TM) (t : List Int) (v : Nat → UV) (n j : Nat) (hj : j ≤ n) : F3b n (fb w tm t v n j) := by
  induction j with
  | zero => rw [fb]; exact ⟨⟨by show (-1 : Int) ≤ -1; omega, by show (-1 : Int) < _; omega⟩, ⟨by decide, by decide⟩, by decide, by decide⟩
  | succ j ih =>
    obtain ⟨h1, h2, h3⟩ := ih (by omega)
    have h4 := rate_b h tm t (v (n - 1 - j)); have h5 := lk_b h t (v (n - 1 - j)).1
    rw [fb, fbS]
    split
    · exact ⟨h1, h2, h3⟩
    · split
      · exact ⟨h1, h2, h3⟩
      · split
        · exact ⟨⟨by show -1 ≤ ((n - 1 - j : Nat) : Int); omega, by show ((n - 1 - j : Nat) : Int) < _; omega⟩, h4, h5⟩
        · exact ⟨h1, h2, h3⟩
section STEP
variable {w : Nat → Int} {tm : TM} {t s0 t0 : List Int} {lv : Int} {k : Nat} {x : F3}
theorem fbS_0 (h : lv = 0) : x = fbS w tm t (s0, t0, lv) k x := by unfold fbS; rw [if_pos h]
theorem fbS_1 (h : ¬ lv = 0) (h1 : ¬ bt (lm (lkB w t s0) (ms tm t t0)) (lkB w t s0) x.2.1 x.2.2) : x = fbS w tm t (s0, t0, lv) k x := by unfold fbS; rw [if_neg h, if_pos h1]
theorem fbS_2 (h : ¬ lv = 0) (h1 : bt (lm (lkB w t s0) (ms tm t t0)) (lkB w t s0) x.2.1 x.2.2) (h2 : ¬ bt (lm (lk w t s0) (ms tm t t0)) (lk w t s0) x.2.1 x.2.2) : x = fbS w tm t (s0, t0, lv) k x := by unfold fbS; rw [if_neg h, if_neg (fun q => q h1)]; exact (if_neg h2).symm
theorem fbS_3 (h : ¬ lv = 0) (h1 : bt (lm (lkB w t s0) (ms tm t t0)) (lkB w t s0) x.2.1 x.2.2) (h2 : bt (lm (lk w t s0) (ms tm t t0)) (lk w t s0) x.2.1 x.2.2) : ((k : Int), lm (lk w t s0) (ms tm t t0), lk w t s0) = fbS w tm t (s0, t0, lv) k x := by unfold fbS; rw [if_neg h, if_neg (fun q => q h1)]; exact (if_pos h2).symm
theorem faS_0 (h : lv = 0 ∨ lm (lk w t s0) (ms tm t t0) < 1 ∨ bt x.2.1 x.2.2 (lm (lk w t s0) (ms tm t t0)) (lk w t s0)) : x = faS w tm t (s0, t0, lv) k x := by
  unfold faS
  refine (if_neg fun q => ?_).symm
  rcases h with h | h | h
  · exact q.1.1 h
  · have := q.1.2; exact absurd this (Int.not_le.mpr h)
  · exact q.2 h
theorem faS_1 (h : ¬ lv = 0) (h1 : 1 ≤ lm (lk w t s0) (ms tm t t0)) (h2 : ¬ bt x.2.1 x.2.2 (lm (lk w t s0) (ms tm t t0)) (lk w t s0)) : ((k : Int), lm (lk w t s0) (ms tm t t0), lk w t s0) = faS w tm t (s0, t0, lv) k x := by
  unfold faS
  exact (if_pos ⟨⟨h, h1⟩, h2⟩).symm
end STEP
/-- an opaque world outside what may be written, against written cells -/
theorem jdisA {A : Nat → Prop} {ws rc : va_W} (hD : va_D A ws) (ha : ∀ (k : Nat) (q : Nat × va_E), rc[k]? = some q → ¬ A q.1) (js : List Nat) {ys : List Nat} (h2 : js.map (fun i => (ws[i]?).map (·.1)) = ys.map some) : ∀ x ∈ rc.map (·.1), x ∉ ys := by
  intro x hx hy
  obtain ⟨p, hp, ep⟩ := List.mem_map.mp hx
  obtain ⟨k, hk⟩ := List.getElem?_of_mem hp
  have e2 : some x ∈ ys.map some := List.mem_map.mpr ⟨x, hy, rfl⟩
  rw [← h2] at e2
  obtain ⟨j, hj, ej⟩ := List.mem_map.mp e2
  cases hwj : ws[j]? with
  | none => rw [hwj] at ej; cases ej
  | some q =>
    rw [hwj] at ej
    have h3 : q.1 = x := Option.some.inj ej
    refine ha k p hk ?_
    rw [ep, ← h3]
    exact hD.2 j q hwj
