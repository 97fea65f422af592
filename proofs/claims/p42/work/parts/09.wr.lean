/-! worlds that are written -/
def jA (wc : va_W) : Nat → Prop := fun q => ∃ (k : Nat) (e : va_E), wc[k]? = some (q, e)
theorem va_D.inA {A : Nat → Prop} {wc : va_W} (h : va_D A wc) {q : Nat} (hq : jA wc q) : A q := by
  obtain ⟨k, e, hk⟩ := hq
  exact h.2 k _ hk
theorem va_D.inD {A : Nat → Prop} {ws : va_W} (h : va_D A ws) : va_D (jA ws) ws := ⟨h.1, fun k q hk => ⟨k, q.2, hk⟩⟩
theorem jap {rc wc : va_W} (h : ∀ x ∈ rc.map (·.1), x ∉ wc.map (·.1)) : ∀ (k : Nat) (q : Nat × va_E), rc[k]? = some q → ¬ jA wc q.1 := by
  intro k q hk hq
  obtain ⟨j, e, hj⟩ := hq
  exact h q.1 (List.mem_map.mpr ⟨q, List.mem_of_getElem? hk, rfl⟩) (List.mem_map.mpr ⟨(q.1, e), List.mem_of_getElem? hj, rfl⟩)
theorem japS {rc wc : va_W} {sz : Nat} {g : GT} {H : Heap} (hP : PP g rc H) (hsz : H.size = sz) (h : ∀ x ∈ rc.map (·.1), x ∉ wc.map (·.1)) : ∀ (k : Nat) (q : Nat × va_E), rc[k]? = some q → ¬ va_A wc sz q.1 := by
  intro k q hk hq
  rcases hq with hq | hq
  · exact jap h k q hk hq
  · have := (hP k q hk).lt
    omega
theorem jdis {A : Nat → Prop} {ws : va_W} (hD : va_D A ws) (is js : List Nat) {xs ys : List Nat} (h1 : is.map (fun i => (ws[i]?).map (·.1)) = xs.map some) (h2 : js.map (fun i => (ws[i]?).map (·.1)) = ys.map some) (hd : ∀ i ∈ is, i ∉ js) : ∀ x ∈ xs, x ∉ ys := by
  intro x hx hy
  have e1 : some x ∈ xs.map some := List.mem_map.mpr ⟨x, hx, rfl⟩
  have e2 : some x ∈ ys.map some := List.mem_map.mpr ⟨x, hy, rfl⟩
  rw [← h1] at e1
  rw [← h2] at e2
  obtain ⟨i, hi, ei⟩ := List.mem_map.mp e1
  obtain ⟨j, hj, ej⟩ := List.mem_map.mp e2
  cases hwi : ws[i]? with
  | none => rw [hwi] at ei; cases ei
  | some p =>
    cases hwj : ws[j]? with
    | none => rw [hwj] at ej; cases ej
    | some q =>
      rw [hwi] at ei
      rw [hwj] at ej
      have h3 : p.1 = q.1 := (Option.some.inj ei).trans (Option.some.inj ej).symm
      have := hD.1 i j p q hwi hwj h3
      subst this
      exact hd i hi hj
/-- read cells that lie outside what may be written, against written ones -/
theorem jdisR {A : Nat → Prop} {ws rc : va_W} (hD : va_D A ws) (ha : ∀ (k : Nat) (q : Nat × va_E), rc[k]? = some q → ¬ A q.1) (is js : List Nat) {xs ys : List Nat} (h1 : is.map (fun i => (rc[i]?).map (·.1)) = xs.map some) (h2 : js.map (fun i => (ws[i]?).map (·.1)) = ys.map some) : ∀ x ∈ xs, x ∉ ys := by
  intro x hx hy
  have e1 : some x ∈ xs.map some := List.mem_map.mpr ⟨x, hx, rfl⟩
  have e2 : some x ∈ ys.map some := List.mem_map.mpr ⟨x, hy, rfl⟩
  rw [← h1] at e1
  rw [← h2] at e2
  obtain ⟨i, hi, ei⟩ := List.mem_map.mp e1
  obtain ⟨j, hj, ej⟩ := List.mem_map.mp e2
  cases hwi : rc[i]? with
  | none => rw [hwi] at ei; cases ei
  | some p =>
    cases hwj : ws[j]? with
    | none => rw [hwj] at ej; cases ej
    | some q =>
      rw [hwi] at ei
      rw [hwj] at ej
      have h3 : p.1 = q.1 := (Option.some.inj ei).trans (Option.some.inj ej).symm
      exact ha i p hwi (h3 ▸ hD.2 j q hwj)
def jset : va_W → List Nat → va_W → va_W
  | ws, [], _ => ws
  | ws, _ :: _, [] => ws
  | ws, i :: is, w :: w1 => jset (ws.set i w) is w1
theorem jset_fst : ∀ (is : List Nat) (w1 ws : va_W), is.map (fun i => (ws[i]?).map (·.1)) = w1.map (fun q => some q.1) → (jset ws is w1).map (·.1) = ws.map (·.1)
  | [], _, ws, _ => by rw [jset]
  | _ :: _, [], _, h => by simp at h
  | i :: is, w :: w1, ws, h => by
    simp only [List.map_cons, List.cons.injEq] at h
    have hi : (ws.set i w).map (·.1) = ws.map (·.1) := by
      apply List.ext_getElem?
      intro j
      rw [List.getElem?_map, List.getElem?_map, List.getElem?_set]
      split
      · next e =>
        subst e
        split
        · rw [h.1]; rfl
        · next hn => rw [List.getElem?_eq_none (by omega)]
      · rfl
    have h2 : is.map (fun j => ((ws.set i w)[j]?).map (·.1)) = w1.map (fun q => some q.1) := by
      rw [← h.2]
      apply List.map_congr_left
      intro j _
      have h9 := congrArg (fun l => l[j]?) hi
      simp only [List.getElem?_map] at h9
      exact h9
    show (jset (ws.set i w) is w1).map (·.1) = _
    rw [jset_fst is w1 _ h2, hi]
theorem jset_at : ∀ (is : List Nat) (w1 ws : va_W) (k : Nat) (q : Nat × va_E), (jset ws is w1)[k]? = some q → (∃ j : Nat, w1[j]? = some q) ∨ (k ∉ is ∧ ws[k]? = some q) ∨ (w1.length < is.length)
  | [], _, ws, k, q, h => Or.inr (Or.inl ⟨List.not_mem_nil, by rw [jset] at h; exact h⟩)
  | i :: is, [], ws, k, q, h => Or.inr (Or.inr (by simp))
  | i :: is, w :: w1, ws, k, q, h => by
    rcases jset_at is w1 (ws.set i w) k q h with ⟨j, hj⟩ | ⟨hk, hq⟩ | hl
    · exact Or.inl ⟨j + 1, by simpa using hj⟩
    · rw [List.getElem?_set] at hq
      split at hq
      · next e =>
        split at hq
        · exact Or.inl ⟨0, by simpa using hq⟩
        · cases hq
      · next e => exact Or.inr (Or.inl ⟨fun hm => (List.mem_cons.mp hm).elim (fun z => e z.symm) hk, hq⟩)
    · exact Or.inr (Or.inr (by simpa using hl))
theorem va_D.fst {A : Nat → Prop} {ws ws' : va_W} (h : va_D A ws) (e : ws'.map (·.1) = ws.map (·.1)) : va_D A ws' := by
  have key : ∀ (k : Nat) (q : Nat × va_E), ws'[k]? = some q → ∃ p, ws[k]? = some p ∧ p.1 = q.1 := by
    intro k q hk
    have h1 := congrArg (fun l => l[k]?) e
    simp only [List.getElem?_map, hk, Option.map_some] at h1
    cases hw : ws[k]? with
    | none => rw [hw] at h1; cases h1
    | some p => rw [hw] at h1; exact ⟨p, rfl, (Option.some.inj h1).symm⟩
  refine ⟨fun i j p q hi hj hpq => ?_, fun k q hk => ?_⟩
  · obtain ⟨p', h1, h2⟩ := key i p hi
    obtain ⟨q', h3, h4⟩ := key j q hj
    exact h.1 i j p' q' h1 h3 (h2.trans (hpq.trans h4.symm))
  · obtain ⟨p, h1, h2⟩ := key k q hk
    rw [← h2]
    exact h.2 k p h1
/-- behind a call that wrote the cells wc alone -/
theorem jput {g : GT} {A0 A1 : Nat → Prop} {ws wc w1 : va_W} {H H1 : Heap} (hP : PP g ws H) (hD : va_D A0 ws) (is : List Nat) (hC : is.map (fun i => ws[i]?) = wc.map some) (ha : w1.map (·.1) = wc.map (·.1)) (hk : ∀ q : Nat, q < H.size → ¬ A1 q → H1[q]? = H[q]?) (hA1 : ∀ q, q < H.size → A1 q → jA wc q) (h1 : PP g w1 H1) :
    PP g (jset ws is w1) H1 ∧ va_D A0 (jset ws is w1) := by
  have hf : is.map (fun i => (ws[i]?).map (·.1)) = w1.map (fun q => some q.1) := by
    have e1 : is.map (fun i => (ws[i]?).map (·.1)) = (is.map (fun i => ws[i]?)).map (fun o => o.map (·.1)) := by rw [List.map_map]; rfl
    have e2 : w1.map (fun q => some q.1) = (w1.map (·.1)).map some := by rw [List.map_map]; rfl
    rw [e1, e2, hC, ha, List.map_map, List.map_map]
    rfl
  have hlen : w1.length = is.length := by
    have := congrArg List.length hf
    simpa using this.symm
  refine ⟨fun k q hq => ?_, hD.fst (jset_fst is w1 ws hf)⟩
  rcases jset_at is w1 ws k q hq with ⟨j, hj⟩ | ⟨hk1, hk2⟩ | hl
  · exact h1 j q hj
  · refine (hP k q hk2).kept (hk q.1 (hP k q hk2).lt fun hq1 => ?_)
    obtain ⟨j, e, hj⟩ := hA1 q.1 (hP k q hk2).lt hq1
    have h2 : (is.map (fun i => ws[i]?))[j]? = some (some (q.1, e)) := by rw [hC, List.getElem?_map, hj]; rfl
    rw [List.getElem?_map] at h2
    cases hi : is[j]? with
    | none => rw [hi] at h2; cases h2
    | some i =>
      rw [hi] at h2
      have h3 : ws[i]? = some (q.1, e) := Option.some.inj h2
      have := hD.1 k i q (q.1, e) hk2 h3 rfl
      subst this
      exact hk1 (List.mem_of_getElem? hi)
  · omega
/-- texts that change -/
theorem TT.nil (f : Nat → Int) : TT [] f := ⟨by simp, fun j h => by simp at h⟩
theorem TT.push {t : List Int} {f : Nat → Int} (h : TT t f) (hl : t.length < 60) {x : Int} (hx : 0 ≤ x ∧ x < 40000) : TT (t ++ [x]) (ju f t.length x) := by
  refine ⟨by simp; omega, fun j hj => ?_⟩
  simp only [List.length_append, List.length_cons, List.length_nil] at hj
  by_cases e : j = t.length
  · subst e
    rw [ju_s, List.getD_eq_getElem?_getD, List.getElem?_append_right (Nat.le_refl _)]
    simp; exact hx
  · rw [ju_n _ _ e, List.getD_eq_getElem?_getD, List.getElem?_append_left (by omega), ← List.getD_eq_getElem?_getD]
    exact h.2 j (by omega)
theorem TT.setAt {t : List Int} {f : Nat → Int} (h : TT t f) (k : Nat) {x : Int} (hx : 0 ≤ x ∧ x < 40000) : TT (t.set k x) (ju f k x) := by
  refine ⟨by rw [List.length_set]; exact h.1, fun j hj => ?_⟩
  rw [List.length_set] at hj
  rw [List.getD_eq_getElem?_getD, List.getElem?_set]
  by_cases e : k = j
  · subst e
    rw [ju_s, if_pos rfl, if_pos hj]
    exact ⟨rfl, hx⟩
  · rw [ju_n _ _ (fun z => e z.symm), if_neg e, ← List.getD_eq_getElem?_getD]
    exact h.2 j hj
theorem tk_s {u : List Int} {a i : Nat} (h1 : a ≤ i) (h2 : i < u.length) : (u.drop a).take (i - a) ++ [u.getD i 0] = (u.drop a).take (i + 1 - a) := by
  rw [show i + 1 - a = (i - a) + 1 by omega, List.take_succ, List.getElem?_drop, show a + (i - a) = i by omega, List.getD_eq_getElem?_getD, List.getElem?_eq_getElem h2]
  rfl
theorem tk_l {u : List Int} {a i : Nat} (h1 : a ≤ i) (h2 : i ≤ u.length) : ((u.drop a).take (i - a)).length = i - a := by
  rw [List.length_take, List.length_drop]; omega
/-- a cell more, at the heap's end -/
theorem jnew {g : GT} {A : Nat → Prop} {ws : va_W} {H H1 H0 : Heap} {locs : List Loc} {q : Nat} {e : va_E} (hP : PP g ws H) (hD : va_D A ws) (hS : va_S A H0 H locs) (hA : ∀ q, H0.size ≤ q → A q) (hq : q = H.size) (e1 : va_at (gD g) cls (q, e) H1) (z1 : H1.size = H.size + 1) (o1 : ∀ q, q < H.size → H1[q]? = H[q]?) :
    PP g (ws ++ [(q, e)]) H1 ∧ va_D A (ws ++ [(q, e)]) ∧ va_S A H0 H1 locs := by
  refine ⟨(hP.kept fun k x hx => o1 x.1 (hP k x hx).lt).app (fun k x hx => ?_), hD.push hP hq (hA q (by rw [hq]; exact hS.1)), ⟨Nat.le_trans hS.1 (by omega), fun x h1 h2 => (o1 x (Nat.lt_of_lt_of_le h1 hS.1)).trans (hS.2.1 x h1 h2), hS.2.2⟩⟩
  have hz : k < 1 := (List.getElem?_eq_some_iff.mp hx).1
  obtain rfl : k = 0 := by omega
  cases hx
  exact e1
