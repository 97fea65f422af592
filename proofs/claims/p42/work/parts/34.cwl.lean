/-! worlds: order doesn't matter; a unit, a segment cut out and laid back -/
theorem va_D.perm {A : Nat → Prop} {ws w1 : va_W} (h : va_D A ws) (hp : ws.Perm w1) : va_D A w1 := by
  have e : ∀ {u : va_W}, (∀ (i j : Nat) (p q : Nat × va_E), u[i]? = some p → u[j]? = some q → p.1 = q.1 → i = j) ↔ (u.map (·.1)).Nodup := by
    intro u
    rw [List.nodup_iff_pairwise_ne, List.pairwise_iff_getElem]
    constructor
    · intro h i j hi hj hij q
      rw [List.length_map] at hi hj
      rw [List.getElem_map, List.getElem_map] at q
      have := h i j _ _ (List.getElem?_eq_getElem hi) (List.getElem?_eq_getElem hj) q
      omega
    · intro h i j p q hp hq hpq
      obtain ⟨hi, ei⟩ := List.getElem?_eq_some_iff.mp hp
      obtain ⟨hj, ej⟩ := List.getElem?_eq_some_iff.mp hq
      rcases Nat.lt_trichotomy i j with g | g | g
      · exact absurd (by rw [List.getElem_map, List.getElem_map, ei, ej]; exact hpq) (h i j (by rw [List.length_map]; exact hi) (by rw [List.length_map]; exact hj) g)
      · exact g
      · exact absurd (by rw [List.getElem_map, List.getElem_map, ei, ej]; exact hpq.symm) (h j i (by rw [List.length_map]; exact hj) (by rw [List.length_map]; exact hi) g)
  refine ⟨e.mpr ((hp.map (·.1)).nodup_iff.mp (e.mp h.1)), fun k q hk => ?_⟩
  obtain ⟨j, hj⟩ := List.getElem?_of_mem (hp.mem_iff.mpr (List.mem_of_getElem? hk))
  exact h.2 j q hj
theorem PP.perm {g : GT} {ws w1 : va_W} {H : Heap} (h : PP g ws H) (hp : ws.Perm w1) : PP g w1 H := h.mem fun q hq => hp.mem_iff.mpr hq
theorem va_D.right {A : Nat → Prop} {a b : va_W} (h : va_D A (a ++ b)) : va_D A b := by
  refine ⟨fun i j p q hi hj e => ?_, fun k q hk => h.2 (a.length + k) q (by rw [List.getElem?_append_right (by omega), show a.length + k - a.length = k by omega]; exact hk)⟩
  have := h.1 (a.length + i) (a.length + j) p q (by rw [List.getElem?_append_right (by omega), show a.length + i - a.length = i by omega]; exact hi) (by rw [List.getElem?_append_right (by omega), show a.length + j - a.length = j by omega]; exact hj) e
  omega
theorem va_D.left {A : Nat → Prop} {a b : va_W} (h : va_D A (a ++ b)) : va_D A a := (h.perm (List.perm_append_comm)).right
/-- what lies behind the first cells isn't at their addresses -/
theorem jdisT {A : Nat → Prop} {ls tl rc : va_W} (hD : va_D A (ls ++ tl)) (hs : ∀ q ∈ rc, q ∈ tl) (js : List Nat) {ys : List Nat} (h2 : js.map (fun i => (ls[i]?).map (·.1)) = ys.map some) : ∀ x ∈ rc.map (·.1), x ∉ ys := by
  intro x hx hy
  obtain ⟨q, hq, rfl⟩ := List.mem_map.mp hx
  obtain ⟨k, hk⟩ := List.getElem?_of_mem (hs q hq)
  have hm : some q.1 ∈ js.map (fun i => (ls[i]?).map (·.1)) := by rw [h2]; exact List.mem_map.mpr ⟨_, hy, rfl⟩
  obtain ⟨j, -, hj⟩ := List.mem_map.mp hm
  cases e : ls[j]? with
  | none => rw [e] at hj; cases hj
  | some p =>
    rw [e] at hj
    have hl : j < ls.length := (List.getElem?_eq_some_iff.mp e).1
    have := hD.1 j (ls.length + k) p q (by rw [List.getElem?_append_left hl]; exact e) (by rw [List.getElem?_append_right (by omega), show ls.length + k - ls.length = k by omega]; exact hk) (Option.some.inj hj)
    omega
theorem flat_set {α β : Type} (f : α → List β) : ∀ (us : List α) (i : Nat) (u : α), us[i]? = some u → ∃ r : List β, (us.flatMap f).Perm (f u ++ r) ∧ (∀ u', (f u' ++ r).Perm ((us.set i u').flatMap f)) ∧ ∀ (j : Nat) (v : α), us[j]? = some v → j ≠ i → ∀ q ∈ f v, q ∈ r
  | [], i, u, h => by simp at h
  | x :: us, 0, u, h => by
    cases h
    refine ⟨us.flatMap f, by rw [List.flatMap_cons], fun u' => by rw [List.set_cons_zero, List.flatMap_cons], fun j v hj hn q hq => ?_⟩
    cases j with
    | zero => exact absurd rfl hn
    | succ j => exact List.mem_flatMap.mpr ⟨v, List.mem_of_getElem? hj, hq⟩
  | x :: us, i + 1, u, h => by
    obtain ⟨r, h1, h2, h3⟩ := flat_set f us i u h
    refine ⟨f x ++ r, ?_, fun u' => ?_, fun j v hj hn q hq => ?_⟩
    · rw [List.flatMap_cons]
      exact (List.Perm.append_left _ h1).trans (by rw [← List.append_assoc, ← List.append_assoc]; exact List.Perm.append_right _ List.perm_append_comm)
    · rw [List.set_cons_succ, List.flatMap_cons]
      exact (by rw [← List.append_assoc, ← List.append_assoc]; exact List.Perm.append_right _ List.perm_append_comm : (f u' ++ (f x ++ r)).Perm (f x ++ (f u' ++ r))).trans (List.Perm.append_left _ (h2 u'))
    · cases j with
      | zero => cases hj; exact List.mem_append_left _ hq
      | succ j => exact List.mem_append_right _ (h3 j v hj (by omega) q hq)
/-- a unit's cells cut out of a world that ends in the units, then what it may be behind -/
theorem MR.cut {g : GT} {us : List UR} {lw : va_W} {u : UR} {i : Nat} (h : us[i]? = some u) : ∃ r : va_W, (MR g us lw).Perm (uC g u ++ r) ∧ (∀ u', (uC g u' ++ r).Perm (MR g (us.set i u') lw)) ∧ ∀ q ∈ lw, q ∈ r := by
  obtain ⟨r, h1, h2, -⟩ := flat_set (uC g) us i u h
  have hc : ∀ (a b c : va_W), (a ++ (b ++ c)).Perm (b ++ (a ++ c)) := fun a b c => by rw [← List.append_assoc, ← List.append_assoc]; exact List.Perm.append_right _ List.perm_append_comm
  exact ⟨lw ++ r, (List.Perm.append_left lw h1).trans (hc _ _ _), fun u' => (hc _ _ _).trans (List.Perm.append_left lw (h2 u')), fun q hq => List.mem_append_left _ hq⟩
theorem DR.cut {g : GT} {ss : List SR} {lw : va_W} {u : SR} {i : Nat} (h : ss[i]? = some u) : ∃ r : va_W, (DR g ss lw).Perm (sC g u ++ r) ∧ (∀ u', (sC g u' ++ r).Perm (DR g (ss.set i u') lw)) ∧ (∀ q ∈ lw, q ∈ r) ∧ ∀ (j : Nat) (v : SR), ss[j]? = some v → j ≠ i → ∀ q ∈ sC g v, q ∈ r := by
  obtain ⟨r, h1, h2, h3⟩ := flat_set (sC g) ss i u h
  have hc : ∀ (a b c : va_W), (a ++ (b ++ c)).Perm (b ++ (a ++ c)) := fun a b c => by rw [← List.append_assoc, ← List.append_assoc]; exact List.Perm.append_right _ List.perm_append_comm
  exact ⟨lw ++ r, (List.Perm.append_left lw h1).trans (hc _ _ _), fun u' => (hc _ _ _).trans (List.Perm.append_left lw (h2 u')), fun q hq => List.mem_append_left _ hq, fun j v hj hn q hq => List.mem_append_right _ (h3 j v hj hn q hq)⟩
theorem pm_cut {ls M C r X : va_W} (h : M.Perm (C ++ r)) : (ls ++ (M ++ X)).Perm ((ls ++ C) ++ (r ++ X)) := by
  have := List.Perm.append_left ls (List.Perm.append_right X h)
  rw [List.append_assoc] at this ⊢
  exact this
theorem pm_back {ls M C r X : va_W} (h : (C ++ r).Perm M) : ((ls ++ C) ++ (r ++ X)).Perm (ls ++ (M ++ X)) := by
  have := List.Perm.append_left ls (List.Perm.append_right X h)
  rw [List.append_assoc] at this ⊢
  exact this
theorem pm_cutD {ls M D C r : va_W} (h : D.Perm (C ++ r)) : (ls ++ (M ++ D)).Perm ((ls ++ C) ++ (M ++ r)) := by
  have h1 := List.Perm.append_left ls (List.Perm.append_left M h)
  have h2 : (M ++ (C ++ r)).Perm (C ++ (M ++ r)) := by rw [← List.append_assoc, ← List.append_assoc]; exact List.Perm.append_right _ List.perm_append_comm
  have h3 := h1.trans (List.Perm.append_left ls h2)
  rw [List.append_assoc ls C]
  exact h3
theorem pm_backD {ls M D C r : va_W} (h : (C ++ r).Perm D) : ((ls ++ C) ++ (M ++ r)).Perm (ls ++ (M ++ D)) := (pm_cutD (ls := ls) (M := M) h.symm).symm
