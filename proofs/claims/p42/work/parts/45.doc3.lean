theorem flat_cut2 {α β : Type} (f : α → List β) (p3 : ∀ x y z : List β, (x ++ (y ++ z)).Perm (y ++ (x ++ z))) : ∀ (us : List α) (i k : Nat) (u v : α), us[i]? = some u → us[k]? = some v → i ≠ k → ∃ r : List β, (us.flatMap f).Perm (f u ++ (f v ++ r)) ∧ (∀ u', (f u' ++ (f v ++ r)).Perm ((us.set i u').flatMap f))
  | [], i, k, u, v, h, _, _ => by simp at h
  | x :: us, 0, 0, u, v, _, _, hn => absurd rfl hn
  | x :: us, 0, k + 1, u, v, h, h2, _ => by
    cases h
    obtain ⟨r, h1, -, -⟩ := flat_set f us k v h2
    exact ⟨r, by rw [List.flatMap_cons]; exact List.Perm.append_left _ h1, fun u' => by rw [List.set_cons_zero, List.flatMap_cons]; exact List.Perm.append_left _ h1.symm⟩
  | x :: us, i + 1, 0, u, v, h, h2, _ => by
    cases h2
    obtain ⟨r, h1, h3, -⟩ := flat_set f us i u h
    exact ⟨r, by rw [List.flatMap_cons]; exact (List.Perm.append_left _ h1).trans (p3 _ _ _), fun u' => by rw [List.set_cons_succ, List.flatMap_cons]; exact (p3 _ _ _).trans (List.Perm.append_left _ (h3 u'))⟩
  | x :: us, i + 1, k + 1, u, v, h, h2, hn => by
    obtain ⟨r, h1, h3⟩ := flat_cut2 f p3 us i k u v h h2 (by omega)
    have e : ∀ w : List β, (f x ++ (w ++ (f v ++ r))).Perm (w ++ (f v ++ (f x ++ r))) := fun w => (p3 _ _ _).trans (List.Perm.append_left w (p3 _ _ _))
    refine ⟨f x ++ r, ?_, fun u' => ?_⟩
    · rw [List.flatMap_cons]; exact (List.Perm.append_left _ h1).trans (e (f u))
    · rw [List.set_cons_succ, List.flatMap_cons]; exact (e (f u')).symm.trans (List.Perm.append_left _ (h3 u'))
theorem DR.cut2 {g : GT} {ss : List SR} {lw : va_W} {u v : SR} {i k : Nat} (h : ss[i]? = some u) (h2 : ss[k]? = some v) (hn : i ≠ k) : ∃ r : va_W, (DR g ss lw).Perm (sC g u ++ (sC g v ++ r)) ∧ (∀ u', (sC g u' ++ (sC g v ++ r)).Perm (DR g (ss.set i u') lw)) ∧ ∀ q ∈ lw, q ∈ r := by
  obtain ⟨r, h1, h3⟩ := flat_cut2 (sC g) (fun x y z => pm3 x y z) ss i k u v h h2 hn
  have e : ∀ w : va_W, (lw ++ (w ++ (sC g v ++ r))).Perm (w ++ (sC g v ++ (lw ++ r))) := fun w => (pm3 _ _ _).trans (List.Perm.append_left w (pm3 _ _ _))
  exact ⟨lw ++ r, (List.Perm.append_left lw h1).trans (e _), fun u' => (e _).symm.trans (List.Perm.append_left lw (h3 u')), fun q hq => List.mem_append_left _ hq⟩
theorem spP_len (L : List SV) (i : Nat) (x d : List Int) : ∀ n, (spP L i x d n).1.length = L.length
  | 0 => rfl
  | n + 1 => by
    rw [spP]
    split
    · rw [List.length_set]; exact spP_len L i x d n
    · exact spP_len L i x d n
theorem getD_set_ne {α : Type} {L : List α} {n i : Nat} {a d : α} (h : n ≠ i) : (L.set n a).getD i d = L.getD i d := by
  rw [List.getD_eq_getElem?_getD, List.getD_eq_getElem?_getD, List.getElem?_set_ne h]
theorem spP_k (L : List SV) (i : Nat) (x d : List Int) (e : SV) : ∀ n, (spP L i x d n).1.getD i e = L.getD i e
  | 0 => rfl
  | n + 1 => by
    rw [spP]
    split
    · rename_i h
      rw [getD_set_ne h.1]; exact spP_k L i x d e n
    · exact spP_k L i x d e n
theorem spP_b (L : List SV) (i : Nat) (x d : List Int) : ∀ n, 0 ≤ (spP L i x d n).2 ∧ (spP L i x d n).2 ≤ n
  | 0 => ⟨Int.le_refl _, Int.le_refl _⟩
  | n + 1 => by
    have h := spP_b L i x d n
    rw [spP]
    split
    · exact ⟨by show 0 ≤ (spP L i x d n).2 + 1; omega, by show (spP L i x d n).2 + 1 ≤ ((n + 1 : Nat) : Int); omega⟩
    · exact ⟨h.1, by show (spP L i x d n).2 ≤ ((n + 1 : Nat) : Int); omega⟩
theorem spP_y {L : List SV} {i n : Nat} {x d t u : List Int} {st un sc : Int} (hv : (spP L i x d n).1.getD n ([], [], 0, 0, 0) = (t, u, st, un, sc)) (h1 : n ≠ i) (h2 : ¬ st = 97) (h3 : t = x) : spP L i x d (n + 1) = ((spP L i x d n).1.set n (x, d, 114, -1, 0), (spP L i x d n).2 + 1) := by
  rw [spP, hv]
  exact if_pos ⟨h1, h2, h3⟩
theorem spP_n {L : List SV} {i n : Nat} {x d t u : List Int} {st un sc : Int} (hv : (spP L i x d n).1.getD n ([], [], 0, 0, 0) = (t, u, st, un, sc)) (h : n = i ∨ st = 97 ∨ ¬ t = x) : spP L i x d (n + 1) = spP L i x d n := by
  rw [spP, hv]
  refine if_neg (fun q => ?_)
  rcases h with h | h | h
  · exact q.1 h
  · exact q.2.1 h
  · exact h q.2.2
theorem ctP_b (ab : Nat → Int) (t : List Int) : ∀ n, (ctP ab t n).2.1 ≤ n ∧ (ctP ab t n).1.length ≤ n
  | 0 => ⟨Nat.le_refl _, Nat.le_refl _⟩
  | n + 1 => by
    have h := ctP_b ab t n
    rw [ctP]
    split
    · refine ⟨Nat.le_refl _, ?_⟩
      rw [List.length_append, List.length_singleton]; omega
    · exact ⟨by have := h.1; show (ctP ab t n).2.1 ≤ n + 1; omega, by have := h.2; show (ctP ab t n).1.length ≤ n + 1; omega⟩
theorem ctP_y {ab : Nat → Int} {t : List Int} {n : Nat} (h : n + 1 = t.length ∨ (((ctP ab t n).2.2 || isE ab t (n : Int)) = true ∧ kd (tAt t ((n : Int) + 1)) ≠ 2)) : ctP ab t (n + 1) = ((ctP ab t n).1 ++ [(t.drop (ctP ab t n).2.1).take (n + 1 - (ctP ab t n).2.1)], n + 1, false) := by
  rw [ctP]; exact if_pos h
theorem ctP_n {ab : Nat → Int} {t : List Int} {n : Nat} (h1 : ¬ n + 1 = t.length) (h2 : ((ctP ab t n).2.2 || isE ab t (n : Int)) = true → kd (tAt t ((n : Int) + 1)) = 2) : ctP ab t (n + 1) = ((ctP ab t n).1, (ctP ab t n).2.1, (ctP ab t n).2.2 || isE ab t (n : Int)) := by
  rw [ctP]; exact if_neg (fun q => q.elim h1 (fun q => q.2 (h2 q.1)))
theorem pm_new1 {ls tl : va_W} {c : Nat × va_E} : ((ls ++ tl) ++ [c]).Perm ((ls ++ [c]) ++ tl) := by
  rw [List.append_assoc, List.append_assoc]; exact List.Perm.append_left ls List.perm_append_comm
theorem pm_last {wr wc tl : va_W} : ((wr ++ wc) ++ tl).Perm (wc ++ (wr ++ tl)) := by
  rw [List.append_assoc]; exact pm3 wr wc tl
theorem DR.push {g : GT} {ss : List SR} {u : SR} {lw ls : va_W} : (lw ++ ((ls ++ sC g u) ++ ss.flatMap (sC g))).Perm (ls ++ DR g (ss ++ [u]) lw) := by
  unfold DR
  rw [List.flatMap_append, List.flatMap_singleton, List.append_assoc]
  refine (pm3 _ _ _).trans (List.Perm.append_left ls ?_)
  exact List.Perm.append_left lw List.perm_append_comm
