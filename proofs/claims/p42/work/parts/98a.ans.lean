/-! answering: what holds behind -/
abbrev dSV : SV := ([], [], 0, 0, 0)
/-- how many of the first m get the answer of i -/
def co (v : Nat → SV) (i : Nat) (x : List Int) : Nat → Int
  | 0 => 0
  | m + 1 => co v i x m + if m ≠ i ∧ ¬ (v m).2.2.1 = 97 ∧ (v m).1 = x then 1 else 0
theorem co_b (v : Nat → SV) (i : Nat) (x : List Int) (k : Nat) : 0 ≤ co v i x k ∧ co v i x k ≤ k := by
  induction k with
  | zero => simp [co]
  | succ k ih => simp only [co]; split <;> omega
theorem co_congr {v w : Nat → SV} {i : Nat} {x : List Int} {n : Nat} (h : ∀ j, j < n → j ≠ i → v j = w j) : co v i x n = co w i x n := by
  induction n with
  | zero => rfl
  | succ n ih =>
    rw [co, co, ih (fun j hj => h j (by omega))]
    by_cases e : n = i
    · rw [if_neg (fun q => q.1 e), if_neg (fun q => q.1 e)]
    · rw [h n (by omega) e]
theorem getD_set {L : List SV} {m j : Nat} {v : SV} (hm : m < L.length) : (L.set m v).getD j dSV = if j = m then v else L.getD j dSV := by
  rw [List.getD_eq_getElem?_getD, List.getElem?_set]
  by_cases e : m = j
  · subst e
    rw [if_pos rfl, if_pos rfl, if_pos hm]; rfl
  · rw [if_neg e, if_neg (fun q => e q.symm), List.getD_eq_getElem?_getD]
theorem spP_at (L : List SV) (i : Nat) (x d : List Int) (m : Nat) (hm : m ≤ L.length) : (∀ j, (spP L i x d m).1.getD j dSV = if j < m ∧ j ≠ i ∧ ¬ (L.getD j dSV).2.2.1 = 97 ∧ (L.getD j dSV).1 = x then (x, d, 114, -1, 0) else L.getD j dSV) ∧ (spP L i x d m).2 = co (fun j => L.getD j dSV) i x m := by
  induction m with
  | zero => exact ⟨fun j => by rw [if_neg (fun q => absurd q.1 (Nat.not_lt_zero _))]; rfl, rfl⟩
  | succ m ih =>
    obtain ⟨h1, h2⟩ := ih (by omega)
    have hm1 : (spP L i x d m).1.getD m dSV = L.getD m dSV := by rw [h1 m, if_neg (fun q => absurd q.1 (Nat.lt_irrefl _))]
    have hl := spP_len L i x d m
    rw [spP, co, hm1]
    by_cases c : m ≠ i ∧ ¬ (L.getD m dSV).2.2.1 = 97 ∧ (L.getD m dSV).1 = x
    · rw [if_pos c, if_pos c]
      refine ⟨fun j => ?_, ?_⟩
      · show ((spP L i x d m).1.set m (x, d, 114, -1, 0)).getD j dSV = _
        rw [getD_set (by rw [hl]; omega)]
        by_cases e : j = m
        · subst e; rw [if_pos rfl, if_pos ⟨Nat.lt_succ_self _, c⟩]
        · rw [if_neg e, h1 j]
          by_cases q : j < m ∧ j ≠ i ∧ ¬ (L.getD j dSV).2.2.1 = 97 ∧ (L.getD j dSV).1 = x
          · rw [if_pos q, if_pos ⟨by omega, q.2⟩]
          · rw [if_neg q, if_neg (fun z => q ⟨by omega, z.2⟩)]
      · show (spP L i x d m).2 + 1 = _
        rw [h2]
    · rw [if_neg c, if_neg c]
      refine ⟨fun j => ?_, by rw [h2]; omega⟩
      rw [h1 j]
      by_cases e : j = m
      · subst e; rw [if_neg (fun q => absurd q.1 (Nat.lt_irrefl _)), if_neg (fun q => c q.2)]
      · by_cases q : j < m ∧ j ≠ i ∧ ¬ (L.getD j dSV).2.2.1 = 97 ∧ (L.getD j dSV).1 = x
        · rw [if_pos q, if_pos ⟨by omega, q.2⟩]
        · rw [if_neg q, if_neg (fun z => q ⟨by omega, z.2⟩)]
theorem ans_all {S : SGM} {doc y : List Int} {k : Nat} (hk : k < nS S) (h : SEGS S) (hU : UNI S) (hd : DOC S doc) (hy : 1 ≤ y.length) : ∃ T : SGM, T = nxAns (wD S y) (k : Int) ∧ nS T = nS S ∧ nU T = nU S + 1 ∧ T.1.length = 0 ∧ DOC T doc ∧ SEGS T ∧ UNI T ∧ uS T (nU S) = ((sS S k).1, y, 1) ∧ ((sS T k).2.1 = y ∧ (sS T k).2.2.1 = 97) ∧ (∀ j, (sS T j).1 = (sS S j).1) ∧ (∀ j, j < nS S → (sS S j).1 = (sS S k).1 → (sS T j).2.2.1 = 97 ∨ ((sS T j).2.2.1 = 114 ∧ (sS T j).2.1 = y)) ∧ vlAns (wD S y) (k : Int) = co (sS S) k (sS S k).1 (nS S) := by
  obtain ⟨L, hL⟩ : ∃ L, L = S.2.2.2.2.2.2.set k ((sS S k).1, y, 97, -1, 0) := ⟨_, rfl⟩
  have hLl : L.length = nS S := by rw [hL]; exact List.length_set
  have hLg : ∀ j, L.getD j dSV = if j = k then ((sS S k).1, y, 97, -1, 0) else sS S j := fun j => by rw [hL, getD_set hk]; rfl
  obtain ⟨h1, h2⟩ := spP_at L k (sS S k).1 y (nS S) (by omega)
  have hT : nxAns (wD S y) (k : Int) = wS (wU (wD S []) (S.2.2.2.2.2.1 ++ [((sS S k).1, y, 1)])) (spP L k (sS S k).1 y (nS S)).1 := by rw [hL]; rfl
  have hv : vlAns (wD S y) (k : Int) = (spP L k (sS S k).1 y (nS S)).2 := by rw [hL]; rfl
  obtain ⟨T, hTe⟩ : ∃ T, T = nxAns (wD S y) (k : Int) := ⟨_, rfl⟩
  have hTs : ∀ j, sS T j = if j = k then ((sS S k).1, y, 97, -1, 0) else if j < nS S ∧ ¬ (sS S j).2.2.1 = 97 ∧ (sS S j).1 = (sS S k).1 then ((sS S k).1, y, 114, -1, 0) else sS S j := by
    intro j
    have e : sS T j = (spP L k (sS S k).1 y (nS S)).1.getD j dSV := by rw [hTe, hT]; rfl
    rw [e, h1 j, hLg j]
    by_cases q : j = k
    · rw [if_pos q, if_neg (fun z => z.2.1 q), if_pos q]
    · rw [if_neg q]
      by_cases q2 : j < nS S ∧ ¬ (sS S j).2.2.1 = 97 ∧ (sS S j).1 = (sS S k).1
      · rw [if_pos q2, if_pos ⟨q2.1, q, q2.2⟩, if_neg q]
      · rw [if_neg q2, if_neg (fun z => q2 ⟨z.1, z.2.2⟩), if_neg q]
  have hn : nS T = nS S := by
    rw [hTe, hT]
    show (spP L k (sS S k).1 y (nS S)).1.length = _
    rw [spP_len, hLl]
  have htx : ∀ j, (sS T j).1 = (sS S j).1 := by
    intro j
    rw [hTs j]
    by_cases q : j = k
    · rw [if_pos q, q]
    · rw [if_neg q]
      by_cases q2 : j < nS S ∧ ¬ (sS S j).2.2.1 = 97 ∧ (sS S j).1 = (sS S k).1
      · rw [if_pos q2]; exact q2.2.2.symm
      · rw [if_neg q2]
  have hst : ∀ j, ¬ (sS S j).2.2.1 = 101 → ¬ (sS T j).2.2.1 = 101 := by
    intro j hj
    rw [hTs j]
    by_cases q : j = k
    · rw [if_pos q]; show ¬ (97 : Int) = 101; omega
    · rw [if_neg q]
      by_cases q2 : j < nS S ∧ ¬ (sS S j).2.2.1 = 97 ∧ (sS S j).1 = (sS S k).1
      · rw [if_pos q2]; show ¬ (114 : Int) = 101; omega
      · rw [if_neg q2]; exact hj
  have hk97 : (sS T k).2.1 = y ∧ (sS T k).2.2.1 = 97 := by rw [hTs k, if_pos rfl]; exact ⟨rfl, rfl⟩
  have hnu : nU T = nU S + 1 := by rw [hTe, hT]; exact List.length_append
  have hut : ∀ u, uS T u = (S.2.2.2.2.2.1 ++ [((sS S k).1, y, 1)]).getD u ([], [], 0) := fun u => by rw [hTe, hT]; rfl
  have hul : uS T (nU S) = ((sS S k).1, y, 1) := by
    rw [hut, List.getD_eq_getElem?_getD, List.getElem?_append_right (Nat.le_refl _)]
    simp
  refine ⟨T, hTe, hn, hnu, by rw [hTe]; rfl, hd.congr hn htx, ?_, ?_, hul, hk97, htx, ?_, ?_⟩
  · intro j hj
    rw [hn] at hj ⊢
    have hsj := h j hj
    by_cases q : j = k
    · rw [hTs j, if_pos q]
      exact ⟨by rw [q] at hsj; exact hsj.1, Or.inr ⟨hy, Or.inl rfl⟩⟩
    · by_cases q2 : j < nS S ∧ ¬ (sS S j).2.2.1 = 97 ∧ (sS S j).1 = (sS S k).1
      · have e : sS T j = ((sS S k).1, y, 114, -1, 0) := by rw [hTs j, if_neg q, if_pos q2]
        have hl := hsj.1
        rw [q2.2.2] at hl
        rw [e]
        exact ⟨hl, Or.inr ⟨hy, Or.inr (Or.inl ⟨rfl, rfl, k, hk, fun z => q z.symm, by rw [hk97.2]; omega, htx k⟩)⟩⟩
      · have e : sS T j = sS S j := by rw [hTs j, if_neg q, if_neg q2]
        rw [e]
        exact hsj.mono (fun i _ => ⟨htx i, hst i⟩)
  · intro u hu
    rw [hnu] at hu
    by_cases q : u = nU S
    · rw [q, hul]; exact hy
    · have e : uS T u = uS S u := by
        rw [hut, List.getD_eq_getElem?_getD, List.getElem?_append_left (by show u < nU S; omega), ← List.getD_eq_getElem?_getD]; rfl
      rw [e]
      exact hU u (by omega)
  · intro j hj hx
    rw [hTs j]
    by_cases q : j = k
    · rw [if_pos q]; exact Or.inl rfl
    · rw [if_neg q]
      by_cases q2 : (sS S j).2.2.1 = 97
      · rw [if_neg (fun z => z.2.1 q2)]; exact Or.inl q2
      · rw [if_pos ⟨hj, q2, hx⟩]; exact Or.inr ⟨rfl, rfl⟩
  · rw [hv, h2]
    exact co_congr (fun j _ hj => by show L.getD j dSV = _; rw [hLg j, if_neg hj])
theorem self_all {w : Nat → Int} {x : List Int} (h : WB w) (hx : CT x) (hn : 1 ≤ x.length) (u : UV) (hu : u.1 = x) : lk w x u.1 = 100 ∧ D w x u.1 x.length u.1.length = 0 := by
  obtain ⟨h1, h2, h3, h4, h5, h6⟩ := cmp_all (tm := (0, fun _ => 0, fun _ => 0)) h hx (y := u.1) (by rw [hu]; exact hx) hn u rfl
  have h7 : ed w x u.1 = 0 := by
    rcases h3 with q | q
    · exact q.1
    · have : i01 (x = u.1) = 1 := if_pos hu.symm
      omega
  exact ⟨h5.mpr h7, h1.trans h7⟩
theorem cdA_2 {S : SGM} {k : Nat} (hk : k < nS S) (h : S.1.length = 0) : cdAns S (k : Int) = 2 := by unfold cdAns; rw [if_neg (in_S hk), if_pos (Or.inl h)]
theorem cdA_0 {S : SGM} {k : Nat} (hk : k < nS S) (h : 1 ≤ S.1.length) (h2 : nU S < 40) : cdAns S (k : Int) = 0 := by unfold cdAns; rw [if_neg (in_S hk), if_neg (by omega)]
theorem cdA_1 {S : SGM} {k : Nat} (hk : nS S ≤ k) : cdAns S (k : Int) = 1 := if_pos (fun q => by omega)
