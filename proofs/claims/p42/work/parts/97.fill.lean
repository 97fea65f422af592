/-! filling: what holds of the segments before and behind -/
theorem sS_set {S : SGM} {m : Nat} {v : SV} (hm : m < nS S) (k : Nat) : sS (wS S (S.2.2.2.2.2.2.set m v)) k = if k = m then v else sS S k := by
  unfold sS
  show (S.2.2.2.2.2.2.set m v).getD k ([], [], 0, 0, 0) = _
  rw [List.getD_eq_getElem?_getD, List.getElem?_set]
  by_cases e : m = k
  · subst e
    rw [if_pos rfl, if_pos rfl, if_pos hm]; rfl
  · rw [if_neg e, if_neg (fun q => e q.symm), List.getD_eq_getElem?_getD]
/-- a segment's state, target, unit, score: in a document of n, w the segments -/
def SEG (n : Nat) (w : Nat → SV) (k : Nat) (v : SV) : Prop :=
  1 ≤ v.1.length ∧ (v.2.2.1 = 101 ∨ (1 ≤ v.2.1.length ∧ (v.2.2.1 = 97 ∨ (v.2.2.1 = 114 ∧ v.2.2.2.1 = -1 ∧ ∃ j, j < n ∧ j ≠ k ∧ ¬ (w j).2.2.1 = 101 ∧ (w j).1 = v.1) ∨ ((v.2.2.1 = 120 ∨ v.2.2.1 = 102) ∧ 0 ≤ v.2.2.2.1 ∧ 1 ≤ v.2.2.2.2 ∧ (v.2.2.1 = 120 ↔ v.2.2.2.2 = 100)))))
def SEGS (S : SGM) : Prop := ∀ k, k < nS S → SEG (nS S) (sS S) k (sS S k)
def UNI (S : SGM) : Prop := ∀ u, u < nU S → 1 ≤ (uS S u).2.1.length
theorem SEG.mono {n k : Nat} {w w1 : Nat → SV} {v : SV} (h : SEG n w k v) (h1 : ∀ j, j < n → (w1 j).1 = (w j).1 ∧ (¬ (w j).2.2.1 = 101 → ¬ (w1 j).2.2.1 = 101)) : SEG n w1 k v := by
  obtain ⟨h2, h3⟩ := h
  refine ⟨h2, ?_⟩
  rcases h3 with h3 | ⟨h4, h5⟩
  · exact Or.inl h3
  · refine Or.inr ⟨h4, ?_⟩
    rcases h5 with h5 | ⟨h5, h6, j, h7, h8, h9, h10⟩ | h5
    · exact Or.inl h5
    · exact Or.inr (Or.inl ⟨h5, h6, j, h7, h8, (h1 j h7).2 h9, (h1 j h7).1.trans h10⟩)
    · exact Or.inr (Or.inr h5)
theorem SEG.tgt {n k : Nat} {w : Nat → SV} {v : SV} (h : SEG n w k v) (h1 : ¬ v.2.2.1 = 101) : 1 ≤ v.2.1.length := (h.2.resolve_left h1).1
/-- how many of the first k are empty -/
def ce (v : Nat → SV) : Nat → Int
  | 0 => 0
  | k + 1 => ce v k + if (v k).2.2.1 = 101 then 1 else 0
theorem ce_b (v : Nat → SV) (k : Nat) : 0 ≤ ce v k ∧ ce v k ≤ k := by
  induction k with
  | zero => simp [ce]
  | succ k ih => simp only [ce]; split <;> omega
theorem ce_congr {v w : Nat → SV} {k : Nat} (h : ∀ j, j < k → v j = w j) : ce v k = ce w k := by
  induction k with
  | zero => rfl
  | succ k ih => rw [ce, ce, ih (fun j hj => h j (by omega)), h k (by omega)]
theorem ce_set {v w : Nat → SV} {m n : Nat} (hm : m < n) (h : ∀ j, j ≠ m → w j = v j) (h1 : (v m).2.2.1 = 101) (h2 : ¬ (w m).2.2.1 = 101) : ce v n = ce w n + 1 := by
  induction n with
  | zero => exact absurd hm (Nat.not_lt_zero _)
  | succ n ih =>
    rw [ce, ce]
    by_cases e : m = n
    · subst e
      rw [if_pos h1, if_neg h2, ce_congr (v := w) (w := v) (fun j hj => h j (by omega))]
      omega
    · rw [h n (fun q => e q.symm), ih (by omega)]
      omega
theorem ffA_congr {v w : Nat → SV} {x : List Int} {k n : Nat} (h : ∀ j, j < k → v j = w j) (hn : n ≤ k) : ffA v x k n = ffA w x k n := by
  induction n with
  | zero => rfl
  | succ n ih => rw [ffA, ffA, h _ (by omega), ih (by omega)]
def FIL (th : Int) (S T : SGM) (m : Nat) (c : Int) : Prop :=
  (∃ L, T = wS S L) ∧ nS T = nS S ∧ (∀ k, (sS T k).1 = (sS S k).1) ∧ (∀ k, m ≤ k → sS T k = sS S k) ∧ SEGS T ∧ (ce (sS S) (nS S) = ce (sS T) (nS S) + c ∧ 0 ≤ c) ∧ (∀ k, k < m → (sS T k).2.2.1 = 101 → ffA (sS T) (sS T k).1 k k = -1 ∧ (bsU T (sS T k).1 = -1 ∨ rate T.2.2.2.1 T.2.2.2.2.1 (sS T k).1 (ug T (bsU T (sS T k).1)) < th))
theorem fil_0 {th : Int} {S : SGM} (h : SEGS S) : FIL th S S 0 0 :=
  ⟨⟨S.2.2.2.2.2.2, rfl⟩, rfl, fun _ => rfl, fun _ _ => rfl, h, ⟨by omega, by omega⟩, fun k hk => absurd hk (Nat.not_lt_zero _)⟩
/-- one segment more that is not filled -/
theorem fil_n {th : Int} {S T : SGM} {m : Nat} {c : Int} (h : FIL th S T m c) (h1 : (sS T m).2.2.1 = 101 → ffA (sS T) (sS T m).1 m m = -1 ∧ (bsU T (sS T m).1 = -1 ∨ rate T.2.2.2.1 T.2.2.2.2.1 (sS T m).1 (ug T (bsU T (sS T m).1)) < th)) : FIL th S T (m + 1) (c + 0) := by
  obtain ⟨a1, a2, a3, a4, a5, a6, a7⟩ := h
  refine ⟨a1, a2, a3, fun k hk => a4 k (by omega), a5, ⟨by omega, by omega⟩, fun k hk => ?_⟩
  by_cases e : k = m
  · subst e; exact h1
  · exact a7 k (by omega)
/-- one that is -/
theorem fil_y {th : Int} {S T : SGM} {m : Nat} {c : Int} {v : SV} (h : FIL th S T m c) (hm : m < nS S) (h1 : (sS T m).2.2.1 = 101) (h2 : ¬ v.2.2.1 = 101) (h3 : v.1 = (sS T m).1) (h4 : SEG (nS T) (sS T) m v) : FIL th S (wS T (T.2.2.2.2.2.2.set m v)) (m + 1) (c + 1) := by
  obtain ⟨⟨L, a1⟩, a2, a3, a4, a5, a6, a7⟩ := h
  have hm2 : m < nS T := by omega
  have hset := fun k => sS_set (v := v) hm2 k
  have hn : nS (wS T (T.2.2.2.2.2.2.set m v)) = nS T := List.length_set
  have htx : ∀ k, (sS (wS T (T.2.2.2.2.2.2.set m v)) k).1 = (sS T k).1 := by
    intro k
    rw [hset k]
    by_cases e : k = m
    · rw [if_pos e, e]; exact h3
    · rw [if_neg e]
  have hmo : ∀ j, j < nS T → (sS (wS T (T.2.2.2.2.2.2.set m v)) j).1 = (sS T j).1 ∧ (¬ (sS T j).2.2.1 = 101 → ¬ (sS (wS T (T.2.2.2.2.2.2.set m v)) j).2.2.1 = 101) := by
    intro j hj
    refine ⟨htx j, fun q => ?_⟩
    rw [hset j]
    by_cases e : j = m
    · rw [if_pos e]; exact h2
    · rw [if_neg e]; exact q
  refine ⟨⟨T.2.2.2.2.2.2.set m v, by rw [a1]⟩, hn.trans a2, fun k => (htx k).trans (a3 k), fun k hk => ?_, ?_, ?_, ?_⟩
  · rw [hset k, if_neg (by omega)]; exact a4 k (by omega)
  · intro k hk
    rw [hn] at hk ⊢
    by_cases e : k = m
    · rw [hset k, if_pos e, e]; exact h4.mono hmo
    · have := (a5 k hk).mono hmo
      rw [hset k, if_neg e]; exact this
  · have := ce_set (v := sS T) (w := sS (wS T (T.2.2.2.2.2.2.set m v))) hm (fun j hj => by rw [hset j, if_neg hj]) h1 (by rw [hset m, if_pos rfl]; exact h2)
    omega
  · intro k hk hq
    by_cases e : k = m
    · subst e
      rw [hset k, if_pos rfl] at hq
      exact absurd hq h2
    · have e1 : sS (wS T (T.2.2.2.2.2.2.set m v)) k = sS T k := by rw [hset k, if_neg e]
      rw [e1] at hq ⊢
      have h9 := a7 k (by omega) hq
      refine ⟨?_, h9.2⟩
      rw [← h9.1]
      exact ffA_congr (fun j hj => by rw [hset j, if_neg (by omega)]) (Nat.le_refl _)
theorem fl1_len (t s u : List Int) : (fl1 t s u).length = u.length := by
  unfold fl1
  split
  · rw [List.length_map]
  · rfl
theorem bsU_b {S : SGM} (h : WB S.2.2.2.1) (x : List Int) : -1 ≤ bsU S x ∧ bsU S x < nU S := (fa_b h S.2.2.2.2.1 x (uS S) (nU S)).1
theorem fil_s {th : Int} {S T : SGM} {m : Nat} {c : Int} (h : FIL th S T m c) (hm : m < nS S) (hU : UNI T) (hw : WB T.2.2.2.1) (hth : 1 ≤ th) : FIL th S (flS th T m).1 (m + 1) (c + (flS th T m).2) := by
  have a2 := h.2.1
  have hseg := h.2.2.2.2.1 m (by omega)
  unfold flS
  by_cases c1 : (sS T m).2.2.1 = 101
  · rw [if_neg (fun q => q c1)]
    rcases ffA_b (sS T) (sS T m).1 m m (Nat.le_refl _) with q | ⟨j, q1, q2, q3, q4⟩
    · rw [if_neg (fun z => z q)]
      by_cases c2 : bsU T (sS T m).1 = -1
      · rw [if_pos c2]; exact fil_n h (fun _ => ⟨q, Or.inl c2⟩)
      · rw [if_neg c2]
        by_cases c3 : rate T.2.2.2.1 T.2.2.2.2.1 (sS T m).1 (ug T (bsU T (sS T m).1)) < th
        · rw [if_pos c3]; exact fil_n h (fun _ => ⟨q, Or.inr c3⟩)
        · rw [if_neg c3]
          have hb := bsU_b hw (sS T m).1
          have ht := hU (bsU T (sS T m).1).toNat (by omega)
          generalize rate T.2.2.2.1 T.2.2.2.2.1 (sS T m).1 (ug T (bsU T (sS T m).1)) = r at c3 ⊢
          refine fil_y h hm c1 ?_ rfl ⟨hseg.1, Or.inr ⟨?_, Or.inr (Or.inr ⟨?_, ?_, ?_, ?_⟩)⟩⟩
          · show ¬ (if r = 100 then (120 : Int) else 102) = 101
            split <;> omega
          · show 1 ≤ (fl1 _ _ _).length
            rw [fl1_len]; exact ht
          · show (if r = 100 then (120 : Int) else 102) = 120 ∨ (if r = 100 then (120 : Int) else 102) = 102
            split <;> omega
          · show 0 ≤ bsU T (sS T m).1
            omega
          · show 1 ≤ r
            omega
          · show (if r = 100 then (120 : Int) else 102) = 120 ↔ r = 100
            split <;> omega
    · have e : ¬ ffA (sS T) (sS T m).1 m m = -1 := by rw [q2]; omega
      rw [if_pos e, q2]
      have hj := h.2.2.2.2.1 j (by omega)
      refine fil_y h hm c1 (by show ¬ (114 : Int) = 101; omega) rfl ⟨hseg.1, Or.inr ⟨hj.tgt q3, Or.inr (Or.inl ⟨rfl, rfl, j, by omega, by omega, q3, q4⟩)⟩⟩
  · rw [if_pos c1]; exact fil_n h (fun q => absurd q c1)
theorem fil_p {th : Int} {S : SGM} (h : SEGS S) (hU : UNI S) (hw : WB S.2.2.2.1) (hth : 1 ≤ th) (m : Nat) (hm : m ≤ nS S) : FIL th S (flP th S m).1 m (flP th S m).2 := by
  induction m with
  | zero => exact fil_0 h
  | succ m ih =>
    have ih := ih (by omega)
    rw [flP]
    obtain ⟨L, hL⟩ := ih.1
    refine fil_s ih (by omega) ?_ ?_ hth
    · rw [hL]; exact hU
    · rw [hL]; exact hw
theorem flP_0 {th : Int} {T : SGM} {n : Nat} (h : ∀ k, k < n → (sS T k).2.2.1 = 101 → ffA (sS T) (sS T k).1 k k = -1 ∧ (bsU T (sS T k).1 = -1 ∨ rate T.2.2.2.1 T.2.2.2.2.1 (sS T k).1 (ug T (bsU T (sS T k).1)) < th)) (m : Nat) (hm : m ≤ n) : flP th T m = (T, 0) := by
  induction m with
  | zero => rfl
  | succ m ih =>
    rw [flP, ih (by omega)]
    have e : flS th T m = (T, 0) := by
      unfold flS
      by_cases c1 : (sS T m).2.2.1 = 101
      · obtain ⟨h1, h2⟩ := h m (by omega) c1
        rw [if_neg (fun q => q c1), if_neg (fun q => q h1)]
        by_cases c2 : bsU T (sS T m).1 = -1
        · rw [if_pos c2]
        · rw [if_neg c2, if_pos (h2.resolve_left c2)]
      · rw [if_pos c1]
    show ((flS th T m).1, 0 + (flS th T m).2) = _
    rw [e]; rfl
theorem pf_congr {v w : Nat → SV} {n : Nat} (h : ∀ k, (v k).1 = (w k).1) : pf v n = pf w n := by
  induction n with
  | zero => rfl
  | succ n ih => rw [pf, pf, ih, h n]
theorem DOC.congr {S T : SGM} {doc : List Int} (h : DOC S doc) (hn : nS T = nS S) (ht : ∀ k, (sS T k).1 = (sS S k).1) : DOC T doc := by
  refine ⟨fun k hk => ?_, ?_⟩
  · rw [pf_congr ht, ht k]; exact h.1 k (by omega)
  · rw [pf_congr ht, hn]; exact h.2
/-- all that filling gives -/
theorem fill_all {th : Int} {S : SGM} {doc : List Int} (h : SEGS S) (hU : UNI S) (hw : WB S.2.2.2.1) (hd : DOC S doc) (hth : 1 ≤ th) : ∃ T : SGM, T = (flP th S (nS S)).1 ∧ nS T = nS S ∧ nU T = nU S ∧ T.1 = S.1 ∧ DOC T doc ∧ SEGS T ∧ UNI T ∧ (ce (sS S) (nS S) = ce (sS T) (nS S) + (flP th S (nS S)).2 ∧ 0 ≤ (flP th S (nS S)).2) ∧ (∀ k, k < nS S → (sS T k).2.2.1 = 101 → bsU T (sS T k).1 = -1 ∨ rate T.2.2.2.1 T.2.2.2.2.1 (sS T k).1 (ug T (bsU T (sS T k).1)) < th) ∧ flP th T (nS T) = (T, 0) := by
  obtain ⟨⟨L, a1⟩, a2, a3, a4, a5, a6, a7⟩ := fil_p h hU hw hth (nS S) (Nat.le_refl _)
  refine ⟨_, rfl, a2, ?_, ?_, hd.congr a2 a3, a5, ?_, a6, fun k hk q => (a7 k hk q).2, flP_0 a7 _ (by omega)⟩
  · rw [a1]
  · rw [a1]
  · rw [a1]; exact hU
theorem wD_nil {S : SGM} (h : S.1.length = 0) : wD S [] = S := by
  obtain ⟨d, S2⟩ := S
  obtain rfl : d = [] := List.eq_nil_of_length_eq_zero h
  rfl
