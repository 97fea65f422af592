/-! cutting: the segments are the document -/
def LV (L : List (List Int)) (k : Nat) : SV := s0v (L.getD k [])
theorem pf_congr2 {v w : Nat → SV} {n : Nat} (h : ∀ k, k < n → (v k).1 = (w k).1) : pf v n = pf w n := by
  induction n with
  | zero => rfl
  | succ n ih => rw [pf, pf, ih (fun k hk => h k (by omega)), h n (by omega)]
theorem getD_al {α : Type} {L : List α} {x d : α} {k : Nat} (h : k < L.length) : (L ++ [x]).getD k d = L.getD k d := by
  rw [List.getD_eq_getElem?_getD, List.getElem?_append_left h, ← List.getD_eq_getElem?_getD]
theorem getD_ae {α : Type} {L : List α} {x d : α} : (L ++ [x]).getD L.length d = x := by
  rw [List.getD_eq_getElem?_getD, List.getElem?_append_right (Nat.le_refl _)]; simp
def CI_ (t : List Int) (L : List (List Int)) (st : Nat) : Prop :=
  (∀ k, k < L.length → 1 ≤ (L.getD k []).length ∧ pf (LV L) k + (L.getD k []).length ≤ st ∧ ∀ j, j < (L.getD k []).length → (L.getD k []).getD j 0 = t.getD (pf (LV L) k + j) 0) ∧ pf (LV L) L.length = st
theorem tk_g {t : List Int} {a n j : Nat} (hj : j < n) : ((t.drop a).take n).getD j 0 = t.getD (a + j) 0 := by
  rw [List.getD_eq_getElem?_getD, List.getElem?_take_of_lt hj, List.getElem?_drop, ← List.getD_eq_getElem?_getD]
theorem ci_push {t : List Int} {L : List (List Int)} {st n : Nat} (h : CI_ t L st) (h1 : st ≤ n) (h2 : n < t.length) : CI_ t (L ++ [(t.drop st).take (n + 1 - st)]) (n + 1) := by
  obtain ⟨a1, a2⟩ := h
  have hl : ((t.drop st).take (n + 1 - st)).length = n + 1 - st := by rw [List.length_take, List.length_drop]; omega
  have hv : ∀ k, k < L.length → LV (L ++ [(t.drop st).take (n + 1 - st)]) k = LV L k := fun k hk => by unfold LV; rw [getD_al hk]
  have hp : ∀ k, k ≤ L.length → pf (LV (L ++ [(t.drop st).take (n + 1 - st)])) k = pf (LV L) k := fun k hk => pf_congr2 (fun j hj => by rw [hv j (by omega)])
  refine ⟨fun k hk => ?_, ?_⟩
  · rw [List.length_append, List.length_singleton] at hk
    by_cases e : k = L.length
    · subst e
      rw [getD_ae, hp _ (Nat.le_refl _), a2, hl]
      refine ⟨by omega, by omega, fun j hj => tk_g hj⟩
    · rw [getD_al (by omega), hp k (by omega)]
      obtain ⟨b1, b2, b3⟩ := a1 k (by omega)
      exact ⟨b1, by omega, b3⟩
  · rw [List.length_append, List.length_singleton, pf, hp _ (Nat.le_refl _), a2]
    show st + ((L ++ [(t.drop st).take (n + 1 - st)]).getD L.length []).length = n + 1
    rw [getD_ae, hl]
    omega
theorem ci_all (ab : Nat → Int) (t : List Int) (n : Nat) (hn : n ≤ t.length) : CI_ t (ctP ab t n).1 (ctP ab t n).2.1 ∧ (ctP ab t n).2.1 ≤ n ∧ (n = t.length → (ctP ab t n).2.1 = n) := by
  induction n with
  | zero => exact ⟨⟨fun k hk => absurd hk (Nat.not_lt_zero _), rfl⟩, Nat.le_refl _, fun _ => rfl⟩
  | succ n ih =>
    obtain ⟨h1, h2, h3⟩ := ih (by omega)
    rw [ctP]
    split
    · exact ⟨ci_push h1 h2 (by omega), Nat.le_refl _, fun _ => rfl⟩
    · rename_i q
      exact ⟨h1, by show (ctP ab t n).2.1 ≤ n + 1; omega, fun e => absurd (Or.inl e) q⟩
theorem cut_all {S : SGM} {doc : List Int} (h1 : 1 ≤ doc.length) (hU : UNI S) : ∃ T : SGM, T = nxOpen (wD S doc) ∧ T.1.length = 0 ∧ nU T = nU S ∧ UNI T ∧ DOC T doc ∧ SEGS T ∧ (∀ k, k < nS T → (sS T k).2.2.1 = 101 ∧ (sS T k).2.2.2.1 = -1) ∧ 1 ≤ nS T ∧ (∀ k, k < nS T → 1 ≤ (sS T k).1.length) ∧ (ctP S.2.2.1 doc doc.length).1.length = nS T := by
  obtain ⟨⟨a1, a2⟩, a3, a4⟩ := ci_all S.2.2.1 doc doc.length (Nat.le_refl _)
  have a4 := a4 rfl
  obtain ⟨L, hL⟩ : ∃ L, L = (ctP S.2.2.1 doc doc.length).1 := ⟨_, rfl⟩
  rw [← hL] at a1 a2
  rw [a4] at a1 a2
  obtain ⟨T, hT⟩ : ∃ T, T = nxOpen (wD S doc) := ⟨_, rfl⟩
  have hsg : T.2.2.2.2.2.2 = L.map s0v := by rw [hT, hL]; rfl
  have hn : nS T = L.length := by show T.2.2.2.2.2.2.length = _; rw [hsg, List.length_map]
  have hv : ∀ k, k < nS T → sS T k = LV L k := by
    intro k hk
    unfold sS LV
    rw [hsg, List.getD_eq_getElem?_getD, List.getElem?_map, List.getElem?_eq_getElem (by omega), List.getD_eq_getElem?_getD, List.getElem?_eq_getElem (by omega)]
    rfl
  have hp : ∀ k, k ≤ nS T → pf (sS T) k = pf (LV L) k := fun k hk => pf_congr2 (fun j hj => by rw [hv j (by omega)])
  have hne : ∀ k, k < nS T → 1 ≤ (sS T k).1.length := fun k hk => by rw [hv k hk]; exact (a1 k (by omega)).1
  refine ⟨T, hT, by rw [hT]; rfl, by rw [hT]; rfl, by rw [hT]; exact hU, ⟨fun k hk => ?_, ?_⟩, fun k hk => ?_, fun k hk => ?_, ?_, hne, by rw [hn, hL]⟩
  · rw [hp k (by omega), hv k hk]
    exact (a1 k (by omega)).2
  · rw [hp _ (Nat.le_refl _), hn, a2]
  · exact ⟨hne k hk, Or.inl (by rw [hv k hk]; rfl)⟩
  · rw [hv k hk]; exact ⟨rfl, rfl⟩
  · rcases Nat.eq_zero_or_pos (nS T) with q | q
    · rw [← hn, q, pf] at a2
      omega
    · exact q
/-! the units of the law -/
def fup {α : Type} (f : Nat → α) (k : Nat) (v : α) : Nat → α := fun j => if j = k then v else f j
theorem fup_s {α : Type} {f : Nat → α} {k : Nat} {v : α} : fup f k v k = v := if_pos rfl
theorem fup_n {α : Type} {f : Nat → α} {k j : Nat} {v : α} (h : j ≠ k) : fup f k v j = f j := if_neg h
def UP (g : GT) (S : SGM) (fq : Nat → Option Nat) (ar : va_W) (sa : Nat → Nat) (ys : Nat → List Int) (ff : Nat → Nat → Int) (n : Nat) : Prop := SRC g S fq ar sa ys ff ∧ nU S = n ∧ UNI S
def LIV (S : SGM) : Prop := ∀ u, u < nU S → (uS S u).2.2 = 1
theorem UP.congr {g : GT} {S T : SGM} {fq : Nat → Option Nat} {ar : va_W} {sa : Nat → Nat} {ys : Nat → List Int} {ff : Nat → Nat → Int} {n : Nat} (h : UP g S fq ar sa ys ff n) (e : T.2.2.2.2.2.1 = S.2.2.2.2.2.1) : UP g T fq ar sa ys ff n := by
  have e1 : nU T = nU S := by show T.2.2.2.2.2.1.length = _; rw [e]
  have e2 : uS T = uS S := by funext j; unfold uS; rw [e]
  obtain ⟨h1, h2, h3⟩ := h
  refine ⟨?_, e1.trans h2, ?_⟩
  · unfold SRC; rw [e1, e2]; exact h1
  · unfold UNI; rw [e1, e2]; exact h3
theorem LIV.congr {S T : SGM} (h : LIV S) (e : T.2.2.2.2.2.1 = S.2.2.2.2.2.1) : LIV T := by
  have e1 : nU T = nU S := by show T.2.2.2.2.2.1.length = _; rw [e]
  have e2 : uS T = uS S := by funext j; unfold uS; rw [e]
  unfold LIV; rw [e1, e2]; exact h
theorem uS_unit (S : SGM) (x y : List Int) (u : Nat) : uS (nxUnit S x y) u = if u = nU S then (x, y, 1) else uS S u := by
  unfold uS
  show (S.2.2.2.2.2.1 ++ [(x, y, 1)]).getD u ([], [], 0) = _
  by_cases e : u = nU S
  · rw [if_pos e, e]; exact getD_ae
  · rw [if_neg e]
    rcases Nat.lt_or_ge u (nU S) with q | q
    · exact getD_al q
    · rw [List.getD_eq_getElem?_getD, List.getElem?_eq_none (by rw [List.length_append, List.length_singleton]; show nU S + 1 ≤ u; omega), List.getD_eq_getElem?_getD, List.getElem?_eq_none q]
theorem UP.push {g : GT} {S : SGM} {fq : Nat → Option Nat} {ar : va_W} {sa : Nat → Nat} {ys : Nat → List Int} {ff : Nat → Nat → Int} {n a : Nat} {x y : List Int} {f : Nat → Int} (h : UP g S fq ar sa ys ff n) (hx : AT x f) (h1 : 1 ≤ x.length) (h2 : 1 ≤ y.length) : UP g (nxUnit S x y) (va_up fq n (some a)) (aI g a 61 f :: ar) (fup sa n a) (fup ys n x) (fup ff n f) (n + 1) := by
  obtain ⟨a1, a2, a3⟩ := h
  have hn : nU (nxUnit S x y) = nU S + 1 := List.length_append
  refine ⟨fun u hu => ?_, by omega, fun u hu => ?_⟩
  · rw [uS_unit]
    by_cases e : u = n
    · rw [if_pos (by omega), e, va_up_self, fup_s, fup_s, fup_s]
      exact ⟨rfl, hx, List.mem_cons_self, rfl, h1⟩
    · rw [if_neg (by omega), va_up_ne _ _ e, fup_n e, fup_n e, fup_n e]
      obtain ⟨b1, b2, b3, b4, b5⟩ := a1 u (by omega)
      exact ⟨b1, b2, List.mem_cons_of_mem _ b3, b4, b5⟩
  · rw [uS_unit]
    by_cases e : u = nU S
    · rw [if_pos e]; exact h2
    · rw [if_neg e]; exact a3 u (by omega)
theorem LIV.push {S : SGM} {x y : List Int} (h : LIV S) : LIV (nxUnit S x y) := by
  intro u hu
  have hn : nU (nxUnit S x y) = nU S + 1 := List.length_append
  rw [uS_unit]
  by_cases e : u = nU S
  · rw [if_pos e]
  · rw [if_neg e]; exact h u (by omega)
theorem rS_T (S : SGM) (a b cd : Int) : (rS cd (nxT S a b) S).2.2.2.2.2.1 = S.2.2.2.2.2.1 := by
  unfold rS
  split <;> rfl
theorem rs_ge {cd v e1 e2 e3 n : Int} (h0 : n ≤ v) (h1 : n ≤ e1) (h2 : n ≤ e2) (h3 : n ≤ e3) : n ≤ rs cd v e1 e2 e3 := by
  unfold rs
  (repeat' split) <;> assumption
theorem rs_le {cd v e1 e2 e3 n : Int} (h0 : v ≤ n) (h1 : e1 ≤ n) (h2 : e2 ≤ n) (h3 : e3 ≤ n) : rs cd v e1 e2 e3 ≤ n := by
  unfold rs
  (repeat' split) <;> assumption
theorem uS_wd (S : SGM) (u : Nat) (h : 0 < nU S) : uS (nxWd S 0) u = if u = 0 then ((uS S 0).1, (uS S 0).2.1, 0) else uS S u := by
  unfold uS
  show (S.2.2.2.2.2.1.set 0 ((uS S 0).1, (uS S 0).2.1, 0)).getD u ([], [], 0) = _
  rw [List.getD_eq_getElem?_getD, List.getElem?_set]
  by_cases e : u = 0
  · subst e
    rw [if_pos rfl, if_pos rfl, if_pos h]; rfl
  · rw [if_neg (fun q => e q.symm), if_neg e, List.getD_eq_getElem?_getD]
theorem clv_live {v : Nat → UV} {n : Nat} (h : ∀ u, u < n → (v u).2.2 = 1) : clv v n = n := by
  induction n with
  | zero => rfl
  | succ n ih => rw [clv, ih (fun u hu => h u (by omega)), h n (by omega)]; rfl
theorem clv_wd {v : Nat → UV} {n : Nat} (h0 : (v 0).2.2 = 0) (h : ∀ u, u < n + 1 → u ≠ 0 → (v u).2.2 = 1) : clv v (n + 1) = n := by
  induction n with
  | zero => rw [clv, clv, h0]; rfl
  | succ n ih => rw [clv, ih (fun u hu => h u (by omega)), h (n + 1) (by omega) (by omega)]; rfl
theorem wd_all {g : GT} {S : SGM} {fq : Nat → Option Nat} {ar : va_W} {sa : Nat → Nat} {ys : Nat → List Int} {ff : Nat → Nat → Int} {n : Nat} (h : UP g S fq ar sa ys ff n) (hl : LIV S) (hn : 1 < n) : UP g (nxWd S 0) fq ar sa ys ff n ∧ clv (uS (nxWd S 0)) (nU (nxWd S 0)) = (n : Int) - 1 ∧ cdUL S 0 = 0 ∧ cdUL (nxWd S 0) 0 = 2 := by
  obtain ⟨a1, a2, a3⟩ := h
  have hu := fun u => uS_wd S u (by omega)
  have hnu : nU (nxWd S 0) = nU S := List.length_set
  refine ⟨⟨fun u q => ?_, by omega, fun u q => ?_⟩, ?_, ?_, ?_⟩
  · obtain ⟨b1, b2, b3, b4, b5⟩ := a1 u (by omega)
    refine ⟨b1, b2, b3, ?_, b5⟩
    rw [hu u]
    by_cases e : u = 0
    · rw [if_pos e]; rw [e] at b4 ⊢; exact b4
    · rw [if_neg e]; exact b4
  · rw [hu u]
    by_cases e : u = 0
    · rw [if_pos e]; have := a3 0 (by omega); exact this
    · rw [if_neg e]; exact a3 u (by omega)
  · rw [hnu, a2]
    obtain ⟨m, rfl⟩ : ∃ m, n = m + 1 := ⟨n - 1, by omega⟩
    rw [clv_wd (by rw [hu 0]; rfl) (fun u q e => by rw [hu u, if_neg e]; exact hl u (by omega))]
    omega
  · unfold cdUL
    rw [if_neg (fun q => q ⟨by omega, by omega⟩)]
    have : (ug S 0).2.2 = 1 := hl 0 (by omega)
    rw [if_neg (by rw [this]; decide)]
  · unfold cdUL
    rw [if_neg (fun q => q ⟨by omega, by rw [hnu]; omega⟩)]
    have : (ug (nxWd S 0) 0).2.2 = 0 := by show (uS (nxWd S 0) 0).2.2 = 0; rw [hu 0]; rfl
    rw [if_pos this]
theorem wk4 : wk w0 0 = 4 := by decide
theorem kw_D1 {A : Nat → Prop} {q : Nat × va_E} {X w : va_W} (h : va_D A ((q :: X) ++ w)) : va_D A ([q] ++ w) := by
  obtain ⟨h1, h2⟩ := va_D_iff.mp h
  refine va_D_iff.mpr ⟨?_, fun x hx => h2 x ?_⟩
  · rw [List.map_append] at h1 ⊢
    have hs : List.Sublist ([q].map (·.1)) ((q :: X).map (·.1)) := by
      rw [List.map_cons, List.map_cons]
      exact List.Sublist.cons₂ _ (List.nil_sublist _)
    exact h1.sublist (hs.append (List.Sublist.refl _))
  · rcases List.mem_append.mp hx with q1 | q1
    · rw [List.mem_singleton.mp q1]; exact List.mem_append_left _ List.mem_cons_self
    · exact List.mem_append_right _ q1
theorem kw_P1 {g : GT} {q : Nat × va_E} {X w : va_W} {H : Heap} (h : PP g ((q :: X) ++ w) H) : PP g ([q] ++ w) H := h.mem fun x hx => by
  rcases List.mem_append.mp hx with q1 | q1
  · rw [List.mem_singleton.mp q1]; exact List.mem_append_left _ List.mem_cons_self
  · exact List.mem_append_right _ q1
theorem kw_neS {A : Nat → Prop} {cs w R : va_W} (h : va_D A (cs ++ w)) (hR : ∀ q ∈ R, q ∈ cs) : ∀ x ∈ R.map (·.1), x ∉ w.map (·.1) := by
  intro x hx
  obtain ⟨q, hq, rfl⟩ := List.mem_map.mp hx
  exact kw_ne h q (hR q hq)
