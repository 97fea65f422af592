/-- cutting, at d, the segment from c on: not yet ended; ended by a mark, other tags may follow -/
def ctI (ab : Nat → Int) (t : List Int) (L : List (List Int)) (c d : Nat) : Prop := (d < t.length ∧ ctP ab t d = (L, c, false)) ∨ (d = t.length ∧ ctP ab t d = (L ++ [(t.drop c).take (d - c)], d, false))
def ctJ (ab : Nat → Int) (t : List Int) (L : List (List Int)) (c d : Nat) : Prop := ((d = t.length ∨ kd (tAt t (d : Int)) ≠ 2) → ctP ab t d = (L ++ [(t.drop c).take (d - c)], d, false)) ∧ (¬ (d = t.length ∨ kd (tAt t (d : Int)) ≠ 2) → ctP ab t d = (L, c, true))
theorem ctI_s {ab : Nat → Int} {t : List Int} {L : List (List Int)} {c d : Nat} (h : ctI ab t L c d) (hd : d < t.length) (he : ¬ isE ab t (d : Int) = true) : ctI ab t L c (d + 1) := by
  rcases h with ⟨-, h⟩ | ⟨h, -⟩
  · have he2 : isE ab t (d : Int) = false := by simpa using he
    by_cases e : d + 1 = t.length
    · refine Or.inr ⟨e, ?_⟩
      rw [ctP, h, if_pos (Or.inl e)]
    · refine Or.inl ⟨by omega, ?_⟩
      rw [ctP, h, he2, if_neg (fun q => q.elim e (fun q => Bool.false_ne_true q.1))]
      rfl
  · omega
theorem ctJ_e {ab : Nat → Int} {t : List Int} {L : List (List Int)} {c d : Nat} (h : ctI ab t L c d) (hd : d = t.length) : ctJ ab t L c d := by
  rcases h with ⟨h, -⟩ | ⟨-, h⟩
  · omega
  · exact ⟨fun _ => h, fun q => absurd (Or.inl hd) q⟩
theorem ctJ_s0 {ab : Nat → Int} {t : List Int} {L : List (List Int)} {c d : Nat} {b : Bool} (h : ctP ab t d = (L, c, b)) (hb : (b || isE ab t (d : Int)) = true) : ctJ ab t L c (d + 1) := by
  refine ⟨fun q => ?_, fun q => ?_⟩
  · rw [ctP, h]
    dsimp only
    rw [hb, if_pos (q.imp id (fun q => ⟨rfl, q⟩))]
  · rw [ctP, h]
    dsimp only
    rw [hb, if_neg (fun r => q (r.imp id (fun r => r.2)))]
theorem ctJ_1 {ab : Nat → Int} {t : List Int} {L : List (List Int)} {c d : Nat} (h : ctI ab t L c d) (hd : d < t.length) (he : isE ab t (d : Int) = true) : ctJ ab t L c (d + 1) := by
  rcases h with ⟨-, h⟩ | ⟨h, -⟩
  · exact ctJ_s0 h (by rw [he]; rfl)
  · omega
theorem ctJ_s {ab : Nat → Int} {t : List Int} {L : List (List Int)} {c d : Nat} (h : ctJ ab t L c d) (hd : d < t.length) (he : kd (tAt t (d : Int)) = 2) : ctJ ab t L c (d + 1) :=
  ctJ_s0 (h.2 (fun q => q.elim (fun q => by omega) (fun q => q he))) rfl
/-- a piece of a row -/
theorem RWS.piece {f : Nat → Int} {t : List Int} {c n : Nat} (h : TT t f) (hc : c + n ≤ t.length) : RWS f c ((t.drop c).take n) ∧ ((t.drop c).take n).length = n := by
  have hl : ((t.drop c).take n).length = n := by rw [List.length_take, List.length_drop]; omega
  refine ⟨⟨by rw [hl]; have := h.1; omega, fun j hj => ?_⟩, hl⟩
  rw [hl] at hj
  have e : ((t.drop c).take n).getD j 0 = t.getD (c + j) 0 := by
    rw [List.getD_eq_getElem?_getD, List.getElem?_take_of_lt hj, List.getElem?_drop, List.getD_eq_getElem?_getD]
  rw [e]
  exact h.2 (c + j) (by omega)
theorem MD.push {L : List SV} {f12 f13 f14 f15 f16 f17 f18 : Nat → Int} (h : MD L f12 f13 f14 f15 f16 f17 f18) {c d : Nat} {x : List Int} {a : Int} (hc : L.length = 0 ∨ f13 L.length = (c : Int)) (hx : RWS f12 c x) (hd : d = c + x.length) (hd9 : d ≤ 60) (ha : a = (d : Int)) :
    MD (L ++ [s0v x]) f12 (ju (ju f13 L.length (c : Int)) (L.length + 1) a) (ju f14 L.length 101) f15 f16 f17 (ju f18 L.length 0) := by
  intro j hj
  rw [List.length_append, List.length_singleton] at hj
  by_cases e : j = L.length
  · subst e
    have e2 : (L ++ [s0v x]).getD L.length ([], [], 0, 0, 0) = (x, [], 101, -1, 0) := by rw [List.getD_eq_getElem?_getD, List.getElem?_concat_length]; rfl
    rw [e2, ju_s, ju_n _ _ (show L.length ≠ L.length + 1 by omega), ju_s, ju_s, ju_s]
    dsimp only
    refine ⟨by omega, ⟨by omega, by omega⟩, by rw [Int.toNat_natCast]; exact hx, ⟨rfl, by omega, by omega⟩, fun q => absurd rfl q, rfl, RWS.nil _ _, ⟨fun _ => by omega, fun _ => rfl⟩, ⟨by omega, by omega⟩, by omega, by omega⟩
  · have hj2 : j < L.length := by omega
    have e2 : (L ++ [s0v x]).getD j ([], [], 0, 0, 0) = L.getD j ([], [], 0, 0, 0) := by rw [List.getD_eq_getElem?_getD, List.getElem?_append_left hj2, List.getD_eq_getElem?_getD]
    have e3 : ju (ju f13 L.length (c : Int)) (L.length + 1) a j = f13 j := by rw [ju_n _ _ (show j ≠ L.length + 1 by omega), ju_n _ _ e]
    have e4 : ju (ju f13 L.length (c : Int)) (L.length + 1) a (j + 1) = f13 (j + 1) := by
      rw [ju_n _ _ (show j + 1 ≠ L.length + 1 by omega)]
      by_cases q : j + 1 = L.length
      · rw [q, ju_s]; rcases hc with hc | hc <;> omega
      · exact ju_n _ _ q
    rw [e2, e3, e4, ju_n _ _ e, ju_n _ _ e]
    exact h j hj2
theorem MD.nil (f12 f13 f14 f15 f16 f17 f18 : Nat → Int) : MD [] f12 f13 f14 f15 f16 f17 f18 := fun _ h => absurd h (Nat.not_lt_zero _)
