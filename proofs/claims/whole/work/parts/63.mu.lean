theorem thas_s {fs ft : Nat → Int} {n : Nat} {x y : Int} : thas fs ft (n + 1) x y = true ↔ thas fs ft n x y = true ∨ (fs n = x ∧ ft n = y) := by
  rw [thas_iff, thas_iff]
  constructor
  · rintro ⟨j, h1, h2⟩
    by_cases e : j = n
    · subst e; exact Or.inr h2
    · exact Or.inl ⟨j, by omega, h2⟩
  · rintro (⟨j, h1, h2⟩ | h)
    · exact ⟨j, by omega, h2⟩
    · exact ⟨n, by omega, h⟩
theorem MU.push {U : List UV} {f7 f8 f9 f10 f11 g7 g9 : Nat → Int} (h : MU U f7 f8 f9 f10 f11) {x y : List Int} (e7 : ∀ q, q < 60 * U.length → g7 q = f7 q) (h7 : RWS g7 (60 * U.length) x) (e9 : ∀ q, q < 60 * U.length → g9 q = f9 q) (h9 : RWS g9 (60 * U.length) y) {a b : Int} (ha : a = (x.length : Int)) (hb : b = (y.length : Int)) :
    MU (U ++ [(x, y, 1)]) g7 (ju f8 U.length a) g9 (ju f10 U.length b) (ju f11 U.length 1) := by
  intro j hj
  rw [List.length_append, List.length_singleton] at hj
  by_cases e : j = U.length
  · subst e
    have e2 : (U ++ [(x, y, (1 : Int))]).getD U.length ([], [], 0) = (x, y, 1) := by rw [List.getD_eq_getElem?_getD, List.getElem?_concat_length]; rfl
    rw [e2, ju_s, ju_s, ju_s]
    exact ⟨ha, h7, hb, h9, rfl, Or.inr rfl⟩
  · have hj2 : j < U.length := by omega
    have e2 : (U ++ [(x, y, (1 : Int))]).getD j ([], [], 0) = U.getD j ([], [], 0) := by rw [List.getD_eq_getElem?_getD, List.getElem?_append_left hj2, List.getD_eq_getElem?_getD]
    rw [e2, ju_n _ _ e, ju_n _ _ e, ju_n _ _ e]
    obtain ⟨h1, h2, h3, h4, h5, h6⟩ := h j hj2
    exact ⟨h1, h2.off fun k hk => e7 _ (by omega), h3, h4.off fun k hk => e9 _ (by omega), h5, h6⟩
theorem getD_set_eq {α : Type} {L : List α} {n : Nat} {a d : α} (h : n < L.length) : (L.set n a).getD n d = a := by
  rw [List.getD_eq_getElem?_getD, List.getElem?_set_self h]; rfl
theorem MU.setT {U : List UV} {f7 f8 f9 f10 f11 g9 : Nat → Int} (h : MU U f7 f8 f9 f10 f11) {i : Nat} {x y t : List Int} {v : Int} (hi : i < U.length) (hU : U.getD i ([], [], 0) = (x, y, v)) (e9 : ∀ q, q < 60 * i ∨ 60 * i + 60 ≤ q → g9 q = f9 q) (h9 : RWS g9 (60 * i) t) {b : Int} (hb : b = (t.length : Int)) :
    MU (U.set i (x, t, v)) f7 f8 g9 (ju f10 i b) f11 := by
  intro j hj
  rw [List.length_set] at hj
  obtain ⟨h1, h2, h3, h4, h5, h6⟩ := h j hj
  by_cases e : j = i
  · subst e
    rw [getD_set_eq hi, ju_s]
    rw [hU] at h1 h2 h5
    exact ⟨h1, h2, hb, h9, h5, h6⟩
  · rw [getD_set_ne (Ne.symm e), ju_n _ _ e]
    exact ⟨h1, h2, h3, h4.off fun k hk => e9 _ (by omega), h5, h6⟩
theorem MU.setL {U : List UV} {f7 f8 f9 f10 f11 : Nat → Int} (h : MU U f7 f8 f9 f10 f11) {i : Nat} {x y : List Int} {v : Int} (hi : i < U.length) (hU : U.getD i ([], [], 0) = (x, y, v)) : MU (U.set i (x, y, 0)) f7 f8 f9 f10 (ju f11 i 0) := by
  intro j hj
  rw [List.length_set] at hj
  obtain ⟨h1, h2, h3, h4, h5, h6⟩ := h j hj
  by_cases e : j = i
  · subst e
    rw [getD_set_eq hi, ju_s]
    rw [hU] at h1 h2 h3 h4
    exact ⟨h1, h2, h3, h4, rfl, Or.inl rfl⟩
  · rw [getD_set_ne (Ne.symm e), ju_n _ _ e]
    exact ⟨h1, h2, h3, h4, h5, h6⟩
/-- a row laid in at a place: what it was before, and the text -/
theorem row_s {h f : Nat → Int} {t : List Int} {b i : Nat} {v : Int} (hF : ∀ j, j < i → h (b + j) = t.getD j 0) (hE : ∀ q, q < b ∨ b + 60 ≤ q → h q = f q) (hi : i < 60) (hv : v = t.getD i 0) : (∀ j, j < i + 1 → ju h (b + i) v (b + j) = t.getD j 0) ∧ ∀ q, q < b ∨ b + 60 ≤ q → ju h (b + i) v q = f q :=
  ⟨ju_pre hF hv, fun q hq => by rw [ju_n _ _ (by omega)]; exact hE q hq⟩
theorem RWS.of {h f : Nat → Int} {t : List Int} {b : Nat} (ht : TT t f) (e : ∀ j, j < t.length → h (b + j) = t.getD j 0) : RWS h b t := ⟨ht.1, fun j hj => ⟨e j hj, ht.b hj⟩⟩
