theorem take_s {x y : List Int} {i : Nat} (hx : i < x.length) (hy : i < y.length) : x.take (i + 1) = y.take (i + 1) ↔ x.take i = y.take i ∧ x.getD i 0 = y.getD i 0 := by
  rw [tk_1 hx, tk_1 hy]
  constructor
  · intro h
    have h2 := List.append_inj h (by rw [List.length_take, List.length_take]; omega)
    exact ⟨h2.1, (List.cons.inj h2.2).1⟩
  · rintro ⟨h1, h2⟩
    rw [h1, h2]
theorem take_ne {x y : List Int} {i : Nat} (h : ¬ x.take i = y.take i) : ¬ x = y := fun q => h (by rw [q])
theorem MD.set {L : List SV} {f12 f13 f14 f15 f16 f17 f18 g15 g16 g17 : Nat → Int} (h : MD L f12 f13 f14 f15 f16 f17 f18) {i : Nat} {x y y1 : List Int} {st un sc st1 un1 sc1 n : Int} (hi : i < L.length) (hL : L.getD i ([], [], 0, 0, 0) = (x, y, st, un, sc)) (e15 : ∀ j, j ≠ i → g15 j = f15 j) (e16 : ∀ j, j ≠ i → g16 j = f16 j) (e17 : ∀ q, q < 60 * i ∨ 60 * i + 60 ≤ q → g17 q = f17 q) (h17 : RWS g17 (60 * i) y1) (hst : 0 ≤ st1 ∧ st1 < 65536) (hun : ¬ un1 = -1 → g15 i = un1 ∧ g16 i = sc1) (hf : un1 = -1 ↔ ¬ (st1 = 120 ∨ st1 = 102)) (hu : -1 ≤ un1 ∧ un1 < 60) (hs : 0 ≤ sc1 ∧ sc1 ≤ 100) (hn : n = (y1.length : Int)) :
    MD (L.set i (x, y1, st1, un1, sc1)) f12 f13 (ju f14 i st1) g15 g16 g17 (ju f18 i n) := by
  intro j hj
  rw [List.length_set] at hj
  obtain ⟨h1, h2, h4, h5, h7, h8, h9, h10, h11, h12⟩ := h j hj
  by_cases e : j = i
  · subst e
    rw [getD_set_eq hi, ju_s, ju_s]
    rw [hL] at h1 h4
    exact ⟨h1, h2, h4, ⟨rfl, hst⟩, hun, hn, h17, hf, hu, hs⟩
  · rw [getD_set_ne (Ne.symm e), ju_n _ _ e, ju_n _ _ e, e15 j e, e16 j e]
    exact ⟨h1, h2, h4, h5, h7, h8, h9.off fun k hk => e17 _ (by omega), h10, h11, h12⟩
theorem cnt_s {k n : Int} {y : List Int} {i : Nat} (hF : cntA (y.drop i) k n = cntA y k 0) (hi : i < y.length) : cntA (y.drop (i + 1)) k (if kd (y.getD i 0) = k then n + 1 else n) = cntA y k 0 := by rw [← hF, dr_c (i := i) hi, cntA]
theorem pon_s {c n : Int} {y : List Int} {i : Nat} (hF : ponA (y.drop i) c n = ponA y c 0) (hi : i < y.length) (h : ¬ y.getD i 0 = c) : ponA (y.drop (i + 1)) c (if kd (y.getD i 0) = 1 then n + 1 else n) = ponA y c 0 := by rw [← hF, dr_c (i := i) hi, ponA, if_neg h]
theorem pon_h {c n : Int} {y : List Int} {i : Nat} (hF : ponA (y.drop i) c n = ponA y c 0) (hi : i < y.length) (h : y.getD i 0 = c) : n = ponA y c 0 := by rw [← hF, dr_c (i := i) hi, ponA, if_pos h]
/-- a place that a number of a row has is below how many numbers there are -/
theorem pon_cnt (c : Int) (hc : kd c = 1) : ∀ (t : List Int) (n m : Int), ponA t c n = -1 ∨ ponA t c n - n < cntA t 1 m - m
  | [], n, m => Or.inl rfl
  | d :: t, n, m => by
    rw [ponA, cntA]
    by_cases e : d = c
    · rw [if_pos e, if_pos (by rw [e]; exact hc)]
      have h := (cntA_b t 1 (m + 1)).1
      exact Or.inr (by omega)
    · rw [if_neg e]
      by_cases e1 : kd d = 1
      · rw [if_pos e1, if_pos e1]
        rcases pon_cnt c hc t (n + 1) (m + 1) with h | h
        · exact Or.inl h
        · exact Or.inr (by omega)
      · rw [if_neg e1, if_neg e1]
        exact pon_cnt c hc t n m
theorem nap_ok : ∀ (t : List Int) (n m : Int), 0 ≤ n → n < cntA t 1 m - m → (∀ c ∈ t, 0 ≤ c) → ¬ napA t n = -1
  | [], n, m, h0, h, _ => by rw [cntA] at h; omega
  | d :: t, n, m, h0, h, hp => by
    have hd := hp d List.mem_cons_self
    have ht : ∀ c ∈ t, 0 ≤ c := fun c hc => hp c (List.mem_cons_of_mem _ hc)
    rw [napA]
    rw [cntA] at h
    by_cases e1 : kd d = 1
    · rw [if_pos e1] at h ⊢
      by_cases e : n = 0
      · rw [if_pos e]; omega
      · rw [if_neg e]; exact nap_ok t (n - 1) (m + 1) (by omega) (by omega) ht
    · rw [if_neg e1] at h ⊢
      exact nap_ok t n m h0 h ht
theorem nap_s1 {t : List Int} {i : Nat} {n n0 : Int} (hF : napA (t.drop i) n = napA t n0) (hi : i < t.length) (h : kd (t.getD i 0) = 1) (h0 : ¬ n = 0) : napA (t.drop (i + 1)) (n - 1) = napA t n0 := by rw [← hF, dr_c (i := i) hi, napA, if_pos h, if_neg h0]
theorem nap_s0 {t : List Int} {i : Nat} {n n0 : Int} (hF : napA (t.drop i) n = napA t n0) (hi : i < t.length) (h : ¬ kd (t.getD i 0) = 1) : napA (t.drop (i + 1)) n = napA t n0 := by rw [← hF, dr_c (i := i) hi, napA, if_neg h]
theorem nap_h {t : List Int} {i : Nat} {n n0 : Int} (hF : napA (t.drop i) n = napA t n0) (hi : i < t.length) (h : kd (t.getD i 0) = 1) (h0 : n = 0) : t.getD i 0 = napA t n0 := by rw [← hF, dr_c (i := i) hi, napA, if_pos h, if_pos h0]
theorem nap_e {t : List Int} {i : Nat} {n n0 : Int} (hF : napA (t.drop i) n = napA t n0) (hn : ¬ napA t n0 = -1) : i < t.length := by
  rcases Nat.lt_or_ge i t.length with h | h
  · exact h
  · rw [dr_e h, napA] at hF; exact absurd hF.symm hn
theorem mem_pos {t : List Int} {f : Nat → Int} (ht : TT t f) : ∀ c ∈ t, 0 ≤ c := by
  intro c hc
  obtain ⟨j, hj⟩ := List.getElem?_of_mem hc
  obtain ⟨hl, he⟩ := List.getElem?_eq_some_iff.mp hj
  have h := ht.b hl
  rw [List.getD_eq_getElem?_getD, hj] at h
  exact h.1
theorem rws_pos {t : List Int} {f : Nat → Int} {b : Nat} (ht : RWS f b t) : ∀ c ∈ t, 0 ≤ c := by
  intro c hc
  obtain ⟨j, hj⟩ := List.getElem?_of_mem hc
  obtain ⟨hl, he⟩ := List.getElem?_eq_some_iff.mp hj
  have h := ht.b hl
  rw [List.getD_eq_getElem?_getD, hj] at h
  exact h.1
/-- what a filled text's token becomes -/
theorem ad_yes {t s : List Int} {c : Int} (hk : kd c = 1) (hp : ¬ ponA s c 0 = -1) (hn : ¬ napA t (ponA s c 0) = -1) : ad1 t s c = napA t (ponA s c 0) := if_pos ⟨hk, hp, hn⟩
theorem ad_no {t s : List Int} {c : Int} (h : ¬ kd c = 1 ∨ ponA s c 0 = -1) : ad1 t s c = c := if_neg (fun q => h.elim (fun h => h q.1) (fun h => q.2.1 h))
theorem getD_map {f : Int → Int} {u : List Int} {i : Nat} (h : i < u.length) : (u.map f).getD i 0 = f (u.getD i 0) := by
  rw [List.getD_eq_getElem?_getD, List.getElem?_map, List.getD_eq_getElem?_getD, List.getElem?_eq_getElem h]; rfl
theorem RWS.tt0 {t : List Int} {f : Nat → Int} {b : Nat} (h : RWS f b t) : TT t (fun j => f (b + j)) := ⟨h.1, fun j hj => h.2 j hj⟩
