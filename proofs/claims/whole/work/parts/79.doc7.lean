theorem flS_0 {th : Int} {S : SGM} {i : Nat} {x y : List Int} {st un sc : Int} (h : sS S i = (x, y, st, un, sc)) (hn : ¬ st = 101) : flS th S i = (S, 0) := by
  unfold flS; rw [h]; exact if_pos hn
theorem flS_r {th : Int} {S : SGM} {i : Nat} {x y y4 : List Int} {st un sc k : Int} (h : sS S i = (x, y, st, un, sc)) (h1 : st = 101) (h2 : ffA (sS S) x i i = k) (h3 : ¬ k = -1) (h4 : (sg S k).2.1 = y4) : flS th S i = (wS S (S.2.2.2.2.2.2.set i (x, y4, 114, -1, 0)), 1) := by
  unfold flS; rw [h]; dsimp only; rw [h2, h4, if_neg (fun q => q h1), if_pos h3]
theorem flS_n {th : Int} {S : SGM} {i : Nat} {x y : List Int} {st un sc : Int} (h : sS S i = (x, y, st, un, sc)) (h1 : st = 101) (h2 : ffA (sS S) x i i = -1) (h3 : bsU S x = -1) : flS th S i = (S, 0) := by
  unfold flS; rw [h]; dsimp only; rw [if_neg (fun q => q h1), if_neg (fun q => q h2), if_pos h3]
theorem flS_l {th : Int} {S : SGM} {i : Nat} {x y : List Int} {st un sc r : Int} (h : sS S i = (x, y, st, un, sc)) (h1 : st = 101) (h2 : ffA (sS S) x i i = -1) (h3 : ¬ bsU S x = -1) (h4 : rate S.2.2.2.1 S.2.2.2.2.1 x (ug S (bsU S x)) = r) (h5 : r < th) : flS th S i = (S, 0) := by
  unfold flS; rw [h]; dsimp only; rw [if_neg (fun q => q h1), if_neg (fun q => q h2), if_neg h3, h4, if_pos h5]
theorem flS_f {th : Int} {S : SGM} {i : Nat} {x y xu yu : List Int} {st un sc r lv u : Int} (h : sS S i = (x, y, st, un, sc)) (h1 : st = 101) (h2 : ffA (sS S) x i i = -1) (h3 : bsU S x = u) (h3n : ¬ u = -1) (h6 : ug S u = (xu, yu, lv)) (h4 : rate S.2.2.2.1 S.2.2.2.2.1 x (xu, yu, lv) = r) (h5 : ¬ r < th) : flS th S i = (wS S (S.2.2.2.2.2.2.set i (x, fl1 x xu yu, (if r = 100 then 120 else 102), u, r)), 1) := by
  unfold flS; rw [h]; dsimp only; rw [h3, h6, h4, if_neg (fun q => q h1), if_neg (fun q => q h2), if_neg h3n, if_neg h5]
theorem flS_w (th : Int) (S : SGM) (L : List SV) (i : Nat) : ∃ L1, (flS th (wS S L) i).1 = wS S L1 ∧ L1.length = L.length := by
  unfold flS
  split
  · exact ⟨L, rfl, rfl⟩
  · split
    · exact ⟨_, rfl, List.length_set⟩
    · split
      · exact ⟨L, rfl, rfl⟩
      · split
        · exact ⟨L, rfl, rfl⟩
        · exact ⟨_, rfl, List.length_set⟩
theorem flP_w (th : Int) (S : SGM) : ∀ i, ∃ L, (flP th S i).1 = wS S L ∧ L.length = nS S
  | 0 => ⟨S.2.2.2.2.2.2, rfl, rfl⟩
  | i + 1 => by
    obtain ⟨L, h1, h2⟩ := flP_w th S i
    obtain ⟨L1, h3, h4⟩ := flS_w th S L i
    refine ⟨L1, ?_, h4.trans h2⟩
    rw [flP, h1]; exact h3
theorem flP_s {th : Int} {S S2 X : SGM} {i : Nat} {n e : Int} (h1 : (flP th S i).1 = S2) (hn : n = (flP th S i).2) (h : flS th S2 i = (X, e)) : flP th S (i + 1) = (X, n + e) := by
  rw [flP, h1, h, hn]
