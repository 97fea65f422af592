theorem flS_len (th : Int) (S : SGM) (i : Nat) : nS (flS th S i).1 = nS S := by
  unfold flS
  split
  · rfl
  · split
    · exact List.length_set
    · split
      · rfl
      · split
        · rfl
        · exact List.length_set
theorem flP_len (th : Int) (S : SGM) : ∀ n, nS (flP th S n).1 = nS S
  | 0 => rfl
  | n + 1 => by
    rw [flP]
    exact (flS_len th _ n).trans (flP_len th S n)
theorem flS_01 (th : Int) (S : SGM) (i : Nat) : (flS th S i).2 = 0 ∨ (flS th S i).2 = 1 := by
  unfold flS
  split
  · exact Or.inl rfl
  · split
    · exact Or.inr rfl
    · split
      · exact Or.inl rfl
      · split
        · exact Or.inl rfl
        · exact Or.inr rfl
