theorem pm3 (x y z : va_W) : (x ++ (y ++ z)).Perm (y ++ (x ++ z)) := by
  rw [← List.append_assoc x y z, ← List.append_assoc y x z]; exact List.Perm.append_right z List.perm_append_comm
theorem pm_list {ls a b c : va_W} : (ls ++ ((a ++ b) ++ c)).Perm (a ++ (ls ++ (b ++ c))) := by
  rw [List.append_assoc a b c]
  exact pm3 ls a (b ++ c)
theorem pm_listD {ls m a b : va_W} : (ls ++ (m ++ (a ++ b))).Perm (a ++ (ls ++ (m ++ b))) := (List.Perm.append_left ls (pm3 m a b)).trans (pm3 ls a (m ++ b))
theorem MR.push {g : GT} {us : List UR} {u : UR} {lw ls c : va_W} : ((uC g u ++ lw) ++ (ls ++ (us.flatMap (uC g) ++ c))).Perm (ls ++ (MR g (us ++ [u]) lw ++ c)) := by
  refine (pm3 (uC g u ++ lw) ls _).trans (List.Perm.append_left ls ?_)
  rw [← List.append_assoc]
  refine List.Perm.append_right c ?_
  unfold MR
  rw [List.flatMap_append, List.flatMap_singleton, List.append_assoc]
  have h2 : (uC g u ++ (lw ++ us.flatMap (uC g))).Perm ((lw ++ us.flatMap (uC g)) ++ uC g u) := List.perm_append_comm
  rw [List.append_assoc] at h2
  exact h2
theorem va_A_sub {A : Nat → Prop} {wc : va_W} {sz n : Nat} (hD : va_D A wc) (hsz : sz ≤ n) (hA : ∀ q, sz ≤ q → A q) : ∀ q, va_A wc n q → A q := by
  intro q h
  rcases h with ⟨k, e, h⟩ | h
  · exact hD.2 k _ h
  · exact hA q (Nat.le_trans hsz h)
