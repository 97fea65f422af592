theorem pm_doc {Lr Dc M l : va_W} : ((Lr ++ Dc) ++ (M ++ l)).Perm (Lr ++ ((Dc ++ l) ++ M)) := by
  rw [List.append_assoc, List.append_assoc]
  exact List.Perm.append_left Lr (List.Perm.append_left Dc List.perm_append_comm)
theorem va_D.drop3 {A : Nat → Prop} {L M a b : va_W} (h : va_D A (L ++ (M ++ (a ++ b)))) : va_D A (L ++ (M ++ a)) := by
  have e : L ++ (M ++ (a ++ b)) = (L ++ (M ++ a)) ++ b := by rw [List.append_assoc, List.append_assoc]
  rw [e] at h
  exact h.left
theorem PP.drop3 {g : GT} {L M a b : va_W} {H : Heap} (h : PP g (L ++ (M ++ (a ++ b))) H) : PP g (L ++ (M ++ a)) H := by
  have e : L ++ (M ++ (a ++ b)) = (L ++ (M ++ a)) ++ b := by rw [List.append_assoc, List.append_assoc]
  rw [e] at h
  exact h.mem fun q hq => List.mem_append_left _ hq
theorem jA_va {wc : va_W} {n q : Nat} (h : jA wc q) : va_A wc n q := Or.inl h
theorem ffA_b (v : Nat → SV) (x : List Int) (k : Nat) : ∀ n, n ≤ k → ffA v x k n = -1 ∨ ∃ m : Nat, m < k ∧ ffA v x k n = (m : Int) ∧ ¬ (v m).2.2.1 = 101 ∧ (v m).1 = x
  | 0, _ => Or.inl rfl
  | n + 1, h => by
    rw [ffA]
    split
    · rename_i q
      exact Or.inr ⟨k - (n + 1), by omega, rfl, q.1, q.2⟩
    · exact ffA_b v x k n (by omega)
theorem set_self {α : Type} {us : List α} {i : Nat} {u : α} (h : us[i]? = some u) : us.set i u = us := by
  obtain ⟨hi, he⟩ := List.getElem?_eq_some_iff.mp h
  rw [← he]
  exact List.set_getElem_self hi
