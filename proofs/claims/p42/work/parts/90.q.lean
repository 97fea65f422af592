/-! what is answered at indexes that there are, and at those that there aren't -/
theorem cd1_0 {ok : Prop} [Decidable ok] (h : ok) : cd1 ok = 0 := if_neg (fun q => q h)
theorem cd1_1 {ok : Prop} [Decidable ok] (h : ¬ ok) : cd1 ok = 1 := if_pos h
section QQ
variable {S : SGM} {i j : Nat}
theorem in_S (h : i < nS S) : ¬ ¬ (0 ≤ (i : Int) ∧ (i : Int) < nS S) := fun q => q ⟨by omega, by omega⟩
theorem in_U (h : i < nU S) : ¬ ¬ (0 ≤ (i : Int) ∧ (i : Int) < nU S) := fun q => q ⟨by omega, by omega⟩
theorem cdS_0 (h : i < nS S) : cdS S (i : Int) = 0 := if_neg (in_S h)
theorem aq12 (h : i < nS S) {e1 e2 e3 : Int} : rs (cdS S (i : Int)) ((sg S (i : Int)).1.length : Int) e1 e2 e3 = ((sS S i).1.length : Int) := rs_0 (cdS_0 h)
theorem aq12x (h : nS S ≤ i) {v e1 e2 e3 : Int} : rs (cdS S (i : Int)) v e1 e2 e3 = e1 := rs_1 (if_pos (fun q => by omega))
theorem aq9 (h : i < nS S) {e1 e2 e3 : Int} : rs (cdS S (i : Int)) ((sg S (i : Int)).2.2.1) e1 e2 e3 = (sS S i).2.2.1 := rs_0 (cdS_0 h)
theorem vl_m {c : Int} (h : 0 ≤ c) : vl c = c % 10000 := if_neg (by omega)
theorem aq13 (h : i < nS S) (hj : j < (sS S i).1.length) (hc : 0 ≤ (sS S i).1.getD j 0) {e1 e2 e3 : Int} : rs (cdSk S (i : Int) (j : Int)) (vl (tAt (sg S (i : Int)).1 (j : Int))) e1 e2 e3 = (sS S i).1.getD j 0 % 10000 := by
  have e : sg S (i : Int) = sS S i := rfl
  rw [e, tAt_in hj, vl_m hc]
  exact rs_0 (by unfold cdSk; rw [if_neg (in_S h), if_neg (by rw [e]; omega)])
theorem aq13x (h : i < nS S) {v e1 e2 e3 : Int} : rs (cdSk S (i : Int) ((sS S i).1.length : Int)) v e1 e2 e3 = e1 := by
  have e : sg S (i : Int) = sS S i := rfl
  exact rs_1 (by unfold cdSk; rw [if_neg (in_S h), if_pos (by rw [e]; omega)])
theorem aq14 (h : i < nS S) (hs : ¬ (sS S i).2.2.1 = 101) {e1 e2 e3 : Int} : rs (cdST S (i : Int)) ((sg S (i : Int)).2.1.length : Int) e1 e2 e3 = ((sS S i).2.1.length : Int) := rs_0 (by unfold cdST; rw [if_neg (in_S h)]; exact if_neg hs)
theorem aq14x (h : i < nS S) (hs : (sS S i).2.2.1 = 101) {v e1 e2 e3 : Int} : rs (cdST S (i : Int)) v e1 e2 e3 = e2 := rs_2 (by unfold cdST; rw [if_neg (in_S h)]; exact if_pos hs)
theorem cdTk_0 (h : i < nS S) (hs : ¬ (sS S i).2.2.1 = 101) (hj : j < (sS S i).2.1.length) : cdTk S (i : Int) (j : Int) = 0 := by
  have e : sg S (i : Int) = sS S i := rfl
  unfold cdTk
  rw [if_neg (in_S h), e, if_neg (fun q => q.elim hs (fun q => q ⟨by omega, by omega⟩))]
theorem aq15 (h : i < nS S) (hs : ¬ (sS S i).2.2.1 = 101) (hj : j < (sS S i).2.1.length) (hc : 0 ≤ (sS S i).2.1.getD j 0) {e1 e2 e3 : Int} : rs (cdTk S (i : Int) (j : Int)) (vl ((sg S (i : Int)).2.1.getD (j : Int).toNat 0)) e1 e2 e3 = (sS S i).2.1.getD j 0 % 10000 :=
  (rs_0 (cdTk_0 h hs hj)).trans (vl_m hc)
theorem aq16 (h : i < nS S) (hs : ¬ (sS S i).2.2.1 = 101) (hj : j < (sS S i).2.1.length) {e1 e2 e3 : Int} : rs (cdTk S (i : Int) (j : Int)) (ltr ((sg S (i : Int)).2.1.getD (j : Int).toNat 0)) e1 e2 e3 = ltr ((sS S i).2.1.getD j 0) := rs_0 (cdTk_0 h hs hj)
theorem aqTx (h : i < nS S) {v e1 e2 e3 : Int} : rs (cdTk S (i : Int) ((sS S i).2.1.length : Int)) v e1 e2 e3 = e2 := by
  have e : sg S (i : Int) = sS S i := rfl
  exact rs_2 (by unfold cdTk; rw [if_neg (in_S h), e, if_pos (Or.inr (by omega))])
theorem aq10 (h : i < nS S) (hs : ¬ (sS S i).2.2.2.1 = -1) {e1 e2 e3 : Int} : rs (cdSF S (i : Int)) ((sg S (i : Int)).2.2.2.1) e1 e2 e3 = (sS S i).2.2.2.1 := rs_0 (by unfold cdSF; rw [if_neg (in_S h)]; exact if_neg hs)
theorem aq10x (h : i < nS S) (hs : (sS S i).2.2.2.1 = -1) {v e1 e2 e3 : Int} : rs (cdSF S (i : Int)) v e1 e2 e3 = e2 := rs_2 (by unfold cdSF; rw [if_neg (in_S h)]; exact if_pos hs)
theorem aq11 (h : i < nS S) (hs : ¬ (sS S i).2.2.2.1 = -1) {e1 e2 e3 : Int} : rs (cdSF S (i : Int)) ((sg S (i : Int)).2.2.2.2) e1 e2 e3 = (sS S i).2.2.2.2 := rs_0 (by unfold cdSF; rw [if_neg (in_S h)]; exact if_neg hs)
theorem aqU (h : i < nU S) (hd : ¬ S.1.length = 0) {v e1 e2 e3 : Int} : rs (cdUD S (i : Int)) v e1 e2 e3 = v := rs_0 (by unfold cdUD; rw [if_neg (in_U h), if_neg hd])
theorem aqUx (h : nU S ≤ i) {v e1 e2 e3 : Int} : rs (cdUD S (i : Int)) v e1 e2 e3 = e1 := rs_1 (by unfold cdUD; rw [if_pos (fun q => by omega)])
theorem aq8 (h : i < nU S) {e1 e2 e3 : Int} : rs (cdU S (i : Int)) ((ug S (i : Int)).2.2) e1 e2 e3 = (uS S i).2.2 := rs_0 (if_neg (in_U h))
theorem aq6 (hd : ¬ S.1.length = 0) {e1 e2 e3 : Int} : rs (cdBest S) (bsU S S.1) e1 e2 e3 = if bsU S S.1 = -1 then e2 else bsU S S.1 := by
  by_cases h : bsU S S.1 = -1
  · rw [if_pos h]; exact rs_2 (by unfold cdBest; rw [if_neg hd, if_pos h])
  · rw [if_neg h]; exact rs_0 (by unfold cdBest; rw [if_neg hd, if_neg h])
theorem aq6x (hd : S.1.length = 0) {v e1 e2 e3 : Int} : rs (cdBest S) v e1 e2 e3 = e1 := rs_1 (by unfold cdBest; rw [if_pos hd])
end QQ
theorem ltr_k {c : Int} (h0 : 0 ≤ c) : (c / 10000 = 0 → ltr c = 119) ∧ (c / 10000 = 1 → ltr c = 110) ∧ (c / 10000 = 2 → ltr c = 116) ∧ (c / 10000 = 3 → ltr c = 109) := by
  have hk : kd c = c / 10000 := if_neg (by omega)
  unfold ltr
  rw [hk]
  refine ⟨fun h => ?_, fun h => ?_, fun h => ?_, fun h => ?_⟩ <;> rw [h] <;> rfl
theorem ltr_b (c : Int) : 0 ≤ ltr c ∧ ltr c < 200 := by unfold ltr; (repeat' split) <;> omega
/-- where a segment begins in its document -/
def pf (v : Nat → SV) : Nat → Nat
  | 0 => 0
  | k + 1 => pf v k + (v k).1.length
def DOC (S : SGM) (doc : List Int) : Prop := (∀ k, k < nS S → pf (sS S) k + (sS S k).1.length ≤ doc.length ∧ ∀ j, j < (sS S k).1.length → (sS S k).1.getD j 0 = doc.getD (pf (sS S) k + j) 0) ∧ pf (sS S) (nS S) = doc.length
/-- a unit more -/
def nxUnit (S : SGM) (x y : List Int) : SGM := ([], [], S.2.2.1, S.2.2.2.1, S.2.2.2.2.1, S.2.2.2.2.2.1 ++ [(x, y, 1)], S.2.2.2.2.2.2)
theorem wD_wD (S : SGM) (x y : List Int) : wD (wD S x) y = wD S y := rfl
