/-! shares, means: no NaN -/
def shr (n m : Int) : UInt32 := FP.fdiv (FP.i2f (jI n)) (FP.i2f (jI m))
def mnl (n m : Int) : UInt64 := FP.ddiv (FP.i2d (jI n)) (FP.i2d (jI m))
def shrB (n m : Nat) : Bool := decide (shr (n : Int) (m : Int) &&& 0x7fffffff ≤ (0x7f800000 : UInt32)) && decide (FP.f2d (shr (n : Int) (m : Int)) &&& 0x7fffffffffffffff ≤ (0x7ff0000000000000 : UInt64))
set_option maxRecDepth 100000 in
theorem shr_all : (List.range 61).all (fun n => (List.range 60).all (fun m => shrB n (m + 1))) = true := by decide +kernel
theorem shr_ok {n m : Int} (hn : 0 ≤ n ∧ n ≤ 60) (hm : 1 ≤ m ∧ m ≤ 60) : vf_n32 (shr n m) ∧ vf_n64 (FP.f2d (shr n m)) := by
  have h := List.all_eq_true.mp (List.all_eq_true.mp shr_all n.toNat (List.mem_range.mpr (by omega))) (m - 1).toNat (List.mem_range.mpr (by omega))
  unfold shrB at h
  rw [Bool.and_eq_true, decide_eq_true_iff, decide_eq_true_iff, show ((n.toNat : Nat) : Int) = n by omega, show (((m - 1).toNat + 1 : Nat) : Int) = m by omega] at h
  exact h
def dgood : FP.Core.Datum → Prop
  | .nan => False
  | .inf _ => True
  | .fin _ c q => c < 9007199254740992 ∧ q ≤ 971
theorem enc64 (d : FP.Core.Datum) (h : dgood d) : FP.Core.encode FP.Core.b64 d % 9223372036854775808 ≤ 9218868437227405312 := by
  have e1 : FP.Core.b64.exps = 2048 := by decide +kernel
  have e2 : FP.Core.b64.tails = 4503599627370496 := by decide +kernel
  have e3 : FP.Core.b64.qmin = -1074 := by decide +kernel
  cases d with
  | nan => exact h.elim
  | inf s =>
    show FP.Core.assemble _ s (FP.Core.b64.exps - 1) 0 % _ ≤ _
    unfold FP.Core.assemble
    rw [e1, e2]
    cases s <;> decide
  | fin s c q =>
    obtain ⟨h1, h2⟩ := h
    show (if c < FP.Core.b64.tails then FP.Core.assemble FP.Core.b64 s 0 c else FP.Core.assemble FP.Core.b64 s ((q - FP.Core.b64.qmin).toNat + 1) (c - FP.Core.b64.tails)) % _ ≤ _
    unfold FP.Core.assemble
    rw [e1, e2, e3]
    have hs : s.toNat ≤ 1 := by cases s <;> decide
    generalize s.toNat = b at hs
    have hq : (q - -1074).toNat ≤ 2045 := by omega
    generalize (q - -1074).toNat = e at hq
    split <;> omega
theorem quo_good {s t : Bool} {c d : Nat} {q r : Int} (hd : d ≠ 0) : dgood (FP.Core.quotient FP.Core.b64 (.fin s c q) (.fin t d r)) := by
  have e1 : FP.Core.b64.p = 53 := rfl
  have e2 : FP.Core.b64.tails = 4503599627370496 := by decide +kernel
  have e3 : FP.Core.b64.qmax = 971 := by decide +kernel
  have e4 : FP.Core.b64.qmin = -1074 := by decide +kernel
  have hb : ∀ (s : Bool) (c : Nat) (q : Int), c < 9007199254740992 → dgood (FP.Core.bound FP.Core.b64 s c q) := by
    intro s c q hc
    unfold FP.Core.bound
    split
    · rename_i h; rw [e3] at h; exact ⟨hc, h⟩
    · exact trivial
  unfold FP.Core.quotient
  simp only [if_neg hd]
  unfold FP.Core.roundRatio
  split
  · exact ⟨by decide, by rw [e4]; decide⟩
  · unfold FP.Core.roundAt FP.Core.settle
    split
    · rename_i h; rw [e1] at h; exact hb _ _ _ (by omega)
    · exact hb _ _ _ (by rw [e2]; decide)
def i2dB (n : Nat) : Bool := match FP.Core.decode FP.Core.b64 (FP.i2d (jI (n : Int))).toNat with | .fin _ c _ => n == 0 || c != 0 | _ => false
set_option maxRecDepth 100000 in
theorem i2d_all : (List.range 4001).all i2dB = true := by decide +kernel
theorem i2d_d {n : Int} (hn : 0 ≤ n ∧ n ≤ 4000) : ∃ s c q, FP.Core.decode FP.Core.b64 (FP.i2d (jI n)).toNat = .fin s c q ∧ (n ≠ 0 → c ≠ 0) := by
  have h := List.all_eq_true.mp i2d_all n.toNat (List.mem_range.mpr (by omega))
  unfold i2dB at h
  rw [show ((n.toNat : Nat) : Int) = n by omega] at h
  cases e : FP.Core.decode FP.Core.b64 (FP.i2d (jI n)).toNat with
  | nan => rw [e] at h; cases h
  | inf s => rw [e] at h; cases h
  | fin s c q =>
    rw [e] at h
    refine ⟨s, c, q, rfl, fun h0 hc => ?_⟩
    rw [hc] at h
    have h1 : n.toNat ≠ 0 := by omega
    simp [h1] at h
theorem mnl_ok {n m : Int} (hn : 0 ≤ n ∧ n ≤ 4000) (hm : 1 ≤ m ∧ m ≤ 40) : vf_n64 (mnl n m) := by
  obtain ⟨s, c, q, h1, -⟩ := i2d_d hn
  obtain ⟨t, d, r, h2, h3⟩ := i2d_d (n := m) ⟨by omega, by omega⟩
  have h4 := enc64 _ (quo_good (s := s) (t := t) (c := c) (q := q) (r := r) (h3 (by omega)))
  have e : mnl n m = UInt64.ofNat (FP.Core.encode FP.Core.b64 (FP.Core.quotient FP.Core.b64 (.fin s c q) (.fin t d r))) := by
    show UInt64.ofNat (FP.Core.div FP.Core.b64 (FP.i2d (jI n)).toNat (FP.i2d (jI m)).toNat) = _
    unfold FP.Core.div
    rw [h1, h2]
  unfold vf_n64
  rw [e, UInt64.le_iff_toNat_le, UInt64.toNat_and, UInt64.toNat_ofNat']
  generalize FP.Core.encode FP.Core.b64 _ = z at h4
  show (z % 2 ^ 64 &&& 9223372036854775807) ≤ 9218868437227405312
  have hm : z % 2 ^ 64 &&& 9223372036854775807 = z % 2 ^ 64 % 2 ^ 63 := Nat.and_two_pow_sub_one_eq_mod _ 63
  rw [hm]
  omega
