theorem mean_ok {g : GT} {o : Nat} {S : SGM} {W : va_W} (h : CW g o S W) (hnz : ¬ clv (uS S) (nU S) = 0) : vf_n64 (mnl (slv S.2.2.2.1 S.1 (uS S) (nU S)) (clv (uS S) (nU S))) := by
  have hn := (CW.n60 h).1
  obtain ⟨ad, fd, fk, g1, g2, g3, p1, p2, k1, k2, us, ss, lw1, lw2, hW, ho, -, -, hw, -⟩ := h
  have hs := slv_b hw S.1 (uS S) (nU S)
  have hc := clv_b (uS S) (nU S)
  exact mnl_ok ⟨by omega, by omega⟩ ⟨by omega, by omega⟩
theorem dself {x : UInt64} {op : CmpOp} (h : vf_n64 x) : Op.cmpValue (FP.dcmp x x) op = 0 := by
  have hd : FP.dcmp x x = some .eq := by
    show FP.Core.order (FP.Core.decode FP.Core.b64 x.toNat) (FP.Core.decode FP.Core.b64 x.toNat) = some .eq
    have hn : FP.Core.decode FP.Core.b64 x.toNat ≠ .nan := by
      intro q
      unfold vf_n64 at h
      rw [UInt64.le_iff_toNat_le, UInt64.toNat_and] at h
      generalize x.toNat = n at h q
      have hm : n &&& 9223372036854775807 = n % 2 ^ 63 := Nat.and_two_pow_sub_one_eq_mod _ 63
      have h : (n &&& 9223372036854775807) ≤ 9218868437227405312 := h
      rw [hm] at h
      have e1 : FP.Core.b64.exps = 2048 := by decide +kernel
      have e2 : FP.Core.b64.tails = 4503599627370496 := by decide +kernel
      unfold FP.Core.decode FP.Core.fieldE FP.Core.fieldT at q
      rw [e1, e2] at q
      split at q
      · split at q
        · cases q
        · omega
      · split at q <;> cases q
    generalize FP.Core.decode FP.Core.b64 x.toNat = d at hn ⊢
    cases d with
    | nan => exact absurd rfl hn
    | inf s => exact congrArg some (by simp [compare, compareOfLessAndEq])
    | fin s c q => exact congrArg some (by simp [compare, compareOfLessAndEq])
  rw [hd]
  rfl
