theorem MW.recv {g : GT} {s : State} {H : Heap} {o : Nat} {S : SGM} {z : Int} {W9 : va_W} (hKK : KK g s) (h : MW g o S z W9) (hP : PP g W9 H) : ∃ cell : Cell, H[o]? = some cell ∧ cell.vm.isStatics = false ∧ s.vm.findClass RX11 = some cell.cls := by
  obtain ⟨ad, th, dn, nt, tn, nu, ns, tz, f1, f6, f7, f8, f9, f10, f11, f12, f13, f14, f15, f16, f17, f18, f19, f20, f21, f22, hW9, ho, -⟩ := h
  subst hW9
  subst ho
  exact va_recv hKK.k hP (ci := 10) (q0 := 0) rfl rfl
theorem hprp {p : List Int} {f : Nat → Int} (hp : TT p f) {i : Nat} (h : i + 1 < p.length) : tAt p (i : Int) = f i ∧ tAt p ((i : Int) + 1) = f (i + 1) := by
  have e : ((i : Int) + 1) = ((i + 1 : Nat) : Int) := by omega
  rw [e, tAt_in (by omega), tAt_in h]
  exact ⟨(hp.at (by omega)).symm, (hp.at h).symm⟩
