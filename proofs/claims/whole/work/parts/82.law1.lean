/-! the law: what it calls of the class is caught -/
abbrev aJ (cj : ClassId) (a : Nat) (f : Nat → Int64) : Nat × va_E := (a, .inl (cj, 1, .inr (.inl f)))
abbrev aD1 (cd : ClassId) (a : Nat) (f : Nat → UInt64) : Nat × va_E := (a, .inl (cd, 1, .inr (.inr (.inr (.inl f)))))
/-- what the law knows besides: the array classes of longs, doubles -/
def KJ (g : GT) (cj cd : ClassId) (U : State) : Prop := va_K (gD g) cls [(cj, .long), (cd, .double)] U
theorem KJ.warm {g : GT} {cj cd : ClassId} {s U : State} (h : KJ g cj cd s) (hW : s.WarmedH U.vm) : KJ g cj cd U := va_K.moved hW.alike h
abbrev jPh (g : GT) (cj cd : ClassId) (av : List Value) (Pre : Heap → Prop) : Array Value → State → Prop := va_Pc av (fun U => (KK g U ∧ KJ g cj cd U) ∧ Pre U.heap)
theorem jPh_blind {g : GT} {cj cd : ClassId} {av : List Value} {Pre : Heap → Prop} : FrameBlind (jPh g cj cd av Pre) := by
  intro a U gg mk h
  obtain ⟨h1, ⟨h2, h4⟩, h3⟩ := h
  exact ⟨h1, ⟨⟨KT.warm (U := U.calling gg mk a) h2.1 (State.WarmedH.refl U), h2.2.1, ZZ.moved (U := U.calling gg mk a) (Vm.Alike.refl U.vm) h2.2.2⟩, KJ.warm (U := U.calling gg mk a) h4 (State.WarmedH.refl U)⟩, h3⟩
theorem jp_H {g : GT} {cj cd : ClassId} {s : State} {A : Nat → Prop} {H : Heap} {locs : List Loc} {As : List Value} {Pre : Heap → Prop} (h : KK g s) (hj : KJ g cj cd s) (hS : va_S A s.heap H locs) (hA : ∀ q, A q → gb g ≤ q) (hpre : Pre H) : PreS s H (jPh g cj cd As Pre) As :=
  ⟨jPh_blind, fun U hU hW => ⟨rfl, ⟨h.next hS hA hU hW, hj.warm hW⟩, by rw [hU]; exact hpre⟩⟩
theorem jh_M {l : Launch} {y : MethodName} {rm : Room} {g : GT} {cj cd : ClassId} {av : List Value} {Pre : Heap → Prop} {Qc : Array Value → State → Outcome → State → Prop} {mc ms : Nat} {free : Addr → Prop} {cc : ByteArray} {maxL : Nat} {ret : Option FieldType} {hh : List (Nat × Nat × Nat × Nat)}
    (hy : plainName y.cls = true) (hn : (lg_sl av).length ≤ maxL)
    (body : ∀ (p : Program) (e : Env) (s : State) (m : MethodId) (below : List Frame) (meth : Method) (c : Code), p.tables.exec = Jvm.exec → c.code = cc → meth.sig.returnType = ret → c.maxLocals = maxL → s.vm.findClass y.cls = some m.cls → (∀ w ∈ WSL, w.before av.toArray s = true) → meth.locks = false → c.exceptionTable.toList = tableOf hh → KK g s → KJ g cj cd s → Pre s.heap → ∀ ls : Array Slot, lv_has ls maxL (lv_args 0 av) →
      W p l e rm s m av.toArray below meth c s.heap [] 0 0 (MQ below Qc av.toArray s mc ms free) (F0 m 0 ls [])) : Met l y (.codeWith y cc maxL ret hh :: WSL) rm (jPh g cj cd av Pre) Qc mc ms free := by
  refine MetFree.of_bodyS (code := cc) (maxLocals := maxL) (ret := ret) hy ?_ ?_
  · intro args s m h hn
    obtain ⟨m9, meth, c, hn9, h1, h2, h3, h4, -, h5, h6, -⟩ := Cond.codeWith_spec (atoms_spec (ws := .codeWith y cc maxL ret hh :: WSL) h _ List.mem_cons_self)
    cases hn.symm.trans hn9
    exact ⟨meth, c, h1, h2, h3, h4, h5, h6⟩
  · intro p e s m args below meth c s₁ B hml hP _
    have hh0 : s₁.heap = s.heap := by rw [B.state]; rfl
    obtain ⟨rfl, ⟨hK, hJ⟩, hp⟩ := hP
    have hts := atoms_spec (ws := .codeWith y cc maxL ret hh :: WSL) B.pre
    have hown : s.vm.findClass y.cls = some m.cls := findClass_of_methodNamed B.named
    have hl := lv_entry av (n := maxL) hn
    have htb := vx_table (x := y) B (hts _ List.mem_cons_self)
    have hW := body p e s m below meth c B.exec B.bytes B.returns hml hown (fun w hw => hts w (List.mem_cons_of_mem _ hw)) B.notSynchronized htb hK hJ hp _ hl
    rw [← lg_entry_eq] at hW
    obtain ⟨t, a1, o, b1, b2, b3⟩ := hW s₁ hh0 (Stand.of_body B)
    exact ⟨t, o, a1, b1, b2, ⟨b3.1, b3.2⟩⟩
section JH
variable {p : Program} {l : Launch} {e : Env} {R : Room} {s : State} {m : MethodId} {args : Array Value} {below : List Frame} {meth : Method} {c : Code} {cells slots : Nat} {Q : State → Prop}
variable {pc : Nat} {ls : Array Slot} {rest st0 : List Value} {mc ms : Nat} {free1 : Addr → Prop} {A0 A1 : Nat → Prop}
/-- a call that returns or throws, first of all that is done -/
theorem jh_run {Qa : State → Outcome → State → Prop} {XC : String → State → State → Prop} (hr : vx_Run p l e R s m args below meth c s.heap [] cells slots mc ms (F0 m pc ls st0) rest Qa XC free1)
    (hA : ∀ q, q < s.heap.size → A1 q → A0 q) (hf : ∀ q, free1 q → A0 q) (hQF : ∀ st o t, Qa st o t → va_F A1 st t) (hXF : ∀ E st t, XC E st t → va_F A1 st t)
    (kx : ∀ (E : String) (ce : Cell) (q9 : Addr) (st t : State) (H1 : Heap) (L : List Loc), st.heap = s.heap → t.heap = H1 → XC E st t → (∀ q : Nat, q < s.heap.size → ¬ A1 q → H1[q]? = s.heap[q]?) → va_S A0 s.heap H1 L → H1[q9]? = some ce → ce.vm = .none → s.vm.findClass E = some ce.cls → vx_W p l e R s m args below meth c H1 L (cells + mc) (slots + ms) Q (F0 m pc ls rest) q9)
    (kk : ∀ (v : Option Value) (st t : State) (H1 : Heap) (L : List Loc), st.heap = s.heap → t.heap = H1 → Qa st (.returned v) t → (∀ q : Nat, q < s.heap.size → ¬ A1 q → H1[q]? = s.heap[q]?) → va_S A0 s.heap H1 L → W p l e R s m args below meth c H1 L (cells + mc) (slots + ms) Q (F0 m (pc + 3) ls (v.toList ++ rest))) : W p l e R s m args below meth c s.heap [] cells slots Q (F0 m pc ls st0) := by
  intro T hT X
  rcases hr T hT X with ⟨v, st₀, t, T', L, h0, X', hL, e1, e2, hq, st⟩ | ⟨q, st₀, t, T', L, E, ce, h0, X', hL, e1, e2, hx, hce, hcv, hcl, st⟩
  · obtain ⟨k1, k2, k3⟩ := vx_keep (A0 := A0) h0 e1 va_S.rf hA hf hL (hQF _ _ _ hq)
    rw [List.nil_append] at X' k3
    obtain ⟨t2, a1, b1⟩ := kk v st₀ t T'.heap L h0 e1.symm hq k2 k3 T' rfl X'
    exact ⟨t2, st t2 a1, b1⟩
  · obtain ⟨k1, k2, k3⟩ := vx_keep (A0 := A0) h0 e1 va_S.rf hA hf hL (hXF _ _ _ hx)
    rw [List.nil_append] at X' k3
    obtain ⟨t2, a1, b1⟩ := kx E ce q st₀ t T'.heap L h0 e1.symm hx k2 k3 (by rw [e1]; exact hce) hcv hcl T' rfl X'
    exact ⟨t2, st.trans a1, b1⟩
theorem jh_join {g : GT} {A : Nat → Prop} {J : Nat × va_E} {W9 w1 : va_W} {H H1 : Heap} (hP : PP g (J :: W9) H) (hD : va_D A (J :: W9)) (hA : ∀ q, H.size ≤ q → A q) (hk : ∀ q : Nat, q < H.size → ¬ va_A W9 H.size q → H1[q]? = H[q]?) (hP1 : PP g w1 H1) (hD1 : va_D (va_A W9 H.size) w1) : PP g (J :: w1) H1 ∧ va_D A (J :: w1) := by
  have hp : (J :: W9).Perm (W9 ++ [J]) := List.perm_append_singleton J W9 |>.symm
  have hF : ∀ q, va_A W9 H.size q → A q := va_A_sub (hD.perm hp).left (Nat.le_refl _) hA
  obtain ⟨h1, h2⟩ := jjoin hP hD hp hk hF hP1 hD1
  have hq : (w1 ++ [J]).Perm (J :: w1) := List.perm_append_singleton J w1
  exact ⟨h1.perm hq, h2.perm hq⟩
theorem jh_keep {g : GT} {ws : va_W} {H H1 : Heap} (hP : PP g ws H) (hk : ∀ q : Nat, q < H.size → ¬ jN q → H1[q]? = H[q]?) : PP g ws H1 := hP.kept fun k q h => hk q.1 (hP k q h).lt (fun h => h)
end JH
