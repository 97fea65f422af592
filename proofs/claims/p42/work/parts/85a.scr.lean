/-! methods that read the script -/
theorem va_X.lt {b L : Nat} {xs : Nat → Int32} {U : State} {H : Heap} (h : va_X b L xs U H) : b < H.size := by
  obtain ⟨scr, h1, -⟩ := h
  exact (Array.getElem?_eq_some_iff.mp h1).1
abbrev jPs (g : GT) (b n : Nat) (xs : Nat → Int32) (av : List Value) (Pre : Heap → Prop) : Array Value → State → Prop := va_Pc av (fun U => (KK g U ∧ va_X b n xs U U.heap) ∧ Pre U.heap)
theorem js_blind {g : GT} {b n : Nat} {xs : Nat → Int32} {av : List Value} {Pre : Heap → Prop} : FrameBlind (jPs g b n xs av Pre) := by
  intro a U gg mk h
  obtain ⟨h1, ⟨h2, h4⟩, h3⟩ := h
  exact ⟨h1, ⟨⟨KT.warm (U := U.calling gg mk a) h2.1 (State.WarmedH.refl U), h2.2.1, ZZ.moved (U := U.calling gg mk a) (Vm.Alike.refl U.vm) h2.2.2⟩, va_X.moved (U := U.calling gg mk a) (Vm.Alike.refl U.vm) h4⟩, h3⟩
theorem jp_X {g : GT} {s : State} {b n : Nat} {xs : Nat → Int32} {A : Nat → Prop} {H : Heap} {locs : List Loc} {As : List Value} {Pre : Heap → Prop} (h : KK g s) (hX : va_X b n xs s s.heap) (hbl : b < s.heap.size) (hbA : ¬ A b) (hS : va_S A s.heap H locs) (hA : ∀ q, A q → gb g ≤ q) (hpre : Pre H) : PreS s H (jPs g b n xs As Pre) As :=
  ⟨js_blind, fun U hU hW => ⟨rfl, ⟨h.next hS hA hU hW, by rw [hU]; exact (hX.moved hW.alike).kept (hS.2.1 b hbl hbA)⟩, by rw [hU]; exact hpre⟩⟩
theorem scr_nA {b sz : Nat} (h : b < sz) : ¬ va_A [] sz b := by
  intro q
  rcases q with ⟨k, e, q⟩ | q
  · cases q
  · omega
section JB
variable {l : Launch}
theorem js_M {y : MethodName} {rm : Room} {g : GT} {b n : Nat} {xs : Nat → Int32} {av : List Value} {Pre : Heap → Prop} {Qc : Array Value → State → Outcome → State → Prop} {mc ms : Nat} {free : Addr → Prop} {cc : ByteArray} {maxL : Nat} {ret : Option FieldType}
    (hy : plainName y.cls = true) (hn : (lg_sl av).length ≤ maxL)
    (body : ∀ (p : Program) (e : Env) (s : State) (m : MethodId) (below : List Frame) (meth : Method) (c : Code), p.tables.exec = Jvm.exec → c.code = cc → meth.sig.returnType = ret → c.maxLocals = maxL → s.vm.findClass y.cls = some m.cls → (∀ w ∈ WSL, w.before av.toArray s = true) → meth.locks = false → meth.name = y.name → KK g s → va_X b n xs s s.heap → Pre s.heap → ∀ ls : Array Slot, lv_has ls maxL (lv_args 0 av) →
      W p l e rm s m av.toArray below meth c s.heap [] 0 0 (MQ below Qc av.toArray s mc ms free) (F0 m 0 ls [])) : Met l y (ws_ y cc maxL ret) rm (jPs g b n xs av Pre) Qc mc ms free := by
  refine Met.ofW (cc := cc) (maxL := maxL) (ret := ret) hy rfl ?_
  intro p e s m args below meth c s₁ B hml hv
  obtain ⟨rfl, ⟨hK, hX⟩, hp⟩ := hv
  have hts := atoms_spec (ws := ws_ y cc maxL ret) B.pre
  have hown : s.vm.findClass y.cls = some m.cls := findClass_of_methodNamed B.named
  have hl := lv_entry av (n := maxL) hn
  rw [lg_entry_eq]
  exact body p e s m below meth c B.exec B.bytes B.returns hml hown (fun w hw => hts w (List.mem_cons_of_mem _ hw)) B.notSynchronized (name_of_methodNamed B.named B.method).1 hK hX hp _ hl
end JB
