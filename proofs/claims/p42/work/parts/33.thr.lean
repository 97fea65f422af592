/-! throws of the class: words, rows -/
abbrev eIA : String := "java/lang/IllegalArgumentException"
abbrev eIS : String := "java/lang/IllegalStateException"
abbrev eIO : String := "java/lang/IndexOutOfBoundsException"
abbrev eAE : String := "java/lang/ArithmeticException"
abbrev eUO : String := "java/lang/UnsupportedOperationException"
abbrev eNS : String := "java/util/NoSuchElementException"
abbrev eRT : List String := ["java/lang/RuntimeException", "java/lang/Exception"]
section TH
variable {args : Array Value} {s : State} {g : GT}
theorem th_cast {E : String} (hKK : KK g s) (h : (E, E) ∈ nwC) : (Cond.castable E E).before args s = true := va_tabs rfl rfl (hKK.1.2.2.1 (E, E) h)
theorem th_decl (hKK : KK g s) : ∀ w ∈ ([.declares (Bundle.initS "java/lang/RuntimeException"), .declares (Bundle.initS "java/lang/Exception"), .declares (Bundle.initS Bundle.tN)] : List Cond), w.before args s = true :=
  vx_c (va_tabs rfl rfl (hKK.1.2.2.2.2.2.2.2.2.2 _ (List.mem_of_getElem? (i := 0) rfl))) (vx_c (va_tabs rfl rfl (hKK.1.2.2.2.2.2.2.2.2.2 _ (List.mem_of_getElem? (i := 1) rfl))) (vx_c (va_tabs rfl rfl (hKK.1.2.2.2.2.2.2.2.2.2 _ (List.mem_of_getElem? (i := 2) rfl))) vx_n))
theorem th_73 (htl : ∀ w ∈ WSL, w.before args s = true) (hKK : KK g s) : ∀ w ∈ vx_atS RX10 73 eIA eRT, w.before args s = true :=
  vx_hat (B := [.castable eIA eIA, .declares (Bundle.initS "java/lang/RuntimeException"), .declares (Bundle.initS "java/lang/Exception"), .declares (Bundle.initS Bundle.tN)]) (fun w hw => htl w (ck_e73 w hw)) (by decide +kernel) (vx_c (th_cast hKK (List.mem_of_getElem? (i := 0) rfl)) (th_decl hKK))
theorem th_112 (htl : ∀ w ∈ WSL, w.before args s = true) (hKK : KK g s) : ∀ w ∈ vx_atS RX10 112 eIS eRT, w.before args s = true :=
  vx_hat (B := [.castable eIS eIS, .declares (Bundle.initS "java/lang/RuntimeException"), .declares (Bundle.initS "java/lang/Exception"), .declares (Bundle.initS Bundle.tN)]) (fun w hw => htl w (ck_e112 w hw)) (by decide +kernel) (vx_c (th_cast hKK (List.mem_of_getElem? (i := 1) rfl)) (th_decl hKK))
theorem th_243 (htl : ∀ w ∈ WSL, w.before args s = true) (hKK : KK g s) : ∀ w ∈ vx_atS RX10 243 eIO eRT, w.before args s = true :=
  vx_hat (B := [.castable eIO eIO, .declares (Bundle.initS "java/lang/RuntimeException"), .declares (Bundle.initS "java/lang/Exception"), .declares (Bundle.initS Bundle.tN)]) (fun w hw => htl w (ck_e243 w hw)) (by decide +kernel) (vx_c (th_cast hKK (List.mem_of_getElem? (i := 2) rfl)) (th_decl hKK))
theorem th_272 (htl : ∀ w ∈ WSL, w.before args s = true) (hKK : KK g s) : ∀ w ∈ vx_atS RX10 272 eAE eRT, w.before args s = true :=
  vx_hat (B := [.castable eAE eAE, .declares (Bundle.initS "java/lang/RuntimeException"), .declares (Bundle.initS "java/lang/Exception"), .declares (Bundle.initS Bundle.tN)]) (fun w hw => htl w (ck_e272 w hw)) (by decide +kernel) (vx_c (th_cast hKK (List.mem_of_getElem? (i := 3) rfl)) (th_decl hKK))
theorem th_106 (htl : ∀ w ∈ WSL, w.before args s = true) (hKK : KK g s) : ∀ w ∈ vx_atS RX10 106 eUO eRT, w.before args s = true :=
  vx_hat (B := [.castable eUO eUO, .declares (Bundle.initS "java/lang/RuntimeException"), .declares (Bundle.initS "java/lang/Exception"), .declares (Bundle.initS Bundle.tN)]) (fun w hw => htl w (ck_e106 w hw)) (by decide +kernel) (vx_c (th_cast hKK (List.mem_of_getElem? (i := 4) rfl)) (th_decl hKK))
theorem th_127 (htl : ∀ w ∈ WSL, w.before args s = true) (hKK : KK g s) : ∀ w ∈ nse_at.filter vx_no, w.before args s = true :=
  vx_hat (B := [.castable eNS eNS, .declares (Bundle.initS "java/lang/RuntimeException"), .declares (Bundle.initS "java/lang/Exception"), .declares (Bundle.initS Bundle.tN)]) (fun w hw => htl w (ck_e127 w hw)) (by decide +kernel) (vx_c (th_cast hKK (List.mem_of_getElem? (i := 5) rfl)) (th_decl hKK))
end TH
theorem tg_73 : ∀ w ∈ Cond.classLink RX10 69 eIA :: Cond.initialized eIA :: vx_atS RX10 73 eIA eRT, vx_ot w = true := by decide +kernel
theorem tg_112 : ∀ w ∈ Cond.classLink RX10 108 eIS :: Cond.initialized eIS :: vx_atS RX10 112 eIS eRT, vx_ot w = true := by decide +kernel
theorem tg_243 : ∀ w ∈ Cond.classLink RX10 239 eIO :: Cond.initialized eIO :: vx_atS RX10 243 eIO eRT, vx_ot w = true := by decide +kernel
theorem tg_272 : ∀ w ∈ Cond.classLink RX10 268 eAE :: Cond.initialized eAE :: vx_atS RX10 272 eAE eRT, vx_ot w = true := by decide +kernel
theorem tg_106 : ∀ w ∈ Cond.classLink RX10 102 eUO :: Cond.initialized eUO :: vx_atS RX10 106 eUO eRT, vx_ot w = true := by decide +kernel
theorem tg_127 : ∀ w ∈ Cond.classLink RX10 123 eNS :: Cond.initialized eNS :: nse_at.filter vx_no, vx_ot w = true := by decide +kernel
theorem tf_73 : Bundle.fit eIA = true := by decide +kernel
theorem tf_112 : Bundle.fit eIS = true := by decide +kernel
theorem tf_243 : Bundle.fit eIO = true := by decide +kernel
theorem tf_272 : Bundle.fit eAE = true := by decide +kernel
theorem tf_106 : Bundle.fit eUO = true := by decide +kernel
theorem tf_127 : Bundle.fit eNS = true := by decide +kernel
theorem tf_n : ∀ n ∈ eRT, Bundle.fit n = true := by decide +kernel
section TT
variable {p : Program} {l : Launch} {e : Env} {R : Room} {s : State} {m : MethodId} {args : Array Value} {below : List Frame} {meth : Method} {c : Code} {cells slots : Nat} {Qc : Array Value → State → Outcome → State → Prop} {free : Addr → Prop}
variable {cc : ByteArray} {pc : Nat} {ls : Array Slot} {rest : List Value} {g : GT}
/-- 'throw new E("text")', nothing written yet -/
theorem jt_S (hx : p.tables.exec = Jvm.exec) (hb : c.code = cc) (hst : l.stackTraces = false) (hown : s.vm.findClass RX10 = some m.cls) (hKK : KK g s) {E text : String} {ik is ic mc ms nL : Nat} {pe : String → Prop}
    (hcls : Bundle.fit E = true) (hk : (Cond.classLink RX10 ik E).before args s = true) (hini : (Cond.initialized E).before args s = true) (hm : (is, text) ∈ nwS) (hat : ∀ w ∈ vx_atS RX10 ic E eRT, w.before args s = true) (hgood : ∀ w ∈ Cond.classLink RX10 ik E :: Cond.initialized E :: vx_atS RX10 ic E eRT, vx_ot w = true)
    (hsz : ls.size = nL) (hml : c.maxLocals = nL) (htab : ∀ x ∈ c.exceptionTable.toList, False) (hlk : meth.locks = false) (hE : pe E)
    (d0 : decode cc pc = .ok (.new ik, 3)) (d3 : decode cc (pc + 3) = .ok (.dup, 1)) (d4 : decode cc (pc + 4) = .ok (.ldc is, 2)) (d6 : decode cc (pc + 6) = .ok (.invokespecial ic, 3)) (d9 : decode cc (pc + 9) = .ok (.athrow, 1))
    (hRf : 5 < R.frames) (hRl : (rest.map fun v => v.category).sum + 82 ≤ R.locals) (hRc : cells + 1 ≤ R.cells) (hRs : slots + 6 ≤ R.slots) (hc : cells + 1 ≤ mc) (hs : slots + 6 ≤ ms) :
    W p l e R s m args below meth c s.heap [] cells slots (vx_MQ below Qc (jX pe) args s mc ms free) (F0 m pc ls rest) := by
  obtain ⟨sa, hstr⟩ := hKK.1.2.2.2.1 (is, text) hm
  exact vx_throwS (A := fun q => gb g ≤ q) hx hb hst hown hcls tf_n hk hini hstr hat hgood hKK.2.2.1 hKK.2.2.2.1 va_S.rf (hsz.trans hml.symm) d0 d3 d4 d6 d9 (fun x hx => (htab x hx).elim) hRf hRl hRc hRs hlk (fun t _ h1 h2 => ⟨hE, h1, fun q hq _ => h2 q hq⟩) (fun _ h => nomatch h) hc hs
theorem jt_SW (hx : p.tables.exec = Jvm.exec) (hb : c.code = cc) (hst : l.stackTraces = false) (hown : s.vm.findClass RX10 = some m.cls) (hKK : KK g s) {E text : String} {ik is ic mc ms nL : Nat} {pe : String → Prop}
    (hcls : Bundle.fit E = true) (hk : (Cond.classLink RX10 ik E).before args s = true) (hini : (Cond.initialized E).before args s = true) (hm : (is, text) ∈ nwS) (hat : ∀ w ∈ vx_atS RX10 ic E eRT, w.before args s = true) (hgood : ∀ w ∈ Cond.classLink RX10 ik E :: Cond.initialized E :: vx_atS RX10 ic E eRT, vx_ot w = true)
    (hsz : ls.size = nL) (hml : c.maxLocals = nL) (htab : ∀ x ∈ c.exceptionTable.toList, False) (hlk : meth.locks = false) (hE : pe E)
    (d0 : decode cc pc = .ok (.new ik, 3)) (d3 : decode cc (pc + 3) = .ok (.dup, 1)) (d4 : decode cc (pc + 4) = .ok (.ldc_w is, 3)) (d7 : decode cc (pc + 7) = .ok (.invokespecial ic, 3)) (d10 : decode cc (pc + 10) = .ok (.athrow, 1))
    (hRf : 5 < R.frames) (hRl : (rest.map fun v => v.category).sum + 82 ≤ R.locals) (hRc : cells + 1 ≤ R.cells) (hRs : slots + 6 ≤ R.slots) (hc : cells + 1 ≤ mc) (hs : slots + 6 ≤ ms) :
    W p l e R s m args below meth c s.heap [] cells slots (vx_MQ below Qc (jX pe) args s mc ms free) (F0 m pc ls rest) := by
  obtain ⟨sa, hstr⟩ := hKK.1.2.2.2.1 (is, text) hm
  exact vx_throwSW (A := fun q => gb g ≤ q) hx hb hst hown hcls tf_n hk hini hstr hat hgood hKK.2.2.1 hKK.2.2.2.1 va_S.rf (hsz.trans hml.symm) d0 d3 d4 d7 d10 (fun x hx => (htab x hx).elim) hRf hRl hRc hRs hlk (fun t _ h1 h2 => ⟨hE, h1, fun q hq _ => h2 q hq⟩) (fun _ h => nomatch h) hc hs
end TT
