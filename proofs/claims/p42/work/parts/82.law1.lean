/-! the law: what it calls of the class is caught -/
theorem gdw {w : Cond} (h : w ∈ WSL) : GoodIn WSL (w :: WSL) := by
  intro v hv
  have g : v ∈ WSL := by
    rcases List.mem_cons.mp hv with e | e
    · rw [e]; exact h
    · exact e
  exact ⟨g, good_of_word (List.all_eq_true.mp wsL_good v g)⟩
/-- an answer: by the code of what was thrown -/
def rs (cd v e1 e2 e3 : Int) : Int := if cd = 0 then v else if cd = 1 then e1 else if cd = 2 then e2 else e3
def rS (cd : Int) (nx S : SGM) : SGM := if cd = 0 then nx else S
theorem rs_0 {cd v e1 e2 e3 : Int} (h : cd = 0) : rs cd v e1 e2 e3 = v := if_pos h
theorem rs_1 {cd v e1 e2 e3 : Int} (h : cd = 1) : rs cd v e1 e2 e3 = e1 := by subst h; rfl
theorem rs_2 {cd v e1 e2 e3 : Int} (h : cd = 2) : rs cd v e1 e2 e3 = e2 := by subst h; rfl
theorem rs_3 {cd v e1 e2 e3 : Int} (h : cd = 3) : rs cd v e1 e2 e3 = e3 := by subst h; rfl
theorem rS_0 {cd : Int} {nx S : SGM} (h : cd = 0) : rS cd nx S = nx := if_pos h
theorem rS_n {cd : Int} {nx S : SGM} (h : ¬ cd = 0) : rS cd nx S = S := if_neg h
theorem CW.recv {g : GT} {s : State} {H : Heap} {o : Nat} {S : SGM} {W9 : va_W} (hKK : KK g s) (h : CW g o S W9) (hP : PP g W9 H) : ∃ cell : Cell, H[o]? = some cell ∧ cell.vm.isStatics = false ∧ s.vm.findClass RX10 = some cell.cls := by
  obtain ⟨ad, fd, fk, g1, g2, g3, p1, p2, k1, k2, us, ss, lw1, lw2, hW, ho, -⟩ := h
  subst hW
  subst ho
  exact va_recv hKK.k hP (ci := 9) (q0 := 0) rfl rfl
theorem CW.n60 {g : GT} {o : Nat} {S : SGM} {W9 : va_W} (h : CW g o S W9) : nU S ≤ 40 ∧ nS S ≤ 60 := by
  obtain ⟨ad, fd, fk, g1, g2, g3, p1, p2, k1, k2, us, ss, lw1, lw2, hW, ho, -, -, -, -, ⟨hu, hs⟩, -, -, h1, h2⟩ := h
  exact ⟨by rw [nU_l hu]; exact h1, by rw [nS_l hs]; exact h2⟩
theorem va_F.jN_to {A : Nat → Prop} {st t : State} (h : va_F jN st t) : va_F A st t := ⟨h.1, fun q h1 _ => h.2 q h1 (fun x => x)⟩
theorem va_F.of_eq {A : Nat → Prop} {st t : State} (h : t.heap = st.heap) : va_F A st t := ⟨by rw [h]; exact Nat.le_refl _, fun q _ _ => by rw [h]⟩
theorem jh_keep {g : GT} {ws : va_W} {H H1 : Heap} (hP : PP g ws H) (hk : ∀ q : Nat, q < H.size → ¬ jN q → H1[q]? = H[q]?) : PP g ws H1 := hP.kept fun k q h => hk q.1 (hP k q h).lt (fun h => h)
/-- a handler's entry -/
def xe (h : Nat × Nat × Nat × Nat) : ExceptionTableEntry := ⟨h.1, h.2.1, h.2.2.1, h.2.2.2⟩
/-- a method with handlers -/
theorem jc_M {l : Launch} {y : MethodName} {rm : Room} {g : GT} {av : List Value} {Pre : Heap → Prop} {Qc : Array Value → State → Outcome → State → Prop} {mc ms : Nat} {free : Addr → Prop} {cc : ByteArray} {maxL : Nat} {ret : Option FieldType} {hh : List (Nat × Nat × Nat × Nat)}
    (hy : plainName y.cls = true) (hn : (lg_sl av).length ≤ maxL)
    (body : ∀ (p : Program) (e : Env) (s : State) (m : MethodId) (below : List Frame) (meth : Method) (c : Code), p.tables.exec = Jvm.exec → c.code = cc → meth.sig.returnType = ret → c.maxLocals = maxL → s.vm.findClass y.cls = some m.cls → (∀ w ∈ WSL, w.before av.toArray s = true) → meth.locks = false → c.exceptionTable.toList = tableOf hh → KK g s → Pre s.heap → ∀ ls : Array Slot, lv_has ls maxL (lv_args 0 av) →
      W p l e rm s m av.toArray below meth c s.heap [] 0 0 (MQ below Qc av.toArray s mc ms free) (F0 m 0 ls [])) : Met l y (.codeWith y cc maxL ret hh :: WSL) rm (jPc g av Pre) Qc mc ms free := by
  refine MetFree.of_bodyS (code := cc) (maxLocals := maxL) (ret := ret) hy ?_ ?_
  · intro args s m h hn
    obtain ⟨m9, meth, c, hn9, h1, h2, h3, h4, -, h5, h6, -⟩ := Cond.codeWith_spec (atoms_spec (ws := .codeWith y cc maxL ret hh :: WSL) h _ List.mem_cons_self)
    cases hn.symm.trans hn9
    exact ⟨meth, c, h1, h2, h3, h4, h5, h6⟩
  · intro p e s m args below meth c s₁ B hml hP _
    have hh0 : s₁.heap = s.heap := by rw [B.state]; rfl
    obtain ⟨rfl, hK, hp⟩ := hP
    have hts := atoms_spec (ws := .codeWith y cc maxL ret hh :: WSL) B.pre
    have hown : s.vm.findClass y.cls = some m.cls := findClass_of_methodNamed B.named
    have hl := lv_entry av (n := maxL) hn
    have htb := vx_table (x := y) B (hts _ List.mem_cons_self)
    have hW := body p e s m below meth c B.exec B.bytes B.returns hml hown (fun w hw => hts w (List.mem_cons_of_mem _ hw)) B.notSynchronized htb hK hp _ hl
    rw [← lg_entry_eq] at hW
    obtain ⟨t, a1, o, b1, b2, b3⟩ := hW s₁ hh0 (Stand.of_body B)
    exact ⟨t, o, a1, b1, b2, ⟨b3.1, b3.2⟩⟩
/-- what the class's world is behind a call -/
abbrev jW (g : GT) (o : Nat) (S : SGM) (W9 : va_W) (sz : Nat) : Heap → Prop := fun H1 => ∃ w1 : va_W, CW g o S w1 ∧ PP g w1 H1 ∧ va_D (va_A W9 sz) w1
section JH
variable {p : Program} {l : Launch} {e : Env} {R : Room} {s : State} {m : MethodId} {args : Array Value} {below : List Frame} {meth : Method} {c : Code} {cells slots : Nat} {Q : State → Prop}
variable {pc : Nat} {ls : Array Slot} {rest st0 : List Value} {mc ms : Nat} {aa : Array Value} {A : Nat → Prop} {g : GT} {o : Nat} {S nx : SGM} {W9 : va_W} {pe : String → Prop}
variable {free1 : Addr → Prop} {A0 A1 : Nat → Prop}
/-- a call that returns or throws, first of all that is done -/
theorem jh_run {Qa : State → Outcome → State → Prop} {XC : String → State → State → Prop} (hr : vx_Run p l e R s m args below meth c s.heap [] cells slots mc ms (F0 m pc ls st0) rest Qa XC free1)
    (hA : ∀ q, q < s.heap.size → A1 q → A0 q) (hf : ∀ q, free1 q → A0 q) (hQF : ∀ st o t, Qa st o t → va_F A1 st t) (hXF : ∀ E st t, XC E st t → va_F A1 st t)
    (kx : ∀ (E : String) (ce : Cell) (q9 : Addr) (st t : State) (H1 : Heap) (L : List Loc), st.heap = s.heap → t.heap = H1 → XC E st t → (∀ q : Nat, q < s.heap.size → ¬ A1 q → H1[q]? = s.heap[q]?) → va_S A0 s.heap H1 L → H1[q9]? = some ce → ce.vm = .none → s.vm.findClass E = some ce.cls → vx_W p l e R s m args below meth c H1 L (cells + mc) (slots + ms) Q (F0 m pc ls rest) q9)
    (kk : ∀ (v : Option Value) (st t : State) (H1 : Heap) (L : List Loc), st.heap = s.heap → t.heap = H1 → Qa st (.returned v) t → (∀ q : Nat, q < s.heap.size → ¬ A1 q → H1[q]? = s.heap[q]?) → va_S A0 s.heap H1 L → W p l e R s m args below meth c H1 L (cells + mc) (slots + ms) Q (F0 m (pc + 3) ls (v.toList ++ rest))) : W p l e R s m args below meth c s.heap [] cells slots Q (F0 m pc ls st0) := by
  intro T hT X
  rcases hr T hT X with ⟨v, st₀, t, T', L, h0, X', hL, e1, e2, hq, st⟩ | ⟨q, st₀, t, T', L, E, ce, h0, X', hL, e1, e2, hx, hce, hcv, hcl, st⟩
  · obtain ⟨k1, k2, k3⟩ := vx_keep (A0 := A0) h0 e1 va_S.rf hA hf hL (hQF _ _ _ hq)
    rw [List.nil_append] at X' k3
    obtain ⟨t2, a1, b1⟩ := kk v st₀ t T'.heap L h0 e1.symm hq k2 k3 T' rfl X'
    exact ⟨t2, st t2 a1, b1⟩
  · obtain ⟨k1, k2, k3⟩ := vx_keep (A0 := A0) h0 e1 va_S.rf hA hf hL (hXF _ _ _ hx)
    rw [List.nil_append] at X' k3
    obtain ⟨t2, a1, b1⟩ := kx E ce q st₀ t T'.heap L h0 e1.symm hx k2 k3 (by rw [e1]; exact hce) hcv hcl T' rfl X'
    exact ⟨t2, st.trans a1, b1⟩
/-- the rest of a thrown call; of one that returned -/
def jc_kx (p : Program) (l : Launch) (e : Env) (R : Room) (s : State) (m : MethodId) (args : Array Value) (below : List Frame) (meth : Method) (c : Code) (cells slots : Nat) (Q : State → Prop) (pc : Nat) (ls : Array Slot) (rest : List Value) (A : Nat → Prop) (g : GT) (o : Nat) (S : SGM) (pe : String → Prop) : Prop :=
  ∀ (E : String) (ce : Cell) (q9 : Addr) (H1 : Heap) (L : List Loc) (w1 : va_W), pe E → CW g o S w1 → PP g w1 H1 → va_D A w1 → va_S A s.heap H1 L → H1[q9]? = some ce → ce.vm = .none → s.vm.findClass E = some ce.cls → vx_W p l e R s m args below meth c H1 L cells slots Q (F0 m pc ls rest) q9
def jc_kk (p : Program) (l : Launch) (e : Env) (R : Room) (s : State) (m : MethodId) (args : Array Value) (below : List Frame) (meth : Method) (c : Code) (cells slots : Nat) (Q : State → Prop) (pc : Nat) (ls : Array Slot) (rest : List Value) (A : Nat → Prop) (g : GT) (o : Nat) (nx : SGM) (NP : Int → Prop) : Prop :=
  ∀ (z : Int) (H1 : Heap) (L : List Loc) (w1 : va_W), NP z → CW g o nx w1 → PP g w1 H1 → va_D A w1 → va_S A s.heap H1 L → W p l e R s m args below meth c H1 L cells slots Q (F0 m (pc + 3) ls (vi z :: rest))
theorem jc_Si {NP : Int → Prop} (hr : vx_Run p l e R s m args below meth c s.heap [] cells slots mc ms (F0 m pc ls st0) rest (jSi NP aa) (jX pe) jN) (hCW : CW g o S W9) (hP : PP g W9 s.heap) (hD : va_D A W9)
    (kx : jc_kx p l e R s m args below meth c (cells + mc) (slots + ms) Q pc ls rest A g o S pe) (kk : jc_kk p l e R s m args below meth c (cells + mc) (slots + ms) Q pc ls rest A g o S NP) : W p l e R s m args below meth c s.heap [] cells slots Q (F0 m pc ls st0) := by
  refine jh_run (A0 := A) (A1 := jN) hr (fun _ _ h => h.elim) (fun _ h => h.elim) (fun st o t h => by obtain ⟨z, -, -, h3⟩ := h; exact va_F.of_eq h3) (fun E st t h => h.2) ?_ ?_
  · intro E ce q9 st t H1 L h0 h1 hx hk hS h2 h3 h4
    exact kx E ce q9 H1 L W9 hx.1 hCW (jh_keep hP hk) hD hS h2 h3 h4
  · intro v st t H1 L h0 h1 hq hk hS
    obtain ⟨z, hv, hz, -⟩ := hq
    cases hv
    exact kk z H1 L W9 hz hCW (jh_keep hP hk) hD hS
theorem jc_Qi {NP : Int → Prop} (hr : vx_Run p l e R s m args below meth c s.heap [] cells slots mc ms (F0 m pc ls st0) rest (jQi (fun z H1 => NP z ∧ ∃ w1 : va_W, CW g o nx w1 ∧ PP g w1 H1 ∧ va_D (va_A W9 s.heap.size) w1) (va_A W9 s.heap.size) aa) (jX pe) (va_A W9 s.heap.size)) (hCW : CW g o S W9) (hP : PP g W9 s.heap) (hD : va_D (va_A W9 s.heap.size) W9)
    (kx : jc_kx p l e R s m args below meth c (cells + mc) (slots + ms) Q pc ls rest (va_A W9 s.heap.size) g o S pe) (kk : jc_kk p l e R s m args below meth c (cells + mc) (slots + ms) Q pc ls rest (va_A W9 s.heap.size) g o nx NP) : W p l e R s m args below meth c s.heap [] cells slots Q (F0 m pc ls st0) := by
  refine jh_run (A0 := va_A W9 s.heap.size) (A1 := va_A W9 s.heap.size) hr (fun q _ h => h) (fun q h => h) (fun st o t h => h.2) (fun E st t h => h.2.jN_to) ?_ ?_
  · intro E ce q9 st t H1 L h0 h1 hx hk hS h2 h3 h4
    exact kx E ce q9 H1 L W9 hx.1 hCW (hP.kept fun k q h => by rw [← h1, ← h0]; exact hx.2.2 q.1 (by rw [h0]; exact (hP k q h).lt) (fun h => h)) hD hS h2 h3 h4
  · intro v st t H1 L h0 h1 hq hk hS
    obtain ⟨⟨z, hv, hz, w1, hC, hP1, hD1⟩, -⟩ := hq
    cases hv
    rw [h1] at hP1
    exact kk z H1 L w1 hz hC hP1 hD1 hS
theorem jc_Qw {NP : Int → Prop} (hr : vx_Run p l e R s m args below meth c s.heap [] cells slots mc ms (F0 m pc ls st0) rest (jQi (fun z H1 => NP z ∧ ∃ w1 : va_W, CW g o nx w1 ∧ PP g w1 H1 ∧ va_D (va_A W9 s.heap.size) w1) (va_A W9 s.heap.size) aa) (jXw pe (fun H1 => ∃ w1 : va_W, CW g o S w1 ∧ PP g w1 H1 ∧ va_D (va_A W9 s.heap.size) w1) (va_A W9 s.heap.size)) (va_A W9 s.heap.size))
    (kx : jc_kx p l e R s m args below meth c (cells + mc) (slots + ms) Q pc ls rest (va_A W9 s.heap.size) g o S pe) (kk : jc_kk p l e R s m args below meth c (cells + mc) (slots + ms) Q pc ls rest (va_A W9 s.heap.size) g o nx NP) : W p l e R s m args below meth c s.heap [] cells slots Q (F0 m pc ls st0) := by
  refine jh_run (A0 := va_A W9 s.heap.size) (A1 := va_A W9 s.heap.size) hr (fun q _ h => h) (fun q h => h) (fun st o t h => h.2) (fun E st t h => h.2.2) ?_ ?_
  · intro E ce q9 st t H1 L h0 h1 hx hk hS h2 h3 h4
    obtain ⟨hE, ⟨w1, hC, hP1, hD1⟩, -⟩ := hx
    rw [h1] at hP1
    exact kx E ce q9 H1 L w1 hE hC hP1 hD1 hS h2 h3 h4
  · intro v st t H1 L h0 h1 hq hk hS
    obtain ⟨⟨z, hv, hz, w1, hC, hP1, hD1⟩, -⟩ := hq
    cases hv
    rw [h1] at hP1
    exact kk z H1 L w1 hz hC hP1 hD1 hS
/-- what is thrown leaves the method -/
theorem jc_kx_out {Qc : Array Value → State → Outcome → State → Prop} {k n : Nat} (htab : ∀ x ∈ c.exceptionTable.toList, False) (hlk : meth.locks = false) (hc : cells ≤ k) (hs : slots ≤ n) :
    jc_kx p l e R s m args below meth c cells slots (vx_MQ below Qc (jXw pe (fun H1 => ∃ w1 : va_W, CW g o S w1 ∧ PP g w1 H1 ∧ va_D A w1) A) args s k n A) pc ls rest A g o S pe := by
  intro E ce q9 H1 L w1 hE hC hP hD hS h2 h3 h4
  exact vx_out (fun x hx => (htab x hx).elim) hlk h2 h3 h4 (fun t ht _ => ⟨hE, ⟨w1, hC, by rw [ht]; exact hP, hD⟩, by rw [ht]; exact hS.1, fun q h5 h6 => by rw [ht]; exact hS.2.1 q h5 h6⟩) hS.2.2 hc hs
end JH
/-! calls, in a world of arrays and the class's cells -/
theorem kw_P {g : GT} {cs w : va_W} {H : Heap} (h : PP g (cs ++ w) H) : PP g w H := h.mem fun q hq => List.mem_append_right _ hq
theorem kw_ne {A : Nat → Prop} {cs w : va_W} (h : va_D A (cs ++ w)) (q : Nat × va_E) (hq : q ∈ cs) : q.1 ∉ w.map (·.1) := by
  obtain ⟨hn, -⟩ := va_D_iff.mp h
  rw [List.map_append, List.nodup_append] at hn
  exact fun h => hn.2.2 _ (List.mem_map.mpr ⟨q, hq, rfl⟩) _ h rfl
theorem kw_nA {A : Nat → Prop} {cs w : va_W} (h : va_D A (cs ++ w)) {a : Nat} (ha : ¬ A a) : a ∉ w.map (·.1) := by
  intro h2
  obtain ⟨q, h3, rfl⟩ := List.mem_map.mp h2
  exact ha ((va_D_iff.mp h).2 q (List.mem_append_right _ h3))
theorem kw_j {g : GT} {A : Nat → Prop} {cs w w1 : va_W} {H H1 : Heap} (hP : PP g (cs ++ w) H) (hD : va_D A (cs ++ w)) (hF : ∀ q, va_A w H.size q → A q) (hk : ∀ q : Nat, q < H.size → ¬ va_A w H.size q → H1[q]? = H[q]?) (hP1 : PP g w1 H1) (hD1 : va_D (va_A w H.size) w1) : PP g (cs ++ w1) H1 ∧ va_D A (cs ++ w1) := by
  obtain ⟨h1, h2⟩ := jjoin hP hD List.perm_append_comm hk hF hP1 hD1
  exact ⟨h1.perm List.perm_append_comm, h2.perm List.perm_append_comm⟩
theorem kw_j1 {g : GT} {A : Nat → Prop} {cs w w1 : va_W} {N : Nat × va_E} {H H1 : Heap} (hP : PP g (cs ++ w) H) (hD : va_D A (cs ++ w)) (hF : ∀ q, va_A w H.size q → A q) (hk : ∀ q : Nat, q < H.size → ¬ va_A w H.size q → H1[q]? = H[q]?) (hP1 : PP g (N :: w1) H1) (hD1 : va_D (va_A w H.size) (N :: w1)) : PP g (N :: (cs ++ w1)) H1 ∧ va_D A (N :: (cs ++ w1)) := by
  obtain ⟨h1, h2⟩ := kw_j hP hD hF hk hP1 hD1
  exact ⟨h1.perm List.perm_middle, h2.perm List.perm_middle⟩
theorem va_D.tl {A : Nat → Prop} {q : Nat × va_E} {ws : va_W} (h : va_D A (q :: ws)) : va_D A ws := (va_D_iff.mpr ⟨(List.nodup_cons.mp (va_D_iff.mp h).1).2, fun x hx => (va_D_iff.mp h).2 x (List.mem_cons_of_mem _ hx)⟩)
theorem PP.tl {g : GT} {q : Nat × va_E} {ws : va_W} {H : Heap} (h : PP g (q :: ws) H) : PP g ws H := h.mem fun _ hq => List.mem_cons_of_mem _ hq
section KL
variable {p : Program} {l : Launch} {e : Env} {R : Room} {s : State} {m : MethodId} {args : Array Value} {below : List Frame} {meth : Method} {c : Code} {H : Heap} {locs : List Loc} {cells slots mc ms : Nat} {Q : State → Prop}
variable {pc : Nat} {ls : Array Slot} {rest st0 : List Value} {aa : Array Value} {A : Nat → Prop} {g : GT} {o : Nat} {nx : SGM} {cs w : va_W}
theorem kl_Qi {NP : Int → Prop} (hr : va_Run p l e R s m args below meth c H locs cells slots mc ms (F0 m pc ls st0) rest (jQi (fun z H1 => NP z ∧ ∃ w1 : va_W, CW g o nx w1 ∧ PP g w1 H1 ∧ va_D (va_A w H.size) w1) (va_A w H.size) aa) (va_A w H.size)) (hP : PP g (cs ++ w) H) (hD : va_D A (cs ++ w)) (hS : va_S A s.heap H locs) (hA : ∀ q, s.heap.size ≤ q → A q)
    (kk : ∀ (z : Int) (H1 : Heap) (locs1 : List Loc) (w1 : va_W), NP z → CW g o nx w1 → PP g (cs ++ w1) H1 → va_D A (cs ++ w1) → va_S A s.heap H1 locs1 → W p l e R s m args below meth c H1 locs1 (cells + mc) (slots + ms) Q (F0 m (pc + 3) ls (.int (jI z) :: rest))) : W p l e R s m args below meth c H locs cells slots Q (F0 m pc ls st0) := by
  have hF : ∀ q, va_A w H.size q → A q := va_A_sub hD.right hS.1 hA
  refine jk_Qi hr hS (fun q _ h => hF q h) hF (fun z H1 locs1 hz hzs hks hS => ?_)
  obtain ⟨hn, w1, hC, hP1, hD1⟩ := hz
  obtain ⟨h1, h2⟩ := kw_j hP hD hF hks hP1 hD1
  exact kk z H1 locs1 w1 hn hC h1 h2 hS
/-- a call that makes an array beside -/
theorem kl_Qr {α : Type} {N : Nat → α → Nat × va_E} {NP : Nat → α → Prop} (hr : va_Run p l e R s m args below meth c H locs cells slots mc ms (F0 m pc ls st0) rest (jQr (fun a H1 => ∃ (x : α) (w1 : va_W), NP a x ∧ CW g o nx w1 ∧ PP g (N a x :: w1) H1 ∧ va_D (va_A w H.size) (N a x :: w1)) (va_A w H.size) aa) (va_A w H.size)) (hP : PP g (cs ++ w) H) (hD : va_D A (cs ++ w)) (hS : va_S A s.heap H locs) (hA : ∀ q, s.heap.size ≤ q → A q)
    (kk : ∀ (a : Nat) (x : α) (H1 : Heap) (locs1 : List Loc) (w1 : va_W), NP a x → CW g o nx w1 → PP g (N a x :: (cs ++ w1)) H1 → va_D A (N a x :: (cs ++ w1)) → va_S A s.heap H1 locs1 → W p l e R s m args below meth c H1 locs1 (cells + mc) (slots + ms) Q (F0 m (pc + 3) ls (.ref a :: rest))) : W p l e R s m args below meth c H locs cells slots Q (F0 m pc ls st0) := by
  have hF : ∀ q, va_A w H.size q → A q := va_A_sub hD.right hS.1 hA
  refine jk_Qr hr hS (fun q _ h => hF q h) hF (fun z H1 locs1 hz hzs hks hS => ?_)
  obtain ⟨x, w1, hn, hC, hP1, hD1⟩ := hz
  obtain ⟨h1, h2⟩ := kw_j1 hP hD hF hks hP1 hD1
  exact kk z x H1 locs1 w1 hn hC h1 h2 hS
/-- a call that makes an array, apart from the class's world -/
theorem kl_Nr {α : Type} {N : Nat → α → Nat × va_E} {NP : Nat → α → Prop} {ws : va_W} (hr : va_Run p l e R s m args below meth c H locs cells slots mc ms (F0 m pc ls st0) rest (jQr (fun a H1 => ∃ x : α, NP a x ∧ PP g [N a x] H1 ∧ va_D (va_A [] H.size) [N a x]) (va_A [] H.size) aa) (va_A [] H.size)) (hP : PP g ws H) (hD : va_D A ws) (hS : va_S A s.heap H locs) (hA : ∀ q, s.heap.size ≤ q → A q)
    (kk : ∀ (a : Nat) (x : α) (H1 : Heap) (locs1 : List Loc), NP a x → PP g (N a x :: ws) H1 → va_D A (N a x :: ws) → va_S A s.heap H1 locs1 → W p l e R s m args below meth c H1 locs1 (cells + mc) (slots + ms) Q (F0 m (pc + 3) ls (.ref a :: rest))) : W p l e R s m args below meth c H locs cells slots Q (F0 m pc ls st0) := by
  have hF : ∀ q, va_A [] H.size q → A q := va_A_sub ⟨fun i j p q h => (by cases h), fun k q h => by cases h⟩ hS.1 hA
  refine jk_Qr hr hS (fun q _ h => hF q h) hF (fun z H1 locs1 hz hzs hks hS => ?_)
  obtain ⟨x, hn, hP1, hD1⟩ := hz
  have h9 := kw_j1 (w := []) (w1 := []) (cs := ws) (by rw [List.append_nil]; exact hP) (by rw [List.append_nil]; exact hD) hF hks hP1 hD1
  rw [List.append_nil] at h9
  exact kk z x H1 locs1 hn h9.1 h9.2 hS
/-- any int is some jI -/
theorem jr_any {v : Int32} (kk : ∀ z : Int, jR z → W p l e R s m args below meth c H locs cells slots Q (F0 m pc ls (.int (jI z) :: rest))) : W p l e R s m args below meth c H locs cells slots Q (F0 m pc ls (.int v :: rest)) := by
  rw [jI_of v]; exact kk _ (jR_of v)
theorem ushr_b (x : UInt32) (k : UInt32) (n : Nat) (hk : k.toNat % 32 = n) (hn : 1 ≤ n) : 0 ≤ (x >>> k).toInt32.toInt ∧ (x >>> k).toInt32.toInt < (2 : Int) ^ (32 - n) := by
  have h1 : (x >>> k).toNat = x.toNat / 2 ^ n := by
    rw [UInt32.toNat_shiftRight, hk, Nat.shiftRight_eq_div_pow]
  have hx : x.toNat < 4294967296 := x.toNat_lt
  have h2 : (x >>> k).toNat < 2 ^ (32 - n) := by
    rw [h1]
    apply Nat.div_lt_of_lt_mul
    rw [← Nat.pow_add]
    have : n ≤ 31 := by omega
    rw [show n + (32 - n) = 32 by omega]
    exact hx
  have h3 : 2 ^ (32 - n) ≤ 2 ^ 31 := Nat.pow_le_pow_right (by decide) (by omega)
  have h4 : (x >>> k).toInt32.toInt = ((x >>> k).toNat : Int) := by
    show ((x >>> k).toBitVec).toInt = _
    rw [BitVec.toInt_eq_toNat_of_lt (by have : (x >>> k).toBitVec.toNat = (x >>> k).toNat := rfl; omega)]
    rfl
  rw [h4]
  refine ⟨by omega, ?_⟩
  have : (((2 ^ (32 - n) : Nat)) : Int) = (2 : Int) ^ (32 - n) := by rw [Int.natCast_pow]; rfl
  omega
theorem jr_ushr {cc : ByteArray} (hx : p.tables.exec = Jvm.exec) (hb : c.code = cc) {v : Int32} (k : Int) (n : Nat) (b : Int) (hk : ((jI k).toUInt32 &&& Int32.toUInt32 31).toNat % 32 = n) (hn : 1 ≤ n) (hB : (2 : Int) ^ (32 - n) = b) (hdg : decode cc pc = .ok (.iushr, 1))
    (kk : ∀ z : Int, 0 ≤ z ∧ z < b → W p l e R s m args below meth c H locs cells slots Q (F0 m (pc + 1) ls (.int (jI z) :: rest))) : W p l e R s m args below meth c H locs cells slots Q (F0 m pc ls (.int (jI k) :: .int v :: rest)) := by
  refine lv_iushr hx hb hdg rfl ?_
  have h := ushr_b v.toUInt32 ((jI k).toUInt32 &&& Int32.toUInt32 31) n hk hn
  rw [hB] at h
  rw [jI_of ((v.toUInt32 >>> ((jI k).toUInt32 &&& Int32.toUInt32 31)).toInt32)]
  exact kk _ h
end KL
theorem lg_cmp_self (x : Int64) : lg_cmp x x = 0 := by
  unfold lg_cmp
  simp
theorem i2c_ok (v : Int) : ∃ u : Int, (0 ≤ u ∧ u < 65536) ∧ ((jI v).toUInt32 % 65536).toInt32 = jI u := by
  refine ⟨(((jI v).toUInt32 % 65536).toNat : Int), ?_, ?_⟩
  · have h : ((jI v).toUInt32 % 65536).toNat < 65536 := by
      rw [UInt32.toNat_mod]; exact Nat.mod_lt _ (by decide)
    omega
  · have h : ((jI v).toUInt32 % 65536).toNat < 65536 := by
      rw [UInt32.toNat_mod]; exact Nat.mod_lt _ (by decide)
    generalize (jI v).toUInt32 % 65536 = y at h ⊢
    refine Int32.toInt_inj.mp ?_
    rw [jI_toInt ⟨by omega, by omega⟩]
    show y.toBitVec.toInt = _
    rw [BitVec.toInt_eq_toNat_of_lt (by have : y.toBitVec.toNat = y.toNat := rfl; omega)]
    rfl
theorem kw_ne1 {A : Nat → Prop} {cs w : va_W} (h : va_D A (cs ++ w)) {q : Nat × va_E} (i : Nat) (hq : cs[i]? = some q) : ∀ x ∈ ([q] : va_W).map (·.1), x ∉ w.map (·.1) := by
  intro x hx
  obtain rfl : x = q.1 := by simpa using hx
  exact kw_ne h q (List.mem_of_getElem? hq)
theorem kw_nR {A : Nat → Prop} {cs w R : va_W} (h : va_D A (cs ++ w)) (hR : ∀ (k : Nat) (q : Nat × va_E), R[k]? = some q → ¬ A q.1) : ∀ x ∈ R.map (·.1), x ∉ w.map (·.1) := by
  intro x hx
  obtain ⟨q, hq, rfl⟩ := List.mem_map.mp hx
  obtain ⟨k, hk⟩ := List.getElem?_of_mem hq
  exact kw_nA h (hR k q hk)
theorem CW.d60 {g : GT} {o : Nat} {S : SGM} {W9 : va_W} (h : CW g o S W9) : S.1.length ≤ 60 := by
  obtain ⟨ad, fd, fk, g1, g2, g3, p1, p2, k1, k2, us, ss, lw1, lw2, hW, ho, ⟨h1, -⟩, -⟩ := h
  exact h1.len
theorem CW.wb {g : GT} {o : Nat} {S : SGM} {W9 : va_W} (h : CW g o S W9) : WB S.2.2.2.1 := by
  obtain ⟨ad, fd, fk, g1, g2, g3, p1, p2, k1, k2, us, ss, lw1, lw2, hW, ho, -, -, hw, -⟩ := h
  exact hw
/-- a unit's texts, a segment's: at most 60 codes, all from 0 to 39999 -/
def CT (t : List Int) : Prop := t.length ≤ 60 ∧ ∀ j, j < t.length → 0 ≤ t.getD j 0 ∧ t.getD j 0 < 40000
theorem TT.ct {t : List Int} {f : Nat → Int} (h : TT t f) : CT t := ⟨h.1, fun j hj => (h.2 j hj).2⟩
theorem CT.nil : CT [] := ⟨by decide, fun j h => by simp at h⟩
theorem CW.dct {g : GT} {o : Nat} {S : SGM} {W9 : va_W} (h : CW g o S W9) : CT S.1 := by
  obtain ⟨ad, fd, fk, g1, g2, g3, p1, p2, k1, k2, us, ss, lw1, lw2, hW, ho, ⟨h1, -⟩, -⟩ := h
  exact h1.ct
theorem CW.uct {g : GT} {o : Nat} {S : SGM} {W9 : va_W} (h : CW g o S W9) (j : Nat) : CT (uS S j).1 ∧ CT (uS S j).2.1 ∧ ((uS S j).2.2 = 0 ∨ (uS S j).2.2 = 1) := by
  obtain ⟨ad, fd, fk, g1, g2, g3, p1, p2, k1, k2, us, ss, lw1, lw2, hW, ho, -, -, -, -, ⟨hu, hs⟩, ⟨hUO, -⟩, -, h1, h2⟩ := h
  rw [uS_uv hu]
  rcases Nat.lt_or_ge j us.length with q | q
  · obtain ⟨u, hq⟩ : ∃ u, us[j]? = some u := ⟨_, List.getElem?_eq_getElem q⟩
    rw [uv_get hq]
    obtain ⟨a1, a2, a3, a4, a5, a6, a7, a8, a9, a10⟩ := u
    have h3 := hUO _ (List.mem_of_getElem? hq)
    exact ⟨h3.1.ct, h3.2.1.ct, h3.2.2⟩
  · have e : uv us j = ([], [], 0) := by
      unfold uv
      rw [List.getD_eq_getElem?_getD, List.getElem?_eq_none (by rw [List.length_map]; exact q)]
      rfl
    rw [e]
    exact ⟨CT.nil, CT.nil, Or.inl rfl⟩
theorem CW.sct {g : GT} {o : Nat} {S : SGM} {W9 : va_W} (h : CW g o S W9) (j : Nat) : CT (sS S j).1 ∧ CT (sS S j).2.1 ∧ (0 ≤ (sS S j).2.2.1 ∧ (sS S j).2.2.1 < 65536) ∧ (-1 ≤ (sS S j).2.2.2.1 ∧ (sS S j).2.2.2.1 < 60) ∧ (0 ≤ (sS S j).2.2.2.2 ∧ (sS S j).2.2.2.2 ≤ 100) := by
  obtain ⟨ad, fd, fk, g1, g2, g3, p1, p2, k1, k2, us, ss, lw1, lw2, hW, ho, -, -, -, -, ⟨hu, hs⟩, ⟨-, hSO⟩, -, h1, h2⟩ := h
  rw [sS_sv hs]
  rcases Nat.lt_or_ge j ss.length with q | q
  · obtain ⟨u, hq⟩ : ∃ u, ss[j]? = some u := ⟨_, List.getElem?_eq_getElem q⟩
    rw [sv_get hq]
    obtain ⟨a1, a2, a3, a4, a5, a6, a7, a8, a9, a10, a11, a12⟩ := u
    have h3 := hSO _ (List.mem_of_getElem? hq)
    exact ⟨h3.1.ct, h3.2.1.ct, h3.2.2.1, h3.2.2.2.1, h3.2.2.2.2⟩
  · have e : sv ss j = ([], [], 0, 0, 0) := by
      unfold sv
      rw [List.getD_eq_getElem?_getD, List.getElem?_eq_none (by rw [List.length_map]; exact q)]
      rfl
    rw [e]
    exact ⟨CT.nil, CT.nil, ⟨by decide, by decide⟩, ⟨by decide, by decide⟩, ⟨by decide, by decide⟩⟩
