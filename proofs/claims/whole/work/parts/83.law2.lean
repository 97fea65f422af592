section JH2
variable {p : Program} {l : Launch} {e : Env} {R : Room} {s : State} {m : MethodId} {args : Array Value} {below : List Frame} {meth : Method} {c : Code} {cells slots : Nat} {Q : State → Prop}
variable {pc : Nat} {ls : Array Slot} {rest st0 : List Value} {mc ms : Nat} {aa : Array Value} {A : Nat → Prop} {g : GT} {o : Nat} {S nx : SGM} {J : Nat × va_E} {W9 : va_W} {pe : String → Prop}
theorem va_F.jN_to {A : Nat → Prop} {st t : State} (h : va_F jN st t) : va_F A st t := ⟨h.1, fun q h1 _ => h.2 q h1 (fun x => x)⟩
theorem va_F.of_eq {A : Nat → Prop} {st t : State} (h : t.heap = st.heap) : va_F A st t := ⟨by rw [h]; exact Nat.le_refl _, fun q _ _ => by rw [h]⟩
/-- the rest of a thrown call; of one that returned -/
def jh_kx (p : Program) (l : Launch) (e : Env) (R : Room) (s : State) (m : MethodId) (args : Array Value) (below : List Frame) (meth : Method) (c : Code) (cells slots : Nat) (Q : State → Prop) (pc : Nat) (ls : Array Slot) (rest : List Value) (A : Nat → Prop) (g : GT) (o : Nat) (S : SGM) (J : Nat × va_E) (pe : String → Prop) : Prop :=
  ∀ (E : String) (ce : Cell) (q9 : Addr) (H1 : Heap) (L : List Loc) (w1 : va_W), pe E → CW g o S w1 → PP g (J :: w1) H1 → va_D A (J :: w1) → va_S A s.heap H1 L → H1[q9]? = some ce → ce.vm = .none → s.vm.findClass E = some ce.cls → vx_W p l e R s m args below meth c H1 L cells slots Q (F0 m pc ls rest) q9
def jh_kk (p : Program) (l : Launch) (e : Env) (R : Room) (s : State) (m : MethodId) (args : Array Value) (below : List Frame) (meth : Method) (c : Code) (cells slots : Nat) (Q : State → Prop) (pc : Nat) (ls : Array Slot) (rest : List Value) (A : Nat → Prop) (g : GT) (o : Nat) (nx : SGM) (J : Nat × va_E) (NP : Value → Prop) : Prop :=
  ∀ (v : Value) (H1 : Heap) (L : List Loc) (w1 : va_W), NP v → CW g o nx w1 → PP g (J :: w1) H1 → va_D A (J :: w1) → va_S A s.heap H1 L → W p l e R s m args below meth c H1 L cells slots Q (F0 m (pc + 3) ls (v :: rest))
theorem jh_Si {NP : Int → Prop} (hr : vx_Run p l e R s m args below meth c s.heap [] cells slots mc ms (F0 m pc ls st0) rest (jSi NP aa) (jX pe) jN) (hCW : CW g o S W9) (hP : PP g (J :: W9) s.heap) (hD : va_D A (J :: W9))
    (kx : jh_kx p l e R s m args below meth c (cells + mc) (slots + ms) Q pc ls rest A g o S J pe) (kk : jh_kk p l e R s m args below meth c (cells + mc) (slots + ms) Q pc ls rest A g o S J (fun v => ∃ z, v = vi z ∧ NP z)) : W p l e R s m args below meth c s.heap [] cells slots Q (F0 m pc ls st0) := by
  refine jh_run (A0 := A) (A1 := jN) hr (fun _ _ h => h.elim) (fun _ h => h.elim) (fun st o t h => by obtain ⟨z, -, -, h3⟩ := h; exact va_F.of_eq h3) (fun E st t h => h.2) ?_ ?_
  · intro E ce q9 st t H1 L h0 h1 hx hk hS h2 h3 h4
    exact kx E ce q9 H1 L W9 hx.1 hCW (jh_keep hP hk) hD hS h2 h3 h4
  · intro v st t H1 L h0 h1 hq hk hS
    obtain ⟨z, hv, hz, -⟩ := hq
    cases hv
    exact kk (vi z) H1 L W9 ⟨z, rfl, hz⟩ hCW (jh_keep hP hk) hD hS
theorem jh_Sf {NP : UInt32 → Prop} (hr : vx_Run p l e R s m args below meth c s.heap [] cells slots mc ms (F0 m pc ls st0) rest (jSf NP aa) (jX pe) jN) (hCW : CW g o S W9) (hP : PP g (J :: W9) s.heap) (hD : va_D A (J :: W9))
    (kx : jh_kx p l e R s m args below meth c (cells + mc) (slots + ms) Q pc ls rest A g o S J pe) (kk : jh_kk p l e R s m args below meth c (cells + mc) (slots + ms) Q pc ls rest A g o S J (fun v => ∃ z, v = .float z ∧ NP z)) : W p l e R s m args below meth c s.heap [] cells slots Q (F0 m pc ls st0) := by
  refine jh_run (A0 := A) (A1 := jN) hr (fun _ _ h => h.elim) (fun _ h => h.elim) (fun st o t h => by obtain ⟨z, -, -, h3⟩ := h; exact va_F.of_eq h3) (fun E st t h => h.2) ?_ ?_
  · intro E ce q9 st t H1 L h0 h1 hx hk hS h2 h3 h4
    exact kx E ce q9 H1 L W9 hx.1 hCW (jh_keep hP hk) hD hS h2 h3 h4
  · intro v st t H1 L h0 h1 hq hk hS
    obtain ⟨z, hv, hz, -⟩ := hq
    cases hv
    exact kk (.float z) H1 L W9 ⟨z, rfl, hz⟩ hCW (jh_keep hP hk) hD hS
theorem jh_Qi {NP : Int → Prop} (hr : vx_Run p l e R s m args below meth c s.heap [] cells slots mc ms (F0 m pc ls st0) rest (jQi (fun z H1 => NP z ∧ ∃ w1 : va_W, CW g o nx w1 ∧ PP g w1 H1 ∧ va_D (va_A W9 s.heap.size) w1) (va_A W9 s.heap.size) aa) (jX pe) (va_A W9 s.heap.size)) (hCW : CW g o S W9) (hP : PP g (J :: W9) s.heap) (hD : va_D A (J :: W9)) (hA : ∀ q, s.heap.size ≤ q → A q)
    (kx : jh_kx p l e R s m args below meth c (cells + mc) (slots + ms) Q pc ls rest A g o S J pe) (kk : jh_kk p l e R s m args below meth c (cells + mc) (slots + ms) Q pc ls rest A g o nx J (fun v => ∃ z, v = vi z ∧ NP z)) : W p l e R s m args below meth c s.heap [] cells slots Q (F0 m pc ls st0) := by
  have hF : ∀ q, va_A W9 s.heap.size q → A q := va_A_sub (hD.perm (List.perm_append_singleton J W9).symm).left (Nat.le_refl _) hA
  refine jh_run (A0 := A) (A1 := va_A W9 s.heap.size) hr (fun q _ h => hF q h) hF (fun st o t h => h.2) (fun E st t h => h.2.jN_to) ?_ ?_
  · intro E ce q9 st t H1 L h0 h1 hx hk hS h2 h3 h4
    exact kx E ce q9 H1 L W9 hx.1 hCW (hP.kept fun k q h => by rw [← h1, ← h0]; exact hx.2.2 q.1 (by rw [h0]; exact (hP k q h).lt) (fun h => h)) hD hS h2 h3 h4
  · intro v st t H1 L h0 h1 hq hk hS
    obtain ⟨⟨z, hv, hz, w1, hC, hP1, hD1⟩, -⟩ := hq
    cases hv
    rw [h1] at hP1
    obtain ⟨hP2, hD2⟩ := jh_join hP hD hA hk hP1 hD1
    exact kk (vi z) H1 L w1 ⟨z, rfl, hz⟩ hC hP2 hD2 hS
theorem jh_Qd {NP : UInt64 → Prop} (hr : vx_Run p l e R s m args below meth c s.heap [] cells slots mc ms (F0 m pc ls st0) rest (jQd (fun z H1 => NP z ∧ ∃ w1 : va_W, CW g o nx w1 ∧ PP g w1 H1 ∧ va_D (va_A W9 s.heap.size) w1) (va_A W9 s.heap.size) aa) (jX pe) (va_A W9 s.heap.size)) (hCW : CW g o S W9) (hP : PP g (J :: W9) s.heap) (hD : va_D A (J :: W9)) (hA : ∀ q, s.heap.size ≤ q → A q)
    (kx : jh_kx p l e R s m args below meth c (cells + mc) (slots + ms) Q pc ls rest A g o S J pe) (kk : jh_kk p l e R s m args below meth c (cells + mc) (slots + ms) Q pc ls rest A g o nx J (fun v => ∃ z, v = .double z ∧ NP z)) : W p l e R s m args below meth c s.heap [] cells slots Q (F0 m pc ls st0) := by
  have hF : ∀ q, va_A W9 s.heap.size q → A q := va_A_sub (hD.perm (List.perm_append_singleton J W9).symm).left (Nat.le_refl _) hA
  refine jh_run (A0 := A) (A1 := va_A W9 s.heap.size) hr (fun q _ h => hF q h) hF (fun st o t h => h.2) (fun E st t h => h.2.jN_to) ?_ ?_
  · intro E ce q9 st t H1 L h0 h1 hx hk hS h2 h3 h4
    exact kx E ce q9 H1 L W9 hx.1 hCW (hP.kept fun k q h => by rw [← h1, ← h0]; exact hx.2.2 q.1 (by rw [h0]; exact (hP k q h).lt) (fun h => h)) hD hS h2 h3 h4
  · intro v st t H1 L h0 h1 hq hk hS
    obtain ⟨⟨z, hv, hz, w1, hC, hP1, hD1⟩, -⟩ := hq
    cases hv
    rw [h1] at hP1
    obtain ⟨hP2, hD2⟩ := jh_join hP hD hA hk hP1 hD1
    exact kk (.double z) H1 L w1 ⟨z, rfl, hz⟩ hC hP2 hD2 hS
theorem jh_Qw {NP : Int → Prop} (hr : vx_Run p l e R s m args below meth c s.heap [] cells slots mc ms (F0 m pc ls st0) rest (jQi (fun z H1 => NP z ∧ ∃ w1 : va_W, CW g o nx w1 ∧ PP g w1 H1 ∧ va_D (va_A W9 s.heap.size) w1) (va_A W9 s.heap.size) aa) (jXw pe (fun H1 => ∃ w1 : va_W, CW g o S w1 ∧ PP g w1 H1 ∧ va_D (va_A W9 s.heap.size) w1) (va_A W9 s.heap.size)) (va_A W9 s.heap.size)) (hP : PP g (J :: W9) s.heap) (hD : va_D A (J :: W9)) (hA : ∀ q, s.heap.size ≤ q → A q)
    (kx : jh_kx p l e R s m args below meth c (cells + mc) (slots + ms) Q pc ls rest A g o S J pe) (kk : jh_kk p l e R s m args below meth c (cells + mc) (slots + ms) Q pc ls rest A g o nx J (fun v => ∃ z, v = vi z ∧ NP z)) : W p l e R s m args below meth c s.heap [] cells slots Q (F0 m pc ls st0) := by
  have hF : ∀ q, va_A W9 s.heap.size q → A q := va_A_sub (hD.perm (List.perm_append_singleton J W9).symm).left (Nat.le_refl _) hA
  refine jh_run (A0 := A) (A1 := va_A W9 s.heap.size) hr (fun q _ h => hF q h) hF (fun st o t h => h.2) (fun E st t h => h.2.2) ?_ ?_
  · intro E ce q9 st t H1 L h0 h1 hx hk hS h2 h3 h4
    obtain ⟨hE, ⟨w1, hC, hP1, hD1⟩, -⟩ := hx
    rw [h1] at hP1
    obtain ⟨hP2, hD2⟩ := jh_join hP hD hA hk hP1 hD1
    exact kx E ce q9 H1 L w1 hE hC hP2 hD2 hS h2 h3 h4
  · intro v st t H1 L h0 h1 hq hk hS
    obtain ⟨⟨z, hv, hz, w1, hC, hP1, hD1⟩, -⟩ := hq
    cases hv
    rw [h1] at hP1
    obtain ⟨hP2, hD2⟩ := jh_join hP hD hA hk hP1 hD1
    exact kk (vi z) H1 L w1 ⟨z, rfl, hz⟩ hC hP2 hD2 hS
/-- a handler's entry -/
def xe (h : Nat × Nat × Nat × Nat) : ExceptionTableEntry := ⟨h.1, h.2.1, h.2.2.1, h.2.2.2⟩
end JH2
