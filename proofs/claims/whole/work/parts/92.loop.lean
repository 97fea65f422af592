theorem law_end {p : Program} {l : Launch} {e : Env} {s : State} {m : MethodId} {below : List Frame} {meth : Method} {c : Code} {b k : Nat} {g : GT} (hx : p.tables.exec = Jvm.exec) (hb : c.code = cL_law) (hr : meth.sig.returnType = ret) (hlk : meth.locks = false) (hgb : gb g = s.heap.size) (hk : k ≤ 512) {H : Heap} {locs : List Loc} (hS : va_S (fun q => gb g ≤ q) s.heap H locs) {ls : Array Slot} : W p l e room_1 s m #[Value.ref b] below meth c H locs (50 + 361 * k) (13700 + 13026 * k) (lw_Z below #[Value.ref b] s) (F0 m 2208 ls []) := by
  refine va_forget (fun q h => by have h9 := hS.2.2 q h; have h8 : gb g ≤ q.base := h9; omega) ?_
  refine W.widen (k := 603072) (n := 7219306) (by omega) (by omega) ?_
  refine jr_iconst hx hb dL_law_2208 ?_
  exact lw_ret (d0 := s.drawn) (Drawn.sameBut.refl s.drawn lw_cs) hx hb hr hlk dL_law_2209
theorem law_loop (l : Launch) (hsT : l.stackTraces = false) {g : GT} {cj cd : ClassId} {p : Program} {e : Env} {s : State} {m : MethodId} {b : Nat} {below : List Frame} {meth : Method} {c : Code} {ox om a1 a2 L : Nat} {xs : Nat → Int32} (hx : p.tables.exec = Jvm.exec) (hb : c.code = cL_law) (hr : meth.sig.returnType = ret) (hlk : meth.locks = false) (hml : c.maxLocals = 9) (hown : s.vm.findClass RL = some m.cls) (htl : ∀ w ∈ WSL, w.before #[Value.ref b] s = true) (hKK : KK g s) (hKJ : KJ g cj cd s) (hgb : gb g = s.heap.size) (hX : va_X b L xs s s.heap) (hbl : b < s.heap.size) (hL : L ≤ 2560) :
    ∀ n k : Nat, L - 5 * k < n → 5 * k ≤ L → LK g cj cd p l e s m b below meth c (lw_Z below #[Value.ref b] s) ox om a1 a2 (5 * k) k := by
  intro n
  induction n with
  | zero => intro k h; exact absurd h (Nat.not_lt_zero _)
  | succ n ih =>
    intro k h hk
    refine law_step l hsT hx hb hml hown htl hKK hKJ hgb hX hbl hk hL rfl (fun h5 => ?_) (fun H locs hS ls _ => law_end hx hb hr hlk hgb (by omega) hS)
    have h9 := ih (k + 1) (by omega) (by omega)
    rw [show 5 * (k + 1) = 5 * k + 5 by omega] at h9
    exact h9
