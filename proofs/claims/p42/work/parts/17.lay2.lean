section JR5
variable {p : Program} {l : Launch} {e : Env} {R : Room} {s : State} {m : MethodId} {args : Array Value} {below : List Frame} {meth : Method} {c : Code} {H : Heap} {locs : List Loc} {cells slots : Nat} {Q : State → Prop}
variable {cc : ByteArray} {pc : Nat} {ls : Array Slot} {rest : List Value} {g : GT} {ws : va_W} {A : Nat → Prop} {H0 : Heap}
variable {st0 : List Value} {aa : Array Value} {mc ms : Nat} {free : Addr → Prop} {A0 A1 : Nat → Prop}
theorem jk5_Si {post : Int → Prop} (hr : va_Run5 p l e R s m args below meth c H locs cells slots 0 0 (F0 m pc ls st0) rest (jSi post aa) jN)
    (kk : ∀ z : Int, post z → W p l e R s m args below meth c H locs cells slots Q (F0 m (pc + 5) ls (.int (jI z) :: rest))) : W p l e R s m args below meth c H locs cells slots Q (F0 m pc ls st0) := by
  intro T hT X
  obtain ⟨v, st₀, t, T', L, h0, X', hL, e1, e2, ⟨z, hv, hp, hh⟩, st⟩ := hr T hT X
  cases hv
  cases jN_nil hL
  rw [List.append_nil] at X'
  obtain ⟨t2, a1, b1⟩ := kk z hp T' (by rw [e1, hh, h0]) X'
  exact ⟨t2, st t2 a1, b1⟩
theorem jk5_Sr {post : Nat → Prop} (hr : va_Run5 p l e R s m args below meth c H locs cells slots 0 0 (F0 m pc ls st0) rest (jSr post aa) jN)
    (kk : ∀ z : Nat, post z → W p l e R s m args below meth c H locs cells slots Q (F0 m (pc + 5) ls (.ref z :: rest))) : W p l e R s m args below meth c H locs cells slots Q (F0 m pc ls st0) := by
  intro T hT X
  obtain ⟨v, st₀, t, T', L, h0, X', hL, e1, e2, ⟨z, hv, hp, hh⟩, st⟩ := hr T hT X
  cases hv
  cases jN_nil hL
  rw [List.append_nil] at X'
  obtain ⟨t2, a1, b1⟩ := kk z hp T' (by rw [e1, hh, h0]) X'
  exact ⟨t2, st t2 a1, b1⟩
theorem jk5_Qi {post : Int → Heap → Prop} (hr : va_Run5 p l e R s m args below meth c H locs cells slots mc ms (F0 m pc ls st0) rest (jQi post A1 aa) free) (hS : va_S A0 H0 H locs) (hA : ∀ q, q < H.size → A1 q → A0 q) (hf : ∀ q, free q → A0 q)
    (kk : ∀ (z : Int) (H1 : Heap) (locs1 : List Loc), post z H1 → H.size ≤ H1.size → (∀ q : Nat, q < H.size → ¬ A1 q → H1[q]? = H[q]?) → va_S A0 H0 H1 locs1 → W p l e R s m args below meth c H1 locs1 (cells + mc) (slots + ms) Q (F0 m (pc + 5) ls (.int (jI z) :: rest))) : W p l e R s m args below meth c H locs cells slots Q (F0 m pc ls st0) := by
  intro T hT X
  obtain ⟨v, st₀, t, T', L, h0, X', hL, e1, e2, ⟨⟨z, hv, hp⟩, hF⟩, st⟩ := hr T hT X
  cases hv
  obtain ⟨k1, k2, k3⟩ := vx_keep h0 e1 hS hA hf hL hF
  obtain ⟨t2, a1, b1⟩ := kk z T'.heap (locs ++ L) (by rw [e1]; exact hp) k1 k2 k3 T' rfl X'
  exact ⟨t2, st t2 a1, b1⟩
theorem jk5_Qv {post : Heap → Prop} (hr : va_Run5 p l e R s m args below meth c H locs cells slots mc ms (F0 m pc ls st0) rest (jQv post A1 aa) free) (hS : va_S A0 H0 H locs) (hA : ∀ q, q < H.size → A1 q → A0 q) (hf : ∀ q, free q → A0 q)
    (kk : ∀ (H1 : Heap) (locs1 : List Loc), post H1 → H.size ≤ H1.size → (∀ q : Nat, q < H.size → ¬ A1 q → H1[q]? = H[q]?) → va_S A0 H0 H1 locs1 → W p l e R s m args below meth c H1 locs1 (cells + mc) (slots + ms) Q (F0 m (pc + 5) ls rest)) : W p l e R s m args below meth c H locs cells slots Q (F0 m pc ls st0) := by
  intro T hT X
  obtain ⟨v, st₀, t, T', L, h0, X', hL, e1, e2, ⟨⟨hv, hp⟩, hF⟩, st⟩ := hr T hT X
  cases hv
  obtain ⟨k1, k2, k3⟩ := vx_keep h0 e1 hS hA hf hL hF
  obtain ⟨t2, a1, b1⟩ := kk T'.heap (locs ++ L) (by rw [e1]; exact hp) k1 k2 k3 T' rfl X'
  exact ⟨t2, st t2 a1, b1⟩
theorem jk_Qr {post : Nat → Heap → Prop} (hr : va_Run p l e R s m args below meth c H locs cells slots mc ms (F0 m pc ls st0) rest (jQr post A1 aa) free) (hS : va_S A0 H0 H locs) (hA : ∀ q, q < H.size → A1 q → A0 q) (hf : ∀ q, free q → A0 q)
    (kk : ∀ (z : Nat) (H1 : Heap) (locs1 : List Loc), post z H1 → H.size ≤ H1.size → (∀ q : Nat, q < H.size → ¬ A1 q → H1[q]? = H[q]?) → va_S A0 H0 H1 locs1 → W p l e R s m args below meth c H1 locs1 (cells + mc) (slots + ms) Q (F0 m (pc + 3) ls (.ref z :: rest))) : W p l e R s m args below meth c H locs cells slots Q (F0 m pc ls st0) := by
  intro T hT X
  obtain ⟨v, st₀, t, T', L, h0, X', hL, e1, e2, ⟨⟨z, hv, hp⟩, hF⟩, st⟩ := hr T hT X
  cases hv
  obtain ⟨k1, k2, k3⟩ := vx_keep h0 e1 hS hA hf hL hF
  obtain ⟨t2, a1, b1⟩ := kk z T'.heap (locs ++ L) (by rw [e1]; exact hp) k1 k2 k3 T' rfl X'
  exact ⟨t2, st t2 a1, b1⟩
/-! arrays of references -/
theorem jr_aald (hx : p.tables.exec = Jvm.exec) (hb : c.code = cc) (hK : va_K (gD g) cls (tys g) s) (hP : PP g ws H) (q0 : Nat) {a n : Nat} {f : Nat → Option Nat} (ha : ws[q0]? = some (aO g a n f)) {z : Int} (k : Nat) (hz : z = (k : Int)) (hk : k < n) (hn : k < 2147483648) {v : Nat} (hv : f k = some v) (hdg : decode cc pc = .ok (.aaload, 1))
    (kk : W p l e R s m args below meth c H locs cells slots Q (F0 m (pc + 1) ls (.ref v :: rest))) : W p l e R s m args below meth c H locs cells slots Q (F0 m pc ls (.int (jI z) :: .ref a :: rest)) := by
  subst hz
  refine va_aldq hx hb hK hP q0 3 ha rfl (jI_in (by omega) (by omega) (by omega)) hdg ?_
  rw [jI_cl (by omega) (by omega), Int.toNat_natCast, hv]
  exact kk
theorem jr_aast (hx : p.tables.exec = Jvm.exec) (hb : c.code = cc) (hK : va_K (gD g) cls (tys g) s) (hP : PP g ws H) (hD : va_D A ws) (hS : va_S A H0 H locs) (q0 : Nat) {a n : Nat} {f : Nat → Option Nat} (ha : ws[q0]? = some (aO g a n f)) {z : Int} {v : Nat} (hr : va_Any "java/lang/Object" s H v) (k : Nat) (hz : z = (k : Int)) (hk : k < n) (hn : k < 2147483648) (hdg : decode cc pc = .ok (.aastore, 1))
    (kk : ∀ (H1 : Heap) (locs1 : List Loc), PP g (ws.set q0 (aO g a n (va_up f k (some v)))) H1 → va_D A (ws.set q0 (aO g a n (va_up f k (some v)))) → va_S A H0 H1 locs1 → W p l e R s m args below meth c H1 locs1 cells slots Q (F0 m (pc + 1) ls rest)) : W p l e R s m args below meth c H locs cells slots Q (F0 m pc ls (.ref v :: .int (jI z) :: .ref a :: rest)) := by
  subst hz
  refine va_astqM hx hb hK hP hD hS q0 3 ha rfl hr (jI_in (by omega) (by omega) (by omega)) hdg ?_
  intro H1 locs1
  rw [jI_cl (by omega) (by omega), Int.toNat_natCast]
  exact kk H1 locs1
theorem jr_aastN (hx : p.tables.exec = Jvm.exec) (hb : c.code = cc) (hK : va_K (gD g) cls (tys g) s) (hP : PP g ws H) (hD : va_D A ws) (hS : va_S A H0 H locs) (q0 : Nat) {a n : Nat} {f : Nat → Option Nat} (ha : ws[q0]? = some (aO g a n f)) {z : Int} (k : Nat) (hz : z = (k : Int)) (hk : k < n) (hn : k < 2147483648) (hdg : decode cc pc = .ok (.aastore, 1))
    (kk : ∀ (H1 : Heap) (locs1 : List Loc), PP g (ws.set q0 (aO g a n (va_up f k none))) H1 → va_D A (ws.set q0 (aO g a n (va_up f k none))) → va_S A H0 H1 locs1 → W p l e R s m args below meth c H1 locs1 cells slots Q (F0 m (pc + 1) ls rest)) : W p l e R s m args below meth c H locs cells slots Q (F0 m pc ls (.null :: .int (jI z) :: .ref a :: rest)) := by
  subst hz
  refine va_astqN hx hb hK hP hD hS q0 3 ha rfl (jI_in (by omega) (by omega) (by omega)) hdg ?_
  intro H1 locs1
  rw [jI_cl (by omega) (by omega), Int.toNat_natCast]
  exact kk H1 locs1
theorem jr_newq (hx : p.tables.exec = Jvm.exec) (hb : c.code = cc) {own : String} {index : Nat} (hown : s.vm.findClass own = some m.cls) (hclink : (Cond.classLink own index "java/lang/Object").before args s = true) (hover : va_AO "java/lang/Object" s) (hK : va_K (gD g) cls (tys g) s) (hP : PP g ws H) (hD : va_D A ws) (hS : va_S A H0 H locs) (hA : ∀ q, H0.size ≤ q → A q)
    {z : Int} (N : Nat) (hz : z = (N : Int)) (hN : N < 1000) (hcells : cells + 1 ≤ R.cells) (hslots : slots + N ≤ R.slots) (hdg : decode cc pc = .ok (.anewarray index, 3))
    (kk : ∀ (q : Nat) (H1 : Heap), PP g (ws ++ [aO g q N (fun _ => none)]) H1 → va_D A (ws ++ [aO g q N (fun _ => none)]) → va_S A H0 H1 locs →
      W p l e R s m args below meth c H1 locs (cells + 1) (slots + N) Q (F0 m (pc + 3) ls (.ref q :: rest))) : W p l e R s m args below meth c H locs cells slots Q (F0 m pc ls (.int (jI z) :: rest)) := by
  subst hz
  refine va_newq hx hb hown hclink hover hK hP hD hS hA (N' := N) ?_ ?_ (by omega) hcells hslots hdg ?_
  · rw [jI_0, jI_lt ⟨by omega, by omega⟩ ⟨by omega, by omega⟩]; omega
  · rw [jI_cl (by omega) (by omega), Int.toNat_natCast]
  · intro q cA H1 hK1 hP1 hD1 hS1
    have e1 := (hK1.2 5 _ rfl).2
    have e2 := (hK.2 3 _ rfl).2
    obtain ⟨_, _, -, -, -, f1⟩ := e1
    obtain ⟨_, _, -, -, -, f2⟩ := e2
    obtain rfl : cA = gO g := Option.some.inj (f1.symm.trans f2)
    exact kk q H1 hP1 hD1 hS1
theorem jr_ishr1 (hx : p.tables.exec = Jvm.exec) (hb : c.code = cc) {a : Nat} (ha : a < 2147483648) (hdg : decode cc pc = .ok (.ishr, 1)) (k : W p l e R s m args below meth c H locs cells slots Q (F0 m (pc + 1) ls (.int (jI ((a / 2 : Nat) : Int)) :: rest))) : W p l e R s m args below meth c H locs cells slots Q (F0 m pc ls (.int (jI 1) :: .int (jI (a : Int)) :: rest)) := by
  refine lv_ishr hx hb hdg ?_
  have h := pk_shrN (n := a) (by omega) (jI 1 &&& 31) 1 (by decide)
  rw [← jI_nI, h, Nat.pow_one, jI_nI]
  exact k
theorem va_at.any {q : Nat} {ci : Nat} {fs : List Value} (hK : va_K (gD g) cls (tys g) s) (hP : PP g ws H) (k : Nat) (he : ws[k]? = some (ob q ci fs)) {r : vw_C} (hc : cls[ci]? = some r) (hca : va_Nw (.castable r.1 "java/lang/Object") s) : va_Any "java/lang/Object" s H q :=
  va_rAny hK hP he hc (fun comp c0 h1 h2 => vb_asgC hca comp c0 h1 h2)
end JR5
/-- an ArrayList at a, its elements l: with the shared empty array, or an array of its own -/
def LW (g : GT) (a : Nat) (l : List Nat) (lw : va_W) : Prop := (l = [] ∧ ∃ mc : Int, lw = [ob a 11 [vi mc, .ref (gE g), vi 0]]) ∨ (∃ (mc : Int) (ea cap : Nat) (f : Nat → Option Nat), lw = [ob a 11 [vi mc, .ref ea, vi (l.length : Int)], aO g ea cap f] ∧ l.length ≤ cap ∧ 10 ≤ cap ∧ cap ≤ 88 ∧ ∀ j, j < l.length → f j = some (l.getD j 0))
theorem LW.at0 {g : GT} {a : Nat} {l : List Nat} {lw : va_W} (h : LW g a l lw) : ∃ (mc : Int) (ed : Value), lw[0]? = some (ob a 11 [vi mc, ed, vi (l.length : Int)]) := by
  rcases h with ⟨rfl, mc, rfl⟩ | ⟨mc, ea, cap, f, rfl, -⟩
  · exact ⟨mc, .ref (gE g), rfl⟩
  · exact ⟨mc, .ref ea, rfl⟩
section JE
variable {p : Program} {l : Launch} {e : Env} {R : Room} {s : State} {m : MethodId} {args : Array Value} {below : List Frame} {meth : Method} {c : Code} {H : Heap} {locs : List Loc} {cells slots : Nat} {cc : ByteArray} {pc : Nat} {ls : Array Slot} {A : Nat → Prop} {free : Addr → Prop}
theorem je_QrA {post : Nat → Heap → Prop} {a : Nat} {t : FieldType} (hx : p.tables.exec = Jvm.exec) (hb : c.code = cc) (hr : meth.sig.returnType = some (.array t)) (hlk : meth.locks = false) (hS : va_S A s.heap H locs) (hp : post a H) (hdg : decode cc pc = .ok (.areturn, 1)) :
    W p l e R s m args below meth c H locs cells slots (MQ below (jQr post A) args s cells slots A) (F0 m pc ls [.ref a]) := W.aret hx hb hr (Or.inr ⟨t, rfl⟩) (Or.inr ⟨a, rfl⟩) (fun t ht _ => ⟨⟨a, rfl, by rw [ht]; exact hp⟩, hS.F ht⟩) hS.2.2 hdg hlk
theorem je_Qr {post : Nat → Heap → Prop} {a : Nat} {n : String} (hx : p.tables.exec = Jvm.exec) (hb : c.code = cc) (hr : meth.sig.returnType = some (.object n)) (hlk : meth.locks = false) (hS : va_S A s.heap H locs) (hp : post a H) (hdg : decode cc pc = .ok (.areturn, 1)) :
    W p l e R s m args below meth c H locs cells slots (MQ below (jQr post A) args s cells slots A) (F0 m pc ls [.ref a]) := W.aret hx hb hr (Or.inl ⟨n, rfl⟩) (Or.inr ⟨a, rfl⟩) (fun t ht _ => ⟨⟨a, rfl, by rw [ht]; exact hp⟩, hS.F ht⟩) hS.2.2 hdg hlk
end JE
/-! lists: elements, receivers -/
theorem jo_nm : "[" ++ (FieldType.object "java/lang/Object").toString = "[Ljava/lang/Object;" := by decide +kernel
theorem jo_recv {s : State} {H : Heap} {ws : va_W} {g : GT} {a n : Nat} {f : Nat → Option Nat} (hK : va_K (gD g) cls (tys g) s) (hP : PP g ws H) (q0 : Nat) (ha : ws[q0]? = some (aO g a n f)) : ∃ cell : Cell, H[a]? = some cell ∧ cell.vm.isStatics = false ∧ s.vm.findClass "[Ljava/lang/Object;" = some cell.cls := by
  obtain ⟨_, _, -, -, -, f2⟩ := (hK.2 3 _ rfl).2
  rw [jo_nm] at f2
  exact ⟨_, hP q0 _ ha, rfl, f2⟩
theorem cst8 {g : GT} {s : State} (h : KK g s) : va_Nw (.castable RX8 "java/lang/Object") s := h.1.2.2.1 (RX8, "java/lang/Object") (List.mem_of_getElem? (i := 6) rfl)
theorem cst4 {g : GT} {s : State} (h : KK g s) : va_Nw (.castable RX4 "java/lang/Object") s := h.1.2.2.1 (RX4, "java/lang/Object") (List.mem_of_getElem? (i := 7) rfl)
/-- the objects xs, units or segments, none of them at the addresses as -/
def EL (g : GT) (xs as : List Nat) (H : Heap) : Prop := ∀ y ∈ xs, y ∉ as ∧ ∃ (ci : Nat) (fs : List Value), (ci = 7 ∨ ci = 4) ∧ PP g [ob y ci fs] H
theorem EL.kept {g : GT} {xs as xs' as' : List Nat} {A : Nat → Prop} {H0 H : Heap} {locs : List Loc} (h : EL g xs as H0) (hS : va_S A H0 H locs) (hA : ∀ y, y ∉ as → y < H0.size → ¬ A y) (hx : ∀ y ∈ xs', y ∈ xs) (ha : ∀ y ∈ as', y ∈ as) : EL g xs' as' H := by
  intro y hy
  obtain ⟨h1, ci, fs, h2, h3⟩ := h y (hx y hy)
  refine ⟨fun q => h1 (ha y q), ci, fs, h2, h3.kept fun k q hk => ?_⟩
  have hz : k < 1 := (List.getElem?_eq_some_iff.mp hk).1
  obtain rfl : k = 0 := by omega
  cases hk
  exact hS.2.1 y (h3 0 _ rfl).lt (hA y h1 (h3 0 _ rfl).lt)
theorem EL.any {g : GT} {xs as : List Nat} {s : State} {A : Nat → Prop} {H0 H : Heap} {locs : List Loc} (h : EL g xs as H0) (hKK : KK g s) (hS : va_S A H0 H locs) (hA : ∀ y, y ∉ as → y < H0.size → ¬ A y) {y : Nat} (hy : y ∈ xs) : va_Any "java/lang/Object" s H y := by
  obtain ⟨h1, ci, fs, h2, h3⟩ := EL.kept (xs' := xs) (as' := as) h hS hA (fun _ q => q) (fun _ q => q) y hy
  rcases h2 with rfl | rfl
  · exact va_at.any hKK.k h3 0 rfl (r := (RX8, TX8, 3)) rfl (cst8 hKK)
  · exact va_at.any hKK.k h3 0 rfl (r := (RX4, TX4, 5)) rfl (cst4 hKK)
theorem nA_of {wc : va_W} {A : Nat → Prop} {sz : Nat} (hAe : va_A wc sz = A) : ∀ y, y ∉ wc.map (·.1) → y < sz → ¬ A y := by
  intro y h1 h2 h3
  rw [← hAe] at h3
  rcases h3 with ⟨k, e, h⟩ | h
  · exact h1 (List.mem_map.mpr ⟨(y, e), List.mem_of_getElem? h, rfl⟩)
  · omega
theorem LW.push {g : GT} {a ea cap : Nat} {l : List Nat} {f : Nat → Option Nat} {q : Nat} {mc n : Int} (hl : l.length < cap) (h1 : 10 ≤ cap) (h2 : cap ≤ 88) (hf : ∀ j, j < l.length → f j = some (l.getD j 0)) (hn : n = (l.length : Int) + 1) : LW g a (l ++ [q]) [ob a 11 [vi mc, .ref ea, vi n], aO g ea cap (va_up f l.length (some q))] := by
  refine Or.inr ⟨mc, ea, cap, va_up f l.length (some q), ?_, ?_, h1, h2, ?_⟩
  · rw [List.length_append, List.length_singleton, Int.natCast_add, hn]; rfl
  · rw [List.length_append, List.length_singleton]; omega
  · intro j hj
    rw [List.length_append, List.length_singleton] at hj
    rw [List.getD_eq_getElem?_getD]
    by_cases e : j = l.length
    · subst e; rw [va_up_self, List.getElem?_concat_length]; rfl
    · rw [va_up_ne _ _ e, hf j (by omega), List.getElem?_append_left (by omega), List.getD_eq_getElem?_getD]
theorem LW.cpy {l : List Nat} {f : Nat → Option Nat} {n : Nat} (hn : l.length = n) (hf : ∀ j, j < l.length → f j = some (l.getD j 0)) : ∀ j, j < l.length → va_cpy f (fun _ => none) 0 0 n j = some (l.getD j 0) := by
  intro j hj
  unfold va_cpy
  rw [if_pos ⟨Nat.zero_le _, by omega⟩, show 0 + (j - 0) = j by omega]
  exact hf j hj
theorem LW.nil {g : GT} {a ea cap : Nat} {f : Nat → Option Nat} {mc : Int} (h1 : 10 ≤ cap) (h2 : cap ≤ 88) : LW g a [] [ob a 11 [vi mc, .ref ea, vi 0], aO g ea cap f] :=
  Or.inr ⟨mc, ea, cap, f, rfl, Nat.zero_le _, h1, h2, fun _ h => absurd h (Nat.not_lt_zero _)⟩
theorem fw_0 {g : GT} {s : State} (h : KK g s) : va_Fw RJx4a65c ⟨"java/util/List", "size", "()I"⟩ yJx4a65c_size_8abf5 s := h.1.2.2.2.2.1 (⟨"java/util/List", "size", "()I"⟩, yJx4a65c_size_8abf5) (List.mem_of_getElem? (i := 0) rfl)
theorem fw_1 {g : GT} {s : State} (h : KK g s) : va_Fw RJx4a65c ⟨"java/util/List", "get", "(I)Ljava/lang/Object;"⟩ yJx4a65c_get_915e3 s := h.1.2.2.2.2.1 (⟨"java/util/List", "get", "(I)Ljava/lang/Object;"⟩, yJx4a65c_get_915e3) (List.mem_of_getElem? (i := 1) rfl)
theorem fw_2 {g : GT} {s : State} (h : KK g s) : va_Fw RJx4a65c ⟨"java/util/List", "add", "(Ljava/lang/Object;)Z"⟩ yJx4a65c_add_9ea2d s := h.1.2.2.2.2.1 (⟨"java/util/List", "add", "(Ljava/lang/Object;)Z"⟩, yJx4a65c_add_9ea2d) (List.mem_of_getElem? (i := 2) rfl)
theorem fw_3 {g : GT} {s : State} (h : KK g s) : va_Fw RJx4a65c ⟨"java/util/List", "clear", "()V"⟩ yJx4a65c_clear_da8c8 s := h.1.2.2.2.2.1 (⟨"java/util/List", "clear", "()V"⟩, yJx4a65c_clear_da8c8) (List.mem_of_getElem? (i := 3) rfl)
theorem LW.recv {g : GT} {s : State} {H : Heap} {a : Nat} {l : List Nat} {lw : va_W} (hKK : KK g s) (h : LW g a l lw) (hP : PP g lw H) : ∃ cell : Cell, H[a]? = some cell ∧ cell.vm.isStatics = false ∧ s.vm.findClass RJx4a65c = some cell.cls := by
  rcases h with ⟨rfl, mc, rfl⟩ | ⟨mc, ea, cap, f, rfl, -⟩
  · exact va_recv hKK.k hP (ci := 11) (q0 := 0) rfl rfl
  · exact va_recv hKK.k hP (ci := 11) (q0 := 0) rfl rfl
