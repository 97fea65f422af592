/-! throws behind writes; lists in a larger world -/
def jXw (pe : String → Prop) (B : Heap → Prop) (A : Nat → Prop) : String → State → State → Prop := fun E st t => pe E ∧ B t.heap ∧ va_F A st t
theorem jXw_mk {g : GT} {A : Nat → Prop} {s t : State} {H : Heap} {locs : List Loc} {ws : va_W} {o : Nat} {S : SGM} {pe : String → Prop} {E : String} (hE : pe E) (hS : va_S A s.heap H locs) (hP : PP g ws H) (hD : va_D A ws) (hC : CW g o S ws) (h1 : H.size ≤ t.heap.size) (h2 : ∀ q : Nat, q < H.size → t.heap[q]? = H[q]?) :
    jXw pe (fun H1 => ∃ w1 : va_W, CW g o S w1 ∧ PP g w1 H1 ∧ va_D A w1) A E s t :=
  ⟨hE, ⟨ws, hC, hP.kept (fun k q hk => h2 q.1 (hP k q hk).lt), hD⟩, Nat.le_trans hS.1 h1, fun q hq hn => (h2 q (Nat.lt_of_lt_of_le hq hS.1)).trans (hS.2.1 q hq hn)⟩
section XW
variable {p : Program} {l : Launch} {e : Env} {R : Room} {s : State} {m : MethodId} {args : Array Value} {below : List Frame} {meth : Method} {c : Code} {H : Heap} {locs : List Loc} {cells slots : Nat}
variable {pc : Nat} {ls : Array Slot} {rest st0 : List Value} {aa : Array Value} {mc ms : Nat} {free : Addr → Prop}
theorem jk_XSiW {post : Int → Prop} {pe : String → Prop} {XC : String → State → State → Prop} {Qc : Array Value → State → Outcome → State → Prop} {k n : Nat} (hr : vx_Run p l e R s m args below meth c H locs cells slots mc ms (F0 m pc ls st0) rest (jSi post aa) (jX pe) jN)
    (htab : ∀ x ∈ c.exceptionTable.toList, False) (hlk : meth.locks = false) (hE : ∀ (E : String) (t : State), pe E → H.size ≤ t.heap.size → (∀ q : Nat, q < H.size → t.heap[q]? = H[q]?) → XC E s t) (hfl : ∀ z ∈ locs, free z.base) (hc : cells + mc ≤ k) (hs : slots + ms ≤ n)
    (kk : ∀ z : Int, post z → W p l e R s m args below meth c H locs (cells + mc) (slots + ms) (vx_MQ below Qc XC args s k n free) (F0 m (pc + 3) ls (.int (jI z) :: rest))) : W p l e R s m args below meth c H locs cells slots (vx_MQ below Qc XC args s k n free) (F0 m pc ls st0) := by
  intro T hT X
  rcases hr T hT X with ⟨v, st₀, t, T', L, h0, X', hL, e1, e2, ⟨z, hv, hp, hh⟩, st⟩ | ⟨q, st₀, t, T', L, E, ce, h0, X', hL, e1, e2, ⟨hp, hz, hk⟩, hce, hcv, hcl, st⟩
  · cases hv
    cases jN_nil hL
    rw [List.append_nil] at X'
    obtain ⟨t2, a1, b1⟩ := kk z hp T' (by rw [e1, hh, h0]) X'
    exact ⟨t2, st t2 a1, b1⟩
  · cases jN_nil hL
    rw [h0] at hz hk
    rw [List.append_nil] at X'
    obtain ⟨t2, a1, b1⟩ := vx_out (Qc := Qc) (XC := XC) (q := q) (pc := pc) (ls := ls) (rest := rest) (free := free) (mc := k) (ms := n) (fun x hx => (htab x hx).elim) hlk (by rw [e1]; exact hce) hcv hcl (fun t9 ht _ => hE E t9 hp (by rw [ht, e1]; exact hz) (fun q hq => by rw [ht, e1]; exact hk q hq (fun h => h))) hfl hc hs T' rfl X'
    exact ⟨t2, st.trans a1, b1⟩
theorem jk_XSvW {post : Prop} {pe : String → Prop} {XC : String → State → State → Prop} {Qc : Array Value → State → Outcome → State → Prop} {k n : Nat} (hr : vx_Run p l e R s m args below meth c H locs cells slots mc ms (F0 m pc ls st0) rest (jSv post aa) (jX pe) jN)
    (htab : ∀ x ∈ c.exceptionTable.toList, False) (hlk : meth.locks = false) (hE : ∀ (E : String) (t : State), pe E → H.size ≤ t.heap.size → (∀ q : Nat, q < H.size → t.heap[q]? = H[q]?) → XC E s t) (hfl : ∀ z ∈ locs, free z.base) (hc : cells + mc ≤ k) (hs : slots + ms ≤ n)
    (kk : post → W p l e R s m args below meth c H locs (cells + mc) (slots + ms) (vx_MQ below Qc XC args s k n free) (F0 m (pc + 3) ls rest)) : W p l e R s m args below meth c H locs cells slots (vx_MQ below Qc XC args s k n free) (F0 m pc ls st0) := by
  intro T hT X
  rcases hr T hT X with ⟨v, st₀, t, T', L, h0, X', hL, e1, e2, ⟨hv, hp, hh⟩, st⟩ | ⟨q, st₀, t, T', L, E, ce, h0, X', hL, e1, e2, ⟨hp, hz, hk⟩, hce, hcv, hcl, st⟩
  · cases hv
    cases jN_nil hL
    rw [List.append_nil] at X'
    obtain ⟨t2, a1, b1⟩ := kk hp T' (by rw [e1, hh, h0]) X'
    exact ⟨t2, st t2 a1, b1⟩
  · cases jN_nil hL
    rw [h0] at hz hk
    rw [List.append_nil] at X'
    obtain ⟨t2, a1, b1⟩ := vx_out (Qc := Qc) (XC := XC) (q := q) (pc := pc) (ls := ls) (rest := rest) (free := free) (mc := k) (ms := n) (fun x hx => (htab x hx).elim) hlk (by rw [e1]; exact hce) hcv hcl (fun t9 ht _ => hE E t9 hp (by rw [ht, e1]; exact hz) (fun q hq => by rw [ht, e1]; exact hk q hq (fun h => h))) hfl hc hs T' rfl X'
    exact ⟨t2, st.trans a1, b1⟩
end XW
theorem va_D_iff {A : Nat → Prop} {ws : va_W} : va_D A ws ↔ (ws.map (·.1)).Nodup ∧ ∀ q ∈ ws, A q.1 := by
  constructor
  · intro h
    refine ⟨?_, fun q hq => ?_⟩
    · rw [List.nodup_iff_pairwise_ne, List.pairwise_iff_getElem]
      intro i j hi hj hij q
      rw [List.length_map] at hi hj
      rw [List.getElem_map, List.getElem_map] at q
      have := h.1 i j _ _ (List.getElem?_eq_getElem hi) (List.getElem?_eq_getElem hj) q
      omega
    · obtain ⟨k, hk⟩ := List.getElem?_of_mem hq
      exact h.2 k q hk
  · rintro ⟨h, h2⟩
    rw [List.nodup_iff_pairwise_ne, List.pairwise_iff_getElem] at h
    refine ⟨fun i j p q hp hq hpq => ?_, fun k q hk => h2 q (List.mem_of_getElem? hk)⟩
    obtain ⟨hi, ei⟩ := List.getElem?_eq_some_iff.mp hp
    obtain ⟨hj, ej⟩ := List.getElem?_eq_some_iff.mp hq
    rcases Nat.lt_trichotomy i j with g | g | g
    · exact absurd (by rw [List.getElem_map, List.getElem_map, ei, ej]; exact hpq) (h i j (by rw [List.length_map]; exact hi) (by rw [List.length_map]; exact hj) g)
    · exact g
    · exact absurd (by rw [List.getElem_map, List.getElem_map, ei, ej]; exact hpq.symm) (h j i (by rw [List.length_map]; exact hj) (by rw [List.length_map]; exact hi) g)
theorem va_A_mem {ws : va_W} {sz q : Nat} (h : va_A ws sz q) : q ∈ ws.map (·.1) ∨ sz ≤ q := by
  rcases h with ⟨k, e, h⟩ | h
  · exact Or.inl (List.mem_map.mpr ⟨(q, e), List.mem_of_getElem? h, rfl⟩)
  · exact Or.inr h
/-- what a call made of its own cells beside the rest -/
theorem jjoin {g : GT} {A : Nat → Prop} {ws wc wr w1 : va_W} {H H1 : Heap} (hP : PP g ws H) (hD : va_D A ws) (hp : ws.Perm (wc ++ wr)) (hk : ∀ q : Nat, q < H.size → ¬ va_A wc H.size q → H1[q]? = H[q]?) (hF : ∀ q, va_A wc H.size q → A q) (hP1 : PP g w1 H1) (hD1 : va_D (va_A wc H.size) w1) :
    PP g (w1 ++ wr) H1 ∧ va_D A (w1 ++ wr) := by
  have hP2 : PP g (wc ++ wr) H := hP.perm hp
  have hD2 := va_D_iff.mp (hD.perm hp)
  obtain ⟨hn, ha⟩ := hD2
  rw [List.map_append, List.nodup_append] at hn
  have hlt : ∀ q ∈ wr, q.1 < H.size := fun q hq => by
    obtain ⟨k, hk⟩ := List.getElem?_of_mem (List.mem_append_right wc hq)
    exact (hP2 k q hk).lt
  have hna : ∀ q ∈ wr, ¬ va_A wc H.size q.1 := fun q hq h => by
    rcases va_A_mem h with h | h
    · exact hn.2.2 _ h _ (List.mem_map.mpr ⟨q, hq, rfl⟩) rfl
    · have := hlt q hq; omega
  have hPr : PP g wr H1 := (hP2.mem fun q h => List.mem_append_right _ h : PP g wr H).kept fun k q h => hk q.1 (hlt q (List.mem_of_getElem? h)) (hna q (List.mem_of_getElem? h))
  obtain ⟨hn1, ha1⟩ := va_D_iff.mp hD1
  refine ⟨hP1.app hPr, va_D_iff.mpr ⟨?_, fun q hq => ?_⟩⟩
  · rw [List.map_append, List.nodup_append]
    refine ⟨hn1, hn.2.1, fun a h1 b h2 e => ?_⟩
    obtain ⟨q1, m1, rfl⟩ := List.mem_map.mp h1
    obtain ⟨q2, m2, rfl⟩ := List.mem_map.mp h2
    exact hna q2 m2 (e ▸ ha1 q1 m1)
  · rcases List.mem_append.mp hq with h | h
    · exact hF _ (ha1 q h)
    · exact ha q (List.mem_append_right _ h)
theorem jdisT2 {A : Nat → Prop} {ls tl rc : va_W} (hD : va_D A (ls ++ tl)) (hs : ∀ q ∈ rc, q ∈ tl) (js : List Nat) {ys : List Nat} (h2 : js.map (fun i => (ls[i]?).map (·.1)) = ys.map some) : ∀ x ∈ ys, x ∉ rc.map (·.1) := fun x hx h => jdisT hD hs js h2 x h hx
theorem flat_apart {A : Nat → Prop} {a b : va_W} (hD : va_D A (a ++ b)) {q : Nat × va_E} (hq : q ∈ b) : q.1 ∉ a.map (·.1) := by
  obtain ⟨hn, -⟩ := va_D_iff.mp hD
  rw [List.map_append, List.nodup_append] at hn
  exact fun h => hn.2.2 _ h _ (List.mem_map.mpr ⟨q, hq, rfl⟩) rfl
theorem EL.ofU {g : GT} {A : Nat → Prop} {us : List UR} {lw : va_W} {H : Heap} (hP : PP g (MR g us lw) H) (hD : va_D A (MR g us lw)) : EL g (us.map uA) (lw.map (·.1)) H := by
  intro y hy
  obtain ⟨u, hu, rfl⟩ := List.mem_map.mp hy
  obtain ⟨ua, us1, usc, ut, utc, s0, fs0, t0, ft0, lv⟩ := u
  have hm : (ob ua 7 [.ref us1, .ref ut, vi lv]) ∈ us.flatMap (uC g) := List.mem_flatMap.mpr ⟨_, hu, List.mem_cons_self⟩
  exact ⟨flat_apart hD hm, 7, _, Or.inl rfl, hP.mem fun q hq => by cases List.mem_singleton.mp hq; exact List.mem_append_right _ hm⟩
theorem EL.ofS {g : GT} {A : Nat → Prop} {ss : List SR} {lw : va_W} {H : Heap} (hP : PP g (DR g ss lw) H) (hD : va_D A (DR g ss lw)) : EL g (ss.map sA) (lw.map (·.1)) H := by
  intro y hy
  obtain ⟨u, hu, rfl⟩ := List.mem_map.mp hy
  obtain ⟨sa, tx, txc, ty, tyc, t, f, u, fu, st, un, sc⟩ := u
  have hm : (ob sa 4 [.ref tx, .ref ty, vi st, vi un, vi sc]) ∈ ss.flatMap (sC g) := List.mem_flatMap.mpr ⟨_, hu, List.mem_cons_self⟩
  exact ⟨flat_apart hD hm, 4, _, Or.inr rfl, hP.mem fun q hq => by cases List.mem_singleton.mp hq; exact List.mem_append_right _ hm⟩
theorem map_set_same {α β : Type} (f : α → β) {us : List α} {i : Nat} {u u' : α} (h : us[i]? = some u) (e : f u' = f u) : (us.set i u').map f = us.map f := by
  rw [List.map_set, e]
  have : (us.map f)[i]? = some (f u) := by rw [List.getElem?_map, h]; rfl
  obtain ⟨hi, he⟩ := List.getElem?_eq_some_iff.mp this
  rw [← he]
  exact List.set_getElem_self hi
theorem all_set {α : Type} {P : α → Prop} {us : List α} {i : Nat} {u' : α} (h : ∀ u ∈ us, P u) (h' : P u') : ∀ u ∈ us.set i u', P u := fun u hu => (List.mem_or_eq_of_mem_set hu).elim (h u) (fun e => e ▸ h')
