theorem nws_0 : (285, "the value is out of range") ∈ nwS := List.mem_of_getElem? (i := 0) rfl
theorem nws_1 : (295, "the draft is full") ∈ nwS := List.mem_of_getElem? (i := 1) rfl
theorem nws_2 : (71, "there is no such mark") ∈ nwS := List.mem_of_getElem? (i := 2) rfl
theorem nws_3 : (287, "the weight is out of range") ∈ nwS := List.mem_of_getElem? (i := 3) rfl
theorem nws_4 : (104, "there is this term already") ∈ nwS := List.mem_of_getElem? (i := 4) rfl
theorem nws_5 : (110, "there are as many terms as there can be") ∈ nwS := List.mem_of_getElem? (i := 5) rfl
theorem nws_6 : (291, "the draft is empty") ∈ nwS := List.mem_of_getElem? (i := 6) rfl
theorem nws_7 : (125, "no source is there") ∈ nwS := List.mem_of_getElem? (i := 7) rfl
theorem nws_8 : (293, "there are as many units as there can be") ∈ nwS := List.mem_of_getElem? (i := 8) rfl
theorem nws_9 : (302, "there is no such unit") ∈ nwS := List.mem_of_getElem? (i := 9) rfl
theorem nws_10 : (306, "the unit is withdrawn") ∈ nwS := List.mem_of_getElem? (i := 10) rfl
theorem nws_11 : (289, "no unit is offered") ∈ nwS := List.mem_of_getElem? (i := 11) rfl
theorem nws_12 : (194, "the threshold is out of range") ∈ nwS := List.mem_of_getElem? (i := 12) rfl
theorem nws_13 : (308, "there is no such segment") ∈ nwS := List.mem_of_getElem? (i := 13) rfl
theorem nws_14 : (310, "the segment is not filled by a unit") ∈ nwS := List.mem_of_getElem? (i := 14) rfl
theorem nws_15 : (241, "there is no such token") ∈ nwS := List.mem_of_getElem? (i := 15) rfl
theorem nws_16 : (312, "the segment is empty") ∈ nwS := List.mem_of_getElem? (i := 16) rfl
theorem nws_17 : (315, "the target has no such token") ∈ nwS := List.mem_of_getElem? (i := 17) rfl
theorem nws_18 : (270, "there are no segments") ∈ nwS := List.mem_of_getElem? (i := 18) rfl
section XQ
variable {p : Program} {l : Launch} {e : Env} {R : Room} {s : State} {m : MethodId} {args : Array Value} {below : List Frame} {meth : Method} {c : Code} {cells slots : Nat}
variable {pc : Nat} {ls : Array Slot} {rest st0 : List Value} {aa : Array Value} {mc ms : Nat} {free free1 : Addr → Prop} {A0 A1 : Nat → Prop}
/-- a call that may throw, nothing written before it; it writes when it returns -/
theorem jk_XQi {post : Int → Heap → Prop} {pe pe' : String → Prop} {Qc : Array Value → State → Outcome → State → Prop} {k n : Nat} (hr : vx_Run p l e R s m args below meth c s.heap [] cells slots mc ms (F0 m pc ls st0) rest (jQi post A1 aa) (jX pe) free1)
    (htab : ∀ x ∈ c.exceptionTable.toList, False) (hlk : meth.locks = false) (hE : ∀ E, pe E → pe' E) (hc : cells + mc ≤ k) (hs : slots + ms ≤ n) (hA : ∀ q, q < s.heap.size → A1 q → A0 q) (hf : ∀ q, free1 q → A0 q) (hfr : ∀ q, A0 q → free q)
    (kk : ∀ (z : Int) (H1 : Heap) (locs1 : List Loc), post z H1 → s.heap.size ≤ H1.size → (∀ q : Nat, q < s.heap.size → ¬ A1 q → H1[q]? = s.heap[q]?) → va_S A0 s.heap H1 locs1 → W p l e R s m args below meth c H1 locs1 (cells + mc) (slots + ms) (vx_MQ below Qc (jX pe') args s k n free) (F0 m (pc + 3) ls (.int (jI z) :: rest))) : W p l e R s m args below meth c s.heap [] cells slots (vx_MQ below Qc (jX pe') args s k n free) (F0 m pc ls st0) := by
  intro T hT X
  rcases hr T hT X with ⟨v, st₀, t, T', L, h0, X', hL, e1, e2, ⟨⟨z, hv, hp⟩, hF⟩, st⟩ | ⟨q, st₀, t, T', L, E, ce, h0, X', hL, e1, e2, ⟨hp, hz, hk⟩, hce, hcv, hcl, st⟩
  · cases hv
    obtain ⟨k1, k2, k3⟩ := vx_keep (A0 := A0) h0 e1 va_S.rf hA hf hL hF
    rw [List.nil_append] at X' k3
    obtain ⟨t2, a1, b1⟩ := kk z T'.heap L (by rw [e1]; exact hp) k1 k2 k3 T' rfl X'
    exact ⟨t2, st t2 a1, b1⟩
  · rw [h0] at hz hk
    rw [List.nil_append] at X'
    obtain ⟨t2, a1, b1⟩ := vx_out (Qc := Qc) (XC := jX pe') (q := q) (pc := pc) (ls := ls) (rest := rest) (free := free) (mc := k) (ms := n) (fun x hx => (htab x hx).elim) hlk (by rw [e1]; exact hce) hcv hcl (fun t9 ht _ => ⟨hE E hp, by rw [ht, e1]; exact hz, fun q hq h => by rw [ht, e1]; exact hk q hq h⟩) (fun z hz => hfr _ (hf _ (hL z hz))) hc hs T' rfl X'
    exact ⟨t2, st.trans a1, b1⟩
end XQ
