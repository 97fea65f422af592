/-! the row of rows: made, stored into -/
theorem qq_nm : (FieldType.array .int).toString = "[I" := by decide +kernel
theorem qq_a (vm : Vm) (c : ClassId) : vm.assignable c c = true := by
  unfold Vm.assignable
  unfold Vm.assignableAux
  rw [beq_self_eq_true, Bool.true_or]
section RQ2
variable {p : Program} {l : Launch} {e : Env} {R : Room} {s : State} {m : MethodId} {args : Array Value} {below : List Frame} {meth : Method} {c : Code} {H : Heap} {locs : List Loc} {cells slots : Nat} {Q : State → Prop}
variable {cc : ByteArray} {pc : Nat} {ls : Array Slot} {rest : List Value} {g : GT} {ws : va_W} {A : Nat → Prop}
/-- the class of rows of rows -/
theorem qq_k (hK : va_K (gD g) cls (tys g) s) (hover : (Cond.arrayOver (.array .int)).before args s = true) : ∃ kA : Class, s.vm.classes[gQ g]? = some kA ∧ kA.kind = .array (gI g) (.array .int) := by
  obtain ⟨comp, cA, kA, h1, -, h3, h4, h5⟩ := arrayOverA_spec hover
  have e1 : s.vm.findClass ("[" ++ (FieldType.array .int).toString) = some (gQ g) := (hK.2 4 _ rfl).2
  have e2 : s.vm.findClass ("[" ++ FieldType.int.toString) = some (gI g) := (hK.2 0 _ rfl).2
  have e3 : (FieldType.array .int).toString = "[" ++ FieldType.int.toString := by decide +kernel
  obtain rfl : cA = gQ g := Option.some.inj (h5.symm.trans e1)
  rw [e3] at h1
  obtain rfl : comp = gI g := Option.some.inj (h1.symm.trans e2)
  exact ⟨kA, h3, h4⟩
theorem jr_qnew (hx : p.tables.exec = Jvm.exec) (hb : c.code = cc) {own : String} {index : Nat} (hown : s.vm.findClass own = some m.cls) (hclink : (Cond.classLink own index "[I").before args s = true) (hover : (Cond.arrayOver (.array .int)).before args s = true) (hK : va_K (gD g) cls (tys g) s) (hP : PP g ws H) (hD : va_D A ws) (hS : va_S A s.heap H locs) (hA : ∀ q, s.heap.size ≤ q → A q)
    (hcells : cells + 1 ≤ R.cells) (hslots : slots + 16 ≤ R.slots) (hdg : decode cc pc = .ok (.anewarray index, 3))
    (kk : ∀ (q : Nat) (H1 : Heap), PP g (aQ2 g q (fun _ => none) :: ws) H1 → va_D A (aQ2 g q (fun _ => none) :: ws) → va_S A s.heap H1 locs → W p l e R s m args below meth c H1 locs (cells + 1) (slots + 16) Q (F0 m (pc + 3) ls (.ref q :: rest))) : W p l e R s m args below meth c H locs cells slots Q (F0 m pc ls (.int (jI 16) :: rest)) := by
  have e16 : (jI 16).toNatClampNeg = 16 := by decide
  refine W.anewA (t := .int) hx hb hown (by rw [qq_nm]; exact hclink) hover rfl hdg rfl (by decide) (by rw [e16]; decide) hcells (by rw [e16]; exact hslots) fun cA kA comp f1 f2 f3 f4 => ?_
  rw [e16]
  obtain rfl : cA = gQ g := Option.some.inj (f1.symm.trans (hK.2 4 _ rfl).2)
  generalize hH1 : H.push ({ cls := gQ g, slots := Array.replicate 16 .null, vm := .none } : Cell) = H1
  have z1 : H1.size = H.size + 1 := by rw [← hH1, Array.size_push]
  have e1 : H1[H.size]? = some (arrV (gQ g) 16 (fun _ => .null)) := by rw [← hH1, Array.getElem?_push_size, ← arrV_new]
  have o1 : ∀ q : Nat, q < H.size → H1[q]? = H[q]? := fun q hq => by rw [← hH1, Array.getElem?_push, if_neg (Nat.ne_of_lt hq)]
  have he : va_at (gD g) cls (aQ2 g H.size (fun _ => none)) H1 := by
    show H1[H.size]? = some (vp_cell _ _)
    rw [vp_cell_q]
    exact e1
  obtain ⟨hP1, hD1, hS1⟩ := jnew hP hD hS hA rfl he z1 o1
  exact kk H.size H1 (hP1.perm (List.perm_append_singleton _ _)) (hD1.perm (List.perm_append_singleton _ _)) hS1
theorem jr_qast (hx : p.tables.exec = Jvm.exec) (hb : c.code = cc) (hover : (Cond.arrayOver (.array .int)).before args s = true) (hK : va_K (gD g) cls (tys g) s) (hP : PP g ws H) (hD : va_D A ws) (hS : va_S A s.heap H locs) (q0 qk : Nat) {a v n : Nat} {f : Nat → Option Nat} {fv : Nat → Int} (ha : ws[q0]? = some (aQ2 g a f)) (hv : ws[qk]? = some (aI g v n fv)) {z : Int} (k : Nat) (hz : z = (k : Int)) (hk : k < 16) (hdg : decode cc pc = .ok (.aastore, 1))
    (kk : ∀ (H1 : Heap) (locs1 : List Loc), PP g (ws.set q0 (aQ2 g a (va_up f k (some v)))) H1 → va_D A (ws.set q0 (aQ2 g a (va_up f k (some v)))) → va_S A s.heap H1 locs1 → W p l e R s m args below meth c H1 locs1 cells slots Q (F0 m (pc + 1) ls rest)) : W p l e R s m args below meth c H locs cells slots Q (F0 m pc ls (.ref v :: .int (jI z) :: .ref a :: rest)) := by
  subst hz
  have hin : vp_in (jI (k : Int)) 16 := jI_in (by omega) (by omega) (by omega)
  have hlt : (jI (k : Int)).toNatClampNeg < 16 := Nat.not_le.mp fun q => hin (Or.inr q)
  have h0 : ¬ jI (k : Int) < 0 := fun q => hin (Or.inl q)
  have hcl : (jI (k : Int)).toNatClampNeg = k := by rw [jI_cl (by omega) (by omega), Int.toNat_natCast]
  obtain ⟨kA, k1, k2⟩ := qq_k hK hover
  obtain ⟨-, kI, k3, -⟩ := (hK.2 0 _ rfl).1 0 (fun _ => .null)
  have k3 : s.vm.classes[gI g]? = some kI := k3
  refine W.aast hx hb (hP q0 _ ha) (fun q h => by cases h) (fun h => by cases h) k1 k2 rfl k3 ⟨h0, by show _ < (arrV _ _ _).slots.size; rw [arrV_size]; exact hlt⟩ (hP qk _ hv) (fun q h => by cases h) k3 (qq_a s.vm (gI g)) rfl rfl hdg fun H1 e z oq => ?_
  refine kk H1 _ (hP.set hD ha ?_ oq) (hD.set ha) (hS.put z oq (hD.2 q0 _ ha))
  show H1[a]? = some (vp_cell _ _)
  rw [e]
  rw [vp_cell_q, vp_cell_q, arrV_store, hcl]
  congr 2
  funext q
  by_cases hq : q = k
  · subst hq
    simp [updV, va_up, va_rf]
  · simp [updV, va_up, hq]
end RQ2
