theorem st_one {s : State} {A : Array Value} {C : String} {T : u_T} {N n : Nat} (h : ∀ w ∈ lw_tbl, w.before A s = true) (hin : ∀ w ∈ u_ws C T N, w ∈ WSL) (hi : Cond.instantiable C n ∈ lw_tbl) {k : Nat} (hk : cls[k]? = some (C, T, N)) : ∃ (cC : ClassId) (iS : Nat → Nat), ∀ q : vw_C, cls[k]? = some q → u_Kn s q.1 q.2.1 q.2.2 cC iS := by
  obtain ⟨cC, iS, hK⟩ := u_known (ws := WSL) (fun w hw => h w (ct_all w hw)) hin (h _ hi)
  refine ⟨cC, iS, fun q hq => ?_⟩
  have e : (C, T, N) = q := Option.some.inj (hk.symm.trans hq)
  subst e
  exact hK
theorem st_cls {s : State} {A : Array Value} (h : ∀ w ∈ lw_tbl, w.before A s = true) : ∀ k : Nat, ∃ (cC : ClassId) (iS : Nat → Nat), ∀ q : vw_C, cls[k]? = some q → u_Kn s q.1 q.2.1 q.2.2 cC iS := by
  intro k
  match k with
  | 0 => exact st_one h ck_X0 st_x0 rfl
  | 1 => exact st_one h ck_X1 st_x1 rfl
  | 2 => exact st_one h ck_X2 st_x2 rfl
  | 3 => exact st_one h ck_X3 st_x3 rfl
  | 4 => exact st_one h ck_X4 st_x4 rfl
  | 5 => exact st_one h ck_X5 st_x5 rfl
  | 6 => exact st_one h ck_X6 st_x6 rfl
  | 7 => exact st_one h ck_X8 st_x8 rfl
  | 8 => exact st_one h ck_X9 st_x9 rfl
  | 9 => exact st_one h ck_X10 st_x10 rfl
  | 10 => exact st_one h ck_X9 st_x9 rfl
  | 11 => exact st_one h ck_Jx4a65c st_xj rfl
  | n + 12 => exact ⟨0, fun _ => 0, fun q hq => by rw [List.getElem?_eq_none (Nat.le_add_left 12 n : cls.length ≤ n + 12)] at hq; cases hq⟩
theorem st_arr {s : State} {A : Array Value} {ty : FieldType} (h : (Cond.arrayClass ty).before A s = true) : ∃ c : ClassId, ArrOfT s c ty ∧ s.vm.findClass ("[" ++ ty.toString) = some c := by
  obtain ⟨c, k, comp, h1, h2, h3⟩ := Cond.arrayClass_spec h
  exact ⟨c, fun n z => ⟨fun k h => (by cases h), k, h2, comp, h3⟩, h1⟩
theorem st_obj {s : State} (h : va_AO "java/lang/Object" s) : ∃ c : ClassId, ArrOfT s c (.object "java/lang/Object") ∧ va_RA s c (.object "java/lang/Object") := by
  obtain ⟨comp, c, k, h1, h2, h3, h4, h5⟩ := Cond.arrayOver_spec h
  exact ⟨c, fun n z => ⟨fun k h => (by cases h), k, h3, comp, h4⟩, k, comp, h3, h4, h1, h5⟩
theorem st_obq {s : State} {A : Array Value} (h : (Cond.arrayOver (.array .int)).before A s = true) : ∃ c : ClassId, ArrOfT s c (.array .int) ∧ va_RA s c (.array .int) := by
  obtain ⟨comp, c, k, h1, h2, h3, h4, h5⟩ := arrayOverA_spec h
  exact ⟨c, fun n z => ⟨fun k h => (by cases h), k, h3, comp, h4⟩, h5⟩
theorem st_start {s : State} {b : Nat} (h : ∀ w ∈ lw_tbl, w.before #[Value.ref b] s = true) (hg : (Jvm.Cond.and given_1 narrow_1).before #[Value.ref b] s = true) : ∃ g : GT, gb g = s.heap.size ∧ KK g s := by
  have hq := flat_of_before _ hg
  obtain ⟨D, hD⟩ : ∃ D : va_G, ∀ (k : Nat) (q : vw_C), cls[k]? = some q → u_Kn s q.1 q.2.1 q.2.2 (D.1 k) (D.2 k) :=
    ⟨(fun k => Classical.choose (st_cls h k), fun k => Classical.choose (Classical.choose_spec (st_cls h k))), fun k => Classical.choose_spec (Classical.choose_spec (st_cls h k))⟩
  obtain ⟨cI, i1, i2⟩ := st_arr (h _ st_ai)
  obtain ⟨cZ, z1, z2⟩ := st_arr (h _ st_az)
  obtain ⟨cQ, q1, q2⟩ := st_obq (h _ st_qo)
  have hAO : va_AO "java/lang/Object" s := va_AO.of (h _ st_ao)
  obtain ⟨cO, o1, o2⟩ := st_obj hAO
  obtain ⟨mi, hmi⟩ := va_Mi.of (hq _ st_mi)
  have hno : ∀ a : Nat, a < s.heap.size → ¬ (fun q => s.heap.size ≤ q) a := fun a h1 h2 => Nat.lt_irrefl _ (Nat.lt_of_lt_of_le h1 h2)
  obtain ⟨y, e1, e2⟩ := Cond.eq_one (hq _ st_el)
  have e3 : y = .int (Int32.ofNat 0) := (Option.some.inj e2).symm
  subst e3
  obtain ⟨t, t1, t2⟩ := va_Tof (N := 0) (f := fun _ => .null) (A := fun q => s.heap.size ≤ q) (by decide) (hq _ st_ea) e1 (fun j hj => absurd hj (Nat.not_lt_zero _)) hno
  refine ⟨(D, (fun k => [cI, cZ, cZ, cO, cQ].getD k 0), fun k => [s.heap.size, t, mi].getD k 0), rfl, ⟨⟨hD, ?_⟩, ?_, ?_, ?_, ?_, ?_, hAO, hmi, va_Dc.of (h _ st_gc), ?_⟩, Nat.le_refl _, ?_, ?_, ?_, t2⟩
  · intro k q hk
    match k with
    | 0 => cases hk; exact ⟨i1, i2⟩
    | 1 => cases hk; exact ⟨z1, z2⟩
    | 2 => cases hk; exact ⟨z1, z2⟩
    | 3 => cases hk; exact ⟨o1, o2⟩
    | 4 => cases hk; exact ⟨q1, q2⟩
    | n + 5 => cases hk
  · exact fun x hx => va_Nw.of rfl (h _ (st_M x hx))
  · exact fun x hx => va_Nw.of rfl (h _ (st_C x hx))
  · intro x hx
    have h1 := h _ (st_S x hx)
    have h9 : s.vm.findClass RX10 = some (D.1 9) := (hD 9 _ rfl).2.1
    obtain ⟨k, cf, i, a, -, -, -, -, -, h2⟩ := Cond.stringRef_spec h9 h1
    exact ⟨a, vk_R.of h1 h2⟩
  · exact fun x hx => va_Fw.of (h _ (st_F1 x hx)) (h _ (st_F2 x hx)) (h _ (st_F3 x hx)) (h _ (st_F4 x hx)) (h _ (st_F5 x hx))
  · exact fun x hx => va_Nc.of (hq _ (st_N x hx))
  · exact fun x hx => va_Nw.of rfl (h _ (st_D x hx))
  · exact vx_Zqof (h _ st_l1) (h _ st_i1) (hq _ st_us) hno
  · exact vx_Zqof (h _ st_l2) (h _ st_i1) (hq _ st_ss) hno
  · exact va_Zref (h _ st_l3) (h _ st_i2) t1 hno
theorem st_flags {l : Launch} (h : l.flags = flags0) : l.stackTraces = false := by
  unfold Launch.stackTraces
  rw [h]
  decide
