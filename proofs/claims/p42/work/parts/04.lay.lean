/-! ints by their integers -/
def jI (z : Int) : Int32 := Int32.ofInt z
/-- within an int's range -/
abbrev jR (z : Int) : Prop := -2147483648 ≤ z ∧ z < 2147483648
theorem jI_toInt {z : Int} (h : jR z) : (jI z).toInt = z := Int32.toInt_ofInt_of_le (by have := h.1; omega) (by have := h.2; omega)
theorem jI_of (x : Int32) : x = jI x.toInt := (Int32.ofInt_toInt x).symm
theorem jR_of (x : Int32) : jR x.toInt := ⟨by have := Int32.le_toInt x; omega, by have := Int32.toInt_lt x; omega⟩
theorem jI_add (a b : Int) : jI a + jI b = jI (a + b) := (Int32.ofInt_add a b).symm
theorem jI_sub (a b : Int) : jI a - jI b = jI (a - b) := (Int32.ofInt_sub a b).symm
theorem jI_mul (a b : Int) : jI a * jI b = jI (a * b) := (Int32.ofInt_mul a b).symm
theorem jI_nI (n : Nat) : nI n = jI (n : Int) := (Int32.ofInt_eq_ofNat).symm
theorem jI_inj {a b : Int} (ha : jR a) (hb : jR b) : jI a = jI b ↔ a = b := by
  constructor
  · intro h
    have h1 := congrArg Int32.toInt h
    rwa [jI_toInt ha, jI_toInt hb] at h1
  · intro h; rw [h]
theorem jI_lt {a b : Int} (ha : jR a) (hb : jR b) : jI a < jI b ↔ a < b := by rw [Int32.lt_iff_toInt_lt, jI_toInt ha, jI_toInt hb]
theorem jI_le {a b : Int} (ha : jR a) (hb : jR b) : jI a ≤ jI b ↔ a ≤ b := by rw [Int32.le_iff_toInt_le, jI_toInt ha, jI_toInt hb]
theorem jI_0 : (0 : Int32) = jI 0 := rfl
theorem jI_cl {z : Int} (h0 : 0 ≤ z) (h : z < 2147483648) : (jI z).toNatClampNeg = z.toNat := Int32.toNatClampNeg_ofInt_of_le (by omega) (by omega)
theorem jI_in {z : Int} {n : Nat} (h0 : 0 ≤ z) (h1 : z < n) (h : z < 2147483648) : vp_in (jI z) n := by
  intro q
  rcases q with q | q
  · rw [jI_0, jI_lt ⟨by omega, h⟩ ⟨by omega, by omega⟩] at q; omega
  · rw [jI_cl h0 h] at q; omega
theorem jI_div {a b : Int} (ha : 0 ≤ a) (ha2 : a < 2147483648) (hb : 0 < b) (hb2 : b < 2147483648) : jI a / jI b = jI (a / b) := by
  have h : (jI a / jI b).toInt = (jI (a / b)).toInt := by
    rw [Int32.toInt_div_of_ne_left, jI_toInt ⟨by omega, ha2⟩, jI_toInt ⟨by omega, hb2⟩, jI_toInt, Int.tdiv_eq_ediv_of_nonneg ha]
    · exact ⟨by have := Int.ediv_nonneg ha (by omega : 0 ≤ b); omega, by have := Int.ediv_le_self b ha; omega⟩
    · intro q
      have h1 := congrArg Int32.toInt q
      rw [jI_toInt ⟨by omega, ha2⟩] at h1
      have h2 : Int32.minValue.toInt = -2147483648 := by decide
      omega
  exact Int32.toInt_inj.mp h
theorem jI_ne0 {b : Int} (hb : 0 < b) (hb2 : b < 2147483648) : ¬ jI b = 0 := by
  rw [jI_0, jI_inj ⟨by omega, hb2⟩ ⟨by omega, by omega⟩]; omega
theorem jI_min (a b : Int) (ha : jR a) (hb : jR b) : (if jI b < jI a then jI b else jI a) = jI (min a b) := by
  by_cases h : b < a
  · rw [if_pos ((jI_lt hb ha).mpr h)]; congr 1; omega
  · rw [if_neg (fun q => h ((jI_lt hb ha).mp q))]; congr 1; omega
theorem jI_max (a b : Int) (ha : jR a) (hb : jR b) : (if jI a < jI b then jI b else jI a) = jI (max a b) := by
  by_cases h : a < b
  · rw [if_pos ((jI_lt ha hb).mpr h)]; congr 1; omega
  · rw [if_neg (fun q => h ((jI_lt ha hb).mp q))]; congr 1; omega
theorem jI_abs (a : Int) (ha : jR a) : (if 0 ≤ jI a then jI a else 0 - jI a) = jI (if 0 ≤ a then a else 0 - a) := by
  rw [jI_0]
  by_cases h : 0 ≤ a
  · rw [if_pos ((jI_le ⟨by omega, by omega⟩ ha).mpr h), if_pos h]
  · rw [if_neg (fun q => h ((jI_le ⟨by omega, by omega⟩ ha).mp q)), if_neg h, jI_sub]
/-- one place of a row of integers anew -/
def ju (f : Nat → Int) (k : Nat) (v : Int) : Nat → Int := fun j => if j = k then v else f j
theorem ju_s (f : Nat → Int) (k : Nat) (v : Int) : ju f k v k = v := if_pos rfl
theorem ju_n (f : Nat → Int) {k j : Nat} (v : Int) (h : j ≠ k) : ju f k v j = f j := if_neg h
theorem ju_upd (f : Nat → Int) (k : Nat) (v : Int) : upd (fun j => jI (f j)) k (jI v) = fun j => jI (ju f k v j) := by
  funext j
  unfold upd ju
  by_cases h : j = k
  · simp [h]
  · simp [h]
/-! the classes, and what a launch gives -/
abbrev cls : List vw_C := [(RX0, TX0, 1), (RX1, TX1, 4), (RX2, TX2, 3), (RX3, TX3, 2), (RX4, TX4, 5), (RX5, TX5, 3), (RX6, TX6, 2), (RX8, TX8, 3), (RX9, TX9, 1), (RX10, TX10, 9), (RX9, TX9, 1), (RJx4a65c, TJx4a65c, 3)]
abbrev GT : Type := va_G × (Nat → ClassId) × (Nat → Nat)
abbrev gD (g : GT) : va_G := g.1
abbrev gI (g : GT) : ClassId := g.2.1 0
abbrev gZ (g : GT) : ClassId := g.2.1 1
abbrev gC (g : GT) : ClassId := g.2.1 2
abbrev gO (g : GT) : ClassId := g.2.1 3
abbrev gQ (g : GT) : ClassId := g.2.1 4
abbrev gb (g : GT) : Nat := g.2.2 0
abbrev gE (g : GT) : Nat := g.2.2 1
abbrev gM (g : GT) : Nat := g.2.2 2
abbrev tys (g : GT) : List (ClassId × FieldType) := [(gI g, .int), (gZ g, .boolean), (gC g, .boolean), (gO g, .object "java/lang/Object"), (gQ g, .array .int)]
abbrev PP (g : GT) (ws : va_W) (H : Heap) : Prop := va_P (gD g) cls ws H
/-- cells: objects by their classes' places in cls, arrays -/
abbrev aI (g : GT) (a n : Nat) (f : Nat → Int) : Nat × va_E := (a, .inl (gI g, n, .inl (fun j => jI (f j))))
abbrev aZ (g : GT) (a n : Nat) (f : Nat → Int) : Nat × va_E := (a, .inl (gZ g, n, .inl (fun j => jI (f j))))
abbrev aC (g : GT) (a n : Nat) (f : Nat → Int) : Nat × va_E := (a, .inl (gC g, n, .inl (fun j => jI (f j))))
abbrev aO (g : GT) (a n : Nat) (f : Nat → Option Nat) : Nat × va_E := (a, .inl (gO g, n, .inr (.inr (.inr (.inr f)))))
abbrev ob (a ci : Nat) (fs : List Value) : Nat × va_E := (a, .inr (ci, fs))
abbrev vi (z : Int) : Value := .int (jI z)
/-- words that aren't good ones, but stay: links to private members of nest mates, casts -/
def nwM : List (String × Nat × MethodName × String) := [(RX10, 9, yX6_init, RX10), (RX10, 25, yX2_init, RX10), (RX10, 49, yX3_init, RX10), (RX10, 56, yX0_init, RX10), (RX0, 49, yX4_init, RX10), (RX1, 11, yX9_init, RX10), (RX2, 11, yX1_init, RX10), (RX2, 20, yX5_init, RX10), (RX2, 44, yX8_init, RX10), (RX3, 11, yX6_init, RX10), (RX4, 11, yX6_init, RX10), (RX8, 9, yX6_init, RX10)]
def ecs : List String := ["java/lang/IllegalArgumentException", "java/lang/IllegalStateException", "java/lang/IndexOutOfBoundsException", "java/lang/ArithmeticException", "java/lang/UnsupportedOperationException", "java/util/NoSuchElementException"]
def nwC : List (String × String) := ecs.map (fun x => (x, x)) ++ [(RX8, "java/lang/Object"), (RX4, "java/lang/Object")]
/-- strings of thrown texts: entry, text -/
def nwS : List (Nat × String) := [(285, "the value is out of range"), (295, "the draft is full"), (71, "there is no such mark"), (287, "the weight is out of range"), (104, "there is this term already"), (110, "there are as many terms as there can be"), (291, "the draft is empty"), (125, "no source is there"), (293, "there are as many units as there can be"), (302, "there is no such unit"), (306, "the unit is withdrawn"), (289, "no unit is offered"), (194, "the threshold is out of range"), (308, "there is no such segment"), (310, "the segment is not filled by a unit"), (241, "there is no such token"), (312, "the segment is empty"), (315, "the target has no such token"), (270, "there are no segments")]
/-- the list's face: the name that is called, the method that answers -/
def nwF : List (MethodName × MethodName) := [(⟨"java/util/List", "size", "()I"⟩, yJx4a65c_size_8abf5), (⟨"java/util/List", "get", "(I)Ljava/lang/Object;"⟩, yJx4a65c_get_915e3), (⟨"java/util/List", "add", "(Ljava/lang/Object;)Z"⟩, yJx4a65c_add_9ea2d), (⟨"java/util/List", "clear", "()V"⟩, yJx4a65c_clear_da8c8)]
/-- exceptions that pass a handler of another class -/
def nwN : List (String × String) := [("java/lang/IllegalArgumentException", "java/lang/IndexOutOfBoundsException"), ("java/lang/IllegalStateException", "java/lang/IndexOutOfBoundsException"), ("java/lang/IllegalStateException", "java/lang/IllegalArgumentException"), ("java/lang/UnsupportedOperationException", "java/lang/IndexOutOfBoundsException"), ("java/lang/UnsupportedOperationException", "java/lang/IllegalArgumentException"), ("java/lang/UnsupportedOperationException", "java/lang/IllegalStateException"), ("java/util/NoSuchElementException", "java/lang/IndexOutOfBoundsException"), ("java/util/NoSuchElementException", "java/lang/IllegalArgumentException"), ("java/util/NoSuchElementException", "java/lang/IllegalStateException"), ("java/util/NoSuchElementException", "java/lang/UnsupportedOperationException")]
/-- constructors that are named by a constructor's link -/
def nwD : List MethodName := [Bundle.initS "java/lang/RuntimeException", Bundle.initS "java/lang/Exception", Bundle.initS Bundle.tN]
/-- what the tables say, at every state of the run -/
def KT (g : GT) (U : State) : Prop := va_K (gD g) cls (tys g) U ∧ (∀ x ∈ nwM, va_Nw (.methodLinkNest x.1 x.2.1 x.2.2.1 x.2.2.2) U) ∧ (∀ x ∈ nwC, va_Nw (.castable x.1 x.2) U) ∧ (∀ x ∈ nwS, ∃ a, vk_R RX10 x.1 x.2 a U) ∧ (∀ x ∈ nwF, va_Fw RJx4a65c x.1 x.2 U) ∧ (∀ x ∈ nwN, va_Nc x.1 x.2 U) ∧ va_AO "java/lang/Object" U ∧ va_Mi "[Ljava/lang/Object;" (gM g) U ∧ va_Dc U ∧ ∀ x ∈ nwD, va_Nw (.declares x) U
theorem nwF_ok : ∀ x ∈ nwF, x.1.cls ≠ "java/lang/invoke/MethodHandle" ∧ x.1.cls ≠ "java/lang/invoke/VarHandle" := by decide +kernel
theorem KT.warm {g : GT} {s U : State} (h : KT g s) (hW : s.WarmedH U.vm) : KT g U := by
  obtain ⟨h1, h2, h3, h4, h5, h6, h7, h8, h9, h10⟩ := h
  exact ⟨h1.moved hW.alike, fun x hx => (h2 x hx).warmM hW, fun x hx => (h3 x hx).warmC hW, fun x hx => (h4 x hx).imp fun a ha => ha.warm hW, fun x hx => (h5 x hx).moved (nwF_ok x hx) hW.alike, fun x hx => (h6 x hx).moved hW.alike, h7.moved hW.alike, h8.moved hW.alike, h9.moved hW.alike, fun x hx => (h10 x hx).warmD hW⟩
/-- the statics that the run reads, in cells below the run's own -/
def ZZ (g : GT) (U : State) (H : Heap) : Prop := vx_Zq Bundle.tN "UNASSIGNED_STACK" Bundle.steD (fun q => gb g ≤ q) U H ∧ vx_Zq Bundle.tN "SUPPRESSED_SENTINEL" Bundle.listD (fun q => gb g ≤ q) U H ∧ va_Z "java/util/ArrayList" "DEFAULTCAPACITY_EMPTY_ELEMENTDATA" "[Ljava/lang/Object;" (.ref (gE g)) (fun q => gb g ≤ q) U H ∧ va_T (.object "java/lang/Object") (gE g) 0 (fun _ => .null) (fun q => gb g ≤ q) U H
theorem ZZ.moved {g : GT} {u U : State} {H : Heap} (hvm : u.vm.Alike U.vm) (h : ZZ g u H) : ZZ g U H := ⟨h.1.moved hvm, h.2.1.moved hvm, h.2.2.1.moved hvm, h.2.2.2.moved hvm⟩
theorem ZZ.kept {g : GT} {U : State} {A : Nat → Prop} {H H1 : Heap} {locs : List Loc} (h : ZZ g U H) (hS : va_S A H H1 locs) (hA : ∀ q, A q → gb g ≤ q) : ZZ g U H1 :=
  ⟨h.1.kept fun a h1 h2 => hS.2.1 a h1 fun h3 => h2 (hA a h3), h.2.1.kept fun a h1 h2 => hS.2.1 a h1 fun h3 => h2 (hA a h3), h.2.2.1.kept fun a h1 h2 => hS.2.1 a h1 fun h3 => h2 (hA a h3), h.2.2.2.kept fun a h1 h2 => hS.2.1 a h1 fun h3 => h2 (hA a h3)⟩
def KK (g : GT) (U : State) : Prop := KT g U ∧ gb g ≤ U.heap.size ∧ ZZ g U U.heap
theorem KK.k {g : GT} {U : State} (h : KK g U) : va_K (gD g) cls (tys g) U := h.1.1
/-- the words that every method has -/
abbrev ws_ (y : MethodName) (c : ByteArray) (n : Nat) (ret : Option FieldType) : List Cond := .code y c n ret :: WSL
theorem wsL_good : WSL.all goodWord = true := by decide +kernel
theorem gd_ {y : MethodName} {c : ByteArray} {n : Nat} {ret : Option FieldType} (h : Cond.code y c n ret ∈ WSL) : GoodIn WSL (ws_ y c n ret) := by
  intro w hw
  have g : w ∈ WSL := by
    rcases List.mem_cons.mp hw with e | e
    · rw [e]; exact h
    · exact e
  exact ⟨g, good_of_word (List.all_eq_true.mp wsL_good w g)⟩
theorem gd_app {a b : List Cond} (ha : ∀ w ∈ a, w ∈ WSL) (hb : GoodIn WSL b) : GoodIn WSL (a ++ b) := by
  intro w hw
  rcases List.mem_append.mp hw with e | e
  · exact ⟨ha w e, good_of_word (List.all_eq_true.mp wsL_good w (ha w e))⟩
  · exact hb w e
/-! contracts: S reads only; Q writes within A; X may throw, with nothing written -/
def jSi (post : Int → Prop) : Array Value → State → Outcome → State → Prop := fun _ st o t => ∃ z : Int, o = .returned (some (.int (jI z))) ∧ post z ∧ t.heap = st.heap
def jSl (post : Int → Prop) : Array Value → State → Outcome → State → Prop := fun _ st o t => ∃ z : Int, o = .returned (some (.long (Int64.ofInt z))) ∧ post z ∧ t.heap = st.heap
def jSv (post : Prop) : Array Value → State → Outcome → State → Prop := fun _ st o t => o = .returned none ∧ post ∧ t.heap = st.heap
def jSr (post : Nat → Prop) : Array Value → State → Outcome → State → Prop := fun _ st o t => ∃ a : Nat, o = .returned (some (.ref a)) ∧ post a ∧ t.heap = st.heap
def jQi (post : Int → Heap → Prop) (A : Nat → Prop) : Array Value → State → Outcome → State → Prop := fun _ st o t => (∃ z : Int, o = .returned (some (.int (jI z))) ∧ post z t.heap) ∧ va_F A st t
def jQv (post : Heap → Prop) (A : Nat → Prop) : Array Value → State → Outcome → State → Prop := fun _ st o t => (o = .returned none ∧ post t.heap) ∧ va_F A st t
def jQr (post : Nat → Heap → Prop) (A : Nat → Prop) : Array Value → State → Outcome → State → Prop := fun _ st o t => (∃ a : Nat, o = .returned (some (.ref a)) ∧ post a t.heap) ∧ va_F A st t
abbrev jN : Nat → Prop := fun _ => False
def jX (pe : String → Prop) : String → State → State → Prop := fun E st t => pe E ∧ va_F jN st t
abbrev jPc (g : GT) (av : List Value) (Pre : Heap → Prop) : Array Value → State → Prop := va_Pc av (fun U => KK g U ∧ Pre U.heap)
abbrev rmm (lv mc ms : Nat) : Room := { frames := 6 + lv, cells := mc, slots := ms, locals := 100 + 60 * lv }
theorem KK.next {g : GT} {s U : State} {A : Nat → Prop} {H : Heap} {locs : List Loc} (h : KK g s) (hS : va_S A s.heap H locs) (hA : ∀ q, A q → gb g ≤ q) (hU : U.heap = H) (hW : s.WarmedH U.vm) : KK g U :=
  ⟨h.1.warm hW, by rw [hU]; exact Nat.le_trans h.2.1 hS.1, by rw [hU]; exact (h.2.2.kept hS hA).moved hW.alike⟩
theorem jNb {g : GT} : ∀ q, jN q → gb g ≤ q := fun _ h => h.elim
theorem jPc_blind {g : GT} {av : List Value} {Pre : Heap → Prop} : FrameBlind (jPc g av Pre) := by
  intro a U gg mk h
  obtain ⟨h1, h2, h3⟩ := h
  exact ⟨h1, ⟨KT.warm (U := U.calling gg mk a) h2.1 (State.WarmedH.refl U), h2.2.1, ZZ.moved (U := U.calling gg mk a) (Vm.Alike.refl U.vm) h2.2.2⟩, h3⟩
theorem jp_V {g : GT} {s : State} {A : Nat → Prop} {H : Heap} {locs : List Loc} {C : String} {b : Addr} {As : List Value} {Pre : Heap → Prop} (h : KK g s) (hS : va_S A s.heap H locs) (hA : ∀ q, A q → gb g ≤ q)
    (hrecv : ∃ cellB : Cell, H[b]? = some cellB ∧ cellB.vm.isStatics = false ∧ s.vm.findClass C = some cellB.cls) (hpre : Pre H) : PreV s H C b (jPc g (.ref b :: As) Pre) As :=
  ⟨jPc_blind, hrecv, fun U hU hW => ⟨rfl, h.next hS hA hU hW, by rw [hU]; exact hpre⟩⟩
theorem jp_S {g : GT} {s : State} {A : Nat → Prop} {H : Heap} {locs : List Loc} {As : List Value} {Pre : Heap → Prop} (h : KK g s) (hS : va_S A s.heap H locs) (hA : ∀ q, A q → gb g ≤ q) (hpre : Pre H) : PreS s H (jPc g As Pre) As :=
  ⟨jPc_blind, fun U hU hW => ⟨rfl, h.next hS hA hU hW, by rw [hU]; exact hpre⟩⟩
section JB
variable {l : Launch}
theorem jb_M {y : MethodName} {rm : Room} {g : GT} {av : List Value} {Pre : Heap → Prop} {Qc : Array Value → State → Outcome → State → Prop} {mc ms : Nat} {free : Addr → Prop} {cc : ByteArray} {maxL : Nat} {ret : Option FieldType}
    (hy : plainName y.cls = true) (hn : (lg_sl av).length ≤ maxL)
    (body : ∀ (p : Program) (e : Env) (s : State) (m : MethodId) (below : List Frame) (meth : Method) (c : Code), p.tables.exec = Jvm.exec → c.code = cc → meth.sig.returnType = ret → c.maxLocals = maxL → s.vm.findClass y.cls = some m.cls → (∀ w ∈ WSL, w.before av.toArray s = true) → meth.locks = false → meth.name = y.name → KK g s → Pre s.heap → ∀ ls : Array Slot, lv_has ls maxL (lv_args 0 av) →
      W p l e rm s m av.toArray below meth c s.heap [] 0 0 (MQ below Qc av.toArray s mc ms free) (F0 m 0 ls [])) : Met l y (ws_ y cc maxL ret) rm (jPc g av Pre) Qc mc ms free := by
  refine Met.ofW (cc := cc) (maxL := maxL) (ret := ret) hy rfl ?_
  intro p e s m args below meth c s₁ B hml hv
  obtain ⟨rfl, hK, hp⟩ := hv
  have hts := atoms_spec (ws := ws_ y cc maxL ret) B.pre
  have hown : s.vm.findClass y.cls = some m.cls := findClass_of_methodNamed B.named
  have hl := lv_entry av (n := maxL) hn
  rw [lg_entry_eq]
  exact body p e s m below meth c B.exec B.bytes B.returns hml hown (fun w hw => hts w (List.mem_cons_of_mem _ hw)) B.notSynchronized (name_of_methodNamed B.named B.method).1 hK hp _ hl
theorem jb_X {y : MethodName} {rm : Room} {g : GT} {av : List Value} {Pre : Heap → Prop} {Qc : Array Value → State → Outcome → State → Prop} {XC : String → State → State → Prop} {mc ms : Nat} {free : Addr → Prop} {cc : ByteArray} {maxL : Nat} {ret : Option FieldType}
    (hy : plainName y.cls = true) (hn : (lg_sl av).length ≤ maxL)
    (body : ∀ (p : Program) (e : Env) (s : State) (m : MethodId) (below : List Frame) (meth : Method) (c : Code), p.tables.exec = Jvm.exec → c.code = cc → meth.sig.returnType = ret → c.maxLocals = maxL → s.vm.findClass y.cls = some m.cls → (∀ w ∈ WSL, w.before av.toArray s = true) → meth.locks = false → (∀ x ∈ c.exceptionTable.toList, False) → KK g s → Pre s.heap → ∀ ls : Array Slot, lv_has ls maxL (lv_args 0 av) →
      W p l e rm s m av.toArray below meth c s.heap [] 0 0 (vx_MQ below Qc XC av.toArray s mc ms free) (F0 m 0 ls [])) : vx_Met l y (ws_ y cc maxL ret) rm (jPc g av Pre) Qc XC mc ms free := by
  refine vx_ofW (cc := cc) (maxL := maxL) (ret := ret) hy rfl ?_
  intro p e s m args below meth c s₁ B hml ht hv
  obtain ⟨rfl, hK, hp⟩ := hv
  have hts := atoms_spec (ws := ws_ y cc maxL ret) B.pre
  have hown : s.vm.findClass y.cls = some m.cls := findClass_of_methodNamed B.named
  have hl := lv_entry av (n := maxL) hn
  rw [lg_entry_eq]
  exact body p e s m below meth c B.exec B.bytes B.returns hml hown (fun w hw => hts w (List.mem_cons_of_mem _ hw)) B.notSynchronized ht hK hp _ hl
end JB
section JR
variable {p : Program} {l : Launch} {e : Env} {R : Room} {s : State} {m : MethodId} {args : Array Value} {below : List Frame} {meth : Method} {c : Code} {H : Heap} {locs : List Loc} {cells slots : Nat} {Q : State → Prop}
variable {cc : ByteArray} {pc : Nat} {ls : Array Slot} {rest : List Value} {g : GT} {ws : va_W} {A : Nat → Prop} {H0 : Heap}
theorem jr_iconst (hx : p.tables.exec = Jvm.exec) (hb : c.code = cc) {n : Int} (hdg : decode cc pc = .ok (.iconst n, 1)) (k : W p l e R s m args below meth c H locs cells slots Q (F0 m (pc + 1) ls (.int (jI n) :: rest))) : W p l e R s m args below meth c H locs cells slots Q (F0 m pc ls rest) := lv_iconst hx hb hdg rfl k
theorem jr_bipush (hx : p.tables.exec = Jvm.exec) (hb : c.code = cc) {n : Int} (hdg : decode cc pc = .ok (.bipush n, 2)) (hv : (Int8.ofInt n).toInt32 = jI n) (k : W p l e R s m args below meth c H locs cells slots Q (F0 m (pc + 2) ls (.int (jI n) :: rest))) : W p l e R s m args below meth c H locs cells slots Q (F0 m pc ls rest) := lv_bipush hx hb hdg hv k
theorem jr_sipush (hx : p.tables.exec = Jvm.exec) (hb : c.code = cc) {n : Int} (hdg : decode cc pc = .ok (.sipush n, 3)) (hv : (Int16.ofInt n).toInt32 = jI n) (k : W p l e R s m args below meth c H locs cells slots Q (F0 m (pc + 3) ls (.int (jI n) :: rest))) : W p l e R s m args below meth c H locs cells slots Q (F0 m pc ls rest) := lv_sipush hx hb hdg hv k
theorem jr_nm {a b : Int} (h : a = b) (k : W p l e R s m args below meth c H locs cells slots Q (F0 m pc ls (.int (jI b) :: rest))) : W p l e R s m args below meth c H locs cells slots Q (F0 m pc ls (.int (jI a) :: rest)) := h ▸ k
theorem jr_iadd (hx : p.tables.exec = Jvm.exec) (hb : c.code = cc) {a b : Int} (hdg : decode cc pc = .ok (.iadd, 1)) (k : W p l e R s m args below meth c H locs cells slots Q (F0 m (pc + 1) ls (.int (jI (a + b)) :: rest))) : W p l e R s m args below meth c H locs cells slots Q (F0 m pc ls (.int (jI b) :: .int (jI a) :: rest)) := lv_iadd hx hb hdg (by rw [jI_add]; exact k)
theorem jr_isub (hx : p.tables.exec = Jvm.exec) (hb : c.code = cc) {a b : Int} (hdg : decode cc pc = .ok (.isub, 1)) (k : W p l e R s m args below meth c H locs cells slots Q (F0 m (pc + 1) ls (.int (jI (a - b)) :: rest))) : W p l e R s m args below meth c H locs cells slots Q (F0 m pc ls (.int (jI b) :: .int (jI a) :: rest)) := lv_isub hx hb hdg (by rw [jI_sub]; exact k)
theorem jr_imul (hx : p.tables.exec = Jvm.exec) (hb : c.code = cc) {a b : Int} (hdg : decode cc pc = .ok (.imul, 1)) (k : W p l e R s m args below meth c H locs cells slots Q (F0 m (pc + 1) ls (.int (jI (a * b)) :: rest))) : W p l e R s m args below meth c H locs cells slots Q (F0 m pc ls (.int (jI b) :: .int (jI a) :: rest)) := lv_imul hx hb hdg (by rw [jI_mul]; exact k)
theorem jr_idiv (hx : p.tables.exec = Jvm.exec) (hb : c.code = cc) {a b : Int} (h1 : 0 ≤ a) (h2 : a < 2147483648) (h3 : 0 < b) (h4 : b < 2147483648) (hdg : decode cc pc = .ok (.idiv, 1)) (k : W p l e R s m args below meth c H locs cells slots Q (F0 m (pc + 1) ls (.int (jI (a / b)) :: rest))) : W p l e R s m args below meth c H locs cells slots Q (F0 m pc ls (.int (jI b) :: .int (jI a) :: rest)) := lv_idiv hx hb hdg (jI_ne0 h3 h4) (by rw [jI_div h1 h2 h3 h4]; exact k)
theorem jr_irem (hx : p.tables.exec = Jvm.exec) (hb : c.code = cc) {a b : Int} (h1 : 0 ≤ a) (h2 : a < 2147483648) (h3 : 0 < b) (h4 : b < 2147483648) (hdg : decode cc pc = .ok (.irem, 1)) (k : W p l e R s m args below meth c H locs cells slots Q (F0 m (pc + 1) ls (.int (jI (a % b)) :: rest))) : W p l e R s m args below meth c H locs cells slots Q (F0 m pc ls (.int (jI b) :: .int (jI a) :: rest)) := lv_irem hx hb hdg (jI_ne0 h3 h4) (by
  rw [jI_div h1 h2 h3 h4, jI_mul, jI_sub, show a - a / b * b = a % b by have := Int.emod_add_mul_ediv a b; rw [Int.mul_comm]; omega]
  exact k)
theorem jr_iinc (hx : p.tables.exec = Jvm.exec) (hb : c.code = cc) {i nL k : Nat} {n x v : Int} {lv lv' : List (Nat × Value)} (hdg : decode cc pc = .ok (.iinc i n, 3)) (h : lv_has ls nL lv) (hk : lv[k]? = some (i, .int (jI x))) (hv : x + n = v) (hn : i < nL) (hl : (i, Value.int (jI v)) :: lv.filter (fun q => !(q.1 == i) && !(q.1 + 1 == i && q.2.category == 2)) = lv')
    (kk : ∀ ls' : Array Slot, lv_has ls' nL lv' → W p l e R s m args below meth c H locs cells slots Q (F0 m (pc + 3) ls' rest)) : W p l e R s m args below meth c H locs cells slots Q (F0 m pc ls rest) := lv_iinc hx hb hdg h hk (v := jI v) (by rw [← hv]; exact jI_add x n) hn hl kk
/-! branches; the first case is the jump -/
theorem jr_ifeq (hx : p.tables.exec = Jvm.exec) (hb : c.code = cc) {a : Int} {off : Int} {tgt : Nat} (hdg : decode cc pc = .ok (.ifCond .eq off, 3)) (ht : (pc : Int) + off = (tgt : Int)) (ra : jR a) (kt : a = 0 → W p l e R s m args below meth c H locs cells slots Q (F0 m tgt ls rest)) (kf : a ≠ 0 → W p l e R s m args below meth c H locs cells slots Q (F0 m (pc + 3) ls rest)) : W p l e R s m args below meth c H locs cells slots Q (F0 m pc ls (.int (jI a) :: rest)) :=
  lv_if_eq hx hb hdg ht (fun h => kt ((jI_inj ra ⟨by omega, by omega⟩).mp h)) (fun h => kf fun q => h ((jI_inj ra ⟨by omega, by omega⟩).mpr q))
theorem jr_ifne (hx : p.tables.exec = Jvm.exec) (hb : c.code = cc) {a : Int} {off : Int} {tgt : Nat} (hdg : decode cc pc = .ok (.ifCond .ne off, 3)) (ht : (pc : Int) + off = (tgt : Int)) (ra : jR a) (kt : a ≠ 0 → W p l e R s m args below meth c H locs cells slots Q (F0 m tgt ls rest)) (kf : a = 0 → W p l e R s m args below meth c H locs cells slots Q (F0 m (pc + 3) ls rest)) : W p l e R s m args below meth c H locs cells slots Q (F0 m pc ls (.int (jI a) :: rest)) :=
  lv_if_ne hx hb hdg ht (fun h => kt fun q => h ((jI_inj ra ⟨by omega, by omega⟩).mpr q)) (fun h => kf ((jI_inj ra ⟨by omega, by omega⟩).mp h))
theorem jr_iflt (hx : p.tables.exec = Jvm.exec) (hb : c.code = cc) {a : Int} {off : Int} {tgt : Nat} (hdg : decode cc pc = .ok (.ifCond .lt off, 3)) (ht : (pc : Int) + off = (tgt : Int)) (ra : jR a) (kt : a < 0 → W p l e R s m args below meth c H locs cells slots Q (F0 m tgt ls rest)) (kf : 0 ≤ a → W p l e R s m args below meth c H locs cells slots Q (F0 m (pc + 3) ls rest)) : W p l e R s m args below meth c H locs cells slots Q (F0 m pc ls (.int (jI a) :: rest)) :=
  lv_if_lt hx hb hdg ht (fun h => kt ((jI_lt ra ⟨by omega, by omega⟩).mp h)) (fun h => kf (Int.not_lt.mp fun q => h ((jI_lt ra ⟨by omega, by omega⟩).mpr q)))
theorem jr_ifge (hx : p.tables.exec = Jvm.exec) (hb : c.code = cc) {a : Int} {off : Int} {tgt : Nat} (hdg : decode cc pc = .ok (.ifCond .ge off, 3)) (ht : (pc : Int) + off = (tgt : Int)) (ra : jR a) (kt : 0 ≤ a → W p l e R s m args below meth c H locs cells slots Q (F0 m tgt ls rest)) (kf : a < 0 → W p l e R s m args below meth c H locs cells slots Q (F0 m (pc + 3) ls rest)) : W p l e R s m args below meth c H locs cells slots Q (F0 m pc ls (.int (jI a) :: rest)) :=
  lv_if_ge hx hb hdg ht (fun h => kt ((jI_le ⟨by omega, by omega⟩ ra).mp h)) (fun h => kf (Int.not_le.mp fun q => h ((jI_le ⟨by omega, by omega⟩ ra).mpr q)))
theorem jr_ifgt (hx : p.tables.exec = Jvm.exec) (hb : c.code = cc) {a : Int} {off : Int} {tgt : Nat} (hdg : decode cc pc = .ok (.ifCond .gt off, 3)) (ht : (pc : Int) + off = (tgt : Int)) (ra : jR a) (kt : 0 < a → W p l e R s m args below meth c H locs cells slots Q (F0 m tgt ls rest)) (kf : a ≤ 0 → W p l e R s m args below meth c H locs cells slots Q (F0 m (pc + 3) ls rest)) : W p l e R s m args below meth c H locs cells slots Q (F0 m pc ls (.int (jI a) :: rest)) :=
  lv_if_gt hx hb hdg ht (fun h => kt ((jI_lt ⟨by omega, by omega⟩ ra).mp h)) (fun h => kf (Int.not_lt.mp fun q => h ((jI_lt ⟨by omega, by omega⟩ ra).mpr q)))
theorem jr_ifle (hx : p.tables.exec = Jvm.exec) (hb : c.code = cc) {a : Int} {off : Int} {tgt : Nat} (hdg : decode cc pc = .ok (.ifCond .le off, 3)) (ht : (pc : Int) + off = (tgt : Int)) (ra : jR a) (kt : a ≤ 0 → W p l e R s m args below meth c H locs cells slots Q (F0 m tgt ls rest)) (kf : 0 < a → W p l e R s m args below meth c H locs cells slots Q (F0 m (pc + 3) ls rest)) : W p l e R s m args below meth c H locs cells slots Q (F0 m pc ls (.int (jI a) :: rest)) :=
  lv_if_le hx hb hdg ht (fun h => kt ((jI_le ra ⟨by omega, by omega⟩).mp h)) (fun h => kf (Int.not_le.mp fun q => h ((jI_le ra ⟨by omega, by omega⟩).mpr q)))
theorem jr_eq (hx : p.tables.exec = Jvm.exec) (hb : c.code = cc) {a b : Int} {off : Int} {tgt : Nat} (hdg : decode cc pc = .ok (.if_icmp .eq off, 3)) (ht : (pc : Int) + off = (tgt : Int)) (ra : jR a) (rb : jR b) (kt : a = b → W p l e R s m args below meth c H locs cells slots Q (F0 m tgt ls rest)) (kf : a ≠ b → W p l e R s m args below meth c H locs cells slots Q (F0 m (pc + 3) ls rest)) : W p l e R s m args below meth c H locs cells slots Q (F0 m pc ls (.int (jI b) :: .int (jI a) :: rest)) :=
  lv_icmp_eq hx hb hdg ht (fun h => kt ((jI_inj ra rb).mp h)) (fun h => kf fun q => h ((jI_inj ra rb).mpr q))
theorem jr_ne (hx : p.tables.exec = Jvm.exec) (hb : c.code = cc) {a b : Int} {off : Int} {tgt : Nat} (hdg : decode cc pc = .ok (.if_icmp .ne off, 3)) (ht : (pc : Int) + off = (tgt : Int)) (ra : jR a) (rb : jR b) (kt : a ≠ b → W p l e R s m args below meth c H locs cells slots Q (F0 m tgt ls rest)) (kf : a = b → W p l e R s m args below meth c H locs cells slots Q (F0 m (pc + 3) ls rest)) : W p l e R s m args below meth c H locs cells slots Q (F0 m pc ls (.int (jI b) :: .int (jI a) :: rest)) :=
  lv_icmp_ne hx hb hdg ht (fun h => kt fun q => h ((jI_inj ra rb).mpr q)) (fun h => kf ((jI_inj ra rb).mp h))
theorem jr_lt (hx : p.tables.exec = Jvm.exec) (hb : c.code = cc) {a b : Int} {off : Int} {tgt : Nat} (hdg : decode cc pc = .ok (.if_icmp .lt off, 3)) (ht : (pc : Int) + off = (tgt : Int)) (ra : jR a) (rb : jR b) (kt : a < b → W p l e R s m args below meth c H locs cells slots Q (F0 m tgt ls rest)) (kf : b ≤ a → W p l e R s m args below meth c H locs cells slots Q (F0 m (pc + 3) ls rest)) : W p l e R s m args below meth c H locs cells slots Q (F0 m pc ls (.int (jI b) :: .int (jI a) :: rest)) :=
  lv_icmp_lt hx hb hdg ht (fun h => kt ((jI_lt ra rb).mp h)) (fun h => kf (Int.not_lt.mp fun q => h ((jI_lt ra rb).mpr q)))
theorem jr_ge (hx : p.tables.exec = Jvm.exec) (hb : c.code = cc) {a b : Int} {off : Int} {tgt : Nat} (hdg : decode cc pc = .ok (.if_icmp .ge off, 3)) (ht : (pc : Int) + off = (tgt : Int)) (ra : jR a) (rb : jR b) (kt : b ≤ a → W p l e R s m args below meth c H locs cells slots Q (F0 m tgt ls rest)) (kf : a < b → W p l e R s m args below meth c H locs cells slots Q (F0 m (pc + 3) ls rest)) : W p l e R s m args below meth c H locs cells slots Q (F0 m pc ls (.int (jI b) :: .int (jI a) :: rest)) :=
  lv_icmp_ge hx hb hdg ht (fun h => kt ((jI_le rb ra).mp h)) (fun h => kf (Int.not_le.mp fun q => h ((jI_le rb ra).mpr q)))
theorem jr_gt (hx : p.tables.exec = Jvm.exec) (hb : c.code = cc) {a b : Int} {off : Int} {tgt : Nat} (hdg : decode cc pc = .ok (.if_icmp .gt off, 3)) (ht : (pc : Int) + off = (tgt : Int)) (ra : jR a) (rb : jR b) (kt : b < a → W p l e R s m args below meth c H locs cells slots Q (F0 m tgt ls rest)) (kf : a ≤ b → W p l e R s m args below meth c H locs cells slots Q (F0 m (pc + 3) ls rest)) : W p l e R s m args below meth c H locs cells slots Q (F0 m pc ls (.int (jI b) :: .int (jI a) :: rest)) :=
  lv_icmp_gt hx hb hdg ht (fun h => kt ((jI_lt rb ra).mp h)) (fun h => kf (Int.not_lt.mp fun q => h ((jI_lt rb ra).mpr q)))
theorem jr_le (hx : p.tables.exec = Jvm.exec) (hb : c.code = cc) {a b : Int} {off : Int} {tgt : Nat} (hdg : decode cc pc = .ok (.if_icmp .le off, 3)) (ht : (pc : Int) + off = (tgt : Int)) (ra : jR a) (rb : jR b) (kt : a ≤ b → W p l e R s m args below meth c H locs cells slots Q (F0 m tgt ls rest)) (kf : b < a → W p l e R s m args below meth c H locs cells slots Q (F0 m (pc + 3) ls rest)) : W p l e R s m args below meth c H locs cells slots Q (F0 m pc ls (.int (jI b) :: .int (jI a) :: rest)) :=
  lv_icmp_le hx hb hdg ht (fun h => kt ((jI_le ra rb).mp h)) (fun h => kf (Int.not_le.mp fun q => h ((jI_le ra rb).mpr q)))
/-! arrays -/
theorem jr_iald (hx : p.tables.exec = Jvm.exec) (hb : c.code = cc) (hK : va_K (gD g) cls (tys g) s) (hP : PP g ws H) (q0 : Nat) {a n : Nat} {f : Nat → Int} (ha : ws[q0]? = some (aI g a n f)) {z : Int} (k : Nat) (hz : z = (k : Int)) (hk : k < n) (hn : k < 2147483648) (hdg : decode cc pc = .ok (.iaload, 1))
    (kk : W p l e R s m args below meth c H locs cells slots Q (F0 m (pc + 1) ls (.int (jI (f k)) :: rest))) : W p l e R s m args below meth c H locs cells slots Q (F0 m pc ls (.int (jI z) :: .ref a :: rest)) := by
  subst hz
  refine va_iald hx hb hK hP q0 0 ha rfl (jI_in (by omega) (by omega) (by omega)) hdg ?_
  rw [jI_cl (by omega) (by omega)]
  exact kk
theorem jr_zald (hx : p.tables.exec = Jvm.exec) (hb : c.code = cc) (hK : va_K (gD g) cls (tys g) s) (hP : PP g ws H) (q0 : Nat) {a n : Nat} {f : Nat → Int} (ha : ws[q0]? = some (aZ g a n f)) {z : Int} (k : Nat) (hz : z = (k : Int)) (hk : k < n) (hn : k < 2147483648) (hdg : decode cc pc = .ok (.baload, 1))
    (kk : W p l e R s m args below meth c H locs cells slots Q (F0 m (pc + 1) ls (.int (jI (f k)) :: rest))) : W p l e R s m args below meth c H locs cells slots Q (F0 m pc ls (.int (jI z) :: .ref a :: rest)) := by
  subst hz
  refine va_zald hx hb hK hP q0 1 ha rfl (jI_in (by omega) (by omega) (by omega)) hdg ?_
  rw [jI_cl (by omega) (by omega)]
  exact kk
theorem jr_iast (hx : p.tables.exec = Jvm.exec) (hb : c.code = cc) (hK : va_K (gD g) cls (tys g) s) (hP : PP g ws H) (hD : va_D A ws) (hS : va_S A H0 H locs) (q0 : Nat) {a n : Nat} {f : Nat → Int} (ha : ws[q0]? = some (aI g a n f)) {z v : Int} (k : Nat) (hz : z = (k : Int)) (hk : k < n) (hn : k < 2147483648) (hdg : decode cc pc = .ok (.iastore, 1))
    (kk : ∀ (H1 : Heap) (locs1 : List Loc), PP g (ws.set q0 (aI g a n (ju f k v))) H1 → va_D A (ws.set q0 (aI g a n (ju f k v))) → va_S A H0 H1 locs1 → W p l e R s m args below meth c H1 locs1 cells slots Q (F0 m (pc + 1) ls rest)) : W p l e R s m args below meth c H locs cells slots Q (F0 m pc ls (.int (jI v) :: .int (jI z) :: .ref a :: rest)) := by
  subst hz
  refine va_iast hx hb hK hP hD hS q0 0 ha rfl (jI_in (by omega) (by omega) (by omega)) hdg ?_
  intro H1 locs1
  rw [jI_cl (by omega) (by omega), Int.toNat_natCast, ju_upd]
  exact kk H1 locs1
theorem jr_zast (hx : p.tables.exec = Jvm.exec) (hb : c.code = cc) (hK : va_K (gD g) cls (tys g) s) (hP : PP g ws H) (hD : va_D A ws) (hS : va_S A H0 H locs) (q0 : Nat) {a n : Nat} {f : Nat → Int} (ha : ws[q0]? = some (aZ g a n f)) {z v : Int} (k : Nat) (hz : z = (k : Int)) (hk : k < n) (hn : k < 2147483648) (hv : v = 0 ∨ v = 1) (hdg : decode cc pc = .ok (.bastore, 1))
    (kk : ∀ (H1 : Heap) (locs1 : List Loc), PP g (ws.set q0 (aZ g a n (ju f k v))) H1 → va_D A (ws.set q0 (aZ g a n (ju f k v))) → va_S A H0 H1 locs1 → W p l e R s m args below meth c H1 locs1 cells slots Q (F0 m (pc + 1) ls rest)) : W p l e R s m args below meth c H locs cells slots Q (F0 m pc ls (.int (jI v) :: .int (jI z) :: .ref a :: rest)) := by
  subst hz
  refine va_zast hx hb hK hP hD hS q0 1 ha rfl (jI_in (by omega) (by omega) (by omega)) hdg ?_
  intro H1 locs1
  have hv' : vp_nar .boolean (jI v) = jI v := by rcases hv with h | h <;> rw [h] <;> decide
  rw [jI_cl (by omega) (by omega), Int.toNat_natCast, hv', ju_upd]
  exact kk H1 locs1
theorem nz_c {v : Int} (h0 : 0 ≤ v) (h1 : v < 65536) : narrow .char (.int (jI v)) = .int (jI v) ∧ fits .char (.int (jI v)) = true := by
  have h := pk_charN (q := v.toNat) (by omega)
  rw [jI_nI, Int.toNat_of_nonneg h0] at h
  exact h
theorem nz_b {v : Int} (h : v = 0 ∨ v = 1) : narrow .boolean (.int (jI v)) = .int (jI v) ∧ fits .boolean (.int (jI v)) = true := by
  rcases h with h | h <;> rw [h] <;> exact ⟨by decide, by decide⟩
/-! Math -/
theorem jr_mmax (hx : p.tables.exec = Jvm.exec) (hb : c.code = cc) (hml : c.maxLocals = ls.size) {own : String} {index : Nat} (hown : s.vm.findClass own = some m.cls) (hlink : (Cond.methodLink own index Lib.Math.max.name).before args s = true) (hstat : (Cond.static Lib.Math.max.name).before args s = true) (hini : (Cond.initialized "java/lang/Math").before args s = true) (hcode : (Cond.code Lib.Math.max.name Lib.Math.max.code 2 (some .int)).before args s = true)
    (hframes : 1 ≤ R.frames) (hlocals : (rest.map fun v => v.category).sum + 13 ≤ R.locals) (hc : cells ≤ R.cells) (hs : slots ≤ R.slots) {a b : Int} (ra : jR a) (rb : jR b) (hdg : decode cc pc = .ok (.invokestatic index, 3))
    (kk : W p l e R s m args below meth c H locs cells slots Q (F0 m (pc + 3) ls (.int (jI (max a b)) :: rest))) : W p l e R s m args below meth c H locs cells slots Q (F0 m pc ls (.int (jI b) :: .int (jI a) :: rest)) :=
  va_mmax hx hb hml hown hlink hstat hini hcode hframes hlocals hc hs hdg (by rw [jI_max a b ra rb]; exact kk)
theorem jr_mmin (hx : p.tables.exec = Jvm.exec) (hb : c.code = cc) (hml : c.maxLocals = ls.size) {own : String} {index : Nat} (hown : s.vm.findClass own = some m.cls) (hlink : (Cond.methodLink own index Lib.Math.min.name).before args s = true) (hstat : (Cond.static Lib.Math.min.name).before args s = true) (hini : (Cond.initialized "java/lang/Math").before args s = true) (hcode : (Cond.code Lib.Math.min.name Lib.Math.min.code 2 (some .int)).before args s = true)
    (hframes : 1 ≤ R.frames) (hlocals : (rest.map fun v => v.category).sum + 13 ≤ R.locals) (hc : cells ≤ R.cells) (hs : slots ≤ R.slots) {a b : Int} (ra : jR a) (rb : jR b) (hdg : decode cc pc = .ok (.invokestatic index, 3))
    (kk : W p l e R s m args below meth c H locs cells slots Q (F0 m (pc + 3) ls (.int (jI (min a b)) :: rest))) : W p l e R s m args below meth c H locs cells slots Q (F0 m pc ls (.int (jI b) :: .int (jI a) :: rest)) :=
  va_mmin hx hb hml hown hlink hstat hini hcode hframes hlocals hc hs hdg (by rw [jI_min a b ra rb]; exact kk)
theorem jr_mabs (hx : p.tables.exec = Jvm.exec) (hb : c.code = cc) (hml : c.maxLocals = ls.size) {own : String} {index : Nat} (hown : s.vm.findClass own = some m.cls) (hlink : (Cond.methodLink own index Lib.Math.abs.name).before args s = true) (hstat : (Cond.static Lib.Math.abs.name).before args s = true) (hini : (Cond.initialized "java/lang/Math").before args s = true) (hcode : (Cond.code Lib.Math.abs.name Lib.Math.abs.code 1 (some .int)).before args s = true)
    (hframes : 1 ≤ R.frames) (hlocals : (rest.map fun v => v.category).sum + 13 ≤ R.locals) (hc : cells ≤ R.cells) (hs : slots ≤ R.slots) {a : Int} (ra : jR a) (hdg : decode cc pc = .ok (.invokestatic index, 3))
    (kk : W p l e R s m args below meth c H locs cells slots Q (F0 m (pc + 3) ls (.int (jI (if 0 ≤ a then a else 0 - a)) :: rest))) : W p l e R s m args below meth c H locs cells slots Q (F0 m pc ls (.int (jI a) :: rest)) :=
  va_mabs hx hb hml hown hlink hstat hini hcode hframes hlocals hc hs hdg (by rw [jI_abs a ra]; exact kk)
/-! calls -/
variable {st0 : List Value} {aa : Array Value} {mc ms : Nat} {free : Addr → Prop} {A0 A1 : Nat → Prop}
theorem jN_nil {L : List Loc} (h : ∀ q ∈ L, jN q.base) : L = [] := by
  cases L with
  | nil => rfl
  | cons x _ => exact (h x List.mem_cons_self).elim
theorem jk_Si {post : Int → Prop} (hr : va_Run p l e R s m args below meth c H locs cells slots 0 0 (F0 m pc ls st0) rest (jSi post aa) jN)
    (kk : ∀ z : Int, post z → W p l e R s m args below meth c H locs cells slots Q (F0 m (pc + 3) ls (.int (jI z) :: rest))) : W p l e R s m args below meth c H locs cells slots Q (F0 m pc ls st0) := by
  intro T hT X
  obtain ⟨v, st₀, t, T', L, h0, X', hL, e1, e2, ⟨z, hv, hp, hh⟩, st⟩ := hr T hT X
  cases hv
  cases jN_nil hL
  rw [List.append_nil] at X'
  obtain ⟨t2, a1, b1⟩ := kk z hp T' (by rw [e1, hh, h0]) X'
  exact ⟨t2, st t2 a1, b1⟩
theorem jk_Sv {post : Prop} (hr : va_Run p l e R s m args below meth c H locs cells slots 0 0 (F0 m pc ls st0) rest (jSv post aa) jN)
    (kk : post → W p l e R s m args below meth c H locs cells slots Q (F0 m (pc + 3) ls rest)) : W p l e R s m args below meth c H locs cells slots Q (F0 m pc ls st0) := by
  intro T hT X
  obtain ⟨v, st₀, t, T', L, h0, X', hL, e1, e2, ⟨hv, hp, hh⟩, st⟩ := hr T hT X
  cases hv
  cases jN_nil hL
  rw [List.append_nil] at X'
  obtain ⟨t2, a1, b1⟩ := kk hp T' (by rw [e1, hh, h0]) X'
  exact ⟨t2, st t2 a1, b1⟩
theorem jk_Sl {post : Int → Prop} (hr : va_Run p l e R s m args below meth c H locs cells slots 0 0 (F0 m pc ls st0) rest (jSl post aa) jN)
    (kk : ∀ z : Int, post z → W p l e R s m args below meth c H locs cells slots Q (F0 m (pc + 3) ls (.long (Int64.ofInt z) :: rest))) : W p l e R s m args below meth c H locs cells slots Q (F0 m pc ls st0) := by
  intro T hT X
  obtain ⟨v, st₀, t, T', L, h0, X', hL, e1, e2, ⟨z, hv, hp, hh⟩, st⟩ := hr T hT X
  cases hv
  cases jN_nil hL
  rw [List.append_nil] at X'
  obtain ⟨t2, a1, b1⟩ := kk z hp T' (by rw [e1, hh, h0]) X'
  exact ⟨t2, st t2 a1, b1⟩
theorem jk_Sr {post : Nat → Prop} (hr : va_Run p l e R s m args below meth c H locs cells slots 0 0 (F0 m pc ls st0) rest (jSr post aa) jN)
    (kk : ∀ z : Nat, post z → W p l e R s m args below meth c H locs cells slots Q (F0 m (pc + 3) ls (.ref z :: rest))) : W p l e R s m args below meth c H locs cells slots Q (F0 m pc ls st0) := by
  intro T hT X
  obtain ⟨v, st₀, t, T', L, h0, X', hL, e1, e2, ⟨z, hv, hp, hh⟩, st⟩ := hr T hT X
  cases hv
  cases jN_nil hL
  rw [List.append_nil] at X'
  obtain ⟨t2, a1, b1⟩ := kk z hp T' (by rw [e1, hh, h0]) X'
  exact ⟨t2, st t2 a1, b1⟩
theorem jk_Qi {post : Int → Heap → Prop} (hr : va_Run p l e R s m args below meth c H locs cells slots mc ms (F0 m pc ls st0) rest (jQi post A1 aa) free) (hS : va_S A0 H0 H locs) (hA : ∀ q, q < H.size → A1 q → A0 q) (hf : ∀ q, free q → A0 q)
    (kk : ∀ (z : Int) (H1 : Heap) (locs1 : List Loc), post z H1 → H.size ≤ H1.size → (∀ q : Nat, q < H.size → ¬ A1 q → H1[q]? = H[q]?) → va_S A0 H0 H1 locs1 → W p l e R s m args below meth c H1 locs1 (cells + mc) (slots + ms) Q (F0 m (pc + 3) ls (.int (jI z) :: rest))) : W p l e R s m args below meth c H locs cells slots Q (F0 m pc ls st0) := by
  intro T hT X
  obtain ⟨v, st₀, t, T', L, h0, X', hL, e1, e2, ⟨⟨z, hv, hp⟩, hF⟩, st⟩ := hr T hT X
  cases hv
  obtain ⟨k1, k2, k3⟩ := vx_keep h0 e1 hS hA hf hL hF
  obtain ⟨t2, a1, b1⟩ := kk z T'.heap (locs ++ L) (by rw [e1]; exact hp) k1 k2 k3 T' rfl X'
  exact ⟨t2, st t2 a1, b1⟩
theorem jk_Qv {post : Heap → Prop} (hr : va_Run p l e R s m args below meth c H locs cells slots mc ms (F0 m pc ls st0) rest (jQv post A1 aa) free) (hS : va_S A0 H0 H locs) (hA : ∀ q, q < H.size → A1 q → A0 q) (hf : ∀ q, free q → A0 q)
    (kk : ∀ (H1 : Heap) (locs1 : List Loc), post H1 → H.size ≤ H1.size → (∀ q : Nat, q < H.size → ¬ A1 q → H1[q]? = H[q]?) → va_S A0 H0 H1 locs1 → W p l e R s m args below meth c H1 locs1 (cells + mc) (slots + ms) Q (F0 m (pc + 3) ls rest)) : W p l e R s m args below meth c H locs cells slots Q (F0 m pc ls st0) := by
  intro T hT X
  obtain ⟨v, st₀, t, T', L, h0, X', hL, e1, e2, ⟨⟨hv, hp⟩, hF⟩, st⟩ := hr T hT X
  cases hv
  obtain ⟨k1, k2, k3⟩ := vx_keep h0 e1 hS hA hf hL hF
  obtain ⟨t2, a1, b1⟩ := kk T'.heap (locs ++ L) (by rw [e1]; exact hp) k1 k2 k3 T' rfl X'
  exact ⟨t2, st t2 a1, b1⟩
/-- a throw that leaves this method, nothing written yet -/
theorem jx_out {Qc : Array Value → State → Outcome → State → Prop} {pe : String → Prop} {E : String} {ce : Cell} {q9 : Nat} {H1 : Heap} {k n : Nat} (htab : ∀ x ∈ c.exceptionTable.toList, False) (hlk : meth.locks = false) (hE : pe E) (hz : s.heap.size ≤ H1.size) (hk : ∀ q : Nat, q < s.heap.size → H1[q]? = s.heap[q]?) (hce : H1[q9]? = some ce) (hv : ce.vm = .none) (hcl : s.vm.findClass E = some ce.cls) (hc : cells ≤ k) (hs : slots ≤ n) :
    vx_W p l e R s m args below meth c H1 [] cells slots (vx_MQ below Qc (jX pe) args s k n free) (F0 m pc ls rest) q9 :=
  vx_out (fun x hx => (htab x hx).elim) hlk hce hv hcl (fun t ht _ => ⟨hE, by rw [ht]; exact hz, fun q hq _ => by rw [ht]; exact hk q hq⟩) (fun _ h => nomatch h) hc hs
theorem jk_XSi {post : Int → Prop} {pe pe' : String → Prop} {Qc : Array Value → State → Outcome → State → Prop} {k n : Nat} (hr : vx_Run p l e R s m args below meth c s.heap [] cells slots mc ms (F0 m pc ls st0) rest (jSi post aa) (jX pe) jN)
    (htab : ∀ x ∈ c.exceptionTable.toList, False) (hlk : meth.locks = false) (hE : ∀ E, pe E → pe' E) (hc : cells + mc ≤ k) (hs : slots + ms ≤ n)
    (kk : ∀ z : Int, post z → W p l e R s m args below meth c s.heap [] (cells + mc) (slots + ms) (vx_MQ below Qc (jX pe') args s k n free) (F0 m (pc + 3) ls (.int (jI z) :: rest))) : W p l e R s m args below meth c s.heap [] cells slots (vx_MQ below Qc (jX pe') args s k n free) (F0 m pc ls st0) := by
  intro T hT X
  rcases hr T hT X with ⟨v, st₀, t, T', L, h0, X', hL, e1, e2, ⟨z, hv, hp, hh⟩, st⟩ | ⟨q, st₀, t, T', L, E, ce, h0, X', hL, e1, e2, ⟨hp, hz, hk⟩, hce, hcv, hcl, st⟩
  · cases hv
    cases jN_nil hL
    obtain ⟨t2, a1, b1⟩ := kk z hp T' (by rw [e1, hh, h0]) X'
    exact ⟨t2, st t2 a1, b1⟩
  · cases jN_nil hL
    rw [h0] at hz hk
    obtain ⟨t2, a1, b1⟩ := jx_out (Qc := Qc) (pe := pe') (pc := pc) (ls := ls) (rest := rest) htab hlk (hE E hp) (by rw [e1]; exact hz) (fun q hq => by rw [e1]; exact hk q hq (fun h => h)) (by rw [e1]; exact hce) hcv hcl hc hs T' rfl X'
    exact ⟨t2, st.trans a1, b1⟩
theorem jk_XSv {post : Prop} {pe pe' : String → Prop} {Qc : Array Value → State → Outcome → State → Prop} {k n : Nat} (hr : vx_Run p l e R s m args below meth c s.heap [] cells slots mc ms (F0 m pc ls st0) rest (jSv post aa) (jX pe) jN)
    (htab : ∀ x ∈ c.exceptionTable.toList, False) (hlk : meth.locks = false) (hE : ∀ E, pe E → pe' E) (hc : cells + mc ≤ k) (hs : slots + ms ≤ n)
    (kk : post → W p l e R s m args below meth c s.heap [] (cells + mc) (slots + ms) (vx_MQ below Qc (jX pe') args s k n free) (F0 m (pc + 3) ls rest)) : W p l e R s m args below meth c s.heap [] cells slots (vx_MQ below Qc (jX pe') args s k n free) (F0 m pc ls st0) := by
  intro T hT X
  rcases hr T hT X with ⟨v, st₀, t, T', L, h0, X', hL, e1, e2, ⟨hv, hp, hh⟩, st⟩ | ⟨q, st₀, t, T', L, E, ce, h0, X', hL, e1, e2, ⟨hp, hz, hk⟩, hce, hcv, hcl, st⟩
  · cases hv
    cases jN_nil hL
    obtain ⟨t2, a1, b1⟩ := kk hp T' (by rw [e1, hh, h0]) X'
    exact ⟨t2, st t2 a1, b1⟩
  · cases jN_nil hL
    rw [h0] at hz hk
    obtain ⟨t2, a1, b1⟩ := jx_out (Qc := Qc) (pe := pe') (pc := pc) (ls := ls) (rest := rest) htab hlk (hE E hp) (by rw [e1]; exact hz) (fun q hq => by rw [e1]; exact hk q hq (fun h => h)) (by rw [e1]; exact hce) hcv hcl hc hs T' rfl X'
    exact ⟨t2, st.trans a1, b1⟩
theorem jk_XSr {post : Nat → Prop} {pe pe' : String → Prop} {Qc : Array Value → State → Outcome → State → Prop} {k n : Nat} (hr : vx_Run p l e R s m args below meth c s.heap [] cells slots mc ms (F0 m pc ls st0) rest (jSr post aa) (jX pe) jN)
    (htab : ∀ x ∈ c.exceptionTable.toList, False) (hlk : meth.locks = false) (hE : ∀ E, pe E → pe' E) (hc : cells + mc ≤ k) (hs : slots + ms ≤ n)
    (kk : ∀ z : Nat, post z → W p l e R s m args below meth c s.heap [] (cells + mc) (slots + ms) (vx_MQ below Qc (jX pe') args s k n free) (F0 m (pc + 3) ls (.ref z :: rest))) : W p l e R s m args below meth c s.heap [] cells slots (vx_MQ below Qc (jX pe') args s k n free) (F0 m pc ls st0) := by
  intro T hT X
  rcases hr T hT X with ⟨v, st₀, t, T', L, h0, X', hL, e1, e2, ⟨z, hv, hp, hh⟩, st⟩ | ⟨q, st₀, t, T', L, E, ce, h0, X', hL, e1, e2, ⟨hp, hz, hk⟩, hce, hcv, hcl, st⟩
  · cases hv
    cases jN_nil hL
    obtain ⟨t2, a1, b1⟩ := kk z hp T' (by rw [e1, hh, h0]) X'
    exact ⟨t2, st t2 a1, b1⟩
  · cases jN_nil hL
    rw [h0] at hz hk
    obtain ⟨t2, a1, b1⟩ := jx_out (Qc := Qc) (pe := pe') (pc := pc) (ls := ls) (rest := rest) htab hlk (hE E hp) (by rw [e1]; exact hz) (fun q hq => by rw [e1]; exact hk q hq (fun h => h)) (by rw [e1]; exact hce) hcv hcl hc hs T' rfl X'
    exact ⟨t2, st.trans a1, b1⟩
/-! ends of readers -/
theorem je_Si {post : Int → Prop} {z : Int} {ty : FieldType} (hx : p.tables.exec = Jvm.exec) (hb : c.code = cc) (hr : meth.sig.returnType = some ty) (hlk : meth.locks = false) (hn : narrow ty (.int (jI z)) = .int (jI z)) (hp : post z) (hdg : decode cc pc = .ok (.ireturn, 1)) :
    W p l e R s m args below meth c s.heap [] cells slots (MQ below (jSi post) args s cells slots free) (F0 m pc ls [.int (jI z)]) := W.zret hx hb hr hn (fun t ht _ => ⟨z, rfl, hp, ht⟩) (fun _ h => nomatch h) hdg hlk
theorem je_Sv {post : Prop} (hx : p.tables.exec = Jvm.exec) (hb : c.code = cc) (hr : meth.sig.returnType = none) (hlk : meth.locks = false) (hp : post) (hdg : decode cc pc = .ok (.return_, 1)) :
    W p l e R s m args below meth c s.heap [] cells slots (MQ below (jSv post) args s cells slots free) (F0 m pc ls []) := W.vret hx hb hr (fun t ht _ => ⟨rfl, hp, ht⟩) (fun _ h => nomatch h) hdg hlk
theorem je_Sr {post : Nat → Prop} {a : Nat} {n : String} (hx : p.tables.exec = Jvm.exec) (hb : c.code = cc) (hr : meth.sig.returnType = some (.object n)) (hlk : meth.locks = false) (hp : post a) (hdg : decode cc pc = .ok (.areturn, 1)) :
    W p l e R s m args below meth c s.heap [] cells slots (MQ below (jSr post) args s cells slots free) (F0 m pc ls [.ref a]) := W.aret hx hb hr (Or.inl ⟨n, rfl⟩) (Or.inr ⟨a, rfl⟩) (fun t ht _ => ⟨a, rfl, hp, ht⟩) (fun _ h => nomatch h) hdg hlk
theorem je_Sl {post : Int → Prop} {z : Int} (hx : p.tables.exec = Jvm.exec) (hb : c.code = cc) (hr : meth.sig.returnType = some .long) (hlk : meth.locks = false) (hp : post z) (hdg : decode cc pc = .ok (.lreturn, 1)) :
    W p l e R s m args below meth c s.heap [] cells slots (MQ below (jSl post) args s cells slots free) (F0 m pc ls [.long (Int64.ofInt z)]) := W.lret hx hb hr (fun t ht _ => ⟨z, rfl, hp, ht⟩) (fun _ h => nomatch h) hdg hlk
theorem je_Qi {post : Int → Heap → Prop} {z : Int} {ty : FieldType} (hx : p.tables.exec = Jvm.exec) (hb : c.code = cc) (hr : meth.sig.returnType = some ty) (hlk : meth.locks = false) (hn : narrow ty (.int (jI z)) = .int (jI z)) (hS : va_S A s.heap H locs) (hp : post z H) (hdg : decode cc pc = .ok (.ireturn, 1)) :
    W p l e R s m args below meth c H locs cells slots (MQ below (jQi post A) args s cells slots A) (F0 m pc ls [.int (jI z)]) := W.zret hx hb hr hn (fun t ht _ => ⟨⟨z, rfl, by rw [ht]; exact hp⟩, hS.F ht⟩) hS.2.2 hdg hlk
theorem je_Qv {post : Heap → Prop} (hx : p.tables.exec = Jvm.exec) (hb : c.code = cc) (hr : meth.sig.returnType = none) (hlk : meth.locks = false) (hS : va_S A s.heap H locs) (hp : post H) (hdg : decode cc pc = .ok (.return_, 1)) :
    W p l e R s m args below meth c H locs cells slots (MQ below (jQv post A) args s cells slots A) (F0 m pc ls []) := W.vret hx hb hr (fun t ht _ => ⟨⟨rfl, by rw [ht]; exact hp⟩, hS.F ht⟩) hS.2.2 hdg hlk
end JR
/-- a read-only world, as it is now -/
theorem jat {g : GT} {rc : va_W} {A : Nat → Prop} {H0 H : Heap} {locs : List Loc} (h : PP g rc H0) (hS : va_S A H0 H locs) (hn : ∀ (k : Nat) (q : Nat × va_E), rc[k]? = some q → ¬ A q.1) : PP g rc H := h.kept fun k q hk => hS.2.1 q.1 (h k q hk).lt (hn k q hk)
