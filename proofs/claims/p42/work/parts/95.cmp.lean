/-! costs are 0 just for equal texts; likenesses, scores -/
theorem CT.mem {x : List Int} (h : CT x) {c : Int} (hc : c ∈ x) : 0 ≤ c ∧ c < 40000 := by
  obtain ⟨k, hk, e⟩ := List.getElem_of_mem hc
  have := h.2 k hk
  rw [List.getD_eq_getElem?_getD, List.getElem?_eq_getElem hk] at this
  rw [← e]; exact this
theorem wk_1 {w : Nat → Int} (h : WB w) {c : Int} (hc : 0 ≤ c ∧ c < 40000) : 1 ≤ wk w (kd c) ∧ wk w (kd c) ≤ 9 := by
  have hk : kd c = c / 10000 := if_neg (by omega)
  have hb : 0 ≤ c / 10000 ∧ c / 10000 < 4 := by omega
  unfold wk
  rw [hk, if_pos hb]
  exact h _ (by omega)
theorem rp_0 {w : Nat → Int} (h : WB w) {c d : Int} (hc : 0 ≤ c ∧ c < 40000) : rp w c d = 0 ↔ c = d := by
  have h1 := wk_1 h hc
  unfold rp
  by_cases e : c = d
  · rw [if_pos e]; exact ⟨fun _ => e, fun _ => rfl⟩
  · rw [if_neg e]
    constructor
    · intro q
      split at q
      · omega
      · split at q <;> omega
    · intro q; exact absurd q e
theorem ed_zero {w : Nat → Int} (h : WB w) (x y : List Int) (hx : ∀ c ∈ x, 0 ≤ c ∧ c < 40000) (hy : ∀ c ∈ y, 0 ≤ c ∧ c < 40000) : ed w x y = 0 ↔ x = y := by
  induction x generalizing y with
  | nil =>
    cases y with
    | nil => rw [ed]; exact ⟨fun _ => rfl, fun _ => rfl⟩
    | cons d y =>
      have h1 := wk_1 h (hy d List.mem_cons_self)
      have h2 := ed_b h [] y
      rw [ed]
      exact ⟨fun q => by omega, fun q => by cases q⟩
  | cons c x ih =>
    have h1 := wk_1 h (hx c List.mem_cons_self)
    cases y with
    | nil =>
      have h2 := ed_b h x []
      rw [ed]
      exact ⟨fun q => by omega, fun q => by cases q⟩
    | cons d y =>
      have h3 := wk_1 h (hy d List.mem_cons_self)
      have h4 := ed_b h x (d :: y)
      have h5 := ed_b h (c :: x) y
      have h6 := ed_b h x y
      have h7 := rp_b h c d
      have h8 := ih y (fun q hq => hx q (List.mem_cons_of_mem _ hq)) (fun q hq => hy q (List.mem_cons_of_mem _ hq))
      have h9 := rp_0 h (d := d) (hx c List.mem_cons_self)
      rw [ed]
      constructor
      · intro q
        have e1 : ed w x y = 0 := by omega
        have e2 : rp w c d = 0 := by omega
        rw [h9.mp e2, h8.mp e1]
      · intro q
        injection q with q1 q2
        have e1 := h8.mpr q2
        have e2 := h9.mpr q1
        omega
theorem wtA_1 {w : Nat → Int} (h : WB w) {x : List Int} (hx : ∀ c ∈ x, 0 ≤ c ∧ c < 40000) (hn : 1 ≤ x.length) : 1 ≤ wtA w x 0 := by
  cases x with
  | nil => exact absurd hn (by decide)
  | cons c x =>
    have h1 := wk_1 h (hx c List.mem_cons_self)
    have h2 := wtA_b h x (0 + wk w (kd c))
    rw [wtA]; omega
theorem lkf_100 {w : Nat → Int} {x y : List Int} (hw : 1 ≤ wtA w x 0) {paid : Int} (hp : 0 ≤ paid) : lkf w x y paid = 100 ↔ paid = 0 := by
  unfold lkf
  have hm : 1 ≤ max (wtA w x 0) (wtA w y 0) := by omega
  generalize max (wtA w x 0) (wtA w y 0) = W at hm ⊢
  constructor
  · intro q
    split at q
    · omega
    · rename_i hn
      have h1 : 100 * (W - paid) / W < 100 ∨ paid = 0 := by
        by_cases e : paid = 0
        · exact Or.inr e
        · refine Or.inl (Int.ediv_lt_of_lt_mul (by omega) ?_)
          omega
      omega
  · intro q
    subst q
    rw [if_neg (by omega), Int.sub_zero]
    exact Int.mul_ediv_cancel _ (by omega)
section CMP
variable {w : Nat → Int} {tm : TM} {x y : List Int}
/-- all that is compared of one unit -/
theorem cmp_all (h : WB w) (hx : CT x) (hy : CT y) (hn : 1 ≤ x.length) (u : UV) (hu : u.1 = y) : (D w x y x.length y.length = ed w x y) ∧ (0 ≤ ed w x y ∧ ed w x y ≤ 1080) ∧ ((ed w x y = 0 ∧ i01 (x = y) = 1) ∨ (1 ≤ ed w x y ∧ i01 (x = y) = 0)) ∧ (0 ≤ lk w x y ∧ lk w x y ≤ 100) ∧ (lk w x y = 100 ↔ ed w x y = 0) ∧ ((10 * ms tm x u.2.1 < lk w x y ∧ rate w tm x u = lk w x y - 10 * ms tm x u.2.1) ∨ (lk w x y ≤ 10 * ms tm x u.2.1 ∧ rate w tm x u = 0)) := by
  subst hu
  have e := D_ed w x u.1
  have h1 := ed_b h x u.1
  have hx1 := hx.1
  have hy1 := hy.1
  have h2 := ed_zero h x u.1 (fun c hc => hx.mem hc) (fun c hc => hy.mem hc)
  have h3 := lk_b h x u.1
  have h4 : lk w x u.1 = 100 ↔ ed w x u.1 = 0 := by
    unfold lk
    rw [e]
    exact lkf_100 (wtA_1 h (fun c hc => hx.mem hc) hn) h1.1
  refine ⟨e, ⟨h1.1, by omega⟩, ?_, h3, h4, ?_⟩
  · by_cases q : x = u.1
    · exact Or.inl ⟨h2.mpr q, if_pos q⟩
    · exact Or.inr ⟨by have : ¬ ed w x u.1 = 0 := fun z => q (h2.mp z)
                       omega, if_neg q⟩
  · unfold rate lm
    omega
theorem ms_b (tm : TM) (t u : List Int) (h : tm.1 ≤ 20) : 0 ≤ ms tm t u ∧ ms tm t u ≤ 20 := by
  have := cm_b tm.2.1 tm.2.2 t u tm.1
  unfold ms
  omega
variable {v : Nat → UV} {i : Nat} {b bs bl lv L r : Int}
theorem fa_keep (hF : (b, bs, bl) = fa w tm x v i) (hr : r = rate w tm x (v i)) (hL : L = lk w x (v i).1) (hlv : lv = (v i).2.2) (h : ¬ ((lv = 1 ∧ 0 < r) ∧ (bs < r ∨ (r = bs ∧ bl ≤ L)))) (h01 : lv = 0 ∨ lv = 1) : (b, bs, bl) = fa w tm x v (i + 1) := by
  rw [fa, faS, ← hF, ← hr, ← hL, ← hlv]
  refine (if_neg fun q => h ?_).symm
  have h1 := q.1.1
  have h2 := q.1.2
  have h3 : ¬ (r < bs ∨ (bs = r ∧ L < bl)) := q.2
  omega
theorem fa_take (hF : (b, bs, bl) = fa w tm x v i) (hr : r = rate w tm x (v i)) (hL : L = lk w x (v i).1) (hlv : lv = (v i).2.2) (h : (lv = 1 ∧ 0 < r) ∧ (bs < r ∨ (r = bs ∧ bl ≤ L))) : ((i : Int), r, L) = fa w tm x v (i + 1) := by
  rw [fa, faS, ← hF, ← hr, ← hL, ← hlv]
  refine (if_pos ⟨⟨by omega, by omega⟩, ?_⟩).symm
  show ¬ (r < bs ∨ (bs = r ∧ L < bl))
  omega
end CMP
theorem CW.tm20 {g : GT} {o : Nat} {S : SGM} {W9 : va_W} (h : CW g o S W9) : S.2.2.2.2.1.1 ≤ 20 := by
  obtain ⟨ad, fd, fk, g1, g2, g3, p1, p2, k1, k2, us, ss, lw1, lw2, hW, ho, -, -, -, ht, -⟩ := h
  exact ht.1
/-- the sources of the units, in a row of rows -/
abbrev aQ2 (g : GT) (a : Nat) (f : Nat → Option Nat) : Nat × va_E := (a, .inl (gQ g, 16, .inr (.inr (.inr (.inr f)))))
def SRC (g : GT) (S : SGM) (fq : Nat → Option Nat) (ar : va_W) (sa : Nat → Nat) (xs : Nat → List Int) (ff : Nat → Nat → Int) : Prop := ∀ u, u < nU S → fq u = some (sa u) ∧ AT (xs u) (ff u) ∧ aI g (sa u) 61 (ff u) ∈ ar ∧ (uS S u).1 = xs u ∧ 1 ≤ (xs u).length
section RQ
variable {p : Program} {l : Launch} {e : Env} {R : Room} {s : State} {m : MethodId} {args : Array Value} {below : List Frame} {meth : Method} {c : Code} {H : Heap} {locs : List Loc} {cells slots : Nat} {Q : State → Prop}
variable {cc : ByteArray} {pc : Nat} {ls : Array Slot} {rest : List Value} {g : GT} {ws : va_W} {A : Nat → Prop}
theorem jr_qald (hx : p.tables.exec = Jvm.exec) (hb : c.code = cc) (hK : va_K (gD g) cls (tys g) s) (hP : PP g ws H) (q0 : Nat) {a : Nat} {f : Nat → Option Nat} (ha : ws[q0]? = some (aQ2 g a f)) {z : Int} (k : Nat) (hz : z = (k : Int)) (hk : k < 16) {v : Nat} (hv : f k = some v) (hdg : decode cc pc = .ok (.aaload, 1))
    (kk : W p l e R s m args below meth c H locs cells slots Q (F0 m (pc + 1) ls (.ref v :: rest))) : W p l e R s m args below meth c H locs cells slots Q (F0 m pc ls (.int (jI z) :: .ref a :: rest)) := by
  subst hz
  have hin : vp_in (jI (k : Int)) 16 := jI_in (by omega) (by omega) (by omega)
  have hlt : (jI (k : Int)).toNatClampNeg < 16 := Nat.not_le.mp fun q => hin (Or.inr q)
  refine W.aald (v := va_rf (f (jI (k : Int)).toNatClampNeg)) (ty := .array .int) hx hb (hP q0 _ ha) ((hK.2 4 _ rfl).1 16 (fun j => va_rf (f j))) rfl (fun q => by cases q) (by show ¬ (jI (k : Int) < 0 ∨ (arrV _ _ _).slots.size ≤ _); rw [arrV_size]; exact hin) (by show (arrV _ _ _).slots[_]? = _; rw [arrV_read _ _ hlt]) rfl rfl hdg ?_
  rw [jI_cl (by omega) (by omega), Int.toNat_natCast, hv]
  exact kk
end RQ
