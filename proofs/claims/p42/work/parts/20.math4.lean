/-! pairs of neighbours -/
/-- a text for pairs: no tags, one number for all -/
def pl : List Int → List Int
  | [] => []
  | c :: t => if kd c = 2 then pl t else if kd c = 1 then 10000 :: pl t else c :: pl t
theorem pl_l (t : List Int) : (pl t).length ≤ t.length := by
  induction t with
  | nil => exact Nat.le_refl _
  | cons c t ih =>
    rw [pl]
    split
    · rw [List.length_cons]; omega
    · split <;> (rw [List.length_cons, List.length_cons]; omega)
theorem pl_2 {v t r : List Int} {c : Int} (h : v ++ pl (c :: t) = r) (e : kd c = 2) : v ++ pl t = r := by rw [pl, if_pos e] at h; exact h
theorem pl_1 {v t r : List Int} {c : Int} (h : v ++ pl (c :: t) = r) (e : kd c = 1) : (v ++ [10000]) ++ pl t = r := by
  rw [pl, if_neg (by omega), if_pos e] at h
  rw [← h, List.append_assoc]; rfl
theorem pl_0 {v t r : List Int} {c : Int} (h : v ++ pl (c :: t) = r) (e : ¬ kd c = 2) (e1 : ¬ kd c = 1) : (v ++ [c]) ++ pl t = r := by
  rw [pl, if_neg e, if_neg e1] at h
  rw [← h, List.append_assoc]; rfl
def hpr (t : List Int) (e x y : Int) : Bool := (List.range e.toNat).any (fun j => decide (tAt t (j : Int) = x ∧ tAt t ((j : Int) + 1) = y))
theorem hpr_iff {t : List Int} {e x y : Int} : hpr t e x y = true ↔ ∃ j : Nat, (j : Int) < e ∧ tAt t (j : Int) = x ∧ tAt t ((j : Int) + 1) = y := by
  unfold hpr
  rw [List.any_eq_true]
  constructor
  · rintro ⟨j, h1, h2⟩
    exact ⟨j, by have := List.mem_range.mp h1; omega, of_decide_eq_true h2⟩
  · rintro ⟨j, h1, h2⟩
    exact ⟨j, List.mem_range.mpr (by omega), decide_eq_true h2⟩
/-- pairs of p, each once, that q has too: of the first k places -/
def shA (p q : List Int) : Nat → Int
  | 0 => 0
  | k + 1 => shA p q k + if ¬ hpr p (k : Int) (tAt p (k : Int)) (tAt p ((k : Int) + 1)) = true ∧ hpr q ((q.length : Int) - 1) (tAt p (k : Int)) (tAt p ((k : Int) + 1)) = true then 1 else 0
theorem shA_b (p q : List Int) (k : Nat) : 0 ≤ shA p q k ∧ shA p q k ≤ k := by
  induction k with
  | zero => simp [shA]
  | succ k ih => simp only [shA]; split <;> omega
/-! numbers of a filled text -/
def ad1 (t s : List Int) (c : Int) : Int := if kd c = 1 ∧ ponA s c 0 ≠ -1 ∧ napA t (ponA s c 0) ≠ -1 then napA t (ponA s c 0) else c
theorem ad_step {t s u v : List Int} {i : Nat} (hi : i < u.length) (hv : v = (u.take i).map (ad1 t s) ++ u.drop i) : v.length = u.length ∧ v.getD i 0 = u.getD i 0 ∧ v.set i (ad1 t s (u.getD i 0)) = (u.take (i + 1)).map (ad1 t s) ++ u.drop (i + 1) := by
  have hl : ((u.take i).map (ad1 t s)).length = i := by rw [List.length_map, List.length_take]; omega
  have hd : u.drop i = u.getD i 0 :: u.drop (i + 1) := dr_c hi
  subst hv
  refine ⟨?_, ?_, ?_⟩
  · rw [List.length_append, hl, List.length_drop]; omega
  · rw [List.getD_eq_getElem?_getD, List.getElem?_append_right (by omega), hl, Nat.sub_self, hd]; rfl
  · rw [List.set_append_right _ _ (by omega), hl, Nat.sub_self, hd, List.set_cons_zero]
    have e : u.take (i + 1) = u.take i ++ [u.getD i 0] := by
      rw [List.take_add_one, List.getElem?_eq_getElem hi, List.getD_eq_getElem?_getD, List.getElem?_eq_getElem hi]; rfl
    rw [e, List.map_append, List.append_assoc]; rfl
theorem ad_keep {t s u v : List Int} {i : Nat} (hi : i < u.length) (hv : v = (u.take i).map (ad1 t s) ++ u.drop i) (h : ad1 t s (u.getD i 0) = u.getD i 0) : v = (u.take (i + 1)).map (ad1 t s) ++ u.drop (i + 1) := by
  obtain ⟨h1, h2, h3⟩ := ad_step hi hv
  rw [← h3, h, ← h2, List.getD_eq_getElem?_getD, List.getElem?_eq_getElem (by omega), Option.getD_some, List.set_getElem_self]
/-- a unit's target for a segment -/
def fl1 (t s u : List Int) : List Int := if cntA t 1 0 = cntA s 1 0 then u.map (ad1 t s) else u
def ltr (c : Int) : Int := if kd c = 0 then 119 else if kd c = 1 then 110 else if kd c = 2 then 116 else 109
section JT
variable {p : Program} {l : Launch} {e : Env} {R : Room} {s : State} {m : MethodId} {args : Array Value} {below : List Frame} {meth : Method} {c : Code} {H : Heap} {locs : List Loc} {cells slots : Nat} {Q : State → Prop}
variable {cc : ByteArray} {pc : Nat} {ls : Array Slot} {rest : List Value}
theorem jr_tin (hx : p.tables.exec = Jvm.exec) (hb : c.code = cc) {z : Int} (k : Int) (hz : z = k) (hk : jR k) {dflt lo hi : Int} {offs : Array Int} {len : Nat} {off : Int} {tgt : Nat} (hdg : decode cc pc = .ok (.tableswitch dflt lo hi offs, len)) (h1 : ¬ k < lo) (h2 : ¬ hi < k) (ho : offs[(k - lo).toNat]? = some off) (ht : (pc : Int) + off = (tgt : Int))
    (kk : W p l e R s m args below meth c H locs cells slots Q (F0 m tgt ls rest)) : W p l e R s m args below meth c H locs cells slots Q (F0 m pc ls (.int (jI z) :: rest)) := by
  subst hz
  have e := jI_toInt hk
  exact lv_tableIn hx hb hdg (by rw [e]; exact h1) (by rw [e]; exact h2) (by rw [e]; exact ho) ht kk
theorem jr_tout (hx : p.tables.exec = Jvm.exec) (hb : c.code = cc) {z : Int} (hk : jR z) {dflt lo hi : Int} {offs : Array Int} {len : Nat} {tgt : Nat} (hdg : decode cc pc = .ok (.tableswitch dflt lo hi offs, len)) (h : z < lo ∨ hi < z) (ht : (pc : Int) + dflt = (tgt : Int))
    (kk : W p l e R s m args below meth c H locs cells slots Q (F0 m tgt ls rest)) : W p l e R s m args below meth c H locs cells slots Q (F0 m pc ls (.int (jI z) :: rest)) := by
  have e := jI_toInt hk
  exact lv_tableOut hx hb hdg (by rw [e]; exact h) ht kk
end JT
