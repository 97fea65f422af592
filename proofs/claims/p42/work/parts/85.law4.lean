/-! texts of the law: rows of 61 ints, the length first -/
theorem Met.post {l : Launch} {y : MethodName} {ws : List Cond} {rm : Room} {Pc : Array Value → State → Prop} {Qc Qc1 : Array Value → State → Outcome → State → Prop} {mc ms : Nat} {free : Addr → Prop} (h : Met l y ws rm Pc Qc mc ms free) (hq : ∀ a st o t, Qc a st o t → Qc1 a st o t) : Met l y ws rm Pc Qc1 mc ms free := by
  intro p e ha hc hk s m args below hf happ hP hK
  obtain ⟨n, o, h1, h2, h3, h4, h5⟩ := h p e ha hc hk s m args below hf happ hP hK
  exact ⟨n, o, h1, h2, h3, hq _ _ _ _ h4, h5⟩
def VT (c : Int) : Prop := (0 ≤ c ∧ c < 100) ∨ (10000 ≤ c ∧ c < 20000) ∨ (20000 ≤ c ∧ c < 20010) ∨ c = 30046 ∨ c = 30033 ∨ c = 30063 ∨ c = 30044 ∨ c = 30059
theorem VT.b {c : Int} (h : VT c) : 0 ≤ c ∧ c < 40000 := by unfold VT at h; omega
def VTS (x : List Int) : Prop := ∀ k, k < x.length → VT (x.getD k 0)
def AT (x : List Int) (f : Nat → Int) : Prop := f 0 = (x.length : Int) ∧ (∀ k, k < x.length → f (k + 1) = x.getD k 0) ∧ VTS x ∧ x.length ≤ 60
/-- the first i of n places are there -/
def ATp (i : Nat) (n : Int) (x : List Int) (f : Nat → Int) : Prop := f 0 = n ∧ x.length = i ∧ (∀ k, k < i → f (k + 1) = x.getD k 0) ∧ VTS x
theorem getD_app_l {x y : List Int} {k : Nat} (h : k < x.length) : (x ++ y).getD k 0 = x.getD k 0 := by
  rw [List.getD_eq_getElem?_getD, List.getElem?_append_left h, ← List.getD_eq_getElem?_getD]
theorem getD_app_e {x : List Int} {c : Int} : (x ++ [c]).getD x.length 0 = c := by
  rw [List.getD_eq_getElem?_getD, List.getElem?_append_right (Nat.le_refl _)]; simp
theorem VTS.nil : VTS [] := fun k h => by simp at h
theorem VTS.push {x : List Int} {c : Int} (h : VTS x) (hc : VT c) : VTS (x ++ [c]) := by
  intro k hk
  rw [List.length_append, List.length_singleton] at hk
  by_cases e : k = x.length
  · subst e; rw [getD_app_e]; exact hc
  · rw [getD_app_l (by omega)]; exact h k (by omega)
theorem VTS.mem {x : List Int} (h : VTS x) {c : Int} (hc : c ∈ x) : VT c := by
  obtain ⟨k, hk, e⟩ := List.getElem_of_mem hc
  have := h k hk
  rw [List.getD_eq_getElem?_getD, List.getElem?_eq_getElem hk] at this
  rw [← e]; exact this
theorem VTS.of {x : List Int} (h : ∀ c ∈ x, VT c) : VTS x := by
  intro k hk
  rw [List.getD_eq_getElem?_getD, List.getElem?_eq_getElem hk]
  exact h _ (List.getElem_mem hk)
theorem ATp.z {n : Int} {f : Nat → Int} (h : f 0 = n) : ATp 0 n [] f := ⟨h, rfl, fun k q => absurd q (Nat.not_lt_zero _), VTS.nil⟩
theorem ATp.push {i : Nat} {n : Int} {x : List Int} {f : Nat → Int} (h : ATp i n x f) {c : Int} (hc : VT c) : ATp (i + 1) n (x ++ [c]) (ju f (i + 1) c) := by
  obtain ⟨h1, h2, h3, h4⟩ := h
  refine ⟨by rw [ju_n _ _ (by omega)]; exact h1, by rw [List.length_append, List.length_singleton, h2], fun k hk => ?_, h4.push hc⟩
  by_cases e : k = i
  · subst e; rw [ju_s, ← h2, getD_app_e]
  · rw [ju_n _ _ (by omega), getD_app_l (by omega)]; exact h3 k (by omega)
theorem ATp.at {i : Nat} {x : List Int} {f : Nat → Int} (h : ATp i (i : Int) x f) (h6 : i ≤ 60) : AT x f := by
  obtain ⟨h1, h2, h3, h4⟩ := h
  subst h2
  exact ⟨h1, h3, h4, h6⟩
theorem AT.n {x : List Int} {f : Nat → Int} (h : AT x f) : f 0 = (x.length : Int) := h.1
theorem AT.len {x : List Int} {f : Nat → Int} (h : AT x f) : x.length ≤ 60 := h.2.2.2
theorem AT.s {x : List Int} {f : Nat → Int} (h : AT x f) {k : Nat} (hk : k < x.length) : f (k + 1) = x.getD k 0 := h.2.1 k hk
theorem AT.v {x : List Int} {f : Nat → Int} (h : AT x f) {k : Nat} (hk : k < x.length) : VT (x.getD k 0) := h.2.2.1 k hk
theorem AT.nil : AT [] (fun _ => 0) := ⟨rfl, fun k h => by simp at h, VTS.nil, by decide⟩
theorem AT.push {x : List Int} {f : Nat → Int} (h : AT x f) (hl : x.length < 60) {c : Int} (hc : VT c) : AT (x ++ [c]) (ju (ju f 0 ((x.length : Int) + 1)) (x.length + 1) c) := by
  obtain ⟨h1, h2, h3, h4⟩ := h
  refine ⟨by rw [ju_n _ _ (by omega), ju_s, List.length_append, List.length_singleton]; omega, fun k hk => ?_, h3.push hc, by rw [List.length_append, List.length_singleton]; omega⟩
  rw [List.length_append, List.length_singleton] at hk
  by_cases e : k = x.length
  · subst e; rw [ju_s, getD_app_e]
  · rw [ju_n _ _ (by omega), ju_n _ _ (by omega), getD_app_l (by omega)]; exact h2 k (by omega)
theorem ext_getD {x y : List Int} (hl : x.length = y.length) (h : ∀ j, j < x.length → x.getD j 0 = y.getD j 0) : x = y := by
  apply List.ext_getElem hl
  intro j h1 h2
  have := h j h1
  rwa [List.getD_eq_getElem?_getD, List.getD_eq_getElem?_getD, List.getElem?_eq_getElem h1, List.getElem?_eq_getElem h2] at this
theorem mk_b {z : Int} (h : z = 46 ∨ z = 33 ∨ z = 63 ∨ z = 44 ∨ z = 59) : 0 ≤ z ∧ z < 65536 := by omega
/-- a token typed -/
theorem m_L_deed_tok (l : Launch) (hsT : l.stackTraces = false) (g : GT) (o : Nat) (S : SGM) (W9 : va_W) (hCW : CW g o S W9) (sz : Nat) (c : Int) (hc : VT c) (hl : S.1.length < 60) : Met l yL_deed (.codeWith yL_deed cL_deed 7 (some .int) [(0, 11, 12, 73), (0, 11, 18, 75), (0, 11, 24, 77), (0, 11, 30, 79), (0, 11, 36, 81)] :: WSL) (rmm 6 3 18) (jPc g [.ref o, vi (c / 10000), vi (c % 10000), vi 0, vi 0, vi 0] (fun H => H.size = sz ∧ PP g W9 H ∧ va_D (fun q => gb g ≤ q) W9)) (jQi (fun z H1 => z = (S.1.length : Int) + 1 ∧ ∃ w1 : va_W, CW g o (wD S (S.1 ++ [c])) w1 ∧ PP g w1 H1 ∧ va_D (va_A W9 sz) w1) (va_A W9 sz)) 3 18 (va_A W9 sz) := by
  have hk : ∀ {ok : Prop} [Decidable ok], ok → cdTok S ok = 0 := fun {ok} _ h => by
    unfold cdTok
    rw [if_neg (fun q => q h), if_neg (by omega)]
  have key : ∀ {cd : Int} (_ : cd = 0) {e1 e2 e3 : Int} {d : Int} (_ : d = c), ∀ a st o1 t, jQi (fun z H1 => z = rs cd ((S.1.length : Int) + 1) e1 e2 e3 ∧ ∃ w1 : va_W, CW g o (rS cd (S.1 ++ [d], S.2) S) w1 ∧ PP g w1 H1 ∧ va_D (va_A W9 sz) w1) (va_A W9 sz) a st o1 t → jQi (fun z H1 => z = (S.1.length : Int) + 1 ∧ ∃ w1 : va_W, CW g o (wD S (S.1 ++ [c])) w1 ∧ PP g w1 H1 ∧ va_D (va_A W9 sz) w1) (va_A W9 sz) a st o1 t := by
    intro cd h0 e1 e2 e3 d hd a st o1 t h
    obtain ⟨⟨z, h1, h2, h3⟩, h4⟩ := h
    rw [rs_0 h0] at h2
    rw [rS_0 h0, hd] at h3
    exact ⟨⟨z, h1, h2, h3⟩, h4⟩
  have h := hc
  unfold VT at h
  have hk0 : c / 10000 = 0 ∨ c / 10000 = 1 ∨ c / 10000 = 2 ∨ c / 10000 = 3 := by omega
  rcases hk0 with q | q | q | q <;> rw [q]
  · exact (m_L_deed_word l hsT g o S W9 hCW sz (c % 10000) (by omega) 0 0 0).post (key (hk (by omega)) (by omega))
  · exact (m_L_deed_number l hsT g o S W9 hCW sz (c % 10000) (by omega) 0 0 0).post (key (hk (by omega)) (by omega))
  · exact (m_L_deed_tag l hsT g o S W9 hCW sz (c % 10000) (by omega) 0 0 0).post (key (hk (by omega)) (by omega))
  · exact (m_L_deed_mark l hsT g o S W9 hCW sz (c % 10000) (by omega) 0 0 0).post (key (hk (by omega)) (by omega))
