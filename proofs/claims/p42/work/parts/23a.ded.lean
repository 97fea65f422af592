/-! the cost is one, by rows or from the ends; no likeness above its bound; one best unit -/
theorem ed_00 (w : Nat → Int) : ed w [] [] = 0 := by rw [ed]
theorem ed_0c (w : Nat → Int) (d : Int) (y : List Int) : ed w [] (d :: y) = ed w [] y + wk w (kd d) := by rw [ed]
theorem ed_c0 (w : Nat → Int) (c : Int) (x : List Int) : ed w (c :: x) [] = ed w x [] + wk w (kd c) := by rw [ed]
theorem ed_cc (w : Nat → Int) (c d : Int) (x y : List Int) : ed w (c :: x) (d :: y) = min (min (ed w x (d :: y) + wk w (kd c)) (ed w (c :: x) y + wk w (kd d))) (ed w x y + rp w c d) := by rw [ed]
theorem ed_n (w : Nat → Int) (x : List Int) (c : Int) : ed w (x ++ [c]) [] = ed w x [] + wk w (kd c) := by
  induction x with
  | nil => rw [List.nil_append, ed_c0]
  | cons a x ih => rw [List.cons_append, ed_c0, ih, ed_c0]; omega
theorem ed_n2 (w : Nat → Int) (y : List Int) (d : Int) : ed w [] (y ++ [d]) = ed w [] y + wk w (kd d) := by
  induction y with
  | nil => rw [List.nil_append, ed_0c]
  | cons b y ih => rw [List.cons_append, ed_0c, ih, ed_0c]; omega
theorem m3_1 (a b c : Int) : min (min a b) c ≤ a := by omega
theorem m3_2 (a b c : Int) : min (min a b) c ≤ b := by omega
theorem m3_3 (a b c : Int) : min (min a b) c ≤ c := by omega
theorem le_m3 {x a b c : Int} (h1 : x ≤ a) (h2 : x ≤ b) (h3 : x ≤ c) : x ≤ min (min a b) c := by omega
theorem m3_add (a b c k : Int) : min (min a b) c + k = min (min (a + k) (b + k)) (c + k) := by omega
theorem m3_congr {a b c a' b' c' : Int} (h1 : a = a') (h2 : b = b') (h3 : c = c') : min (min a b) c = min (min a' b') c' := by rw [h1, h2, h3]
theorem m3_trle (a b c d e f g h i : Int) : min (min (min (min a b) c) (min (min d e) f)) (min (min g h) i) ≤ min (min (min (min a d) g) (min (min b e) h)) (min (min c f) i) :=
  le_m3 (le_m3 (Int.le_trans (m3_1 _ _ _) (m3_1 _ _ _)) (Int.le_trans (m3_2 _ _ _) (m3_1 _ _ _)) (Int.le_trans (m3_3 _ _ _) (m3_1 _ _ _))) (le_m3 (Int.le_trans (m3_1 _ _ _) (m3_2 _ _ _)) (Int.le_trans (m3_2 _ _ _) (m3_2 _ _ _)) (Int.le_trans (m3_3 _ _ _) (m3_2 _ _ _))) (le_m3 (Int.le_trans (m3_1 _ _ _) (m3_3 _ _ _)) (Int.le_trans (m3_2 _ _ _) (m3_3 _ _ _)) (Int.le_trans (m3_3 _ _ _) (m3_3 _ _ _)))
theorem m3_tr (a b c d e f g h i : Int) : min (min (min (min a b) c) (min (min d e) f)) (min (min g h) i) = min (min (min (min a d) g) (min (min b e) h)) (min (min c f) i) := Int.le_antisymm (m3_trle _ _ _ _ _ _ _ _ _) (m3_trle _ _ _ _ _ _ _ _ _)
theorem ed_sn (w : Nat → Int) (x y : List Int) (c d : Int) : ed w (x ++ [c]) (y ++ [d]) = min (min (ed w x (y ++ [d]) + wk w (kd c)) (ed w (x ++ [c]) y + wk w (kd d))) (ed w x y + rp w c d) := by
  induction x generalizing y with
  | nil =>
    induction y with
    | nil => rw [List.nil_append, List.nil_append, ed_cc]
    | cons b y ih =>
      have e1 := ed_n2 w y d
      rw [List.nil_append] at ih ⊢
      rw [List.cons_append, ed_cc w c b, ih]
      have e2 : ed w [] (b :: (y ++ [d])) = ed w [] (y ++ [d]) + wk w (kd b) := by rw [ed]
      have e3 : ed w [] (b :: y) = ed w [] y + wk w (kd b) := by rw [ed]
      have e4 : ed w [c] (b :: y) = min (min (ed w [] (b :: y) + wk w (kd c)) (ed w [c] y + wk w (kd b))) (ed w [] y + rp w c b) := ed_cc w c b [] y
      omega
  | cons a x ihx =>
    induction y with
    | nil =>
      have e1 := ed_n w x c
      have h := ihx []
      rw [List.nil_append] at h ⊢
      rw [List.cons_append, ed_cc w a d, h]
      have e2 : ed w (a :: (x ++ [c])) [] = ed w (x ++ [c]) [] + wk w (kd a) := by rw [ed]
      have e3 : ed w (a :: x) [] = ed w x [] + wk w (kd a) := by rw [ed]
      have e4 : ed w (a :: x) [d] = min (min (ed w x [d] + wk w (kd a)) (ed w (a :: x) [] + wk w (kd d))) (ed w x [] + rp w a d) := ed_cc w a d x []
      omega
    | cons b y ihy =>
      have h1 := ihx (b :: y)
      have h2 := ihx y
      rw [List.cons_append] at h1 ihy ⊢
      rw [List.cons_append, ed_cc w a b, h1, h2, ihy]
      rw [ed_cc w a b x (y ++ [d]), ed_cc w a b (x ++ [c]) y, ed_cc w a b x y]
      rw [m3_add, m3_add, m3_add, m3_add, m3_add, m3_add, m3_tr]
      refine m3_congr ?_ ?_ ?_ <;> refine m3_congr ?_ ?_ ?_ <;> exact Int.add_right_comm _ _ _
theorem tk_s1 {x : List Int} {i : Nat} (h : i < x.length) : x.take (i + 1) = x.take i ++ [x.getD i 0] := by
  rw [List.take_add_one, List.getElem?_eq_getElem h, List.getD_eq_getElem?_getD, List.getElem?_eq_getElem h]; rfl
theorem D_ed_ij (w : Nat → Int) (x y : List Int) (i j : Nat) (hi : i ≤ x.length) (hj : j ≤ y.length) : D w x y i j = ed w (x.take i) (y.take j) := by
  induction i generalizing j with
  | zero =>
    induction j with
    | zero => rw [D, List.take_zero, List.take_zero, ed]
    | succ j ih => rw [D, ih (by omega), tk_s1 (x := y) (by omega), List.take_zero, ed_n2]
  | succ i ih =>
    induction j with
    | zero => rw [D, ih 0 (by omega) (by omega), tk_s1 (x := x) (by omega), List.take_zero, ed_n]
    | succ j ih2 => rw [D, ih (j + 1) (by omega) hj, ih j (by omega) (by omega), ih2 (by omega), tk_s1 (x := x) (by omega), tk_s1 (x := y) (by omega), ed_sn]
theorem D_ed (w : Nat → Int) (x y : List Int) : D w x y x.length y.length = ed w x y := by
  rw [D_ed_ij w x y _ _ (Nat.le_refl _) (Nat.le_refl _), List.take_length, List.take_length]
theorem cntA_s (t : List Int) (k n : Int) : cntA t k n = n + cntA t k 0 := by
  induction t generalizing n with
  | nil => rw [cntA, cntA]; omega
  | cons c t ih => rw [cntA, cntA, ih, ih (if kd c = k then 0 + 1 else 0)]; split <;> omega
def ab (z : Int) : Int := if 0 ≤ z then z else 0 - z
theorem cal_m {a b e v : Int} (he : 0 ≤ e) (hv : 0 ≤ v) (h : a ≤ b + e) : a * v ≤ b * v + e * v := by
  rw [← Int.add_mul]; exact Int.mul_le_mul_of_nonneg_right h hv
theorem cal_c {w : Nat → Int} (h : WB w) (c : Int) (x y : List Int) (n : Nat) (hn : n ≤ 4) : calA w (c :: x) y n ≤ calA w x y n + (if 0 ≤ kd c ∧ kd c < n then wk w (kd c) else 0) ∧ calA w y (c :: x) n ≤ calA w y x n + (if 0 ≤ kd c ∧ kd c < n then wk w (kd c) else 0) := by
  induction n with
  | zero => rw [calA, calA, calA, calA, if_neg (by omega)]; omega
  | succ k ih =>
    have ih := ih (by omega)
    have h3 := wk_b h (k : Int)
    obtain ⟨E, hE, hE2⟩ : ∃ E : Int, E = (if kd c = (k : Int) then 1 else 0) ∧ (E = 0 ∨ E = 1) := ⟨_, rfl, by split <;> omega⟩
    have e1 : cntA (c :: x) k 0 = cntA x k 0 + E := by rw [cntA, cntA_s, hE]; split <;> omega
    have hT : (if 0 ≤ kd c ∧ kd c < ((k + 1 : Nat) : Int) then wk w (kd c) else 0) = (if 0 ≤ kd c ∧ kd c < (k : Int) then wk w (kd c) else 0) + E * wk w (k : Int) := by
      by_cases q : kd c = (k : Int)
      · rw [hE, if_pos q, if_pos (show 0 ≤ kd c ∧ kd c < ((k + 1 : Nat) : Int) from ⟨by omega, by omega⟩), if_neg (show ¬ (0 ≤ kd c ∧ kd c < (k : Int)) from by omega), q]; omega
      · rw [hE, if_neg q]
        by_cases q2 : 0 ≤ kd c ∧ kd c < (k : Int)
        · rw [if_pos q2, if_pos (show 0 ≤ kd c ∧ kd c < ((k + 1 : Nat) : Int) from ⟨q2.1, by omega⟩)]; omega
        · rw [if_neg q2, if_neg (show ¬ (0 ≤ kd c ∧ kd c < ((k + 1 : Nat) : Int)) from fun z => q2 ⟨z.1, by omega⟩)]; omega
    rw [calA, calA, calA, calA, e1, hT]
    generalize cntA x (k : Int) 0 = a
    generalize cntA y (k : Int) 0 = b
    have m1 := cal_m (a := if 0 ≤ a + E - b then a + E - b else 0 - (a + E - b)) (b := if 0 ≤ a - b then a - b else 0 - (a - b)) (e := E) (by omega) h3.1 (by split <;> split <;> omega)
    have m2 := cal_m (a := if 0 ≤ b - (a + E) then b - (a + E) else 0 - (b - (a + E))) (b := if 0 ≤ b - a then b - a else 0 - (b - a)) (e := E) (by omega) h3.1 (by split <;> split <;> omega)
    generalize (if 0 ≤ a + E - b then a + E - b else 0 - (a + E - b)) * wk w (k : Int) = p1 at m1 ⊢
    generalize (if 0 ≤ a - b then a - b else 0 - (a - b)) * wk w (k : Int) = p2 at m1 ⊢
    generalize (if 0 ≤ b - (a + E) then b - (a + E) else 0 - (b - (a + E))) * wk w (k : Int) = p3 at m2 ⊢
    generalize (if 0 ≤ b - a then b - a else 0 - (b - a)) * wk w (k : Int) = p4 at m2 ⊢
    generalize E * wk w (k : Int) = p5 at m1 m2 ⊢
    generalize (if 0 ≤ kd c ∧ kd c < (k : Int) then wk w (kd c) else 0) = p6 at ih ⊢
    omega
theorem cal_e {w : Nat → Int} (x y : List Int) (c d : Int) (n : Nat) (e : kd c = kd d) : calA w (c :: x) (d :: y) n = calA w x y n := by
  induction n with
  | zero => rw [calA, calA]
  | succ k ih =>
    have e1 : cntA (c :: x) k 0 - cntA (d :: y) k 0 = cntA x k 0 - cntA y k 0 := by
      rw [cntA, cntA, cntA_s x, cntA_s y, e]; omega
    rw [calA, calA, ih, e1]
theorem cal_ed {w : Nat → Int} (h : WB w) (x y : List Int) : calA w x y 4 ≤ ed w x y := by
  induction x generalizing y with
  | nil =>
    induction y with
    | nil => rw [ed_00]; exact Int.le_of_eq (by simp [calA, cntA])
    | cons d y ih =>
      have h1 := (cal_c h d y [] 4 (Nat.le_refl _)).2
      have h2 := wk_b h (kd d)
      have h3 := ed_0c w d y
      split at h1 <;> omega
  | cons c x ihx =>
    induction y with
    | nil =>
      have h1 := (cal_c h c x [] 4 (Nat.le_refl _)).1
      have h2 := wk_b h (kd c)
      have h3 := ihx []
      have h4 := ed_c0 w c x
      split at h1 <;> omega
    | cons d y ihy =>
      have h1 := (cal_c h c x (d :: y) 4 (Nat.le_refl _)).1
      have h2 := (cal_c h d y (c :: x) 4 (Nat.le_refl _)).2
      have h3 := (cal_c h d y x 4 (Nat.le_refl _)).2
      have h4 := wk_b h (kd c); have h5 := wk_b h (kd d); have h6 := ihx (d :: y); have h7 := ihx y
      have h8 : calA w (c :: x) (d :: y) 4 ≤ ed w x y + rp w c d := by
        by_cases e : kd c = kd d
        · rw [cal_e x y c d 4 e]
          have := rp_b h c d; omega
        · have : rp w c d = 1000000 := by
            unfold rp
            rw [if_neg (fun q => e (by rw [q])), if_pos e]
          split at h1 <;> split at h3 <;> omega
      have h9 := ed_cc w c d x y
      split at h1 <;> split at h2 <;> omega
theorem lkf_le (w : Nat → Int) (x y : List Int) {p q : Int} (h0 : 0 ≤ p) (h : p ≤ q) : lkf w x y q ≤ lkf w x y p := by
  have hb := lkf_b w x y h0
  unfold lkf at hb ⊢
  generalize max (wtA w x 0) (wtA w y 0) = W at hb ⊢
  by_cases e : W ≤ 0 ∨ W ≤ q
  · rw [if_pos e]; exact hb.1
  · rw [if_neg e, if_neg (by omega)]
    exact Int.ediv_le_ediv (by omega) (by omega)
theorem lk_lkB {w : Nat → Int} (h : WB w) {x y : List Int} (hx : x.length ≤ 60) (hy : y.length ≤ 60) : lk w x y ≤ lkB w x y := by
  have h1 := cal_ed h x y
  have h2 := calA_b h hx hy 4
  unfold lk lkB
  rw [D_ed]
  exact lkf_le w x y h2.1 h1
