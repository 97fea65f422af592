/-! the law's loop -/
theorem Met.pre {l : Launch} {y : MethodName} {ws : List Cond} {rm : Room} {Pc Pc1 : Array Value → State → Prop} {Qc : Array Value → State → Outcome → State → Prop} {mc ms : Nat} {free : Addr → Prop} (h : Met l y ws rm Pc Qc mc ms free) (hp : ∀ a s, Pc1 a s → Pc a s) : Met l y ws rm Pc1 Qc mc ms free :=
  fun p e ha hc hk s m args below hf happ hP hK => h p e ha hc hk s m args below hf happ (hp _ _ hP) hK
theorem m_X11_thrownW (l : Launch) (g : GT) (o : Nat) (S : SGM) (z9 : Int) (W9 : va_W) (hMW : MW g o S z9 W9) : Met l yX11_thrown (ws_ yX11_thrown cX11_thrown 1 (some .int)) (rmm 0 0 0) (jPc g [.ref o] (fun H => PP g W9 H)) (jSi (fun z => z = z9)) 0 0 jN := by
  obtain ⟨ad, th, dn, nt, tn, nu, ns, tz, f1, f6, f7, f8, f9, f10, f11, f12, f13, f14, f15, f16, f17, f18, f19, f20, f21, f22, hW9, ho, ⟨hth, -⟩, -⟩ := hMW
  subst hW9
  subst ho
  subst hth
  refine (m_X11_thrown l g ad th dn nt tn nu ns tz).pre (fun a s h => ⟨h.1, h.2.1, va_P.sub h.2.2 [0] rfl⟩)
/-- the draft's tokens are of the kinds that there are -/
def SI (S : SGM) : Prop := ∀ c ∈ S.1, c < 100 ∨ 10000 ≤ c
theorem SI.nil (S : SGM) (h : S.1 = []) : SI S := fun c hc => by rw [h] at hc; exact absurd hc List.not_mem_nil
theorem SI.push {S X : SGM} {c : Int} (h : SI S) (hX : X.1 = S.1 ++ [c]) (hc : c < 100 ∨ 10000 ≤ c) : SI X := fun d hd => by
  rw [hX] at hd
  rcases List.mem_append.mp hd with q | q
  · exact h d q
  · rw [List.mem_singleton.mp q]; exact hc
theorem SI.same {S X : SGM} (h : SI S) (hX : X.1 = S.1) : SI X := fun d hd => h d (hX ▸ hd)
theorem pmA {a d : Nat × va_E} {x y : va_W} : (a :: d :: (x ++ y)).Perm ((a :: x) ++ (d :: y)) := by
  show (a :: d :: (x ++ y)).Perm (a :: (x ++ d :: y))
  exact List.Perm.cons a List.perm_middle.symm
theorem pmC {a d : Nat × va_E} {x y : va_W} : (a :: d :: (x ++ y)).Perm (x ++ (a :: d :: y)) := by
  have h1 : (x ++ (a :: d :: y)).Perm (a :: (x ++ (d :: y))) := List.perm_middle
  have h2 : (a :: (x ++ (d :: y))).Perm (a :: d :: (x ++ y)) := List.Perm.cons a List.perm_middle
  exact (h1.trans h2).symm
theorem pmB {a d : Nat × va_E} {x y : va_W} : (a :: d :: (x ++ y)).Perm (y ++ (a :: d :: x)) := by
  have h1 : (y ++ (a :: d :: x)).Perm ((a :: d :: x) ++ y) := List.perm_append_comm
  exact h1.symm
/-- behind a call of a helper (J the cell that it has written), of the class, of the reference -/
theorem lj_H {g : GT} {A : Nat → Prop} {J J1 K : Nat × va_E} {w1 w2 v1 : va_W} {H H1 : Heap} (hP : PP g (J :: K :: (w1 ++ w2)) H) (hD : va_D A (J :: K :: (w1 ++ w2))) (hk : ∀ q : Nat, q < H.size → ¬ va_A (J :: w1) H.size q → H1[q]? = H[q]?) (hF : ∀ q, va_A (J :: w1) H.size q → A q) (hP1 : PP g (J1 :: v1) H1) (hD1 : va_D (va_A (J :: w1) H.size) (J1 :: v1)) : PP g (J1 :: K :: (v1 ++ w2)) H1 ∧ va_D A (J1 :: K :: (v1 ++ w2)) := by
  obtain ⟨h1, h2⟩ := jjoin hP hD pmA hk hF hP1 hD1
  exact ⟨h1.perm pmA.symm, h2.perm pmA.symm⟩
theorem lj_C {g : GT} {A : Nat → Prop} {J K : Nat × va_E} {w1 w2 v1 : va_W} {H H1 : Heap} (hP : PP g (J :: K :: (w1 ++ w2)) H) (hD : va_D A (J :: K :: (w1 ++ w2))) (hk : ∀ q : Nat, q < H.size → ¬ va_A w1 H.size q → H1[q]? = H[q]?) (hF : ∀ q, va_A w1 H.size q → A q) (hP1 : PP g v1 H1) (hD1 : va_D (va_A w1 H.size) v1) : PP g (J :: K :: (v1 ++ w2)) H1 ∧ va_D A (J :: K :: (v1 ++ w2)) := by
  obtain ⟨h1, h2⟩ := jjoin hP hD pmC hk hF hP1 hD1
  exact ⟨h1.perm pmC.symm, h2.perm pmC.symm⟩
theorem lj_M {g : GT} {A : Nat → Prop} {J K : Nat × va_E} {w1 w2 v2 : va_W} {H H1 : Heap} (hP : PP g (J :: K :: (w1 ++ w2)) H) (hD : va_D A (J :: K :: (w1 ++ w2))) (hsz : ∀ q, H.size ≤ q → A q) (hk : ∀ q : Nat, q < H.size → ¬ jA w2 q → H1[q]? = H[q]?) (hP1 : PP g v2 H1) (hD1 : va_D (jA w2) v2) : PP g (J :: K :: (w1 ++ v2)) H1 ∧ va_D A (J :: K :: (w1 ++ v2)) := by
  have hF : ∀ q, va_A w2 H.size q → A q := va_A_sub (hD.perm pmB).left (Nat.le_refl _) hsz
  obtain ⟨h1, h2⟩ := jjoin hP hD pmB (fun q h1 h2 => hk q h1 (fun h => h2 (Or.inl h))) hF hP1 (hD1.weaken fun _ _ _ h => Or.inl h)
  exact ⟨h1.perm pmB.symm, h2.perm pmB.symm⟩
/-- the loop's head, from there on -/
def LK (g : GT) (cj cd : ClassId) (p : Program) (l : Launch) (e : Env) (s : State) (m : MethodId) (b : Nat) (below : List Frame) (meth : Method) (c : Code) (Q : State → Prop) (ox om a1 a2 i k : Nat) : Prop :=
  ∀ (S : SGM) (z : Int) (w1 w2 : va_W) (f1 : Nat → Int64) (f2 : Nat → UInt64) (H : Heap) (locs : List Loc), CW g ox S w1 → MW g om S z w2 → SI S → PP g (aJ cj a1 f1 :: aD1 cd a2 f2 :: (w1 ++ w2)) H → va_D (fun q => gb g ≤ q) (aJ cj a1 f1 :: aD1 cd a2 f2 :: (w1 ++ w2)) → va_S (fun q => gb g ≤ q) s.heap H locs →
    ∀ ls : Array Slot, lv_has ls 9 [(5, vi (i : Int)), (0, .ref b), (1, .ref ox), (2, .ref om), (3, .ref a1), (4, .ref a2)] → W p l e room_1 s m #[Value.ref b] below meth c H locs (50 + 361 * k) (13700 + 13026 * k) Q (F0 m 28 ls [])
