/-! what the calls do to what an object holds -/
abbrev nU (S : SGM) : Nat := S.2.2.2.2.2.1.length
abbrev nS (S : SGM) : Nat := S.2.2.2.2.2.2.length
def uS (S : SGM) (j : Nat) : UV := S.2.2.2.2.2.1.getD j ([], [], 0)
def sS (S : SGM) (j : Nat) : SV := S.2.2.2.2.2.2.getD j ([], [], 0, 0, 0)
abbrev ug (S : SGM) (u : Int) : UV := uS S u.toNat
abbrev sg (S : SGM) (i : Int) : SV := sS S i.toNat
theorem uS_uv {S : SGM} {us : List UR} (h : us.map uV = S.2.2.2.2.2.1) : uS S = uv us := by funext j; unfold uS uv; rw [h]
theorem sS_sv {S : SGM} {ss : List SR} (h : ss.map sV = S.2.2.2.2.2.2) : sS S = sv ss := by funext j; unfold sS sv; rw [h]
theorem nU_l {S : SGM} {us : List UR} (h : us.map uV = S.2.2.2.2.2.1) : nU S = us.length := by unfold nU; rw [← h, List.length_map]
theorem nS_l {S : SGM} {ss : List SR} (h : ss.map sV = S.2.2.2.2.2.2) : nS S = ss.length := by unfold nS; rw [← h, List.length_map]
/-- codes of exceptions: 0 for none -/
def cdTok (S : SGM) (ok : Prop) [Decidable ok] : Int := if ¬ ok then 1 else if 60 ≤ S.1.length then 2 else 0
def cd1 (ok : Prop) [Decidable ok] : Int := if ¬ ok then 1 else 0
def cdTerm (S : SGM) (a b : Int) : Int := if ¬ ((0 ≤ a ∧ a < 100) ∧ 0 ≤ b ∧ b < 100) then 1 else if thas S.2.2.2.2.1.2.1 S.2.2.2.2.1.2.2 S.2.2.2.2.1.1 a b = true then 2 else if 20 ≤ S.2.2.2.2.1.1 then 3 else 0
def cdAdd (S : SGM) : Int := if S.2.1.length = 0 then 1 else if S.1.length = 0 ∨ 40 ≤ nU S then 2 else 0
def cdU (S : SGM) (u : Int) : Int := if ¬ (0 ≤ u ∧ u < nU S) then 1 else 0
def cdUL (S : SGM) (u : Int) : Int := if ¬ (0 ≤ u ∧ u < nU S) then 1 else if (ug S u).2.2 = 0 then 2 else 0
def cdUD (S : SGM) (u : Int) : Int := if ¬ (0 ≤ u ∧ u < nU S) then 1 else if S.1.length = 0 then 2 else 0
def cdCor (S : SGM) (u : Int) : Int := if ¬ (0 ≤ u ∧ u < nU S) then 1 else if (ug S u).2.2 = 0 then 2 else if S.1.length = 0 then 3 else 0
/-- the best unit for a text; -1 -/
def bsU (S : SGM) (t : List Int) : Int := (fa S.2.2.2.1 S.2.2.2.2.1 t (uS S) (nU S)).1
def cdBest (S : SGM) : Int := if S.1.length = 0 then 1 else if bsU S S.1 = -1 then 2 else 0
def cdS (S : SGM) (i : Int) : Int := if ¬ (0 ≤ i ∧ i < nS S) then 1 else 0
def cdAns (S : SGM) (i : Int) : Int := if ¬ (0 ≤ i ∧ i < nS S) then 1 else if S.1.length = 0 ∨ 40 ≤ nU S then 2 else 0
def cdSF (S : SGM) (i : Int) : Int := if ¬ (0 ≤ i ∧ i < nS S) then 1 else if (sg S i).2.2.2.1 = -1 then 2 else 0
def cdSk (S : SGM) (i k : Int) : Int := if ¬ (0 ≤ i ∧ i < nS S) then 1 else if ¬ (0 ≤ k ∧ k < (sg S i).1.length) then 1 else 0
def cdST (S : SGM) (i : Int) : Int := if ¬ (0 ≤ i ∧ i < nS S) then 1 else if (sg S i).2.2.1 = 101 then 2 else 0
def cdTk (S : SGM) (i k : Int) : Int := if ¬ (0 ≤ i ∧ i < nS S) then 1 else if (sg S i).2.2.1 = 101 ∨ ¬ (0 ≤ k ∧ k < (sg S i).2.1.length) then 2 else 0
def cdMean (S : SGM) : Int := if S.1.length = 0 then 1 else if clv (uS S) (nU S) = 0 then 2 else 0
/-- with other units, segments -/
abbrev wU (S : SGM) (U : List UV) : SGM := (S.1, S.2.1, S.2.2.1, S.2.2.2.1, S.2.2.2.2.1, U, S.2.2.2.2.2.2)
abbrev wS (S : SGM) (L : List SV) : SGM := (S.1, S.2.1, S.2.2.1, S.2.2.2.1, S.2.2.2.2.1, S.2.2.2.2.2.1, L)
abbrev wD (S : SGM) (d : List Int) : SGM := (d, S.2)
def nxAb (S : SGM) (v : Int) : SGM := (S.1, S.2.1, ju S.2.2.1 v.toNat 1, S.2.2.2)
def nxW (S : SGM) (a b c d : Int) : SGM := (S.1, S.2.1, S.2.2.1, ju (ju (ju (ju S.2.2.2.1 0 a) 1 b) 2 c) 3 d, S.2.2.2.2)
def nxT (S : SGM) (a b : Int) : SGM := (S.1, S.2.1, S.2.2.1, S.2.2.2.1, (S.2.2.2.2.1.1 + 1, ju S.2.2.2.2.1.2.1 S.2.2.2.2.1.1 a, ju S.2.2.2.2.1.2.2 S.2.2.2.2.1.1 b), S.2.2.2.2.2)
def nxTake (S : SGM) : SGM := ([], S.1, S.2.2)
def nxAdd (S : SGM) : SGM := ([], [], S.2.2.1, S.2.2.2.1, S.2.2.2.2.1, S.2.2.2.2.2.1 ++ [(S.2.1, S.1, 1)], S.2.2.2.2.2.2)
def nxCor (S : SGM) (u : Int) : SGM := wU (wD S []) (S.2.2.2.2.2.1.set u.toNat ((ug S u).1, S.1, (ug S u).2.2))
def nxWd (S : SGM) (u : Int) : SGM := wU S (S.2.2.2.2.2.1.set u.toNat ((ug S u).1, (ug S u).2.1, 0))
/-- cutting: segments, where the next begins, whether a mark has ended it; after n tokens -/
def ctP (ab : Nat → Int) (t : List Int) : Nat → List (List Int) × Nat × Bool
  | 0 => ([], 0, false)
  | n + 1 => if n + 1 = t.length ∨ (((ctP ab t n).2.2 || isE ab t (n : Int)) = true ∧ kd (tAt t ((n : Int) + 1)) ≠ 2) then ((ctP ab t n).1 ++ [(t.drop (ctP ab t n).2.1).take (n + 1 - (ctP ab t n).2.1)], n + 1, false) else ((ctP ab t n).1, (ctP ab t n).2.1, (ctP ab t n).2.2 || isE ab t (n : Int))
def s0v (x : List Int) : SV := (x, [], 101, -1, 0)
def nxOpen (S : SGM) : SGM := wS (wD S []) ((ctP S.2.2.1 S.1 S.1.length).1.map s0v)
/-- one segment filled, or not; how many -/
def flS (th : Int) (S : SGM) (i : Nat) : SGM × Int :=
  if ¬ (sS S i).2.2.1 = 101 then (S, 0)
  else if ¬ ffA (sS S) (sS S i).1 i i = -1 then (wS S (S.2.2.2.2.2.2.set i ((sS S i).1, (sg S (ffA (sS S) (sS S i).1 i i)).2.1, 114, -1, 0)), 1)
  else if bsU S (sS S i).1 = -1 then (S, 0)
  else if rate S.2.2.2.1 S.2.2.2.2.1 (sS S i).1 (ug S (bsU S (sS S i).1)) < th then (S, 0)
  else (wS S (S.2.2.2.2.2.2.set i ((sS S i).1, fl1 (sS S i).1 (ug S (bsU S (sS S i).1)).1 (ug S (bsU S (sS S i).1)).2.1, (if rate S.2.2.2.1 S.2.2.2.2.1 (sS S i).1 (ug S (bsU S (sS S i).1)) = 100 then 120 else 102), bsU S (sS S i).1, rate S.2.2.2.1 S.2.2.2.2.1 (sS S i).1 (ug S (bsU S (sS S i).1)))), 1)
def flP (th : Int) (S : SGM) : Nat → SGM × Int
  | 0 => (S, 0)
  | n + 1 => ((flS th (flP th S n).1 n).1, (flP th S n).2 + (flS th (flP th S n).1 n).2)
/-- an answer handed on, up to a segment; how many -/
def spP (L : List SV) (i : Nat) (x d : List Int) : Nat → List SV × Int
  | 0 => (L, 0)
  | n + 1 => if n ≠ i ∧ ¬ ((spP L i x d n).1.getD n ([], [], 0, 0, 0)).2.2.1 = 97 ∧ ((spP L i x d n).1.getD n ([], [], 0, 0, 0)).1 = x then ((spP L i x d n).1.set n (x, d, 114, -1, 0), (spP L i x d n).2 + 1) else spP L i x d n
def anL (S : SGM) (i : Int) : List SV := S.2.2.2.2.2.2.set i.toNat ((sg S i).1, S.1, 97, -1, 0)
def nxAns (S : SGM) (i : Int) : SGM := wS (wU (wD S []) (S.2.2.2.2.2.1 ++ [((sg S i).1, S.1, 1)])) (spP (anL S i) i.toNat (sg S i).1 S.1 (nS S)).1
def vlAns (S : SGM) (i : Int) : Int := (spP (anL S i) i.toNat (sg S i).1 S.1 (nS S)).2
/-- open weight -/
def owA (w : Nat → Int) (v : Nat → SV) : Nat → Int
  | 0 => 0
  | n + 1 => owA w v n + if (v n).2.2.1 = 101 then wtA w (v n).1 0 else 0
/-- repeats -/
def rpA (v : Nat → SV) : Nat → Int
  | 0 => 0
  | n + 1 => rpA v n + if eqB v (v n).1 n = true then 1 else 0
