

/-- the fixed cells of an object of the class -/
def FXw (g : GT) (ad : Nat → Nat) (dr tk : List Int) (fd fk ab w g1 g2 g3 : Nat → Int) (n : Nat) (fs ft : Nat → Int) (p1 p2 : List Int) (k1 k2 : Nat → Int) : va_W := [ob (ad 0) 9 [.ref (ad 1), .ref (ad 3), .ref (ad 5), .ref (ad 6), .ref (ad 7), .ref (ad 8), .ref (ad 13), .ref (ad 16), .ref (ad 21)], ob (ad 1) 6 [.ref (ad 2), vi (dr.length : Int)], aI g (ad 2) 60 fd, ob (ad 3) 6 [.ref (ad 4), vi (tk.length : Int)], aI g (ad 4) 60 fk, aZ g (ad 5) 100 ab, ob (ad 6) 2 [.ref (ad 7), .ref (ad 13), .ref (ad 22)], ob (ad 7) 1 [.ref (ad 8), .ref (ad 10), .ref (ad 11), .ref (ad 12)], ob (ad 8) 8 [.ref (ad 9)], aI g (ad 9) 4 w, aI g (ad 10) 61 g1, aI g (ad 11) 61 g2, aI g (ad 12) 60 g3, ob (ad 13) 5 [.ref (ad 14), .ref (ad 15), vi (n : Int)], aI g (ad 14) 20 fs, aI g (ad 15) 20 ft, ob (ad 16) 3 [.ref (ad 17), .ref (ad 19)], ob (ad 17) 6 [.ref (ad 18), vi (p1.length : Int)], aI g (ad 18) 60 k1, ob (ad 19) 6 [.ref (ad 20), vi (p2.length : Int)], aI g (ad 20) 60 k2, ob (ad 21) 0 [.ref (ad 23)]]
/-- what an object holds: draft, taken source, abbreviations, weights, terms, units, segments -/
abbrev SGM := List Int × List Int × (Nat → Int) × (Nat → Int) × TM × List UV × List SV
def CW (g : GT) (o : Nat) (S : SGM) (W : va_W) : Prop := ∃ (ad : Nat → Nat) (fd fk g1 g2 g3 : Nat → Int) (p1 p2 : List Int) (k1 k2 : Nat → Int) (us : List UR) (ss : List SR) (lw1 lw2 : va_W),
  W = FXw g ad S.1 S.2.1 fd fk S.2.2.1 S.2.2.2.1 g1 g2 g3 S.2.2.2.2.1.1 S.2.2.2.2.1.2.1 S.2.2.2.2.1.2.2 p1 p2 k1 k2 ++ (MR g us lw1 ++ DR g ss lw2) ∧ ad 0 = o ∧ (TT S.1 fd ∧ TT S.2.1 fk ∧ TT p1 k1 ∧ TT p2 k2) ∧ (∀ j, j < 100 → S.2.2.1 j = 0 ∨ S.2.2.1 j = 1) ∧ WB S.2.2.2.1 ∧ TB S.2.2.2.2.1.1 S.2.2.2.2.1.2.1 S.2.2.2.2.1.2.2 ∧
  (us.map uV = S.2.2.2.2.2.1 ∧ ss.map sV = S.2.2.2.2.2.2) ∧ ((∀ u ∈ us, UOK u) ∧ ∀ u ∈ ss, SOK u) ∧ (LW g (ad 22) (us.map uA) lw1 ∧ LW g (ad 23) (ss.map sA) lw2) ∧ us.length ≤ 40 ∧ ss.length ≤ 60
/-- fresh: nothing in it -/
def SG0 : SGM := ([], [], fun _ => 0, w0, (0, fun _ => 0, fun _ => 0), [], [])
