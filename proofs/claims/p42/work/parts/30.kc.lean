/-! a case's contract out of the class's and the reference's -/
section KC
variable {G : GT} {d2 dc n : Nat}
/-- a call: what the two owe of it; X: what is said of the answer -/
def OpC (G : GT) (Cm Mm : MI) (dc dm : Nat) (Lc Lm : List (Option Value)) (E1 E2 : String) (X : Int32 → Prop) (h : AH) (s : ST) : Prop := ∃ (t : Nat) (V : Int32) (s' : ST) (bk dr : Nat), BDok s'.2.2.1 s'.2.2.2 ∧ X V ∧ RQ G Cm dc 0 Lc [] h (CK h bk dr s' E1 E2 t V) ∧ ∀ h1, MoR h1 216 s → ToR h1 216 s.2.2.1 → RQ G Mm dm 0 Lm [] h1 (MK h1 s' t V)
theorem Jd.poll {h : AH} {s : ST} {bk dr : Nat} (j : Jd h s bk dr) : At h 0 (.inr (8, [.ref (0 + 1), .ref (0 + 3), .ref (0 + 66), .ref (0 + 111), .ref (0 + 156), .ref bk, .int s.2.1])) := j.2.1.1

end KC
