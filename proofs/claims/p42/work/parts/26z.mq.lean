/-! .. in all -/
theorem mq_all {b S : Nat} (h1 : 1 ≤ b) (h2 : b ≤ 8) (hS : S ≤ b * 1200) : vf_n64 (FP.ddiv (FP.i2d (nI S)) (FP.i2d (nI b))) := by
  have key : mq S b = true := by
    have c : b = 1 ∨ b = 2 ∨ b = 3 ∨ b = 4 ∨ b = 5 ∨ b = 6 ∨ b = 7 ∨ b = 8 := by omega
    rcases c with c | c | c | c | c | c | c | c
    · subst c
      exact mqA_get mqA_1 (by omega)
    · subst c
      exact mqA_get mqA_2 (by omega)
    · subst c
      exact mqA_get mqA_3 (by omega)
    · subst c
      exact mqA_get mqA_4 (by omega)
    · subst c
      exact mqA_get mqA_5 (by omega)
    · subst c
      exact mqA_get mqA_6 (by omega)
    · subst c
      exact mqA_get mqA_7 (by omega)
    · subst c
      exact mqA_get mqA_8 (by omega)
  have k2 : decide (FP.ddiv (FP.i2d (nI S)) (FP.i2d (nI b)) &&& 0x7fffffffffffffff ≤ 0x7ff0000000000000) = true := key
  have k3 := of_decide_eq_true k2
  exact k3
