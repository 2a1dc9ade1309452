/-! a mean margin is a number: looked through one by one -/
def mq (a b : Nat) : Bool := decide (FP.ddiv (FP.i2d (nI a)) (FP.i2d (nI b)) &&& 0x7fffffffffffffff ≤ 0x7ff0000000000000)
def mqA (b : Nat) : Nat → Bool
  | 0 => mq 0 b
  | a + 1 => mq (a + 1) b && mqA b a
theorem mqA_get {b : Nat} : ∀ {n a : Nat}, mqA b n = true → a ≤ n → mq a b = true
  | 0, a, h, q => by
    have e : a = 0 := by omega
    rw [e]
    exact h
  | n + 1, a, h, q => by
    have h2 : (mq (n + 1) b && mqA b n) = true := h
    rw [Bool.and_eq_true] at h2
    by_cases e : a = n + 1
    · rw [e]
      exact h2.1
    · exact mqA_get h2.2 (by omega)

set_option maxRecDepth 100000 in
theorem mqA_1 : mqA 1 1200 = true := by decide +kernel
set_option maxRecDepth 100000 in
theorem mqA_2 : mqA 2 2400 = true := by decide +kernel
set_option maxRecDepth 100000 in
theorem mqA_3 : mqA 3 3600 = true := by decide +kernel
set_option maxRecDepth 100000 in
theorem mqA_4 : mqA 4 4800 = true := by decide +kernel
set_option maxRecDepth 100000 in
theorem mqA_5 : mqA 5 6000 = true := by decide +kernel
set_option maxRecDepth 100000 in
theorem mqA_6 : mqA 6 7200 = true := by decide +kernel
set_option maxRecDepth 100000 in
theorem mqA_7 : mqA 7 8400 = true := by decide +kernel
set_option maxRecDepth 100000 in
theorem mqA_8 : mqA 8 9600 = true := by decide +kernel
