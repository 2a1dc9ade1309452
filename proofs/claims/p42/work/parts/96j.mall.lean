/-! the reference reads all tokens -/
theorem so_100 : ∀ x, x < 43 → soK x < 2147483648 := by decide
theorem so_32 : ∀ x, x < 43 → soK x = 32 → x = 42 := by decide
section RTJ
variable {G : GT} {d : Nat} {h0 : AH} {m : Nat} {T : List Nat}

end RTJ
