/-! the reference gives what is left by quota -/
section RQU
variable {G : GT} {d : Nat} {s0 : ST} {h0 : AH}
/-- how many seats stay empty -/
def quR : Nat → (Nat → Nat) → Nat
  | 0, _ => 0
  | n + 1, l => match fiN l 6 with
    | none => n + 1
    | some k => quR n (fun i => if i = k then 0 else l i)
theorem quR_none {l : Nat → Nat} (e : fiN l 6 = none) (n : Nat) : quR (n + 1) l = n + 1 := by
  show (match fiN l 6 with | none => n + 1 | some k => quR n (fun i => if i = k then 0 else l i)) = n + 1
  rw [e]
theorem quR_some {l : Nat → Nat} {k : Nat} (e : fiN l 6 = some k) (n : Nat) : quR (n + 1) l = quR n (fun i => if i = k then 0 else l i) := by
  show (match fiN l 6 with | none => n + 1 | some k => quR n (fun i => if i = k then 0 else l i)) = _
  rw [e]

end RQU
