/-! the reference's words -/
def kwT (T : List Nat) (p n : Nat) : Nat := match fnN (wdT T p (p + n)) 1 27 with
  | some k => k
  | none => if n ≤ 8 then 30 else 32
section RTW
variable {G : GT} {d : Nat} {h : AH} {m : Nat} {T : List Nat}

end RTW
