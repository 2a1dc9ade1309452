/-! the reference's count -/
section RQY
variable {G : GT} {d : Nat} {s : ST} {h : AH}
/-- seats of a jar that stay empty, as the reference tells them -/
def emp (p : Nat → Nat) (t se wy : Nat) : Nat := match fiN p 6 with
  | none => se
  | some _ => if wy = 2 then quR (se - su (fun k => p k / (t / (se + 1) + 1)) 6) (fun k => p k - p k / (t / (se + 1) + 1) * (t / (se + 1) + 1)) else 0
theorem emp_none {p : Nat → Nat} {t se wy : Nat} (e : fiN p 6 = none) : emp p t se wy = se := by
  unfold emp
  rw [e]
theorem emp_some {p : Nat → Nat} {t se wy f : Nat} (e : fiN p 6 = some f) : emp p t se wy = if wy = 2 then quR (se - su (fun k => p k / (t / (se + 1) + 1)) 6) (fun k => p k - p k / (t / (se + 1) + 1) * (t / (se + 1) + 1)) else 0 := by
  unfold emp
  rw [e]

end RQY
