/-! the digest: numbers taken in -/
/-- one number more -/
def dgS (d : Int64) (x : Int32) : Int64 := d * lN 31 + x.toInt64
/-- n numbers of a row -/
def dgR (f : Nat → Int32) (d : Int64) : Nat → Int64
  | 0 => d
  | n + 1 => dgS (dgR f d n) (f n)
section DG
variable {G : GT} {d : Nat} {h : AH} {P : OC → AH → Prop}

end DG
