/-! the reference reads a token: digits -/
theorem vd_5 {T : List Nat} {p : Nat} (hT : ∀ i, i < T.length → T.getD i 0 < 256) : ∀ n, vdT T p n + 1000 ≤ 1000 * 10 ^ n
  | 0 => Nat.le_refl _
  | n + 1 => by
    have h1 := vd_5 hT (p := p) n
    have h2 : T.getD (p + n) 0 < 256 := by
      by_cases z : p + n < T.length
      · exact hT _ z
      · have e : T[p + n]? = none := List.getElem?_eq_none (by omega)
        rw [List.getD_eq_getElem?_getD, e]
        decide
    show vdT T p n * 10 + (T.getD (p + n) 0 - 48) + 1000 ≤ 1000 * 10 ^ (n + 1)
    rw [Nat.pow_succ]
    omega
section RTE
variable {G : GT} {d : Nat} {h : AH} {m : Nat} {T : List Nat} {P : OC → AH → Prop}

end RTE
