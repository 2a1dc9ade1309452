/-! the reference's signs -/
/-- the kind of one byte alone -/
def w1B (c k : Nat) : Nat := if tln (TXl k) = 1 ∧ tby (TXl k) 0 = c then 1 else 0
def k1B (c : Nat) : Nat := (fnN (w1B c) 1 43).getD 42
theorem wd_1 {T : List Nat} {p k : Nat} (hp : p < T.length) : wdT T p (p + 1) k = w1B (T.getD p 0) k := by
  unfold wdT w1B
  by_cases z : tln (TXl k) = 1 ∧ tby (TXl k) 0 = T.getD p 0
  · rw [if_pos z]
    refine if_pos (decide_eq_true ⟨by omega, fun j hj => ?_⟩)
    have j0 : j = 0 := by omega
    rw [j0]
    exact ⟨hp, z.2.symm⟩
  · rw [if_neg z]
    refine if_neg (fun w => z ?_)
    obtain ⟨w1, w2⟩ := of_decide_eq_true w
    have w3 : tln (TXl k) = 1 := by omega
    exact ⟨w3, (w2 0 (by omega)).2.symm⟩
theorem ki_1 {T : List Nat} {p : Nat} (hp : p < T.length) (h1 : ¬ ltT T p = true) (h2 : ¬ dgT T p = true) : kiT T p (p + 1) = k1B (T.getD p 0) := by
  unfold kiT k1B
  rw [if_neg (by omega), show wdT T p (p + 1) = w1B (T.getD p 0) from funext (fun k => wd_1 hp)]
  cases fnN (w1B (T.getD p 0)) 1 43 with
  | some k => rfl
  | none =>
    show (if ltT T p = true ∧ p + 1 - p ≤ 8 then 39 else if dgT T p = true ∧ p + 1 - p ≤ 4 then 40 else 42) = 42
    rw [if_neg (fun z => h1 z.1), if_neg (fun z => h2 z.1)]
section RTS
variable {G : GT} {d : Nat} {h : AH} {m : Nat} {T : List Nat}
end RTS

