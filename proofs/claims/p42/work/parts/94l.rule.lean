/-! the reference's rule as a whole, and rules -/
section RML
variable {G : GT} {d : Nat} {h0 h : AH} {m : Nat} {K : TKS} {T : List Nat} {L : Nat → Nat} {s b : PST} {dp : Nat} {g : GCT} {no : Nat} {P : OC → AH → Prop}

theorem tkP_po1 {w : Nat} (h : pEr (tkP K w s) ≠ 1) : pPo s + 1 ≤ pPo (tkP K w s) := by
  unfold tkP at h ⊢
  by_cases e1 : pEr s = 1
  · rw [if_pos e1] at h
    exact absurd e1 h
  · rw [if_neg e1] at h ⊢
    by_cases e2 : kdP K s = w
    · rw [if_pos e2]
      exact Nat.le_refl _
    · rw [if_neg e2] at h
      exact absurd rfl h
theorem rtP_te {s : PST} (h : pEr (rtP K s) = 0) : pEr (teP K 6 s).1 = 0 := by
  unfold rtP at h
  exact (tkP_er (upP_er0 h)).1
theorem er1_as : ∀ (n : Nat) (s : PST), pEr s = 1 → asP K n s = s
  | 0, _, _ => rfl
  | n + 1, s, h => if_neg (fun z => z.2 h)
end RML
