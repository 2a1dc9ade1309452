/-! the reference looks at bytes -/
section RTA
variable {G : GT} {d : Nat} {h : AH} {m : Nat} {T : List Nat}
/-- the reference's tape -/
def TpM (h : AH) (m : Nat) (T : List Nat) : Prop := (∃ th ea tk iw er et dp nm, At h m (ModO m th (nI T.length) ea tk iw er et dp nm)) ∧ NiX h (m + 1) 1600 T.length (fun i => T.getD i 0) ∧ T.length ≤ 1600 ∧ ∀ i, i < T.length → T.getD i 0 < 256
theorem at_by {p lo hi : Nat} (hT : ∀ i, i < T.length → T.getD i 0 < 256) (h1 : lo < 256) (h2 : hi < 256) : (nI lo ≤ atT T p ∧ atT T p ≤ nI hi) ↔ byT T p lo hi = true := by
  unfold byT
  rw [decide_eq_true_iff]
  by_cases z : p < T.length
  · have := hT p z
    rw [show atT T p = nI (T.getD p 0) from if_pos z, nI_leI (by omega) (by omega), nI_leI (by omega) (by omega)]
    exact ⟨fun q => ⟨z, q⟩, fun q => q.2⟩
  · rw [show atT T p = -1 from if_neg z]
    refine ⟨fun q => absurd q.1 ?_, fun q => absurd q.1 z⟩
    rw [ci_le_m1 (by omega)]
    exact fun w => w

end RTA
