/-! the reference reads a token -/
theorem TpM.set {h : AH} {m i : Nat} {c : AC} {T : List Nat} (q : TpM h m T) (e : m + 2 ≤ i) : TpM (hset h i c) m T := by
  obtain ⟨⟨th, ea, tk, iw, er, et, dp, nm, a0⟩, ⟨f, a1, hf⟩, l, hT⟩ := q
  exact ⟨⟨th, ea, tk, iw, er, et, dp, nm, At.set_ne a0 (by omega)⟩, ⟨f, At.set_ne a1 (by omega), hf⟩, l, hT⟩
section RTG
variable {G : GT} {d : Nat} {h : AH} {m : Nat} {T : List Nat}
/-- the token's rows, read -/
def RdM (h h1 : AH) (m : Nat) (T : List Nat) (p k : Nat) (f2 f3 f4 f5 : Nat → Int32) : Prop := At h1 (m + 2) (.inl (0, 402, .inl (upd f2 k (nI (soK (kiT T p (enT T p))))))) ∧ (∃ g, At h1 (m + 3) (.inl (0, 402, .inl g)) ∧ (∀ j, j ≠ k → g j = f3 j) ∧ (kiT T p (enT T p) = 40 → g k = nI (vdT T p (enT T p - p)))) ∧ At h1 (m + 4) (.inl (0, 402, .inl (upd f4 k (nI p)))) ∧ At h1 (m + 5) (.inl (0, 402, .inl (upd f5 k (nI (enT T p - p))))) ∧ Sm h h1 (m + 2) (m + 6)

end RTG
