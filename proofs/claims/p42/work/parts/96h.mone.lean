/-! the reference reads all tokens: one of them -/
def KmM (h : AH) (m : Nat) (T : List Nat) (k : Nat) : Prop := (∃ f : Nat → Int32, At h (m + 2) (.inl (0, 402, .inl f)) ∧ ∀ j, j < k → f j = nI (soK (kkT T j))) ∧ (∃ f : Nat → Int32, At h (m + 3) (.inl (0, 402, .inl f)) ∧ ∀ j, j < k → kkT T j = 40 → f j = nI (vvK T j)) ∧ (∃ f : Nat → Int32, At h (m + 4) (.inl (0, 402, .inl f)) ∧ ∀ j, j < k → f j = nI (stT T j)) ∧ ∃ f : Nat → Int32, At h (m + 5) (.inl (0, 402, .inl f)) ∧ ∀ j, j < k → kkT T j = 39 → f j = nI (lnK T j)
theorem TpM.sm {h h1 : AH} {m lo hi : Nat} {T : List Nat} (q : TpM h m T) (sm : Sm h h1 lo hi) (e : m + 2 ≤ lo) : TpM h1 m T := by
  obtain ⟨⟨th, ea, tk, iw, er, et, dp, nm, a0⟩, ⟨f, a1, hf⟩, l, hT⟩ := q
  exact ⟨⟨th, ea, tk, iw, er, et, dp, nm, sm.at a0 (by omega)⟩, ⟨f, sm.at a1 (by omega), hf⟩, l, hT⟩
theorem vv_dig {T : List Nat} {k : Nat} (a : kkT T k = 40) : vvK T k = vdT T (stT T k) (enT T (stT T k) - stT T k) := by
  unfold vvK vaT
  rw [if_neg (by omega), if_pos a]
  rfl
theorem ki_n41 {T : List Nat} {p e : Nat} (lt : p < T.length) (hp : p < e) : kiT T p e ≠ 41 := by
  unfold kiT
  rw [if_neg (by omega)]
  cases ef : fnN (wdT T p e) 1 43 with
  | some k =>
    obtain ⟨f1, f2, -⟩ := fnN_some ef
    intro z
    have z : k = 41 := z
    rw [z] at f2
    exact (wd_by f2 hp).1 (by decide +kernel)
  | none =>
    show (if ltT T p = true ∧ e - p ≤ 8 then 39 else if dgT T p = true ∧ e - p ≤ 4 then 40 else 42) ≠ 41
    split
    · decide
    · split <;> decide
section RTH
variable {G : GT} {d : Nat} {h : AH} {m : Nat} {T : List Nat} {P : OC → AH → Prop}

end RTH
