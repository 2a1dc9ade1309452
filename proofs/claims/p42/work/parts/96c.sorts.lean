/-! kinds of a token, both ways -/
theorem tx_let : ∀ k, k < 43 → 27 ≤ k → tln (TXl k) = 0 ∨ ¬ (97 ≤ tby (TXl k) 0 ∧ tby (TXl k) 0 ≤ 122) := by decide +kernel
theorem tx_dig : ∀ k, k < 43 → tln (TXl k) = 0 ∨ ¬ (48 ≤ tby (TXl k) 0 ∧ tby (TXl k) 0 ≤ 57) := by decide +kernel
theorem wd_by {T : List Nat} {p e k : Nat} (h : wdT T p e k = 1) (hp : p < e) : tln (TXl k) ≠ 0 ∧ T.getD p 0 = tby (TXl k) 0 := by
  unfold wdT at h
  by_cases y : rdT T (TXl k) p e = true
  · obtain ⟨y1, y2⟩ := of_decide_eq_true y
    exact ⟨by omega, (y2 0 (by omega)).2⟩
  · rw [if_neg y] at h
    exact absurd h (by decide)
theorem so_kw {T : List Nat} {p e : Nat} (h : ltT T p = true) (hp : p < e) : soK (kiT T p e) = kwT T p (e - p) := by
  obtain ⟨l, a1, a2⟩ := of_decide_eq_true h
  unfold kiT kwT
  rw [if_neg (by omega), show p + (e - p) = e from by omega]
  cases ef : fnN (wdT T p e) 1 43 with
  | some k =>
    obtain ⟨f1, f2, f3⟩ := fnN_some ef
    obtain ⟨g1, g2⟩ := wd_by f2 hp
    have k27 : k < 27 := by
      refine Nat.lt_of_not_le (fun z => ?_)
      rcases tx_let k f1 z with w | w
      · exact g1 w
      · exact w (by rw [← g2]; exact ⟨a1, a2⟩)
    rw [fnN_first (f := wdT T p e) (v := 1) (i := k) (n := 27) f2 f3 k27]
    exact (show ∀ k, k < 27 → soK k = k from by decide) k k27
  | none =>
    have f := fnN_none.mp ef
    rw [fnN_none.mpr (fun k (hk : k < 27) => f k (by omega))]
    show soK (if ltT T p = true ∧ e - p ≤ 8 then 39 else if dgT T p = true ∧ e - p ≤ 4 then 40 else 42) = if e - p ≤ 8 then 30 else 32
    by_cases y : e - p ≤ 8
    · rw [if_pos ⟨h, y⟩, if_pos y]
      rfl
    · rw [if_neg (fun z => y z.2), if_neg y, if_neg (fun z => lt_dg z.1 h)]
      rfl
theorem so_dg {T : List Nat} {p e : Nat} (h : dgT T p = true) (hp : p < e) : soK (kiT T p e) = if e - p ≤ 4 then 31 else 32 := by
  obtain ⟨l, a1, a2⟩ := of_decide_eq_true h
  unfold kiT
  rw [if_neg (by omega)]
  cases ef : fnN (wdT T p e) 1 43 with
  | some k =>
    exfalso
    obtain ⟨f1, f2, f3⟩ := fnN_some ef
    obtain ⟨g1, g2⟩ := wd_by f2 hp
    rcases tx_dig k f1 with w | w
    · exact g1 w
    · exact w (by rw [← g2]; exact ⟨a1, a2⟩)
  | none =>
    show soK (if ltT T p = true ∧ e - p ≤ 8 then 39 else if dgT T p = true ∧ e - p ≤ 4 then 40 else 42) = if e - p ≤ 4 then 31 else 32
    rw [if_neg (fun z => lt_dg h z.1)]
    by_cases y : e - p ≤ 4
    · rw [if_pos ⟨h, y⟩, if_pos y]
      rfl
    · rw [if_neg (fun z => y z.2), if_neg y]
      rfl
theorem so_sg {T : List Nat} {p : Nat} (hp : p < T.length) (h1 : ¬ ltT T p = true) (h2 : ¬ dgT T p = true) : soK (kiT T p (p + 1)) = soK (k1B (T.getD p 0)) := by
  rw [ki_1 hp h1 h2]
