/-! all tokens of a tape -/
def poT (T : List Nat) : Nat → Nat
  | 0 => 0
  | k + 1 => enT T (skT T (poT T k))
def stT (T : List Nat) (k : Nat) : Nat := skT T (poT T k)
def edT (T : List Nat) (k : Nat) : Nat := enT T (stT T k)
def kkT (T : List Nat) (k : Nat) : Nat := if k = 400 ∧ kiT T (stT T k) (edT T k) ≠ 41 then 42 else kiT T (stT T k) (edT T k)
def vvK (T : List Nat) (k : Nat) : Nat := vaT T (kkT T k) (stT T k) (edT T k)
/-- the last token -/
def spK (T : List Nat) (k : Nat) : Nat := if kkT T k = 41 ∨ kkT T k = 42 then 1 else 0
def cnK (T : List Nat) : Nat := (fnN (spK T) 1 401).getD 400 + 1
def tkK (T : List Nat) : TKS := (cnK T, kkT T, stT T, vvK T)
theorem sc_rng {T : List Nat} {f : Nat → Bool} : ∀ (n p : Nat), p ≤ scT T f n p ∧ (p ≤ T.length → scT T f n p ≤ T.length) ∧ ∀ k, p ≤ k → k < scT T f n p → f k = true
  | 0, p => ⟨Nat.le_refl _, fun h => h, fun k h1 h2 => absurd h2 (Nat.not_lt.mpr h1)⟩
  | n + 1, p => by
    by_cases z : p < T.length ∧ f p = true
    · have e : scT T f (n + 1) p = scT T f n (p + 1) := if_pos z
      rw [e]
      obtain ⟨h1, h2, h3⟩ := sc_rng (T := T) (f := f) n (p + 1)
      refine ⟨by omega, fun _ => h2 z.1, fun k k1 k2 => ?_⟩
      by_cases y : k = p
      · rw [y]
        exact z.2
      · exact h3 k (by omega) k2
    · have e : scT T f (n + 1) p = p := if_neg z
      rw [e]
      exact ⟨Nat.le_refl _, fun h => h, fun k h1 h2 => absurd h2 (Nat.not_lt.mpr h1)⟩
theorem en_rng {T : List Nat} {p : Nat} : p < enT T p ∧ (p < T.length → enT T p ≤ T.length) ∧ enT T p ≤ max (p + 1) T.length ∧ (ltT T p = true → ∀ k, k < enT T p - p → ltT T (p + k) = true) ∧ (ltT T p ≠ true → dgT T p = true → ∀ k, k < enT T p - p → dgT T (p + k) = true) := by
  unfold enT
  by_cases z : ltT T p = true
  · rw [if_pos z]
    obtain ⟨h1, h2, h3⟩ := sc_rng (T := T) (f := ltT T) 1600 (p + 1)
    have lt := (of_decide_eq_true z).1
    refine ⟨by omega, fun _ => h2 (by omega), by have := h2 (by omega); omega, fun _ k hk => ?_, fun w => absurd z w⟩
    by_cases y : k = 0
    · rw [y]
      exact z
    · exact h3 (p + k) (by omega) (by omega)
  · rw [if_neg z]
    by_cases y : dgT T p = true
    · rw [if_pos y]
      obtain ⟨h1, h2, h3⟩ := sc_rng (T := T) (f := dgT T) 1600 (p + 1)
      have lt := (of_decide_eq_true y).1
      refine ⟨by omega, fun _ => h2 (by omega), by have := h2 (by omega); omega, fun w => absurd w z, fun _ _ k hk => ?_⟩
      by_cases x : k = 0
      · rw [x]
        exact y
      · exact h3 (p + k) (by omega) (by omega)
    · rw [if_neg y]
      refine ⟨Nat.lt_succ_self _, fun h => h, by omega, fun w => absurd w z, fun _ w => absurd w y⟩
theorem ki_39 {T : List Nat} {p e : Nat} (h : kiT T p e = 39 ∨ kiT T p e = 40) (h2 : p < e) : p < T.length ∧ (kiT T p e = 39 → ltT T p = true ∧ e - p ≤ 8) ∧ (kiT T p e = 40 → ltT T p ≠ true ∨ ¬ e - p ≤ 8) ∧ (kiT T p e = 40 → dgT T p = true ∧ e - p ≤ 4) := by
  unfold kiT at h ⊢
  by_cases z : T.length ≤ p
  · rw [if_pos z] at h
    omega
  · rw [if_neg z] at h ⊢
    refine ⟨by omega, ?_⟩
    cases ef : fnN (wdT T p e) 1 43 with
    | some k =>
      rw [ef] at h
      have h : k = 39 ∨ k = 40 := h
      obtain ⟨-, f2, -⟩ := fnN_some ef
      exfalso
      unfold wdT at f2
      by_cases y : rdT T (TXl k) p e = true
      · have y1 := (of_decide_eq_true y).1
        have y2 : TXl k = 39 := by
          unfold TXl
          rw [if_neg (by omega)]
        rw [y2, show tln 39 = 0 from by decide +kernel] at y1
        omega
      · rw [if_neg y] at f2
        exact absurd f2 (by decide)
    | none =>
      rw [ef] at h
      have h : (if ltT T p = true ∧ e - p ≤ 8 then 39 else if dgT T p = true ∧ e - p ≤ 4 then 40 else 42) = 39 ∨ (if ltT T p = true ∧ e - p ≤ 8 then 39 else if dgT T p = true ∧ e - p ≤ 4 then 40 else 42) = 40 := h
      show ((if ltT T p = true ∧ e - p ≤ 8 then 39 else if dgT T p = true ∧ e - p ≤ 4 then 40 else 42) = 39 → _) ∧ ((if ltT T p = true ∧ e - p ≤ 8 then 39 else if dgT T p = true ∧ e - p ≤ 4 then 40 else 42) = 40 → _) ∧ ((if ltT T p = true ∧ e - p ≤ 8 then 39 else if dgT T p = true ∧ e - p ≤ 4 then 40 else 42) = 40 → _)
      by_cases y : ltT T p = true ∧ e - p ≤ 8
      · rw [if_pos y]
        exact ⟨fun _ => y, fun w => absurd w (by decide), fun w => absurd w (by decide)⟩
      · rw [if_neg y] at h ⊢
        by_cases x : dgT T p = true ∧ e - p ≤ 4
        · rw [if_pos x]
          refine ⟨fun w => absurd w (by decide), fun _ => ?_, fun _ => x⟩
          by_cases l : ltT T p = true
          · exact Or.inr (fun w => y ⟨l, w⟩)
          · exact Or.inl l
        · rw [if_neg x] at h
          omega
theorem lt_dg {T : List Nat} {p : Nat} (h : dgT T p = true) : ltT T p ≠ true := fun z => by
  obtain ⟨-, h1, h2⟩ := of_decide_eq_true h
  obtain ⟨-, z1, z2⟩ := of_decide_eq_true z
  omega

