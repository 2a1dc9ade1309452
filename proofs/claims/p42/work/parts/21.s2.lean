section S2
variable {G : GT} {d : Nat} {h : AH}
def CupO (c : Nat) (day : Int32) : AC := .inr (2, [.ref (c + 1), .ref (c + 2), .ref (c + 3), .ref (c + 4), .int day])
/-- a new cupboard -/
def CupZ (h : AH) (c : Nat) : Prop := ∃ (jf : Nat → Option Nat) (fo le : Nat → Int32), At h c (CupO c 0) ∧ At h (c + 1) (.inl (3, 8, .inr (.inr (.inr (.inr jf))))) ∧ At h (c + 2) (.inl (0, 6, .inl (fun _ => 0))) ∧ At h (c + 3) (.inl (0, 6, .inl fo)) ∧ At h (c + 4) (.inl (0, 6, .inl le)) ∧ (∀ i, i < 8 → jf i = some (c + 5 + 5 * i)) ∧ (∀ i, i < 6 → fo i = -1 ∧ le i = nI i) ∧ ∀ i, i < 8 → JarZ h (c + 5 + 5 * i)
theorem CupZ.keep {h h' : AH} {c : Nat} (a : CupZ h c) (e : h.1 ≤ h'.1) (u : Un h h' c (c + 45)) : CupZ h' c := by
  obtain ⟨jf, fo, le, a1, a2, a3, a4, a5, a6, a7, a8⟩ := a
  exact ⟨jf, fo, le, a1.keep e (u _ (by omega) (by omega)), a2.keep e (u _ (by omega) (by omega)), a3.keep e (u _ (by omega) (by omega)), a4.keep e (u _ (by omega) (by omega)), a5.keep e (u _ (by omega) (by omega)), a6, a7, fun i hi => JarC.keep (a8 i hi) e (u.sub (by omega) (by omega))⟩
/-- a book's start: no day has gone by, no label follows another one -/
def CupS (h : AH) (c : Nat) : Prop := ∃ (jf : Nat → Option Nat) (lj fo le : Nat → Int32), At h c (CupO c 0) ∧ At h (c + 1) (.inl (3, 8, .inr (.inr (.inr (.inr jf))))) ∧ At h (c + 2) (.inl (0, 6, .inl lj)) ∧ At h (c + 3) (.inl (0, 6, .inl fo)) ∧ At h (c + 4) (.inl (0, 6, .inl le)) ∧ (∀ i, i < 8 → jf i = some (c + 5 + 5 * i)) ∧ (∀ i, i < 6 → ∃ j, j < 8 ∧ lj i = nI j) ∧ (∀ i, i < 6 → fo i = -1 ∧ le i = nI i) ∧ ∀ i, i < 8 → JarE h (c + 5 + 5 * i)
theorem CupS.keep {h h' : AH} {c : Nat} (a : CupS h c) (e : h.1 ≤ h'.1) (u : Un h h' c (c + 45)) : CupS h' c := by
  obtain ⟨jf, lj, fo, le, a1, a2, a3, a4, a5, a6, a9, a7, a8⟩ := a
  exact ⟨jf, lj, fo, le, a1.keep e (u _ (by omega) (by omega)), a2.keep e (u _ (by omega) (by omega)), a3.keep e (u _ (by omega) (by omega)), a4.keep e (u _ (by omega) (by omega)), a5.keep e (u _ (by omega) (by omega)), a6, a9, a7, fun i hi => (a8 i hi).keep e (u.sub (by omega) (by omega))⟩
theorem CupZ.S {h : AH} {c : Nat} (a : CupZ h c) : CupS h c := by
  obtain ⟨jf, fo, le, a1, a2, a3, a4, a5, a6, a7, a8⟩ := a
  exact ⟨jf, _, fo, le, a1, a2, a3, a4, a5, a6, fun i hi => ⟨0, by decide, rfl⟩, a7, fun i hi => (a8 i hi).E⟩
theorem CupS.E {h : AH} {c : Nat} (a : CupS h c) : CupE h c 0 := by
  obtain ⟨jf, lj, fo, le, a1, a2, a3, a4, a5, a6, a9, a7, a8⟩ := a
  exact ⟨jf, lj, fo, le, a1, a2, a3, a4, a5, a6, a8⟩

set_option maxHeartbeats 4000000 in
set_option maxRecDepth 100000 in
theorem s_Cup_init2 {c : Nat} {h0 : AH} : ∀ (n k : Nat) (h : AH) (fo le : Nat → Int32), 6 ≤ k + n → k ≤ 6 → At h c (CupO c 0) → At h (c + 3) (.inl (0, 6, .inl fo)) → At h (c + 4) (.inl (0, 6, .inl le)) → (∀ i, i < k → fo i = -1 ∧ le i = nI i) → h.1 = h0.1 → h.2.1 = h0.2.1 → Un h0 h 0 c → Un h0 h (c + 1) (c + 3) → Un h0 h (c + 5) h0.1 → RQ G mX3_init d 66 [some (.ref c), some (.int (nI k))] [] h (Rv fun h2 => At h2 c (CupO c 0) ∧ (∃ fo le, At h2 (c + 3) (.inl (0, 6, .inl fo)) ∧ At h2 (c + 4) (.inl (0, 6, .inl le)) ∧ ∀ i, i < 6 → fo i = -1 ∧ le i = nI i) ∧ h2.1 = h0.1 ∧ h2.2.1 = h0.2.1 ∧ Un h0 h2 0 c ∧ Un h0 h2 (c + 1) (c + 3) ∧ Un h0 h2 (c + 5) h0.1) := by
  intro n
  induction n with
  | zero =>
    intro k h fo le h1 h2 a0 a3 a4 c9 e1 e2 u1 u2 u3
    have l3 := a3.1
    have l4 := a4.1
    have hk : k = 6 := by omega
    subst hk
    refine tX3_init_66  (r := ?_)
    refine tX3_init_67  (r := ?_)
    refine tX3_init_69  (kf := fun c_ => by exfalso; (simp (disch := first | omega | decide) only [ci_lt, ci_le, ci_eq, ci_lt0, ci_ge0, ci_gt0, ci_le0, ci_eq0, ci_m1_lt, ci_m1_le, ci_lt_m1, ci_le_m1, ci_eq_m1, ci_m1_eq, not_true, not_false_iff, Nat.not_lt, Nat.not_le] at c_ <;> omega)) (kt := fun _ => ?_)
    refine tX3_init_92  (hP := ?_)
    exact ⟨rfl, a0, ⟨_, _, a3, a4, c9⟩, e1, e2, u1, u2, u3⟩
  | succ n ih =>
    intro k h fo le h1 h2 a0 a3 a4 c9 e1 e2 u1 u2 u3
    have l3 := a3.1
    have l4 := a4.1
    by_cases hk : k = 6
    · subst hk
      refine tX3_init_66  (r := ?_)
      refine tX3_init_67  (r := ?_)
      refine tX3_init_69  (kf := fun c_ => by exfalso; (simp (disch := first | omega | decide) only [ci_lt, ci_le, ci_eq, ci_lt0, ci_ge0, ci_gt0, ci_le0, ci_eq0, ci_m1_lt, ci_m1_le, ci_lt_m1, ci_le_m1, ci_eq_m1, ci_m1_eq, not_true, not_false_iff, Nat.not_lt, Nat.not_le] at c_ <;> omega)) (kt := fun _ => ?_)
      refine tX3_init_92  (hP := ?_)
      exact ⟨rfl, a0, ⟨_, _, a3, a4, c9⟩, e1, e2, u1, u2, u3⟩
    · refine tX3_init_66  (r := ?_)
      refine tX3_init_67  (r := ?_)
      refine tX3_init_69  (kt := fun c_ => by exfalso; (simp (disch := first | omega | decide) only [ci_lt, ci_le, ci_eq, ci_lt0, ci_ge0, ci_gt0, ci_le0, ci_eq0, ci_m1_lt, ci_m1_le, ci_lt_m1, ci_le_m1, ci_eq_m1, ci_m1_eq, not_true, not_false_iff, Nat.not_lt, Nat.not_le] at c_ <;> omega)) (kf := fun _ => ?_)
      refine tX3_init_72  (r := ?_)
      refine tX3_init_73 (ha := (by first | assumption | (repeat (first | assumption | exact At.set_eq2 (by first | omega | (simp only [hset, hnew]; omega) | rfl | decide) | exact At.new_eq2 _ _ (by first | omega | (simp only [hset, hnew]; omega) | rfl | decide) | refine At.set_ne ?_ (by first | omega | (simp only [hset, hnew]; omega) | rfl | decide) | refine At.new_ne ?_)))) (hv := rfl) (r := ?_)
      refine tX3_init_76  (r := ?_)
      refine tX3_init_77  (r := ?_)
      refine tX3_init_78 (ha := (by first | assumption | (repeat (first | assumption | exact At.set_eq2 (by first | omega | (simp only [hset, hnew]; omega) | rfl | decide) | exact At.new_eq2 _ _ (by first | omega | (simp only [hset, hnew]; omega) | rfl | decide) | refine At.set_ne ?_ (by first | omega | (simp only [hset, hnew]; omega) | rfl | decide) | refine At.new_ne ?_)))) (hx := (by first | rfl | assumption | exact nI_add _ _)) (hj := (by omega)) (hn := (by decide)) (r := ?_)
      refine tX3_init_79  (r := ?_)
      refine tX3_init_80 (ha := (by first | assumption | (repeat (first | assumption | exact At.set_eq2 (by first | omega | (simp only [hset, hnew]; omega) | rfl | decide) | exact At.new_eq2 _ _ (by first | omega | (simp only [hset, hnew]; omega) | rfl | decide) | refine At.set_ne ?_ (by first | omega | (simp only [hset, hnew]; omega) | rfl | decide) | refine At.new_ne ?_)))) (hv := rfl) (r := ?_)
      refine tX3_init_83  (r := ?_)
      refine tX3_init_84  (r := ?_)
      refine tX3_init_85 (ha := (by first | assumption | (repeat (first | assumption | exact At.set_eq2 (by first | omega | (simp only [hset, hnew]; omega) | rfl | decide) | exact At.new_eq2 _ _ (by first | omega | (simp only [hset, hnew]; omega) | rfl | decide) | refine At.set_ne ?_ (by first | omega | (simp only [hset, hnew]; omega) | rfl | decide) | refine At.new_ne ?_)))) (hx := (by first | rfl | assumption | exact nI_add _ _)) (hj := (by omega)) (hn := (by decide)) (r := ?_)
      refine tX3_init_86  (r := ?_)
      rw [show nI k + nI 1 = nI (k + 1) from nI_add _ _]
      refine tX3_init_89 (r := ?_)
      refine ih (k + 1) _ _ _ (by omega) (by omega) (by (first | assumption | (repeat (first | assumption | exact At.set_eq2 (by (first | omega | (simp only [hset, hnew]; omega) | rfl | decide)) | exact At.new_eq2 _ _ (by (first | omega | (simp only [hset, hnew]; omega) | rfl | decide)) | refine At.set_ne ?_ (by (first | omega | (simp only [hset, hnew]; omega) | rfl | decide)) | refine At.new_ne ?_)))) (by (first | assumption | (repeat (first | assumption | exact At.set_eq2 (by (first | omega | (simp only [hset, hnew]; omega) | rfl | decide)) | exact At.new_eq2 _ _ (by (first | omega | (simp only [hset, hnew]; omega) | rfl | decide)) | refine At.set_ne ?_ (by (first | omega | (simp only [hset, hnew]; omega) | rfl | decide)) | refine At.new_ne ?_)))) (by (first | assumption | (repeat (first | assumption | exact At.set_eq2 (by (first | omega | (simp only [hset, hnew]; omega) | rfl | decide)) | exact At.new_eq2 _ _ (by (first | omega | (simp only [hset, hnew]; omega) | rfl | decide)) | refine At.set_ne ?_ (by (first | omega | (simp only [hset, hnew]; omega) | rfl | decide)) | refine At.new_ne ?_)))) (fun i hi => ?_) e1 e2 (Un.set (Un.set u1 (by omega)) (by omega)) (Un.set (Un.set u2 (by omega)) (by omega)) (Un.set (Un.set u3 (by omega)) (by omega))
      by_cases e : i = k
      · subst e
        simp [upd]
      · simp only [upd, if_neg e]
        exact c9 i (by omega)

set_option maxHeartbeats 4000000 in
set_option maxRecDepth 100000 in
theorem s_Cup_init1 (hd : 2 ≤ d) {c s0 : Nat} {h0 : AH} : ∀ (n k : Nat) (h : AH) (jf : Nat → Option Nat) (fo le : Nat → Int32), 8 ≤ k + n → k ≤ 8 → At h c (CupO c 0) → At h (c + 1) (.inl (3, 8, .inr (.inr (.inr (.inr jf))))) → At h (c + 2) (.inl (0, 6, .inl (fun _ => 0))) → At h (c + 3) (.inl (0, 6, .inl fo)) → At h (c + 4) (.inl (0, 6, .inl le)) → (∀ i, i < k → jf i = some (c + 5 + 5 * i)) → (∀ i, i < k → JarZ h (c + 5 + 5 * i)) → h.1 = c + 5 + 5 * k → h.2.1 = s0 + 34 * k → Un h0 h 0 c → RQ G mX3_init d 39 [some (.ref c), some (.int (nI k))] [] h (Rv fun h2 => CupZ h2 c ∧ h2.1 = c + 45 ∧ h2.2.1 = s0 + 272 ∧ Un h0 h2 0 c) := by
  intro n
  induction n with
  | zero =>
    intro k h jf fo le h1 h2 a0 a1 a2 a3 a4 a5 a6 e1 e2 u1
    have hk : k = 8 := by omega
    subst hk
    refine tX3_init_39  (r := ?_)
    refine tX3_init_40  (r := ?_)
    refine tX3_init_42  (kf := fun c_ => by exfalso; (simp (disch := first | omega | decide) only [ci_lt, ci_le, ci_eq, ci_lt0, ci_ge0, ci_gt0, ci_le0, ci_eq0, ci_m1_lt, ci_m1_le, ci_lt_m1, ci_le_m1, ci_eq_m1, ci_m1_eq, not_true, not_false_iff, Nat.not_lt, Nat.not_le] at c_ <;> omega)) (kt := fun _ => ?_)
    refine tX3_init_64  (r := ?_)
    refine tX3_init_65  (r := ?_)
    exact s_Cup_init2 (h0 := h) 6 0 _ _ _ (by omega) (by omega) a0 a3 a4 (fun i hi => absurd hi (Nat.not_lt_zero i)) rfl rfl (Un.rf _ _ _) (Un.rf _ _ _) (Un.rf _ _ _) |>.imp (fun o h2 q => by
      obtain ⟨rfl, b0, ⟨fo2, le2, b3, b4, c9⟩, g1, g2, v1, v2, v3⟩ := q
      exact ⟨rfl, ⟨jf, fo2, le2, b0, a1.keep (by omega) (v2 _ (by omega) (by omega)), a2.keep (by omega) (v2 _ (by omega) (by omega)), b3, b4, a5, c9, fun i hi => JarC.keep (a6 i hi) (by omega) (v3.sub (by omega) (by omega))⟩, by omega, by omega, u1.trans v1⟩)
  | succ n ih =>
    intro k h jf fo le h1 h2 a0 a1 a2 a3 a4 a5 a6 e1 e2 u1
    by_cases hk : k = 8
    · subst hk
      refine tX3_init_39  (r := ?_)
      refine tX3_init_40  (r := ?_)
      refine tX3_init_42  (kf := fun c_ => by exfalso; (simp (disch := first | omega | decide) only [ci_lt, ci_le, ci_eq, ci_lt0, ci_ge0, ci_gt0, ci_le0, ci_eq0, ci_m1_lt, ci_m1_le, ci_lt_m1, ci_le_m1, ci_eq_m1, ci_m1_eq, not_true, not_false_iff, Nat.not_lt, Nat.not_le] at c_ <;> omega)) (kt := fun _ => ?_)
      refine tX3_init_64  (r := ?_)
      refine tX3_init_65  (r := ?_)
      exact s_Cup_init2 (h0 := h) 6 0 _ _ _ (by omega) (by omega) a0 a3 a4 (fun i hi => absurd hi (Nat.not_lt_zero i)) rfl rfl (Un.rf _ _ _) (Un.rf _ _ _) (Un.rf _ _ _) |>.imp (fun o h2 q => by
        obtain ⟨rfl, b0, ⟨fo2, le2, b3, b4, c9⟩, g1, g2, v1, v2, v3⟩ := q
        exact ⟨rfl, ⟨jf, fo2, le2, b0, a1.keep (by omega) (v2 _ (by omega) (by omega)), a2.keep (by omega) (v2 _ (by omega) (by omega)), b3, b4, a5, c9, fun i hi => JarC.keep (a6 i hi) (by omega) (v3.sub (by omega) (by omega))⟩, by omega, by omega, u1.trans v1⟩)
    · refine tX3_init_39  (r := ?_)
      refine tX3_init_40  (r := ?_)
      refine tX3_init_42  (kt := fun c_ => by exfalso; (simp (disch := first | omega | decide) only [ci_lt, ci_le, ci_eq, ci_lt0, ci_ge0, ci_gt0, ci_le0, ci_eq0, ci_m1_lt, ci_m1_le, ci_lt_m1, ci_le_m1, ci_eq_m1, ci_m1_eq, not_true, not_false_iff, Nat.not_lt, Nat.not_le] at c_ <;> omega)) (kf := fun _ => ?_)
      refine tX3_init_45  (r := ?_)
      refine tX3_init_46 (ha := (by first | assumption | (repeat (first | assumption | exact At.set_eq2 (by first | omega | (simp only [hset, hnew]; omega) | rfl | decide) | exact At.new_eq2 _ _ (by first | omega | (simp only [hset, hnew]; omega) | rfl | decide) | refine At.set_ne ?_ (by first | omega | (simp only [hset, hnew]; omega) | rfl | decide) | refine At.new_ne ?_)))) (hv := rfl) (r := ?_)
      refine tX3_init_49  (r := ?_)
      refine tX3_init_50  (r := ?_)
      refine RQ.refId (k' := c + 5 + 5 * k) (by (first | omega | (simp only [hset, hnew]; omega) | rfl | decide)) ?_
      refine tX3_init_53  (r := ?_)
      refine tX3_init_54 (hd := (by omega)) (call := s_Jar_init (d := 1) (Nat.le_refl 1) (At.new_eq2 _ _ (by omega)) (by (first | omega | (simp only [hset, hnew]; omega) | rfl | decide))) (k := ?_)
      intro h2 hq
      obtain ⟨q1, q2, q3, q4⟩ := hq
      obtain ⟨q9, -⟩ := id q1
      have q2 : h2.1 = h.1 + 1 + 4 := q2
      have q3 : h2.2.1 = h.2.1 + 10 + 24 := q3
      have a0 := (At.new_ne (n := 10) a0).keep (h' := h2) (by (first | omega | (simp only [hset, hnew]; omega) | rfl | decide)) (q4 _ (by omega) (by omega))
      have a1 := (At.new_ne (n := 10) a1).keep (h' := h2) (by (first | omega | (simp only [hset, hnew]; omega) | rfl | decide)) (q4 _ (by omega) (by omega))
      have a2 := (At.new_ne (n := 10) a2).keep (h' := h2) (by (first | omega | (simp only [hset, hnew]; omega) | rfl | decide)) (q4 _ (by omega) (by omega))
      have a3 := (At.new_ne (n := 10) a3).keep (h' := h2) (by (first | omega | (simp only [hset, hnew]; omega) | rfl | decide)) (q4 _ (by omega) (by omega))
      have a4 := (At.new_ne (n := 10) a4).keep (h' := h2) (by (first | omega | (simp only [hset, hnew]; omega) | rfl | decide)) (q4 _ (by omega) (by omega))
      have a6 : ∀ i, i < k → JarZ h2 (c + 5 + 5 * i) := fun i hi => JarC.keep (a6 i hi) (by omega) (Un.trans (Un.new (Un.rf _ _ _) (by omega)) (q4.sub (by omega) (by omega)))
      have u1 : Un h0 h2 0 c := (Un.new u1 (by omega)).trans (q4.sub (by omega) (by omega))
      refine tX3_init_57 (ha := (by first | assumption | (repeat (first | assumption | exact At.set_eq2 (by first | omega | (simp only [hset, hnew]; omega) | rfl | decide) | exact At.new_eq2 _ _ (by first | omega | (simp only [hset, hnew]; omega) | rfl | decide) | refine At.set_ne ?_ (by first | omega | (simp only [hset, hnew]; omega) | rfl | decide) | refine At.new_ne ?_)))) (hb := (by first | assumption | (repeat (first | assumption | exact At.set_eq2 (by first | omega | (simp only [hset, hnew]; omega) | rfl | decide) | exact At.new_eq2 _ _ (by first | omega | (simp only [hset, hnew]; omega) | rfl | decide) | refine At.set_ne ?_ (by first | omega | (simp only [hset, hnew]; omega) | rfl | decide) | refine At.new_ne ?_)))) (hx := (by first | rfl | assumption | exact nI_add _ _)) (hj := (by omega)) (hn := (by decide)) (r := ?_)
      refine tX3_init_58  (r := ?_)
      rw [show nI k + nI 1 = nI (k + 1) from nI_add _ _]
      refine tX3_init_61 (r := ?_)
      refine ih (k + 1) _ _ _ _ (by omega) (by omega) (by (first | assumption | (repeat (first | assumption | exact At.set_eq2 (by (first | omega | (simp only [hset, hnew]; omega) | rfl | decide)) | exact At.new_eq2 _ _ (by (first | omega | (simp only [hset, hnew]; omega) | rfl | decide)) | refine At.set_ne ?_ (by (first | omega | (simp only [hset, hnew]; omega) | rfl | decide)) | refine At.new_ne ?_)))) (At.set_eq2 (by (first | omega | (simp only [hset, hnew]; omega) | rfl | decide))) (by (first | assumption | (repeat (first | assumption | exact At.set_eq2 (by (first | omega | (simp only [hset, hnew]; omega) | rfl | decide)) | exact At.new_eq2 _ _ (by (first | omega | (simp only [hset, hnew]; omega) | rfl | decide)) | refine At.set_ne ?_ (by (first | omega | (simp only [hset, hnew]; omega) | rfl | decide)) | refine At.new_ne ?_)))) (by (first | assumption | (repeat (first | assumption | exact At.set_eq2 (by (first | omega | (simp only [hset, hnew]; omega) | rfl | decide)) | exact At.new_eq2 _ _ (by (first | omega | (simp only [hset, hnew]; omega) | rfl | decide)) | refine At.set_ne ?_ (by (first | omega | (simp only [hset, hnew]; omega) | rfl | decide)) | refine At.new_ne ?_)))) (by (first | assumption | (repeat (first | assumption | exact At.set_eq2 (by (first | omega | (simp only [hset, hnew]; omega) | rfl | decide)) | exact At.new_eq2 _ _ (by (first | omega | (simp only [hset, hnew]; omega) | rfl | decide)) | refine At.set_ne ?_ (by (first | omega | (simp only [hset, hnew]; omega) | rfl | decide)) | refine At.new_ne ?_)))) (fun i hi => ?_) (fun i hi => ?_) (by (first | omega | (simp only [hset, hnew]; omega) | rfl | decide)) (by (first | omega | (simp only [hset, hnew]; omega) | rfl | decide)) (Un.set u1 (by omega))
      · by_cases e : i = k
        · subst e
          simp [va_up]
        · simp only [va_up, if_neg e]
          exact a5 i (by omega)
      · by_cases e : i = k
        · subst e
          exact JarC.keep q1 (Nat.le_refl _) (Un.set (Un.rf _ _ _) (by omega))
        · exact JarC.keep (a6 i (by omega)) (Nat.le_refl _) (Un.set (Un.rf _ _ _) (by omega))

set_option maxHeartbeats 4000000 in
set_option maxRecDepth 100000 in
theorem s_Cup_init (hd : 2 ≤ d) {c : Nat} (a0 : At h c (.inr (2, [.null, .null, .null, .null, .int 0]))) (hj : h.1 = c + 1) : RQ G mX3_init d 0 [some (.ref c), none] [] h (Rv fun h2 => CupZ h2 c ∧ Gw h h2 c 44 298) := by
  refine tX3_init_0  (r := ?_)
  refine tX3_init_1 (hd := (by omega)) (r := ?_)
  refine tX3_init_4  (r := ?_)
  refine tX3_init_5  (r := ?_)
  refine tX3_init_7 (hx := (by first | rfl | assumption | exact nI_add _ _)) (hn := (by decide)) (r := ?_)
  refine RQ.refId (k' := c + 1) (by (first | omega | (simp only [hset, hnew]; omega) | rfl | decide)) ?_
  refine tX3_init_10 (ha := (by first | assumption | (repeat (first | assumption | exact At.set_eq2 (by first | omega | (simp only [hset, hnew]; omega) | rfl | decide) | exact At.new_eq2 _ _ (by first | omega | (simp only [hset, hnew]; omega) | rfl | decide) | refine At.set_ne ?_ (by first | omega | (simp only [hset, hnew]; omega) | rfl | decide) | refine At.new_ne ?_)))) (hlen := rfl) (r := ?_)
  refine tX3_init_13  (r := ?_)
  refine tX3_init_14  (r := ?_)
  refine tX3_init_16 (hx := (by first | rfl | assumption | exact nI_add _ _)) (hn := (by decide)) (r := ?_)
  refine RQ.refId (k' := c + 2) (by (first | omega | (simp only [hset, hnew]; omega) | rfl | decide)) ?_
  refine tX3_init_18 (ha := (by first | assumption | (repeat (first | assumption | exact At.set_eq2 (by first | omega | (simp only [hset, hnew]; omega) | rfl | decide) | exact At.new_eq2 _ _ (by first | omega | (simp only [hset, hnew]; omega) | rfl | decide) | refine At.set_ne ?_ (by first | omega | (simp only [hset, hnew]; omega) | rfl | decide) | refine At.new_ne ?_)))) (hlen := rfl) (r := ?_)
  refine tX3_init_21  (r := ?_)
  refine tX3_init_22  (r := ?_)
  refine tX3_init_24 (hx := (by first | rfl | assumption | exact nI_add _ _)) (hn := (by decide)) (r := ?_)
  refine RQ.refId (k' := c + 3) (by (first | omega | (simp only [hset, hnew]; omega) | rfl | decide)) ?_
  refine tX3_init_26 (ha := (by first | assumption | (repeat (first | assumption | exact At.set_eq2 (by first | omega | (simp only [hset, hnew]; omega) | rfl | decide) | exact At.new_eq2 _ _ (by first | omega | (simp only [hset, hnew]; omega) | rfl | decide) | refine At.set_ne ?_ (by first | omega | (simp only [hset, hnew]; omega) | rfl | decide) | refine At.new_ne ?_)))) (hlen := rfl) (r := ?_)
  refine tX3_init_29  (r := ?_)
  refine tX3_init_30  (r := ?_)
  refine tX3_init_32 (hx := (by first | rfl | assumption | exact nI_add _ _)) (hn := (by decide)) (r := ?_)
  refine RQ.refId (k' := c + 4) (by (first | omega | (simp only [hset, hnew]; omega) | rfl | decide)) ?_
  refine tX3_init_34 (ha := (by first | assumption | (repeat (first | assumption | exact At.set_eq2 (by first | omega | (simp only [hset, hnew]; omega) | rfl | decide) | exact At.new_eq2 _ _ (by first | omega | (simp only [hset, hnew]; omega) | rfl | decide) | refine At.set_ne ?_ (by first | omega | (simp only [hset, hnew]; omega) | rfl | decide) | refine At.new_ne ?_)))) (hlen := rfl) (r := ?_)
  refine tX3_init_37  (r := ?_)
  refine tX3_init_38  (r := ?_)
  refine (s_Cup_init1 (h0 := h) (s0 := h.2.1 + 26) hd 8 0 _ _ _ _ (by omega) (by omega) (At.set_eq2 (by (first | omega | (simp only [hset, hnew]; omega) | rfl | decide))) (by (first | assumption | (repeat (first | assumption | exact At.set_eq2 (by (first | omega | (simp only [hset, hnew]; omega) | rfl | decide)) | exact At.new_eq2 _ _ (by (first | omega | (simp only [hset, hnew]; omega) | rfl | decide)) | refine At.set_ne ?_ (by (first | omega | (simp only [hset, hnew]; omega) | rfl | decide)) | refine At.new_ne ?_)))) (by (first | assumption | (repeat (first | assumption | exact At.set_eq2 (by (first | omega | (simp only [hset, hnew]; omega) | rfl | decide)) | exact At.new_eq2 _ _ (by (first | omega | (simp only [hset, hnew]; omega) | rfl | decide)) | refine At.set_ne ?_ (by (first | omega | (simp only [hset, hnew]; omega) | rfl | decide)) | refine At.new_ne ?_)))) (by (first | assumption | (repeat (first | assumption | exact At.set_eq2 (by (first | omega | (simp only [hset, hnew]; omega) | rfl | decide)) | exact At.new_eq2 _ _ (by (first | omega | (simp only [hset, hnew]; omega) | rfl | decide)) | refine At.set_ne ?_ (by (first | omega | (simp only [hset, hnew]; omega) | rfl | decide)) | refine At.new_ne ?_)))) (by (first | assumption | (repeat (first | assumption | exact At.set_eq2 (by (first | omega | (simp only [hset, hnew]; omega) | rfl | decide)) | exact At.new_eq2 _ _ (by (first | omega | (simp only [hset, hnew]; omega) | rfl | decide)) | refine At.set_ne ?_ (by (first | omega | (simp only [hset, hnew]; omega) | rfl | decide)) | refine At.new_ne ?_)))) (fun i hi => absurd hi (Nat.not_lt_zero i)) (fun i hi => absurd hi (Nat.not_lt_zero i)) (by (first | omega | (simp only [hset, hnew]; omega) | rfl | decide)) (by (first | omega | (simp only [hset, hnew]; omega) | rfl | decide)) (by (repeat (first | assumption | exact Un.rf _ _ _ | refine Un.set ?_ (by (first | omega | (simp only [hset, hnew]; omega) | rfl | decide)) | refine Un.new ?_ (by (first | omega | (simp only [hset, hnew]; omega) | rfl | decide)))))).imp (fun o h2 q => ?_)
  obtain ⟨rfl, b0, b1, b2, b3⟩ := q
  exact ⟨rfl, b0, by omega, by omega, b3⟩

def ArI (h : AH) (a n : Nat) : Prop := ∃ f : Nat → Int32, At h a (.inl (0, n, .inl f))
def ArB (h : AH) (a n : Nat) : Prop := ∃ f : Nat → Int32, At h a (.inl (1, n, .inl f))
def ArJ (h : AH) (a n : Nat) : Prop := ∃ f : Nat → Int64, At h a (.inl (2, n, .inr (.inl f)))
def ArK (h : AH) (a n : Nat) : Prop := ∃ f : Nat → Option Nat, At h a (.inl (4, n, .inr (.inr (.inr (.inr f)))))
theorem ArI.keep {h h' : AH} {a n : Nat} (q : ArI h a n) (e1 : h.1 ≤ h'.1) (e2 : h'.2.2 a = h.2.2 a) : ArI h' a n := q.elim fun f q => ⟨f, q.keep e1 e2⟩
theorem ArB.keep {h h' : AH} {a n : Nat} (q : ArB h a n) (e1 : h.1 ≤ h'.1) (e2 : h'.2.2 a = h.2.2 a) : ArB h' a n := q.elim fun f q => ⟨f, q.keep e1 e2⟩
theorem ArJ.keep {h h' : AH} {a n : Nat} (q : ArJ h a n) (e1 : h.1 ≤ h'.1) (e2 : h'.2.2 a = h.2.2 a) : ArJ h' a n := q.elim fun f q => ⟨f, q.keep e1 e2⟩
theorem ArK.keep {h h' : AH} {a n : Nat} (q : ArK h a n) (e1 : h.1 ≤ h'.1) (e2 : h'.2.2 a = h.2.2 a) : ArK h' a n := q.elim fun f q => ⟨f, q.keep e1 e2⟩
def ScrE (h : AH) (b : Nat) : Prop := (∃ st ru ac : Int32, At h b (.inr (5, [.ref (b + 1), .ref (b + 2), .ref (b + 3), .ref (b + 4), .ref (b + 5), .int st, .int ru, .int ac]))) ∧ ArK h (b + 1) 400 ∧ ArI h (b + 2) 400 ∧ ArI h (b + 3) 24 ∧ ArI h (b + 4) 24 ∧ ArI h (b + 5) 24
theorem ScrE.keep {h h' : AH} {b : Nat} (q : ScrE h b) (e : h.1 ≤ h'.1) (u : Un h h' b (b + 6)) : ScrE h' b := by
  obtain ⟨⟨st, ru, ac, a0⟩, a1, a2, a3, a4, a5⟩ := q
  exact ⟨⟨st, ru, ac, a0.keep e (u _ (by omega) (by omega))⟩, a1.keep e (u _ (by omega) (by omega)), a2.keep e (u _ (by omega) (by omega)), a3.keep e (u _ (by omega) (by omega)), a4.keep e (u _ (by omega) (by omega)), a5.keep e (u _ (by omega) (by omega))⟩
def BookE (h : AH) (b : Nat) (la ja li : Int32) : Prop := At h b (.inr (0, [.ref (b + 1), .ref (b + 2), .ref (b + 3), .ref (b + 4), .ref (b + 5), .ref (b + 6), .ref (b + 7), .ref (b + 52), .int la, .int ja, .int li])) ∧ ArJ h (b + 1) 6 ∧ ArJ h (b + 2) 8 ∧ ArJ h (b + 3) 6 ∧ ArI h (b + 4) 6 ∧ ArI h (b + 5) 6 ∧ ArI h (b + 6) 6 ∧ CupS h (b + 7) ∧ ScrE h (b + 52)
theorem BookE.keep {h h' : AH} {b : Nat} {la ja li : Int32} (q : BookE h b la ja li) (e : h.1 ≤ h'.1) (u : Un h h' b (b + 58)) : BookE h' b la ja li := by
  obtain ⟨a0, a1, a2, a3, a4, a5, a6, a7, a8⟩ := q
  exact ⟨a0.keep e (u _ (by omega) (by omega)), a1.keep e (u _ (by omega) (by omega)), a2.keep e (u _ (by omega) (by omega)), a3.keep e (u _ (by omega) (by omega)), a4.keep e (u _ (by omega) (by omega)), a5.keep e (u _ (by omega) (by omega)), a6.keep e (u _ (by omega) (by omega)), a7.keep e (u.sub (by omega) (by omega)), a8.keep e (u.sub (by omega) (by omega))⟩

set_option maxHeartbeats 4000000 in
set_option maxRecDepth 100000 in
theorem s_Script_init (hd : 1 ≤ d) {b : Nat} (a0 : At h b (.inr (5, [.null, .null, .null, .null, .null, .int 0, .int 0, .int 0]))) (hj : h.1 = b + 1) : RQ G mX7_init d 0 [some (.ref b)] [] h (Rv fun h2 => ScrE h2 b ∧ Gw h h2 b 5 872) := by
  refine tX7_init_0  (r := ?_)
  refine tX7_init_1 (hd := (by omega)) (r := ?_)
  refine tX7_init_4  (r := ?_)
  refine tX7_init_5  (r := ?_)
  refine tX7_init_8 (hx := (by first | rfl | assumption | exact nI_add _ _)) (hn := (by decide)) (r := ?_)
  refine RQ.refId (k' := b + 1) (by (first | omega | (simp only [hset, hnew]; omega) | rfl | decide)) ?_
  refine tX7_init_11 (ha := (by first | assumption | (repeat (first | assumption | exact At.set_eq2 (by first | omega | (simp only [hset, hnew]; omega) | rfl | decide) | exact At.new_eq2 _ _ (by first | omega | (simp only [hset, hnew]; omega) | rfl | decide) | refine At.set_ne ?_ (by first | omega | (simp only [hset, hnew]; omega) | rfl | decide) | refine At.new_ne ?_)))) (hlen := rfl) (r := ?_)
  refine tX7_init_14  (r := ?_)
  refine tX7_init_15  (r := ?_)
  refine tX7_init_18 (hx := (by first | rfl | assumption | exact nI_add _ _)) (hn := (by decide)) (r := ?_)
  refine RQ.refId (k' := b + 2) (by (first | omega | (simp only [hset, hnew]; omega) | rfl | decide)) ?_
  refine tX7_init_20 (ha := (by first | assumption | (repeat (first | assumption | exact At.set_eq2 (by first | omega | (simp only [hset, hnew]; omega) | rfl | decide) | exact At.new_eq2 _ _ (by first | omega | (simp only [hset, hnew]; omega) | rfl | decide) | refine At.set_ne ?_ (by first | omega | (simp only [hset, hnew]; omega) | rfl | decide) | refine At.new_ne ?_)))) (hlen := rfl) (r := ?_)
  refine tX7_init_23  (r := ?_)
  refine tX7_init_24  (r := ?_)
  refine tX7_init_26 (hx := (by first | rfl | assumption | exact nI_add _ _)) (hn := (by decide)) (r := ?_)
  refine RQ.refId (k' := b + 3) (by (first | omega | (simp only [hset, hnew]; omega) | rfl | decide)) ?_
  refine tX7_init_28 (ha := (by first | assumption | (repeat (first | assumption | exact At.set_eq2 (by first | omega | (simp only [hset, hnew]; omega) | rfl | decide) | exact At.new_eq2 _ _ (by first | omega | (simp only [hset, hnew]; omega) | rfl | decide) | refine At.set_ne ?_ (by first | omega | (simp only [hset, hnew]; omega) | rfl | decide) | refine At.new_ne ?_)))) (hlen := rfl) (r := ?_)
  refine tX7_init_31  (r := ?_)
  refine tX7_init_32  (r := ?_)
  refine tX7_init_34 (hx := (by first | rfl | assumption | exact nI_add _ _)) (hn := (by decide)) (r := ?_)
  refine RQ.refId (k' := b + 4) (by (first | omega | (simp only [hset, hnew]; omega) | rfl | decide)) ?_
  refine tX7_init_36 (ha := (by first | assumption | (repeat (first | assumption | exact At.set_eq2 (by first | omega | (simp only [hset, hnew]; omega) | rfl | decide) | exact At.new_eq2 _ _ (by first | omega | (simp only [hset, hnew]; omega) | rfl | decide) | refine At.set_ne ?_ (by first | omega | (simp only [hset, hnew]; omega) | rfl | decide) | refine At.new_ne ?_)))) (hlen := rfl) (r := ?_)
  refine tX7_init_39  (r := ?_)
  refine tX7_init_40  (r := ?_)
  refine tX7_init_42 (hx := (by first | rfl | assumption | exact nI_add _ _)) (hn := (by decide)) (r := ?_)
  refine RQ.refId (k' := b + 5) (by (first | omega | (simp only [hset, hnew]; omega) | rfl | decide)) ?_
  refine tX7_init_44 (ha := (by first | assumption | (repeat (first | assumption | exact At.set_eq2 (by first | omega | (simp only [hset, hnew]; omega) | rfl | decide) | exact At.new_eq2 _ _ (by first | omega | (simp only [hset, hnew]; omega) | rfl | decide) | refine At.set_ne ?_ (by first | omega | (simp only [hset, hnew]; omega) | rfl | decide) | refine At.new_ne ?_)))) (hlen := rfl) (r := ?_)
  refine tX7_init_47  (hP := ?_)
  refine ⟨rfl, ⟨⟨0, 0, 0, ?_⟩, ?_, ?_, ?_, ?_, ?_⟩, rfl, rfl, ?_⟩
  · exact At.set_eq2 (by (first | omega | (simp only [hset, hnew]; omega) | rfl | decide))
  · exact ⟨_, by (first | assumption | (repeat (first | assumption | exact At.set_eq2 (by (first | omega | (simp only [hset, hnew]; omega) | rfl | decide)) | exact At.new_eq2 _ _ (by (first | omega | (simp only [hset, hnew]; omega) | rfl | decide)) | refine At.set_ne ?_ (by (first | omega | (simp only [hset, hnew]; omega) | rfl | decide)) | refine At.new_ne ?_)))⟩
  · exact ⟨_, by (first | assumption | (repeat (first | assumption | exact At.set_eq2 (by (first | omega | (simp only [hset, hnew]; omega) | rfl | decide)) | exact At.new_eq2 _ _ (by (first | omega | (simp only [hset, hnew]; omega) | rfl | decide)) | refine At.set_ne ?_ (by (first | omega | (simp only [hset, hnew]; omega) | rfl | decide)) | refine At.new_ne ?_)))⟩
  · exact ⟨_, by (first | assumption | (repeat (first | assumption | exact At.set_eq2 (by (first | omega | (simp only [hset, hnew]; omega) | rfl | decide)) | exact At.new_eq2 _ _ (by (first | omega | (simp only [hset, hnew]; omega) | rfl | decide)) | refine At.set_ne ?_ (by (first | omega | (simp only [hset, hnew]; omega) | rfl | decide)) | refine At.new_ne ?_)))⟩
  · exact ⟨_, by (first | assumption | (repeat (first | assumption | exact At.set_eq2 (by (first | omega | (simp only [hset, hnew]; omega) | rfl | decide)) | exact At.new_eq2 _ _ (by (first | omega | (simp only [hset, hnew]; omega) | rfl | decide)) | refine At.set_ne ?_ (by (first | omega | (simp only [hset, hnew]; omega) | rfl | decide)) | refine At.new_ne ?_)))⟩
  · exact ⟨_, by (first | assumption | (repeat (first | assumption | exact At.set_eq2 (by (first | omega | (simp only [hset, hnew]; omega) | rfl | decide)) | exact At.new_eq2 _ _ (by (first | omega | (simp only [hset, hnew]; omega) | rfl | decide)) | refine At.set_ne ?_ (by (first | omega | (simp only [hset, hnew]; omega) | rfl | decide)) | refine At.new_ne ?_)))⟩
  · (repeat (first | assumption | exact Un.rf _ _ _ | refine Un.set ?_ (by (first | omega | (simp only [hset, hnew]; omega) | rfl | decide)) | refine Un.new ?_ (by (first | omega | (simp only [hset, hnew]; omega) | rfl | decide))))

set_option maxHeartbeats 4000000 in
set_option maxRecDepth 100000 in
theorem s_Tape_init (hd : 1 ≤ d) {b : Nat} (a0 : At h b (.inr (6, [.null, .int 0]))) (hj : h.1 = b + 1) : RQ G mX8_init d 0 [some (.ref b)] [] h (Rv fun h2 => At h2 b (.inr (6, [.ref (b + 1), .int 0])) ∧ ArB h2 (b + 1) 1600 ∧ Gw h h2 b 1 1600) := by
  refine tX8_init_0  (r := ?_)
  refine tX8_init_1 (hd := (by omega)) (r := ?_)
  refine tX8_init_4  (r := ?_)
  refine tX8_init_5  (r := ?_)
  refine tX8_init_8 (hx := (by first | rfl | assumption | exact nI_add _ _)) (hn := (by decide)) (r := ?_)
  refine RQ.refId (k' := b + 1) (by (first | omega | (simp only [hset, hnew]; omega) | rfl | decide)) ?_
  refine tX8_init_10 (ha := (by first | assumption | (repeat (first | assumption | exact At.set_eq2 (by first | omega | (simp only [hset, hnew]; omega) | rfl | decide) | exact At.new_eq2 _ _ (by first | omega | (simp only [hset, hnew]; omega) | rfl | decide) | refine At.set_ne ?_ (by first | omega | (simp only [hset, hnew]; omega) | rfl | decide) | refine At.new_ne ?_)))) (hlen := rfl) (r := ?_)
  refine tX8_init_13  (hP := ?_)
  refine ⟨rfl, ?_, ?_, rfl, rfl, ?_⟩
  · exact At.set_eq2 (by (first | omega | (simp only [hset, hnew]; omega) | rfl | decide))
  · exact ⟨_, by (first | assumption | (repeat (first | assumption | exact At.set_eq2 (by (first | omega | (simp only [hset, hnew]; omega) | rfl | decide)) | exact At.new_eq2 _ _ (by (first | omega | (simp only [hset, hnew]; omega) | rfl | decide)) | refine At.set_ne ?_ (by (first | omega | (simp only [hset, hnew]; omega) | rfl | decide)) | refine At.new_ne ?_)))⟩
  · (repeat (first | assumption | exact Un.rf _ _ _ | refine Un.set ?_ (by (first | omega | (simp only [hset, hnew]; omega) | rfl | decide)) | refine Un.new ?_ (by (first | omega | (simp only [hset, hnew]; omega) | rfl | decide))))

set_option maxHeartbeats 4000000 in
set_option maxRecDepth 100000 in
theorem s_Campaign_init (hd : 1 ≤ d) {b : Nat} (a0 : At h b (.inr (1, [.null, .int 0, .int 0]))) (hj : h.1 = b + 1) : RQ G mX2_init d 0 [some (.ref b)] [] h (Rv fun h2 => At h2 b (.inr (1, [.ref (b + 1), .int 0, .int 0])) ∧ ArI h2 (b + 1) 400 ∧ Gw h h2 b 1 400) := by
  refine tX2_init_0  (r := ?_)
  refine tX2_init_1 (hd := (by omega)) (r := ?_)
  refine tX2_init_4  (r := ?_)
  refine tX2_init_5  (r := ?_)
  refine tX2_init_8 (hx := (by first | rfl | assumption | exact nI_add _ _)) (hn := (by decide)) (r := ?_)
  refine RQ.refId (k' := b + 1) (by (first | omega | (simp only [hset, hnew]; omega) | rfl | decide)) ?_
  refine tX2_init_10 (ha := (by first | assumption | (repeat (first | assumption | exact At.set_eq2 (by first | omega | (simp only [hset, hnew]; omega) | rfl | decide) | exact At.new_eq2 _ _ (by first | omega | (simp only [hset, hnew]; omega) | rfl | decide) | refine At.set_ne ?_ (by first | omega | (simp only [hset, hnew]; omega) | rfl | decide) | refine At.new_ne ?_)))) (hlen := rfl) (r := ?_)
  refine tX2_init_13  (hP := ?_)
  refine ⟨rfl, ?_, ?_, rfl, rfl, ?_⟩
  · exact At.set_eq2 (by (first | omega | (simp only [hset, hnew]; omega) | rfl | decide))
  · exact ⟨_, by (first | assumption | (repeat (first | assumption | exact At.set_eq2 (by (first | omega | (simp only [hset, hnew]; omega) | rfl | decide)) | exact At.new_eq2 _ _ (by (first | omega | (simp only [hset, hnew]; omega) | rfl | decide)) | refine At.set_ne ?_ (by (first | omega | (simp only [hset, hnew]; omega) | rfl | decide)) | refine At.new_ne ?_)))⟩
  · (repeat (first | assumption | exact Un.rf _ _ _ | refine Un.set ?_ (by (first | omega | (simp only [hset, hnew]; omega) | rfl | decide)) | refine Un.new ?_ (by (first | omega | (simp only [hset, hnew]; omega) | rfl | decide))))

set_option maxHeartbeats 4000000 in
set_option maxRecDepth 100000 in
theorem s_Tokens_init (hd : 1 ≤ d) {b : Nat} (a0 : At h b (.inr (7, [.null, .null, .null, .int 0]))) (hj : h.1 = b + 1) : RQ G mX9_init d 0 [some (.ref b)] [] h (Rv fun h2 => At h2 b (.inr (7, [.ref (b + 1), .ref (b + 2), .ref (b + 3), .int 0])) ∧ ArK h2 (b + 1) 401 ∧ ArI h2 (b + 2) 401 ∧ ArJ h2 (b + 3) 401 ∧ Gw h h2 b 3 1203) := by
  refine tX9_init_0  (r := ?_)
  refine tX9_init_1 (hd := (by omega)) (r := ?_)
  refine tX9_init_4  (r := ?_)
  refine tX9_init_5  (r := ?_)
  refine tX9_init_8 (hx := (by first | rfl | assumption | exact nI_add _ _)) (hn := (by decide)) (r := ?_)
  refine RQ.refId (k' := b + 1) (by (first | omega | (simp only [hset, hnew]; omega) | rfl | decide)) ?_
  refine tX9_init_11 (ha := (by first | assumption | (repeat (first | assumption | exact At.set_eq2 (by first | omega | (simp only [hset, hnew]; omega) | rfl | decide) | exact At.new_eq2 _ _ (by first | omega | (simp only [hset, hnew]; omega) | rfl | decide) | refine At.set_ne ?_ (by first | omega | (simp only [hset, hnew]; omega) | rfl | decide) | refine At.new_ne ?_)))) (hlen := rfl) (r := ?_)
  refine tX9_init_14  (r := ?_)
  refine tX9_init_15  (r := ?_)
  refine tX9_init_18 (hx := (by first | rfl | assumption | exact nI_add _ _)) (hn := (by decide)) (r := ?_)
  refine RQ.refId (k' := b + 2) (by (first | omega | (simp only [hset, hnew]; omega) | rfl | decide)) ?_
  refine tX9_init_20 (ha := (by first | assumption | (repeat (first | assumption | exact At.set_eq2 (by first | omega | (simp only [hset, hnew]; omega) | rfl | decide) | exact At.new_eq2 _ _ (by first | omega | (simp only [hset, hnew]; omega) | rfl | decide) | refine At.set_ne ?_ (by first | omega | (simp only [hset, hnew]; omega) | rfl | decide) | refine At.new_ne ?_)))) (hlen := rfl) (r := ?_)
  refine tX9_init_23  (r := ?_)
  refine tX9_init_24  (r := ?_)
  refine tX9_init_27 (hx := (by first | rfl | assumption | exact nI_add _ _)) (hn := (by decide)) (r := ?_)
  refine RQ.refId (k' := b + 3) (by (first | omega | (simp only [hset, hnew]; omega) | rfl | decide)) ?_
  refine tX9_init_29 (ha := (by first | assumption | (repeat (first | assumption | exact At.set_eq2 (by first | omega | (simp only [hset, hnew]; omega) | rfl | decide) | exact At.new_eq2 _ _ (by first | omega | (simp only [hset, hnew]; omega) | rfl | decide) | refine At.set_ne ?_ (by first | omega | (simp only [hset, hnew]; omega) | rfl | decide) | refine At.new_ne ?_)))) (hlen := rfl) (r := ?_)
  refine tX9_init_32  (hP := ?_)
  refine ⟨rfl, ?_, ?_, ?_, ?_, rfl, rfl, ?_⟩
  · exact At.set_eq2 (by (first | omega | (simp only [hset, hnew]; omega) | rfl | decide))
  · exact ⟨_, by (first | assumption | (repeat (first | assumption | exact At.set_eq2 (by (first | omega | (simp only [hset, hnew]; omega) | rfl | decide)) | exact At.new_eq2 _ _ (by (first | omega | (simp only [hset, hnew]; omega) | rfl | decide)) | refine At.set_ne ?_ (by (first | omega | (simp only [hset, hnew]; omega) | rfl | decide)) | refine At.new_ne ?_)))⟩
  · exact ⟨_, by (first | assumption | (repeat (first | assumption | exact At.set_eq2 (by (first | omega | (simp only [hset, hnew]; omega) | rfl | decide)) | exact At.new_eq2 _ _ (by (first | omega | (simp only [hset, hnew]; omega) | rfl | decide)) | refine At.set_ne ?_ (by (first | omega | (simp only [hset, hnew]; omega) | rfl | decide)) | refine At.new_ne ?_)))⟩
  · exact ⟨_, by (first | assumption | (repeat (first | assumption | exact At.set_eq2 (by (first | omega | (simp only [hset, hnew]; omega) | rfl | decide)) | exact At.new_eq2 _ _ (by (first | omega | (simp only [hset, hnew]; omega) | rfl | decide)) | refine At.set_ne ?_ (by (first | omega | (simp only [hset, hnew]; omega) | rfl | decide)) | refine At.new_ne ?_)))⟩
  · (repeat (first | assumption | exact Un.rf _ _ _ | refine Un.set ?_ (by (first | omega | (simp only [hset, hnew]; omega) | rfl | decide)) | refine Un.new ?_ (by (first | omega | (simp only [hset, hnew]; omega) | rfl | decide))))

end S2
