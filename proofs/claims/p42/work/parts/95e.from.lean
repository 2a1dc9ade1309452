/-! the class reads all tokens -/
theorem ki_lt {T : List Nat} {p e : Nat} : kiT T p e < 43 := by
  unfold kiT
  split
  · decide
  · cases ef : fnN (wdT T p e) 1 43 with
    | some k => exact (fnN_some ef).1
    | none =>
      show (if ltT T p = true ∧ e - p ≤ 8 then 39 else if dgT T p = true ∧ e - p ≤ 4 then 40 else 42) < 43
      split
      · decide
      · split <;> decide
theorem kk_lt {T : List Nat} {k : Nat} : kkT T k < 43 := by
  unfold kkT
  split
  · decide
  · exact ki_lt
theorem kk_ki {T : List Nat} {k v : Nat} (h : kkT T k = v) (hv : v ≠ 42) : kiT T (stT T k) (edT T k) = v := by
  unfold kkT at h
  split at h
  · exact absurd h.symm hv
  · exact h
theorem kk_39 {T : List Nat} {k : Nat} (h : kkT T k = 39) : ∀ j, j < edT T k - stT T k → ltT T (stT T k + j) = true := by
  have h1 := kk_ki h (by decide)
  have r := en_rng (T := T) (p := stT T k)
  have q := ki_39 (Or.inl h1) r.1
  exact r.2.2.2.1 (q.2.1 h1).1
theorem kk_40 {T : List Nat} {k : Nat} (h : kkT T k = 40) : ∀ j, j < edT T k - stT T k → dgT T (stT T k + j) = true := by
  have h1 := kk_ki h (by decide)
  have r := en_rng (T := T) (p := stT T k)
  have q := ki_39 (Or.inr h1) r.1
  have dg := (q.2.2.2 h1).1
  exact r.2.2.2.2 (lt_dg dg) dg
/-- the first k tokens lie there -/
def KnX (h : AH) (b : Nat) (T : List Nat) (k : Nat) : Prop := At h b (.inr (7, [.ref (b + 1), .ref (b + 2), .ref (b + 3), .int (nI k)])) ∧ (∃ f : Nat → Option Nat, At h (b + 1) (.inl (4, 401, .inr (.inr (.inr (.inr f))))) ∧ ∀ j, j < k → f j = some (OLD + kkT T j)) ∧ (∃ f : Nat → Int32, At h (b + 2) (.inl (0, 401, .inl f)) ∧ ∀ j, j < k → f j = nI (stT T j)) ∧ ∃ f : Nat → Int64, At h (b + 3) (.inl (2, 401, .inr (.inl f))) ∧ ∀ j, j < k → f j = nL (vvK T j)
theorem TaR.sm9 {h h1 : AH} {t lo hi : Nat} {T : List Nat} (q : TaR h t T) (sm : Sm h h1 lo hi) (e : t + 2 ≤ lo ∨ hi ≤ t) : TaR h1 t T := by
  obtain ⟨a0, l, f, a1, c⟩ := q
  exact ⟨sm.at a0 (by omega), l, f, sm.at a1 (by omega), c⟩
section TAF
variable {G : GT} {d : Nat} {h h0 : AH} {t b : Nat} {T : List Nat} {P : OC → AH → Prop}

set_option maxHeartbeats 4000000 in
set_option maxRecDepth 100000 in
theorem s_rf71 (hd : 4 ≤ d) (ta : TaR h t T) (hdj : t + 2 ≤ b ∨ b + 4 ≤ t) {k : Nat} (hk : k ≤ 400) (kn : KnX h b T k) (hst : stT T k ≤ T.length) (kk : ∀ h1 (x4 x5 : Option Value), ok1 x4 = true → ok1 x5 = true → KnX h1 b T (k + 1) → Sm h h1 b (b + 4) → RQ G mX9_readFrom d 9 [some (.ref b), some (.ref t), some (.int (nI (if kkT T k = 41 ∨ kkT T k = 42 then 0 else 1))), some (.int (nI (edT T k))), x4, x5] [] h1 P) : RQ G mX9_readFrom d 71 [some (.ref b), some (.ref t), some (.int (nI 1)), some (.int (nI (stT T k))), some (.int (nI (edT T k))), some (.ref (OLD + kkT T k))] [] h P := by
  obtain ⟨a0, l16, f, a1, hf⟩ := id ta
  obtain ⟨k0, ⟨f1, k1, c1⟩, ⟨f2, k2, c2⟩, ⟨f3, k3, c3⟩⟩ := id kn
  have z0 := k0.1
  have z1 := k1.1
  have z2 := k2.1
  have z3 := k3.1
  have kl := kk_lt (T := T) (k := k)
  have er := en_rng (T := T) (p := stT T k)
  have ta2 := ta.sm9 (((Sm.rf h b (b + 4)).set (i := b + 1) (c := (.inl (4, 401, .inr (.inr (.inr (.inr (va_up f1 k (some (OLD + kkT T k))))))))) (by omega) (by omega)).set (i := b + 2) (c := (.inl (0, 401, .inl (upd f2 k (nI (stT T k)))))) (by omega) (by omega)) (by omega)
  have at2 := ta2.1
  refine tX9_readFrom_71  (r := ?_)
  refine tX9_readFrom_72 (ha := (by first | assumption | (repeat (first | assumption | exact At.set_eq2 (by first | omega | (simp only [hset, hnew]; omega) | rfl | decide) | exact At.new_eq2 _ _ (by first | omega | (simp only [hset, hnew]; omega) | rfl | decide) | refine At.set_ne ?_ (by first | omega | (simp only [hset, hnew]; omega) | rfl | decide) | refine At.new_ne ?_)))) (hv := rfl) (r := ?_)
  refine tX9_readFrom_75  (r := ?_)
  refine tX9_readFrom_76 (ha := (by first | assumption | (repeat (first | assumption | exact At.set_eq2 (by first | omega | (simp only [hset, hnew]; omega) | rfl | decide) | exact At.new_eq2 _ _ (by first | omega | (simp only [hset, hnew]; omega) | rfl | decide) | refine At.set_ne ?_ (by first | omega | (simp only [hset, hnew]; omega) | rfl | decide) | refine At.new_ne ?_)))) (hv := rfl) (r := ?_)
  refine tX9_readFrom_79  (r := ?_)
  refine tX9_readFrom_81 (ha := (by first | assumption | (repeat (first | assumption | exact At.set_eq2 (by first | omega | (simp only [hset, hnew]; omega) | rfl | decide) | exact At.new_eq2 _ _ (by first | omega | (simp only [hset, hnew]; omega) | rfl | decide) | refine At.set_ne ?_ (by first | omega | (simp only [hset, hnew]; omega) | rfl | decide) | refine At.new_ne ?_)))) (hb := kl) (hx := rfl) (hj := (by omega)) (hn := (by decide)) (r := ?_)
  refine tX9_readFrom_82  (r := ?_)
  refine tX9_readFrom_83 (ha := (by first | assumption | (repeat (first | assumption | exact At.set_eq2 (by first | omega | (simp only [hset, hnew]; omega) | rfl | decide) | exact At.new_eq2 _ _ (by first | omega | (simp only [hset, hnew]; omega) | rfl | decide) | refine At.set_ne ?_ (by first | omega | (simp only [hset, hnew]; omega) | rfl | decide) | refine At.new_ne ?_)))) (hv := rfl) (r := ?_)
  refine tX9_readFrom_86  (r := ?_)
  refine tX9_readFrom_87 (ha := (by first | assumption | (repeat (first | assumption | exact At.set_eq2 (by first | omega | (simp only [hset, hnew]; omega) | rfl | decide) | exact At.new_eq2 _ _ (by first | omega | (simp only [hset, hnew]; omega) | rfl | decide) | refine At.set_ne ?_ (by first | omega | (simp only [hset, hnew]; omega) | rfl | decide) | refine At.new_ne ?_)))) (hv := rfl) (r := ?_)
  refine tX9_readFrom_90  (r := ?_)
  refine tX9_readFrom_91 (ha := (by first | assumption | (repeat (first | assumption | exact At.set_eq2 (by first | omega | (simp only [hset, hnew]; omega) | rfl | decide) | exact At.new_eq2 _ _ (by first | omega | (simp only [hset, hnew]; omega) | rfl | decide) | refine At.set_ne ?_ (by first | omega | (simp only [hset, hnew]; omega) | rfl | decide) | refine At.new_ne ?_)))) (hx := rfl) (hj := (by omega)) (hn := (by decide)) (r := ?_)
  refine tX9_readFrom_92  (r := ?_)
  refine tX9_readFrom_93 (ha := (by first | assumption | (repeat (first | assumption | exact At.set_eq2 (by first | omega | (simp only [hset, hnew]; omega) | rfl | decide) | exact At.new_eq2 _ _ (by first | omega | (simp only [hset, hnew]; omega) | rfl | decide) | refine At.set_ne ?_ (by first | omega | (simp only [hset, hnew]; omega) | rfl | decide) | refine At.new_ne ?_)))) (hv := rfl) (r := ?_)
  refine tX9_readFrom_96  (r := ?_)
  refine tX9_readFrom_97 (ha := (by first | assumption | (repeat (first | assumption | exact At.set_eq2 (by first | omega | (simp only [hset, hnew]; omega) | rfl | decide) | exact At.new_eq2 _ _ (by first | omega | (simp only [hset, hnew]; omega) | rfl | decide) | refine At.set_ne ?_ (by first | omega | (simp only [hset, hnew]; omega) | rfl | decide) | refine At.new_ne ?_)))) (hv := rfl) (r := ?_)
  refine tX9_readFrom_100  (r := ?_)
  refine tX9_readFrom_101  (r := ?_)
  refine tX9_readFrom_102  (r := ?_)
  refine tX9_readFrom_104  (r := ?_)
  refine tX9_readFrom_105  (r := ?_)
  refine tX9_readFrom_107 (hd := (by omega)) (ha := (by first | assumption | (repeat (first | assumption | exact At.set_eq2 (by first | omega | (simp only [hset, hnew]; omega) | rfl | decide) | exact At.new_eq2 _ _ (by first | omega | (simp only [hset, hnew]; omega) | rfl | decide) | refine At.set_ne ?_ (by first | omega | (simp only [hset, hnew]; omega) | rfl | decide) | refine At.new_ne ?_)))) (call := s_valueOf (d := 2) (b := b) (by decide) ta2 kl (by omega) ⟨Nat.le_of_lt er.1, by show enT T (stT T k) ≤ 3000; omega⟩ kk_39 kk_40) (k := ?_)
  rintro x_ h_ ⟨hx_, e_⟩
  rw [e_, hx_]
  refine tX9_readFrom_110 (ha := (by first | assumption | (repeat (first | assumption | exact At.set_eq2 (by first | omega | (simp only [hset, hnew]; omega) | rfl | decide) | exact At.new_eq2 _ _ (by first | omega | (simp only [hset, hnew]; omega) | rfl | decide) | refine At.set_ne ?_ (by first | omega | (simp only [hset, hnew]; omega) | rfl | decide) | refine At.new_ne ?_)))) (hx := rfl) (hj := (by omega)) (hn := (by decide)) (r := ?_)
  refine tX9_readFrom_111  (r := ?_)
  refine tX9_readFrom_113  (r := ?_)
  refine tX9_readFrom_116 (hi := kl) (hj := (by omega)) (kt := fun c_116 => ?_) (kf := fun c_116 => ?_)
  · have ev : (if kkT T k = 41 ∨ kkT T k = 42 then 0 else 1) = 0 := if_pos (Or.inl c_116)
    refine tX9_readFrom_131  (r := ?_)
    refine tX9_readFrom_132  (r := ?_)
    refine tX9_readFrom_133  (r := ?_)
    refine tX9_readFrom_135  (r := ?_)
    refine tX9_readFrom_136  (r := ?_)
    refine tX9_readFrom_137  (r := ?_)
    refine tX9_readFrom_138 (ha := (by first | assumption | (repeat (first | assumption | exact At.set_eq2 (by first | omega | (simp only [hset, hnew]; omega) | rfl | decide) | exact At.new_eq2 _ _ (by first | omega | (simp only [hset, hnew]; omega) | rfl | decide) | refine At.set_ne ?_ (by first | omega | (simp only [hset, hnew]; omega) | rfl | decide) | refine At.new_ne ?_)))) (hv := rfl) (r := ?_)
    refine tX9_readFrom_141  (r := ?_)
    refine tX9_readFrom_142  (r := ?_)
    rw [nI_add]
    refine tX9_readFrom_143 (ha := (by first | assumption | (repeat (first | assumption | exact At.set_eq2 (by first | omega | (simp only [hset, hnew]; omega) | rfl | decide) | exact At.new_eq2 _ _ (by first | omega | (simp only [hset, hnew]; omega) | rfl | decide) | refine At.set_ne ?_ (by first | omega | (simp only [hset, hnew]; omega) | rfl | decide) | refine At.new_ne ?_)))) (hlen := rfl) (r := ?_)
    refine tX9_readFrom_146 (r := ?_)
    rw [ev] at kk
    refine kk _ _ _ rfl rfl ⟨At.set_eq2 z0, ⟨_, At.set_ne (At.set_ne (At.set_ne (At.set_eq2 z1) (by omega)) (by omega)) (by omega), fun j hj => ?_⟩, ⟨_, At.set_ne (At.set_ne (At.set_eq2 z2) (by omega)) (by omega), fun j hj => ?_⟩, ⟨_, At.set_ne (At.set_eq2 z3) (by omega), fun j hj => ?_⟩⟩ (((((Sm.rf h b (b + 4)).set (i := b + 1) (c := (.inl (4, 401, .inr (.inr (.inr (.inr (va_up f1 k (some (OLD + kkT T k))))))))) (by omega) (by omega)).set (i := b + 2) (c := (.inl (0, 401, .inl (upd f2 k (nI (stT T k)))))) (by omega) (by omega)).set (by omega) (by omega)).set (by omega) (by omega))
    · show (if j = k then some (OLD + kkT T k) else f1 j) = _
      by_cases q : j = k
      · rw [if_pos q, q]
      · rw [if_neg q]
        exact c1 j (by omega)
    · show (if j = k then nI (stT T k) else f2 j) = _
      by_cases q : j = k
      · rw [if_pos q, q]
      · rw [if_neg q]
        exact c2 j (by omega)
    · show (if j = k then nL (vaT T (kkT T k) (stT T k) (edT T k)) else f3 j) = _
      by_cases q : j = k
      · rw [if_pos q, q]
        rfl
      · rw [if_neg q]
        exact c3 j (by omega)
  · refine tX9_readFrom_119  (r := ?_)
    refine tX9_readFrom_121  (r := ?_)
    refine tX9_readFrom_124 (hi := kl) (hj := (by omega)) (kt := fun c_124 => ?_) (kf := fun c_124 => ?_)
    · have ev : (if kkT T k = 41 ∨ kkT T k = 42 then 0 else 1) = 0 := if_pos (Or.inr c_124)
      refine tX9_readFrom_131  (r := ?_)
      refine tX9_readFrom_132  (r := ?_)
      refine tX9_readFrom_133  (r := ?_)
      refine tX9_readFrom_135  (r := ?_)
      refine tX9_readFrom_136  (r := ?_)
      refine tX9_readFrom_137  (r := ?_)
      refine tX9_readFrom_138 (ha := (by first | assumption | (repeat (first | assumption | exact At.set_eq2 (by first | omega | (simp only [hset, hnew]; omega) | rfl | decide) | exact At.new_eq2 _ _ (by first | omega | (simp only [hset, hnew]; omega) | rfl | decide) | refine At.set_ne ?_ (by first | omega | (simp only [hset, hnew]; omega) | rfl | decide) | refine At.new_ne ?_)))) (hv := rfl) (r := ?_)
      refine tX9_readFrom_141  (r := ?_)
      refine tX9_readFrom_142  (r := ?_)
      rw [nI_add]
      refine tX9_readFrom_143 (ha := (by first | assumption | (repeat (first | assumption | exact At.set_eq2 (by first | omega | (simp only [hset, hnew]; omega) | rfl | decide) | exact At.new_eq2 _ _ (by first | omega | (simp only [hset, hnew]; omega) | rfl | decide) | refine At.set_ne ?_ (by first | omega | (simp only [hset, hnew]; omega) | rfl | decide) | refine At.new_ne ?_)))) (hlen := rfl) (r := ?_)
      refine tX9_readFrom_146 (r := ?_)
      rw [ev] at kk
      refine kk _ _ _ rfl rfl ⟨At.set_eq2 z0, ⟨_, At.set_ne (At.set_ne (At.set_ne (At.set_eq2 z1) (by omega)) (by omega)) (by omega), fun j hj => ?_⟩, ⟨_, At.set_ne (At.set_ne (At.set_eq2 z2) (by omega)) (by omega), fun j hj => ?_⟩, ⟨_, At.set_ne (At.set_eq2 z3) (by omega), fun j hj => ?_⟩⟩ (((((Sm.rf h b (b + 4)).set (i := b + 1) (c := (.inl (4, 401, .inr (.inr (.inr (.inr (va_up f1 k (some (OLD + kkT T k))))))))) (by omega) (by omega)).set (i := b + 2) (c := (.inl (0, 401, .inl (upd f2 k (nI (stT T k)))))) (by omega) (by omega)).set (by omega) (by omega)).set (by omega) (by omega))
      · show (if j = k then some (OLD + kkT T k) else f1 j) = _
        by_cases q : j = k
        · rw [if_pos q, q]
        · rw [if_neg q]
          exact c1 j (by omega)
      · show (if j = k then nI (stT T k) else f2 j) = _
        by_cases q : j = k
        · rw [if_pos q, q]
        · rw [if_neg q]
          exact c2 j (by omega)
      · show (if j = k then nL (vaT T (kkT T k) (stT T k) (edT T k)) else f3 j) = _
        by_cases q : j = k
        · rw [if_pos q, q]
          rfl
        · rw [if_neg q]
          exact c3 j (by omega)
    · have ev : (if kkT T k = 41 ∨ kkT T k = 42 then 0 else 1) = 1 := if_neg (fun z => z.elim c_116 c_124)
      refine tX9_readFrom_127  (r := ?_)
      refine tX9_readFrom_128 (r := ?_)
      refine tX9_readFrom_132  (r := ?_)
      refine tX9_readFrom_133  (r := ?_)
      refine tX9_readFrom_135  (r := ?_)
      refine tX9_readFrom_136  (r := ?_)
      refine tX9_readFrom_137  (r := ?_)
      refine tX9_readFrom_138 (ha := (by first | assumption | (repeat (first | assumption | exact At.set_eq2 (by first | omega | (simp only [hset, hnew]; omega) | rfl | decide) | exact At.new_eq2 _ _ (by first | omega | (simp only [hset, hnew]; omega) | rfl | decide) | refine At.set_ne ?_ (by first | omega | (simp only [hset, hnew]; omega) | rfl | decide) | refine At.new_ne ?_)))) (hv := rfl) (r := ?_)
      refine tX9_readFrom_141  (r := ?_)
      refine tX9_readFrom_142  (r := ?_)
      rw [nI_add]
      refine tX9_readFrom_143 (ha := (by first | assumption | (repeat (first | assumption | exact At.set_eq2 (by first | omega | (simp only [hset, hnew]; omega) | rfl | decide) | exact At.new_eq2 _ _ (by first | omega | (simp only [hset, hnew]; omega) | rfl | decide) | refine At.set_ne ?_ (by first | omega | (simp only [hset, hnew]; omega) | rfl | decide) | refine At.new_ne ?_)))) (hlen := rfl) (r := ?_)
      refine tX9_readFrom_146 (r := ?_)
      rw [ev] at kk
      refine kk _ _ _ rfl rfl ⟨At.set_eq2 z0, ⟨_, At.set_ne (At.set_ne (At.set_ne (At.set_eq2 z1) (by omega)) (by omega)) (by omega), fun j hj => ?_⟩, ⟨_, At.set_ne (At.set_ne (At.set_eq2 z2) (by omega)) (by omega), fun j hj => ?_⟩, ⟨_, At.set_ne (At.set_eq2 z3) (by omega), fun j hj => ?_⟩⟩ (((((Sm.rf h b (b + 4)).set (i := b + 1) (c := (.inl (4, 401, .inr (.inr (.inr (.inr (va_up f1 k (some (OLD + kkT T k))))))))) (by omega) (by omega)).set (i := b + 2) (c := (.inl (0, 401, .inl (upd f2 k (nI (stT T k)))))) (by omega) (by omega)).set (by omega) (by omega)).set (by omega) (by omega))
      · show (if j = k then some (OLD + kkT T k) else f1 j) = _
        by_cases q : j = k
        · rw [if_pos q, q]
        · rw [if_neg q]
          exact c1 j (by omega)
      · show (if j = k then nI (stT T k) else f2 j) = _
        by_cases q : j = k
        · rw [if_pos q, q]
        · rw [if_neg q]
          exact c2 j (by omega)
      · show (if j = k then nL (vaT T (kkT T k) (stT T k) (edT T k)) else f3 j) = _
        by_cases q : j = k
        · rw [if_pos q, q]
          rfl
        · rw [if_neg q]
          exact c3 j (by omega)

end TAF
