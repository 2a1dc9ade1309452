/-! the reference's count: its loops -/
section RQX
variable {G : GT} {d : Nat} {s : ST} {h0 : AH}

set_option maxHeartbeats 4000000 in
set_option maxRecDepth 100000 in
theorem s_refdiv (hd : 1 ≤ d) (hb : BDok s.2.2.1 s.2.2.2) {th : Int32} {se : Nat} {f : Nat → Int32} {q : Nat → Nat} (hf : ∀ k, k < 6 → f k = nI (q k)) (hq : ∀ k, k < 6 → q k ≤ 1200) (hz : ∀ k, bLa s.2.2.1 ≤ k → k < 6 → q k = 0) (hla : 1 ≤ bLa s.2.2.1) (hse : se ≤ 9) {x1 x2 : Option Value} : ∀ (n i : Nat) (h : AH) (g : Nat → Int32), se ≤ i + n → i ≤ se → MoT h 216 th s → At h (216 + 50) (.inl (0, 6, .inl f)) → At h (216 + 51) (.inl (0, 6, .inl g)) → (∀ k, k < 6 → g k = nI (dvN q i k)) → Sm h0 h (216 + 50) (216 + 52) → RQ G mX12_count d 95 [some (.ref 216), x1, x2, some (.int (nI se)), some (.int (nI i))] [] h (Ri fun v h1 => v = nI 0 ∧ MoT h1 216 th s ∧ (∃ g, At h1 (216 + 51) (.inl (0, 6, .inl g)) ∧ ∀ k, k < 6 → g k = nI (dvN q se k)) ∧ Sm h0 h1 (216 + 50) (216 + 52)) := by
  have ex : ∀ (i : Nat) (h : AH) (g : Nat → Int32), i = se → MoT h 216 th s → At h (216 + 50) (.inl (0, 6, .inl f)) → At h (216 + 51) (.inl (0, 6, .inl g)) → (∀ k, k < 6 → g k = nI (dvN q i k)) → Sm h0 h (216 + 50) (216 + 52) → RQ G mX12_count d 95 [some (.ref 216), x1, x2, some (.int (nI se)), some (.int (nI i))] [] h (Ri fun v h1 => v = nI 0 ∧ MoT h1 216 th s ∧ (∃ g, At h1 (216 + 51) (.inl (0, 6, .inl g)) ∧ ∀ k, k < 6 → g k = nI (dvN q se k)) ∧ Sm h0 h1 (216 + 50) (216 + 52)) := by
    intro i h g hi c2 ai aw hg sm
    subst hi
    obtain ⟨⟨tk, iw, er, et, dp, nm, am⟩, -⟩ := id c2
    have l51 := aw.1
    have lm := am.1
    refine tX12_count_95  (r := ?_)
    refine tX12_count_97  (r := ?_)
    refine tX12_count_98  (kf := fun c_ => by exfalso; exact c_ ((nI_leI (by omega) (by omega)).mpr (Nat.le_refl _))) (kt := fun _ => ?_)
    refine tX12_count_120  (r := ?_)
    refine tX12_count_121  (hP := ?_)
    exact ⟨_, rfl, rfl, c2, ⟨g, aw, hg⟩, sm⟩
  intro n
  induction n with
  | zero => exact fun i h g h1_ h2_ => ex i h g (by omega)
  | succ n ih =>
    intro i h g h1_ h2_ c2 ai aw hg sm
    by_cases hi : i = se
    · exact ex i h g hi c2 ai aw hg sm
    have hi2 : i < se := by omega
    obtain ⟨⟨tk, iw, er, et, dp, nm, am⟩, -⟩ := id c2
    have l51 := aw.1
    have lm := am.1
    refine tX12_count_95  (r := ?_)
    refine tX12_count_97  (r := ?_)
    refine tX12_count_98  (kt := fun c_ => by exfalso; exact absurd ((nI_leI (by omega) (by omega)).mp c_) (by omega)) (kf := fun _ => ?_)
    refine tX12_count_101  (r := ?_)
    refine tX12_count_102 (ha := (by first | assumption | (repeat (first | assumption | exact At.set_eq2 (by first | omega | (simp only [hset, hnew]; omega) | rfl | decide) | exact At.new_eq2 _ _ (by first | omega | (simp only [hset, hnew]; omega) | rfl | decide) | refine At.set_ne ?_ (by first | omega | (simp only [hset, hnew]; omega) | rfl | decide) | refine At.new_ne ?_)))) (hv := rfl) (r := ?_)
    refine tX12_count_105  (r := ?_)
    refine tX12_count_106 (hd := (by omega)) (ha := (by first | assumption | (repeat (first | assumption | exact At.set_eq2 (by first | omega | (simp only [hset, hnew]; omega) | rfl | decide) | exact At.new_eq2 _ _ (by first | omega | (simp only [hset, hnew]; omega) | rfl | decide) | refine At.set_ne ?_ (by first | omega | (simp only [hset, hnew]; omega) | rfl | decide) | refine At.new_ne ?_)))) (call := s_dividing (d := 0) c2 hb ai aw hf hg hq (fun k hk => by have := dvN_le q i k; omega) hz hla) (k := ?_)
    rintro v h_ ⟨rfl, e9⟩
    rw [e9]
    have b6 : bestD q (dvN q i) 6 < 6 := bestD_lt (Nat.le_refl _)
    refine tX12_count_109  (r := ?_)
    refine tX12_count_110 (ha := (by first | assumption | (repeat (first | assumption | exact At.set_eq2 (by first | omega | (simp only [hset, hnew]; omega) | rfl | decide) | exact At.new_eq2 _ _ (by first | omega | (simp only [hset, hnew]; omega) | rfl | decide) | refine At.set_ne ?_ (by first | omega | (simp only [hset, hnew]; omega) | rfl | decide) | refine At.new_ne ?_)))) (hx := rfl) (hj := b6) (hn := (by decide)) (r := ?_)
    rw [hg _ b6]
    refine tX12_count_111  (r := ?_)
    refine tX12_count_112  (r := ?_)
    rw [nI_add]
    refine tX12_count_113 (ha := (by first | assumption | (repeat (first | assumption | exact At.set_eq2 (by first | omega | (simp only [hset, hnew]; omega) | rfl | decide) | exact At.new_eq2 _ _ (by first | omega | (simp only [hset, hnew]; omega) | rfl | decide) | refine At.set_ne ?_ (by first | omega | (simp only [hset, hnew]; omega) | rfl | decide) | refine At.new_ne ?_)))) (hx := rfl) (hj := b6) (hn := (by decide)) (r := ?_)
    refine tX12_count_114  (r := ?_)
    rw [nI_add]
    refine tX12_count_117 (r := ?_)
    refine ih (i + 1) _ _ (by omega) (by omega) (c2.won _) (by (first | assumption | (repeat (first | assumption | exact At.set_eq2 (by (first | omega | (simp only [hset, hnew]; omega) | rfl | decide)) | exact At.new_eq2 _ _ (by (first | omega | (simp only [hset, hnew]; omega) | rfl | decide)) | refine At.set_ne ?_ (by (first | omega | (simp only [hset, hnew]; omega) | rfl | decide)) | refine At.new_ne ?_)))) (At.set_eq2 l51) (fun k hk => ?_) (sm.set (by omega) (by omega))
    show (if k = bestD q (dvN q i) 6 then _ else g k) = nI (if k = bestD q (dvN q i) 6 then dvN q i k + 1 else dvN q i k)
    by_cases e : k = bestD q (dvN q i) 6
    · rw [if_pos e, if_pos e, e]
    · rw [if_neg e, if_neg e, hg k hk]

set_option maxHeartbeats 4000000 in
set_option maxRecDepth 100000 in
theorem s_refzero {th : Int32} {x1 x2 x3 : Option Value} (o3 : ok1 x3 = true) {P : OC → AH → Prop} (kk : ∀ (h : AH) (g : Nat → Int32), MoT h 216 th s → At h (216 + 51) (.inl (0, 6, .inl g)) → (∀ k, k < 6 → g k = nI 0) → Sm h0 h (216 + 51) (216 + 52) → RQ G mX12_count d 40 [some (.ref 216), x1, x2, x3, some (.int (nI 6))] [] h P) : ∀ (n i : Nat) (h : AH) (g : Nat → Int32), 6 ≤ i + n → i ≤ 6 → MoT h 216 th s → At h (216 + 51) (.inl (0, 6, .inl g)) → (∀ k, k < i → g k = nI 0) → Sm h0 h (216 + 51) (216 + 52) → RQ G mX12_count d 19 [some (.ref 216), x1, x2, x3, some (.int (nI i))] [] h (P) := by
  have ex : ∀ (i : Nat) (h : AH) (g : Nat → Int32), i = 6 → MoT h 216 th s → At h (216 + 51) (.inl (0, 6, .inl g)) → (∀ k, k < i → g k = nI 0) → Sm h0 h (216 + 51) (216 + 52) → RQ G mX12_count d 19 [some (.ref 216), x1, x2, x3, some (.int (nI i))] [] h (P) := by
    intro i h g hi c2 aw hg sm
    subst hi
    obtain ⟨⟨tk, iw, er, et, dp, nm, am⟩, -⟩ := id c2
    have l51 := aw.1
    have lm := am.1
    refine tX12_count_19  (r := ?_)
    refine tX12_count_21  (r := ?_)
    refine tX12_count_23  (kf := fun c_ => by exfalso; exact c_ (by decide)) (kt := fun _ => ?_)
    exact kk h g c2 aw hg sm
  intro n
  induction n with
  | zero => exact fun i h g h1_ h2_ => ex i h g (by omega)
  | succ n ih =>
    intro i h g h1_ h2_ c2 aw hg sm
    by_cases hi : i = 6
    · exact ex i h g hi c2 aw hg sm
    have hi2 : i < 6 := by omega
    obtain ⟨⟨tk, iw, er, et, dp, nm, am⟩, -⟩ := id c2
    have l51 := aw.1
    have lm := am.1
    refine tX12_count_19  (r := ?_)
    refine tX12_count_21  (r := ?_)
    refine tX12_count_23  (kt := fun c_ => by exfalso; exact absurd ((nI_leI (by decide) (by omega)).mp c_) (by omega)) (kf := fun _ => ?_)
    refine tX12_count_26  (r := ?_)
    refine tX12_count_27 (ha := (by first | assumption | (repeat (first | assumption | exact At.set_eq2 (by first | omega | (simp only [hset, hnew]; omega) | rfl | decide) | exact At.new_eq2 _ _ (by first | omega | (simp only [hset, hnew]; omega) | rfl | decide) | refine At.set_ne ?_ (by first | omega | (simp only [hset, hnew]; omega) | rfl | decide) | refine At.new_ne ?_)))) (hv := rfl) (r := ?_)
    refine tX12_count_30  (r := ?_)
    refine tX12_count_32  (r := ?_)
    refine tX12_count_33 (ha := (by first | assumption | (repeat (first | assumption | exact At.set_eq2 (by first | omega | (simp only [hset, hnew]; omega) | rfl | decide) | exact At.new_eq2 _ _ (by first | omega | (simp only [hset, hnew]; omega) | rfl | decide) | refine At.set_ne ?_ (by first | omega | (simp only [hset, hnew]; omega) | rfl | decide) | refine At.new_ne ?_)))) (hx := rfl) (hj := (by omega)) (hn := (by decide)) (r := ?_)
    refine tX12_count_34 (ho := o3) (r := ?_)
    rw [nI_add]
    refine tX12_count_37 (r := ?_)
    refine ih (i + 1) _ _ (by omega) (by omega) (c2.won _) (At.set_eq2 l51) (fun k hk => ?_) (sm.set (by omega) (by omega))
    by_cases e : k = i
    · subst e
      exact if_pos rfl
    · exact (if_neg e).trans (hg k (by omega))

end RQX
