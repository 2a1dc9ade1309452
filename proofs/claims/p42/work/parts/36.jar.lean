/-! a jar counts -/
section JA
variable {G : GT} {d : Nat} {j A : Nat} {h0 : AH}
/-- changes from lo to hi alone, nothing new -/
def Sm (h h1 : AH) (lo hi : Nat) : Prop := h1.1 = h.1 ∧ h1.2.1 = h.2.1 ∧ Un h h1 0 lo ∧ Un h h1 hi h.1
theorem Sm.rf (h : AH) (lo hi : Nat) : Sm h h lo hi := ⟨rfl, rfl, Un.rf _ _ _, Un.rf _ _ _⟩
theorem Sm.set {h h1 : AH} {lo hi i : Nat} {c : AC} (a : Sm h h1 lo hi) (e1 : lo ≤ i) (e2 : i < hi) : Sm h (hset h1 i c) lo hi := ⟨a.1, a.2.1, Un.set a.2.2.1 (Or.inr e1), Un.set a.2.2.2 (Or.inl e2)⟩
theorem Sm.trans {h h1 h2 : AH} {lo hi : Nat} (a : Sm h h1 lo hi) (b : Sm h1 h2 lo hi) : Sm h h2 lo hi := ⟨b.1.trans a.1, b.2.1.trans a.2.1, a.2.2.1.trans b.2.2.1, a.2.2.2.trans (b.2.2.2.sub (Nat.le_refl _) (by rw [a.1]; exact Nat.le_refl _))⟩
theorem Sm.sub {h h1 : AH} {lo hi lo2 hi2 : Nat} (a : Sm h h1 lo hi) (p1 : lo2 ≤ lo) (p2 : hi ≤ hi2) : Sm h h1 lo2 hi2 := ⟨a.1, a.2.1, a.2.2.1.sub (Nat.le_refl _) p1, a.2.2.2.sub p2 (Nat.le_refl _)⟩
theorem Sm.at {h h1 : AH} {lo hi i : Nat} {c : AC} (a : Sm h h1 lo hi) (q : At h i c) (e : i < lo ∨ hi ≤ i) : At h1 i c := q.keep (by rw [a.1]; exact Nat.le_refl _) (e.elim (fun e => a.2.2.1 _ (Nat.zero_le _) e) (fun e => a.2.2.2 _ e q.1))
theorem su_le {f : Nat → Nat} : ∀ {n i : Nat}, i ≤ n → su f i ≤ su f n
  | 0, 0, _ => Nat.le_refl _
  | n + 1, i, h => by
    by_cases e : i = n + 1
    · subst e
      exact Nat.le_refl _
    · exact Nat.le_trans (su_le (n := n) (by omega)) (Nat.le_add_right _ _)
theorem su_if {r b : Nat → Nat} {k : Nat} : ∀ n, su (fun i => if r i = k then b i else 0) n ≤ su b n
  | 0 => Nat.le_refl _
  | n + 1 => by
    have := su_if (r := r) (b := b) (k := k) n
    show su (fun i => if r i = k then b i else 0) n + (if r n = k then b n else 0) ≤ su b n + b n
    split <;> omega

set_option maxHeartbeats 4000000 in
set_option maxRecDepth 100000 in
theorem s_pool_l2 {bf l : Nat → Int32} {se : Int32} {wy : Nat} {fi ma co : Int32} {b r : Nat → Nat} {le : Nat → Int32} (hbf : ∀ k, k < 6 → bf k = nI (b k)) (hle : ∀ k, k < 6 → le k = nI (r k)) (hr : ∀ k, k < 6 → r k < 6) (hs : su b 6 ≤ 1200) (hA : A < j ∨ j + 5 ≤ A) (aA : At h0 A (.inl (0, 6, .inl le))) : ∀ (n i : Nat) (h : AH) (p w : Nat → Int32), 6 ≤ i + n → i ≤ 6 → JarC h j bf p w l se wy (nI (su b i)) fi ma co → (∀ k, k < 6 → p k = nI (su (fun q => if r q = k then b q else 0) i)) → (∀ k, k < 6 → w k = nI 0) → Sm h0 h j (j + 4) → RQ G mX4_pool d 35 [some (.ref j), some (.ref A), some (.int (nI i))] [] h (Rv fun h1 => ∃ p w, JarC h1 j bf p w l se wy (nI (su b 6)) fi ma co ∧ (∀ k, k < 6 → p k = nI (po r b k)) ∧ (∀ k, k < 6 → w k = nI 0) ∧ Sm h0 h1 j (j + 4)) := by
  have ex : ∀ (i : Nat) (h : AH) (p w : Nat → Int32), i = 6 → JarC h j bf p w l se wy (nI (su b i)) fi ma co → (∀ k, k < 6 → p k = nI (su (fun q => if r q = k then b q else 0) i)) → (∀ k, k < 6 → w k = nI 0) → Sm h0 h j (j + 4) → RQ G mX4_pool d 35 [some (.ref j), some (.ref A), some (.int (nI i))] [] h (Rv fun h1 => ∃ p w, JarC h1 j bf p w l se wy (nI (su b 6)) fi ma co ∧ (∀ k, k < 6 → p k = nI (po r b k)) ∧ (∀ k, k < 6 → w k = nI 0) ∧ Sm h0 h1 j (j + 4)) := by
    intro i h p w hi jc hp hw sm
    subst hi
    obtain ⟨a0, a1, a2, a3, a4⟩ := id jc
    have l0 := a0.1
    have l1 := a1.1
    have l2 := a2.1
    have l3 := a3.1
    have l4 := a4.1
    refine tX4_pool_35  (r := ?_)
    refine tX4_pool_36  (r := ?_)
    refine tX4_pool_38  (kf := fun c_ => by exfalso; exact c_ (by decide)) (kt := fun _ => ?_)
    refine tX4_pool_79  (hP := ?_)
    exact ⟨rfl, p, w, jc, hp, hw, sm⟩
  intro n
  induction n with
  | zero => exact fun i h p w h1_ h2_ => ex i h p w (by omega)
  | succ n ih =>
    intro i h p w h1_ h2_ jc hp hw sm
    by_cases hi : i = 6
    · exact ex i h p w hi jc hp hw sm
    have hi2 : i < 6 := by omega
    obtain ⟨a0, a1, a2, a3, a4⟩ := id jc
    have l0 := a0.1
    have l1 := a1.1
    have l2 := a2.1
    have l3 := a3.1
    have l4 := a4.1
    refine tX4_pool_35  (r := ?_)
    refine tX4_pool_36  (r := ?_)
    refine tX4_pool_38  (kt := fun c_ => by exfalso; (simp (disch := first | omega | decide) only [ci_lt, ci_le, ci_eq, ci_lt0, ci_ge0, ci_gt0, ci_le0, ci_eq0, ci_m1_lt, ci_m1_le, ci_lt_m1, ci_le_m1, ci_eq_m1, ci_m1_eq, not_true, not_false_iff, Nat.not_lt, Nat.not_le] at c_ <;> omega)) (kf := fun _ => ?_)
    refine tX4_pool_41  (r := ?_)
    refine tX4_pool_42 (ha := (by first | assumption | (repeat (first | assumption | exact At.set_eq2 (by first | omega | (simp only [hset, hnew]; omega) | rfl | decide) | exact At.new_eq2 _ _ (by first | omega | (simp only [hset, hnew]; omega) | rfl | decide) | refine At.set_ne ?_ (by first | omega | (simp only [hset, hnew]; omega) | rfl | decide) | refine At.new_ne ?_)))) (hv := rfl) (r := ?_)
    refine tX4_pool_45  (r := ?_)
    refine tX4_pool_46  (r := ?_)
    refine tX4_pool_47 (ha := (sm.at aA (by omega))) (hx := rfl) (hj := (by omega)) (hn := (by decide)) (r := ?_)
    rw [hle _ hi2]
    refine tX4_pool_48  (r := ?_)
    refine tX4_pool_49 (ha := (by first | assumption | (repeat (first | assumption | exact At.set_eq2 (by first | omega | (simp only [hset, hnew]; omega) | rfl | decide) | exact At.new_eq2 _ _ (by first | omega | (simp only [hset, hnew]; omega) | rfl | decide) | refine At.set_ne ?_ (by first | omega | (simp only [hset, hnew]; omega) | rfl | decide) | refine At.new_ne ?_)))) (hx := rfl) (hj := (hr _ hi2)) (hn := (by decide)) (r := ?_)
    rw [hp _ (hr _ hi2)]
    refine tX4_pool_50  (r := ?_)
    refine tX4_pool_51 (ha := (by first | assumption | (repeat (first | assumption | exact At.set_eq2 (by first | omega | (simp only [hset, hnew]; omega) | rfl | decide) | exact At.new_eq2 _ _ (by first | omega | (simp only [hset, hnew]; omega) | rfl | decide) | refine At.set_ne ?_ (by first | omega | (simp only [hset, hnew]; omega) | rfl | decide) | refine At.new_ne ?_)))) (hv := rfl) (r := ?_)
    refine tX4_pool_54  (r := ?_)
    refine tX4_pool_55 (ha := (by first | assumption | (repeat (first | assumption | exact At.set_eq2 (by first | omega | (simp only [hset, hnew]; omega) | rfl | decide) | exact At.new_eq2 _ _ (by first | omega | (simp only [hset, hnew]; omega) | rfl | decide) | refine At.set_ne ?_ (by first | omega | (simp only [hset, hnew]; omega) | rfl | decide) | refine At.new_ne ?_)))) (hx := rfl) (hj := (by omega)) (hn := (by decide)) (r := ?_)
    rw [hbf _ hi2]
    refine tX4_pool_56  (r := ?_)
    rw [nI_add]
    refine tX4_pool_57 (ha := (by first | assumption | (repeat (first | assumption | exact At.set_eq2 (by first | omega | (simp only [hset, hnew]; omega) | rfl | decide) | exact At.new_eq2 _ _ (by first | omega | (simp only [hset, hnew]; omega) | rfl | decide) | refine At.set_ne ?_ (by first | omega | (simp only [hset, hnew]; omega) | rfl | decide) | refine At.new_ne ?_)))) (hx := rfl) (hj := (hr _ hi2)) (hn := (by decide)) (r := ?_)
    refine tX4_pool_58  (r := ?_)
    refine tX4_pool_59  (r := ?_)
    refine tX4_pool_60 (ha := (by first | assumption | (repeat (first | assumption | exact At.set_eq2 (by first | omega | (simp only [hset, hnew]; omega) | rfl | decide) | exact At.new_eq2 _ _ (by first | omega | (simp only [hset, hnew]; omega) | rfl | decide) | refine At.set_ne ?_ (by first | omega | (simp only [hset, hnew]; omega) | rfl | decide) | refine At.new_ne ?_)))) (hv := rfl) (r := ?_)
    refine tX4_pool_63  (r := ?_)
    refine tX4_pool_64 (ha := (by first | assumption | (repeat (first | assumption | exact At.set_eq2 (by first | omega | (simp only [hset, hnew]; omega) | rfl | decide) | exact At.new_eq2 _ _ (by first | omega | (simp only [hset, hnew]; omega) | rfl | decide) | refine At.set_ne ?_ (by first | omega | (simp only [hset, hnew]; omega) | rfl | decide) | refine At.new_ne ?_)))) (hv := rfl) (r := ?_)
    refine tX4_pool_67  (r := ?_)
    refine tX4_pool_68 (ha := (by first | assumption | (repeat (first | assumption | exact At.set_eq2 (by first | omega | (simp only [hset, hnew]; omega) | rfl | decide) | exact At.new_eq2 _ _ (by first | omega | (simp only [hset, hnew]; omega) | rfl | decide) | refine At.set_ne ?_ (by first | omega | (simp only [hset, hnew]; omega) | rfl | decide) | refine At.new_ne ?_)))) (hx := rfl) (hj := (by omega)) (hn := (by decide)) (r := ?_)
    rw [hbf _ hi2]
    refine tX4_pool_69  (r := ?_)
    rw [nI_add]
    refine tX4_pool_70 (ha := (by first | assumption | (repeat (first | assumption | exact At.set_eq2 (by first | omega | (simp only [hset, hnew]; omega) | rfl | decide) | exact At.new_eq2 _ _ (by first | omega | (simp only [hset, hnew]; omega) | rfl | decide) | refine At.set_ne ?_ (by first | omega | (simp only [hset, hnew]; omega) | rfl | decide) | refine At.new_ne ?_)))) (hlen := rfl) (r := ?_)
    refine tX4_pool_73  (r := ?_)
    rw [nI_add]
    refine tX4_pool_76 (r := ?_)
    refine ih (i + 1) _ _ _ (by omega) (by omega) ⟨At.set_eq2 (by (first | omega | (simp only [hset, hnew]; omega) | rfl | decide)), by (first | assumption | (repeat (first | assumption | exact At.set_eq2 (by (first | omega | (simp only [hset, hnew]; omega) | rfl | decide)) | exact At.new_eq2 _ _ (by (first | omega | (simp only [hset, hnew]; omega) | rfl | decide)) | refine At.set_ne ?_ (by (first | omega | (simp only [hset, hnew]; omega) | rfl | decide)) | refine At.new_ne ?_))), by (first | assumption | (repeat (first | assumption | exact At.set_eq2 (by (first | omega | (simp only [hset, hnew]; omega) | rfl | decide)) | exact At.new_eq2 _ _ (by (first | omega | (simp only [hset, hnew]; omega) | rfl | decide)) | refine At.set_ne ?_ (by (first | omega | (simp only [hset, hnew]; omega) | rfl | decide)) | refine At.new_ne ?_))), by (first | assumption | (repeat (first | assumption | exact At.set_eq2 (by (first | omega | (simp only [hset, hnew]; omega) | rfl | decide)) | exact At.new_eq2 _ _ (by (first | omega | (simp only [hset, hnew]; omega) | rfl | decide)) | refine At.set_ne ?_ (by (first | omega | (simp only [hset, hnew]; omega) | rfl | decide)) | refine At.new_ne ?_))), by (first | assumption | (repeat (first | assumption | exact At.set_eq2 (by (first | omega | (simp only [hset, hnew]; omega) | rfl | decide)) | exact At.new_eq2 _ _ (by (first | omega | (simp only [hset, hnew]; omega) | rfl | decide)) | refine At.set_ne ?_ (by (first | omega | (simp only [hset, hnew]; omega) | rfl | decide)) | refine At.new_ne ?_)))⟩ (fun k hk => ?_) hw (Sm.set (Sm.set sm (by omega) (by omega)) (by omega) (by omega))
    by_cases e : k = r i
    · subst e
      show (if r i = r i then _ else _) = _
      rw [if_pos rfl]
      show _ = nI (su (fun q => if r q = r i then b q else 0) i + (if r i = r i then b i else 0))
      rw [if_pos rfl]
    · show (if k = r i then _ else p k) = _
      rw [if_neg e, hp k hk]
      show _ = nI (su (fun q => if r q = k then b q else 0) i + (if r i = k then b i else 0))
      rw [if_neg (fun q => e q.symm)]
      rfl

set_option maxHeartbeats 4000000 in
set_option maxRecDepth 100000 in
theorem s_pool_l1 {bf l : Nat → Int32} {se : Int32} {wy : Nat} {fi ma co : Int32} {b r : Nat → Nat} {le : Nat → Int32} (hbf : ∀ k, k < 6 → bf k = nI (b k)) (hle : ∀ k, k < 6 → le k = nI (r k)) (hr : ∀ k, k < 6 → r k < 6) (hs : su b 6 ≤ 1200) (hA : A < j ∨ j + 5 ≤ A) (aA : At h0 A (.inl (0, 6, .inl le))) : ∀ (n i : Nat) (h : AH) (p w : Nat → Int32), 6 ≤ i + n → i ≤ 6 → JarC h j bf p w l se wy (nI 0) fi ma co → (∀ k, k < i → p k = nI 0 ∧ w k = nI 0) → Sm h0 h j (j + 4) → RQ G mX4_pool d 7 [some (.ref j), some (.ref A), some (.int (nI i))] [] h (Rv fun h1 => ∃ p w, JarC h1 j bf p w l se wy (nI (su b 6)) fi ma co ∧ (∀ k, k < 6 → p k = nI (po r b k)) ∧ (∀ k, k < 6 → w k = nI 0) ∧ Sm h0 h1 j (j + 4)) := by
  have ex : ∀ (i : Nat) (h : AH) (p w : Nat → Int32), i = 6 → JarC h j bf p w l se wy (nI 0) fi ma co → (∀ k, k < i → p k = nI 0 ∧ w k = nI 0) → Sm h0 h j (j + 4) → RQ G mX4_pool d 7 [some (.ref j), some (.ref A), some (.int (nI i))] [] h (Rv fun h1 => ∃ p w, JarC h1 j bf p w l se wy (nI (su b 6)) fi ma co ∧ (∀ k, k < 6 → p k = nI (po r b k)) ∧ (∀ k, k < 6 → w k = nI 0) ∧ Sm h0 h1 j (j + 4)) := by
    intro i h p w hi jc hp sm
    subst hi
    obtain ⟨a0, a1, a2, a3, a4⟩ := id jc
    have l0 := a0.1
    have l1 := a1.1
    have l2 := a2.1
    have l3 := a3.1
    have l4 := a4.1
    refine tX4_pool_7  (r := ?_)
    refine tX4_pool_8  (r := ?_)
    refine tX4_pool_10  (kf := fun c_ => by exfalso; exact c_ (by decide)) (kt := fun _ => ?_)
    refine tX4_pool_33  (r := ?_)
    refine tX4_pool_34  (r := ?_)
    exact s_pool_l2 hbf hle hr hs hA aA 6 0 h p w (by omega) (by omega) jc (fun k hk => (hp k hk).1) (fun k hk => (hp k hk).2) sm
  intro n
  induction n with
  | zero => exact fun i h p w h1_ h2_ => ex i h p w (by omega)
  | succ n ih =>
    intro i h p w h1_ h2_ jc hp sm
    by_cases hi : i = 6
    · exact ex i h p w hi jc hp sm
    have hi2 : i < 6 := by omega
    obtain ⟨a0, a1, a2, a3, a4⟩ := id jc
    have l0 := a0.1
    have l1 := a1.1
    have l2 := a2.1
    have l3 := a3.1
    have l4 := a4.1
    refine tX4_pool_7  (r := ?_)
    refine tX4_pool_8  (r := ?_)
    refine tX4_pool_10  (kt := fun c_ => by exfalso; (simp (disch := first | omega | decide) only [ci_lt, ci_le, ci_eq, ci_lt0, ci_ge0, ci_gt0, ci_le0, ci_eq0, ci_m1_lt, ci_m1_le, ci_lt_m1, ci_le_m1, ci_eq_m1, ci_m1_eq, not_true, not_false_iff, Nat.not_lt, Nat.not_le] at c_ <;> omega)) (kf := fun _ => ?_)
    refine tX4_pool_13  (r := ?_)
    refine tX4_pool_14 (ha := (by first | assumption | (repeat (first | assumption | exact At.set_eq2 (by first | omega | (simp only [hset, hnew]; omega) | rfl | decide) | exact At.new_eq2 _ _ (by first | omega | (simp only [hset, hnew]; omega) | rfl | decide) | refine At.set_ne ?_ (by first | omega | (simp only [hset, hnew]; omega) | rfl | decide) | refine At.new_ne ?_)))) (hv := rfl) (r := ?_)
    refine tX4_pool_17  (r := ?_)
    refine tX4_pool_18  (r := ?_)
    refine tX4_pool_19 (ha := (by first | assumption | (repeat (first | assumption | exact At.set_eq2 (by first | omega | (simp only [hset, hnew]; omega) | rfl | decide) | exact At.new_eq2 _ _ (by first | omega | (simp only [hset, hnew]; omega) | rfl | decide) | refine At.set_ne ?_ (by first | omega | (simp only [hset, hnew]; omega) | rfl | decide) | refine At.new_ne ?_)))) (hx := rfl) (hj := (by omega)) (hn := (by decide)) (r := ?_)
    refine tX4_pool_20  (r := ?_)
    refine tX4_pool_21 (ha := (by first | assumption | (repeat (first | assumption | exact At.set_eq2 (by first | omega | (simp only [hset, hnew]; omega) | rfl | decide) | exact At.new_eq2 _ _ (by first | omega | (simp only [hset, hnew]; omega) | rfl | decide) | refine At.set_ne ?_ (by first | omega | (simp only [hset, hnew]; omega) | rfl | decide) | refine At.new_ne ?_)))) (hv := rfl) (r := ?_)
    refine tX4_pool_24  (r := ?_)
    refine tX4_pool_25  (r := ?_)
    refine tX4_pool_26 (ha := (by first | assumption | (repeat (first | assumption | exact At.set_eq2 (by first | omega | (simp only [hset, hnew]; omega) | rfl | decide) | exact At.new_eq2 _ _ (by first | omega | (simp only [hset, hnew]; omega) | rfl | decide) | refine At.set_ne ?_ (by first | omega | (simp only [hset, hnew]; omega) | rfl | decide) | refine At.new_ne ?_)))) (hx := rfl) (hj := (by omega)) (hn := (by decide)) (r := ?_)
    refine tX4_pool_27  (r := ?_)
    rw [nI_add]
    refine tX4_pool_30 (r := ?_)
    refine ih (i + 1) _ _ _ (by omega) (by omega) ⟨by (first | assumption | (repeat (first | assumption | exact At.set_eq2 (by (first | omega | (simp only [hset, hnew]; omega) | rfl | decide)) | exact At.new_eq2 _ _ (by (first | omega | (simp only [hset, hnew]; omega) | rfl | decide)) | refine At.set_ne ?_ (by (first | omega | (simp only [hset, hnew]; omega) | rfl | decide)) | refine At.new_ne ?_))), by (first | assumption | (repeat (first | assumption | exact At.set_eq2 (by (first | omega | (simp only [hset, hnew]; omega) | rfl | decide)) | exact At.new_eq2 _ _ (by (first | omega | (simp only [hset, hnew]; omega) | rfl | decide)) | refine At.set_ne ?_ (by (first | omega | (simp only [hset, hnew]; omega) | rfl | decide)) | refine At.new_ne ?_))), by (first | assumption | (repeat (first | assumption | exact At.set_eq2 (by (first | omega | (simp only [hset, hnew]; omega) | rfl | decide)) | exact At.new_eq2 _ _ (by (first | omega | (simp only [hset, hnew]; omega) | rfl | decide)) | refine At.set_ne ?_ (by (first | omega | (simp only [hset, hnew]; omega) | rfl | decide)) | refine At.new_ne ?_))), by (first | assumption | (repeat (first | assumption | exact At.set_eq2 (by (first | omega | (simp only [hset, hnew]; omega) | rfl | decide)) | exact At.new_eq2 _ _ (by (first | omega | (simp only [hset, hnew]; omega) | rfl | decide)) | refine At.set_ne ?_ (by (first | omega | (simp only [hset, hnew]; omega) | rfl | decide)) | refine At.new_ne ?_))), by (first | assumption | (repeat (first | assumption | exact At.set_eq2 (by (first | omega | (simp only [hset, hnew]; omega) | rfl | decide)) | exact At.new_eq2 _ _ (by (first | omega | (simp only [hset, hnew]; omega) | rfl | decide)) | refine At.set_ne ?_ (by (first | omega | (simp only [hset, hnew]; omega) | rfl | decide)) | refine At.new_ne ?_)))⟩ (fun k hk => ?_) (Sm.set (Sm.set sm (by omega) (by omega)) (by omega) (by omega))
    by_cases e : k = i
    · subst e
      exact ⟨if_pos rfl, if_pos rfl⟩
    · have := hp k (by omega)
      exact ⟨(if_neg e).trans this.1, (if_neg e).trans this.2⟩

set_option maxHeartbeats 4000000 in
set_option maxRecDepth 100000 in
theorem s_pool {bf l : Nat → Int32} {se : Int32} {wy : Nat} {fi ma co : Int32} {b r : Nat → Nat} {le : Nat → Int32} (hbf : ∀ k, k < 6 → bf k = nI (b k)) (hle : ∀ k, k < 6 → le k = nI (r k)) (hr : ∀ k, k < 6 → r k < 6) (hs : su b 6 ≤ 1200) (hA : A < j ∨ j + 5 ≤ A) (aA : At h0 A (.inl (0, 6, .inl le))) {p w : Nat → Int32} {tu : Int32} (jc : JarC h0 j bf p w l se wy tu fi ma co) : RQ G mX4_pool d 0 [some (.ref j), some (.ref A), none] [] h0 (Rv fun h1 => ∃ p w, JarC h1 j bf p w l se wy (nI (su b 6)) fi ma co ∧ (∀ k, k < 6 → p k = nI (po r b k)) ∧ (∀ k, k < 6 → w k = nI 0) ∧ Sm h0 h1 j (j + 4)) := by
  obtain ⟨a0, a1, a2, a3, a4⟩ := id jc
  have l0 := a0.1
  have l1 := a1.1
  have l2 := a2.1
  have l3 := a3.1
  have l4 := a4.1
  refine tX4_pool_0  (r := ?_)
  refine tX4_pool_1  (r := ?_)
  refine tX4_pool_2 (ha := (by first | assumption | (repeat (first | assumption | exact At.set_eq2 (by first | omega | (simp only [hset, hnew]; omega) | rfl | decide) | exact At.new_eq2 _ _ (by first | omega | (simp only [hset, hnew]; omega) | rfl | decide) | refine At.set_ne ?_ (by first | omega | (simp only [hset, hnew]; omega) | rfl | decide) | refine At.new_ne ?_)))) (hlen := rfl) (r := ?_)
  refine tX4_pool_5  (r := ?_)
  refine tX4_pool_6  (r := ?_)
  exact s_pool_l1 hbf hle hr hs hA aA 6 0 _ _ _ (by omega) (by omega) ⟨At.set_eq2 a0.1, by (first | assumption | (repeat (first | assumption | exact At.set_eq2 (by (first | omega | (simp only [hset, hnew]; omega) | rfl | decide)) | exact At.new_eq2 _ _ (by (first | omega | (simp only [hset, hnew]; omega) | rfl | decide)) | refine At.set_ne ?_ (by (first | omega | (simp only [hset, hnew]; omega) | rfl | decide)) | refine At.new_ne ?_))), by (first | assumption | (repeat (first | assumption | exact At.set_eq2 (by (first | omega | (simp only [hset, hnew]; omega) | rfl | decide)) | exact At.new_eq2 _ _ (by (first | omega | (simp only [hset, hnew]; omega) | rfl | decide)) | refine At.set_ne ?_ (by (first | omega | (simp only [hset, hnew]; omega) | rfl | decide)) | refine At.new_ne ?_))), by (first | assumption | (repeat (first | assumption | exact At.set_eq2 (by (first | omega | (simp only [hset, hnew]; omega) | rfl | decide)) | exact At.new_eq2 _ _ (by (first | omega | (simp only [hset, hnew]; omega) | rfl | decide)) | refine At.set_ne ?_ (by (first | omega | (simp only [hset, hnew]; omega) | rfl | decide)) | refine At.new_ne ?_))), by (first | assumption | (repeat (first | assumption | exact At.set_eq2 (by (first | omega | (simp only [hset, hnew]; omega) | rfl | decide)) | exact At.new_eq2 _ _ (by (first | omega | (simp only [hset, hnew]; omega) | rfl | decide)) | refine At.set_ne ?_ (by (first | omega | (simp only [hset, hnew]; omega) | rfl | decide)) | refine At.new_ne ?_)))⟩ (fun k hk => absurd hk (Nat.not_lt_zero k)) ((Sm.rf _ _ _).set (by omega) (by omega))

end JA
