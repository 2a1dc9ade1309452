/-! the reference's quota, whole -/
section RQV
variable {G : GT} {d : Nat} {s : ST} {h0 : AH}

set_option maxHeartbeats 4000000 in
set_option maxRecDepth 100000 in
theorem s_quota1 (hd : 1 ≤ d) (hb : BDok s.2.2.1 s.2.2.2) {th : Int32} {j0 se t : Nat} {q : Nat → Nat} (hq : ∀ k, k < 6 → q k ≤ 1200) (hz : ∀ k, bLa s.2.2.1 ≤ k → k < 6 → q k = 0) (hse : se ≤ 9) (ht : su q 6 = t) (ht2 : t ≤ 1200) : ∀ (n i : Nat) (h : AH) (f g : Nat → Int32), bLa s.2.2.1 ≤ i + n → i ≤ bLa s.2.2.1 → MoT h 216 th s → At h (216 + 50) (.inl (0, 6, .inl f)) → At h (216 + 51) (.inl (0, 6, .inl g)) → (∀ k, k < 6 → f k = nI (if k < i then (fun k => q k - q k / (t / (se + 1) + 1) * (t / (se + 1) + 1)) k else q k)) → (∀ k, k < 6 → g k = nI (if k < i then (fun k => q k / (t / (se + 1) + 1)) k else 0)) → Sm h0 h (216 + 50) (216 + 52) → RQ G mX12_quota d 18 [some (.ref 216), some (.int (nI j0)), some (.int (nI se)), some (.int (nI (t / (se + 1) + 1))), some (.int (nI (se - su (fun k => q k / (t / (se + 1) + 1)) i))), some (.int (nI i))] [] h (Ri fun v h1 => v = nI (quR (se - su (fun k => q k / (t / (se + 1) + 1)) 6) (fun k => q k - q k / (t / (se + 1) + 1) * (t / (se + 1) + 1))) ∧ MoT h1 216 th s ∧ (∃ g, At h1 (216 + 51) (.inl (0, 6, .inl g)) ∧ ∀ k, k < 6 → g k = nI (quo q t se k)) ∧ Sm h0 h1 (216 + 50) (216 + 52)) := by
  have ex : ∀ (i : Nat) (h : AH) (f g : Nat → Int32), i = bLa s.2.2.1 → MoT h 216 th s → At h (216 + 50) (.inl (0, 6, .inl f)) → At h (216 + 51) (.inl (0, 6, .inl g)) → (∀ k, k < 6 → f k = nI (if k < i then (fun k => q k - q k / (t / (se + 1) + 1) * (t / (se + 1) + 1)) k else q k)) → (∀ k, k < 6 → g k = nI (if k < i then (fun k => q k / (t / (se + 1) + 1)) k else 0)) → Sm h0 h (216 + 50) (216 + 52) → RQ G mX12_quota d 18 [some (.ref 216), some (.int (nI j0)), some (.int (nI se)), some (.int (nI (t / (se + 1) + 1))), some (.int (nI (se - su (fun k => q k / (t / (se + 1) + 1)) i))), some (.int (nI i))] [] h (Ri fun v h1 => v = nI (quR (se - su (fun k => q k / (t / (se + 1) + 1)) 6) (fun k => q k - q k / (t / (se + 1) + 1) * (t / (se + 1) + 1))) ∧ MoT h1 216 th s ∧ (∃ g, At h1 (216 + 51) (.inl (0, 6, .inl g)) ∧ ∀ k, k < 6 → g k = nI (quo q t se k)) ∧ Sm h0 h1 (216 + 50) (216 + 52)) := by
    intro i h f g hi c2 ai aw hf hg sm
    subst hi
    obtain ⟨⟨tk, iw, er, et, dp, nm, am⟩, -⟩ := id c2
    obtain ⟨ru, ac, no, a9⟩ := c2.told
    have l50 := ai.1
    have l51 := aw.1
    have lm := am.1
    have l1 := hb.1
    have Q1 : 1 ≤ (t / (se + 1) + 1) := Nat.succ_pos _
    have Q2 : (t / (se + 1) + 1) ≤ 1201 := by have := Nat.div_le_self t (se + 1); omega
    have Q3 := quota_le (p := q) (se := se) ht
    have dle := fun k => Nat.div_mul_le_self (q k) (t / (se + 1) + 1)
    have dl2 := fun k => Nat.div_le_self (q k) (t / (se + 1) + 1)
    have z1 : ∀ k, bLa s.2.2.1 ≤ k → k < 6 → (fun k => q k / (t / (se + 1) + 1)) k = 0 := fun k h1_ h2_ => by show q k / _ = 0; rw [hz k h1_ h2_]; exact Nat.zero_div _
    have z2 : ∀ k, bLa s.2.2.1 ≤ k → k < 6 → (fun k => q k - q k / (t / (se + 1) + 1) * (t / (se + 1) + 1)) k = 0 := fun k h1_ h2_ => by show q k - _ = 0; rw [hz k h1_ h2_]; exact Nat.zero_sub _
    have e6 : su (fun k => q k / (t / (se + 1) + 1)) 6 = su (fun k => q k / (t / (se + 1) + 1)) (bLa s.2.2.1) := su_ext 6 l1 z1
    refine tX12_quota_18  (r := ?_)
    refine tX12_quota_20  (r := ?_)
    refine tX12_quota_21 (ha := (by first | assumption | (repeat (first | assumption | exact At.set_eq2 (by first | omega | (simp only [hset, hnew]; omega) | rfl | decide) | exact At.new_eq2 _ _ (by first | omega | (simp only [hset, hnew]; omega) | rfl | decide) | refine At.set_ne ?_ (by first | omega | (simp only [hset, hnew]; omega) | rfl | decide) | refine At.new_ne ?_)))) (hv := rfl) (r := ?_)
    refine tX12_quota_24 (ha := (by first | assumption | (repeat (first | assumption | exact At.set_eq2 (by first | omega | (simp only [hset, hnew]; omega) | rfl | decide) | exact At.new_eq2 _ _ (by first | omega | (simp only [hset, hnew]; omega) | rfl | decide) | refine At.set_ne ?_ (by first | omega | (simp only [hset, hnew]; omega) | rfl | decide) | refine At.new_ne ?_)))) (hv := rfl) (r := ?_)
    refine tX12_quota_27  (kf := fun c_ => by exfalso; (simp (disch := first | omega | decide) only [ci_lt, ci_le, ci_eq, ci_lt0, ci_ge0, ci_gt0, ci_le0, ci_eq0, ci_m1_lt, ci_m1_le, ci_lt_m1, ci_le_m1, ci_eq_m1, ci_m1_eq, not_true, not_false_iff, Nat.not_lt, Nat.not_le] at c_ <;> omega)) (kt := fun _ => ?_)
    refine tX12_quota_83  (r := ?_)
    refine tX12_quota_84 (hd := (by omega)) (ha := (by first | assumption | (repeat (first | assumption | exact At.set_eq2 (by first | omega | (simp only [hset, hnew]; omega) | rfl | decide) | exact At.new_eq2 _ _ (by first | omega | (simp only [hset, hnew]; omega) | rfl | decide) | refine At.set_ne ?_ (by first | omega | (simp only [hset, hnew]; omega) | rfl | decide) | refine At.new_ne ?_)))) (call := s_firstOf (d := 0) c2 hb ai (q := (fun k => q k - q k / (t / (se + 1) + 1) * (t / (se + 1) + 1))) (fun k hk => by rw [hf k (by omega), if_pos hk]) (fun k hk => by have := hq k hk; show q k - _ ≤ 1200; omega) z2) (k := ?_)
    rintro v h_ ⟨rfl, e9⟩
    rw [e9]
    refine tX12_quota_87  (r := ?_)
    rw [← e6]
    refine s_quota2 hd hb _ _ _ _ (fun k => q k / (t / (se + 1) + 1)) (fun k => q k - q k / (t / (se + 1) + 1) * (t / (se + 1) + 1)) (by omega) c2 ai aw (fun k hk => ?_) (fun k hk => ?_) (fun k hk => by have := hq k hk; show q k - _ ≤ 1200; omega) z2 sm
    · rw [hf k hk]
      by_cases e : k < bLa s.2.2.1
      · rw [if_pos e]
      · rw [if_neg e]
        exact congrArg nI ((hz k (by omega) hk).trans (z2 k (by omega) hk).symm)
    · rw [hg k hk]
      by_cases e : k < bLa s.2.2.1
      · rw [if_pos e]
      · rw [if_neg e]
        exact congrArg nI (z1 k (by omega) hk).symm
  intro n
  induction n with
  | zero => exact fun i h f g h1_ h2_ => ex i h f g (by omega)
  | succ n ih =>
    intro i h f g h1_ h2_ c2 ai aw hf hg sm
    by_cases hi : i = bLa s.2.2.1
    · exact ex i h f g hi c2 ai aw hf hg sm
    have hi2 : i < bLa s.2.2.1 := by omega
    obtain ⟨⟨tk, iw, er, et, dp, nm, am⟩, -⟩ := id c2
    obtain ⟨ru, ac, no, a9⟩ := c2.told
    have l50 := ai.1
    have l51 := aw.1
    have lm := am.1
    have l1 := hb.1
    have Q1 : 1 ≤ (t / (se + 1) + 1) := Nat.succ_pos _
    have Q2 : (t / (se + 1) + 1) ≤ 1201 := by have := Nat.div_le_self t (se + 1); omega
    have Q3 := quota_le (p := q) (se := se) ht
    have dle := fun k => Nat.div_mul_le_self (q k) (t / (se + 1) + 1)
    have dl2 := fun k => Nat.div_le_self (q k) (t / (se + 1) + 1)
    have z1 : ∀ k, bLa s.2.2.1 ≤ k → k < 6 → (fun k => q k / (t / (se + 1) + 1)) k = 0 := fun k h1_ h2_ => by show q k / _ = 0; rw [hz k h1_ h2_]; exact Nat.zero_div _
    have z2 : ∀ k, bLa s.2.2.1 ≤ k → k < 6 → (fun k => q k - q k / (t / (se + 1) + 1) * (t / (se + 1) + 1)) k = 0 := fun k h1_ h2_ => by show q k - _ = 0; rw [hz k h1_ h2_]; exact Nat.zero_sub _
    have e6 : su (fun k => q k / (t / (se + 1) + 1)) 6 = su (fun k => q k / (t / (se + 1) + 1)) (bLa s.2.2.1) := su_ext 6 l1 z1
    refine tX12_quota_18  (r := ?_)
    refine tX12_quota_20  (r := ?_)
    refine tX12_quota_21 (ha := (by first | assumption | (repeat (first | assumption | exact At.set_eq2 (by first | omega | (simp only [hset, hnew]; omega) | rfl | decide) | exact At.new_eq2 _ _ (by first | omega | (simp only [hset, hnew]; omega) | rfl | decide) | refine At.set_ne ?_ (by first | omega | (simp only [hset, hnew]; omega) | rfl | decide) | refine At.new_ne ?_)))) (hv := rfl) (r := ?_)
    refine tX12_quota_24 (ha := (by first | assumption | (repeat (first | assumption | exact At.set_eq2 (by first | omega | (simp only [hset, hnew]; omega) | rfl | decide) | exact At.new_eq2 _ _ (by first | omega | (simp only [hset, hnew]; omega) | rfl | decide) | refine At.set_ne ?_ (by first | omega | (simp only [hset, hnew]; omega) | rfl | decide) | refine At.new_ne ?_)))) (hv := rfl) (r := ?_)
    refine tX12_quota_27  (kt := fun c_ => by exfalso; (simp (disch := first | omega | decide) only [ci_lt, ci_le, ci_eq, ci_lt0, ci_ge0, ci_gt0, ci_le0, ci_eq0, ci_m1_lt, ci_m1_le, ci_lt_m1, ci_le_m1, ci_eq_m1, ci_m1_eq, not_true, not_false_iff, Nat.not_lt, Nat.not_le] at c_ <;> omega)) (kf := fun _ => ?_)
    refine tX12_quota_30  (r := ?_)
    refine tX12_quota_31 (ha := (by first | assumption | (repeat (first | assumption | exact At.set_eq2 (by first | omega | (simp only [hset, hnew]; omega) | rfl | decide) | exact At.new_eq2 _ _ (by first | omega | (simp only [hset, hnew]; omega) | rfl | decide) | refine At.set_ne ?_ (by first | omega | (simp only [hset, hnew]; omega) | rfl | decide) | refine At.new_ne ?_)))) (hv := rfl) (r := ?_)
    refine tX12_quota_34  (r := ?_)
    refine tX12_quota_36  (r := ?_)
    refine tX12_quota_37 (ha := (by first | assumption | (repeat (first | assumption | exact At.set_eq2 (by first | omega | (simp only [hset, hnew]; omega) | rfl | decide) | exact At.new_eq2 _ _ (by first | omega | (simp only [hset, hnew]; omega) | rfl | decide) | refine At.set_ne ?_ (by first | omega | (simp only [hset, hnew]; omega) | rfl | decide) | refine At.new_ne ?_)))) (hv := rfl) (r := ?_)
    refine tX12_quota_40  (r := ?_)
    refine tX12_quota_42 (ha := (by first | assumption | (repeat (first | assumption | exact At.set_eq2 (by first | omega | (simp only [hset, hnew]; omega) | rfl | decide) | exact At.new_eq2 _ _ (by first | omega | (simp only [hset, hnew]; omega) | rfl | decide) | refine At.set_ne ?_ (by first | omega | (simp only [hset, hnew]; omega) | rfl | decide) | refine At.new_ne ?_)))) (hx := rfl) (hj := (by omega)) (hn := (by decide)) (r := ?_)
    rw [hf _ (by omega), if_neg (Nat.lt_irrefl i)]
    have v1 := hq i (by omega)
    have v2 := dle i
    have v3 := dl2 i
    refine tX12_quota_43  (r := ?_)
    refine tX12_quota_44 (hne := (nI_ne0 Q1 (by omega))) (r := ?_)
    rw [pk_div (by omega) Q1 (by omega)]
    refine tX12_quota_45 (ha := (by first | assumption | (repeat (first | assumption | exact At.set_eq2 (by first | omega | (simp only [hset, hnew]; omega) | rfl | decide) | exact At.new_eq2 _ _ (by first | omega | (simp only [hset, hnew]; omega) | rfl | decide) | refine At.set_ne ?_ (by first | omega | (simp only [hset, hnew]; omega) | rfl | decide) | refine At.new_ne ?_)))) (hx := rfl) (hj := (by omega)) (hn := (by decide)) (r := ?_)
    refine tX12_quota_46  (r := ?_)
    refine tX12_quota_47 (ha := (by first | assumption | (repeat (first | assumption | exact At.set_eq2 (by first | omega | (simp only [hset, hnew]; omega) | rfl | decide) | exact At.new_eq2 _ _ (by first | omega | (simp only [hset, hnew]; omega) | rfl | decide) | refine At.set_ne ?_ (by first | omega | (simp only [hset, hnew]; omega) | rfl | decide) | refine At.new_ne ?_)))) (hv := rfl) (r := ?_)
    refine tX12_quota_50  (r := ?_)
    refine tX12_quota_52  (r := ?_)
    refine tX12_quota_53 (ha := (by first | assumption | (repeat (first | assumption | exact At.set_eq2 (by first | omega | (simp only [hset, hnew]; omega) | rfl | decide) | exact At.new_eq2 _ _ (by first | omega | (simp only [hset, hnew]; omega) | rfl | decide) | refine At.set_ne ?_ (by first | omega | (simp only [hset, hnew]; omega) | rfl | decide) | refine At.new_ne ?_)))) (hx := rfl) (hj := (by omega)) (hn := (by decide)) (r := ?_)
    rw [hf _ (by omega), if_neg (Nat.lt_irrefl i)]
    refine tX12_quota_54  (r := ?_)
    refine tX12_quota_55 (ha := (by first | assumption | (repeat (first | assumption | exact At.set_eq2 (by first | omega | (simp only [hset, hnew]; omega) | rfl | decide) | exact At.new_eq2 _ _ (by first | omega | (simp only [hset, hnew]; omega) | rfl | decide) | refine At.set_ne ?_ (by first | omega | (simp only [hset, hnew]; omega) | rfl | decide) | refine At.new_ne ?_)))) (hv := rfl) (r := ?_)
    refine tX12_quota_58  (r := ?_)
    refine tX12_quota_60 (ha := (by first | assumption | (repeat (first | assumption | exact At.set_eq2 (by first | omega | (simp only [hset, hnew]; omega) | rfl | decide) | exact At.new_eq2 _ _ (by first | omega | (simp only [hset, hnew]; omega) | rfl | decide) | refine At.set_ne ?_ (by first | omega | (simp only [hset, hnew]; omega) | rfl | decide) | refine At.new_ne ?_)))) (hx := rfl) (hj := (by omega)) (hn := (by decide)) (r := ?_)
    rw [show upd g i (nI (q i / (t / (se + 1) + 1))) i = nI (q i / (t / (se + 1) + 1)) from if_pos rfl]
    refine tX12_quota_61  (r := ?_)
    refine tX12_quota_62  (r := ?_)
    rw [nI_mulN]
    refine tX12_quota_63  (r := ?_)
    rw [nI_subN v2 (by omega)]
    refine tX12_quota_64 (ha := (by first | assumption | (repeat (first | assumption | exact At.set_eq2 (by first | omega | (simp only [hset, hnew]; omega) | rfl | decide) | exact At.new_eq2 _ _ (by first | omega | (simp only [hset, hnew]; omega) | rfl | decide) | refine At.set_ne ?_ (by first | omega | (simp only [hset, hnew]; omega) | rfl | decide) | refine At.new_ne ?_)))) (hx := rfl) (hj := (by omega)) (hn := (by decide)) (r := ?_)
    refine tX12_quota_65  (r := ?_)
    refine tX12_quota_67  (r := ?_)
    refine tX12_quota_68 (ha := (by first | assumption | (repeat (first | assumption | exact At.set_eq2 (by first | omega | (simp only [hset, hnew]; omega) | rfl | decide) | exact At.new_eq2 _ _ (by first | omega | (simp only [hset, hnew]; omega) | rfl | decide) | refine At.set_ne ?_ (by first | omega | (simp only [hset, hnew]; omega) | rfl | decide) | refine At.new_ne ?_)))) (hv := rfl) (r := ?_)
    refine tX12_quota_71  (r := ?_)
    refine tX12_quota_73 (ha := (by first | assumption | (repeat (first | assumption | exact At.set_eq2 (by first | omega | (simp only [hset, hnew]; omega) | rfl | decide) | exact At.new_eq2 _ _ (by first | omega | (simp only [hset, hnew]; omega) | rfl | decide) | refine At.set_ne ?_ (by first | omega | (simp only [hset, hnew]; omega) | rfl | decide) | refine At.new_ne ?_)))) (hx := rfl) (hj := (by omega)) (hn := (by decide)) (r := ?_)
    rw [show upd g i (nI (q i / (t / (se + 1) + 1))) i = nI (q i / (t / (se + 1) + 1)) from if_pos rfl]
    refine tX12_quota_74  (r := ?_)
    have v4 : su (fun k => q k / (t / (se + 1) + 1)) (i + 1) ≤ su (fun k => q k / (t / (se + 1) + 1)) 6 := su_le (by omega)
    have v5 : su (fun k => q k / (t / (se + 1) + 1)) (i + 1) = su (fun k => q k / (t / (se + 1) + 1)) i + q i / (t / (se + 1) + 1) := rfl
    rw [nI_subN (by omega) (by omega), show se - su (fun k => q k / (t / (se + 1) + 1)) i - q i / (t / (se + 1) + 1) = se - su (fun k => q k / (t / (se + 1) + 1)) (i + 1) by omega]
    refine tX12_quota_75  (r := ?_)
    refine tX12_quota_77  (r := ?_)
    rw [nI_add]
    refine tX12_quota_80 (r := ?_)
    refine ih (i + 1) _ _ _ (by omega) (by omega) ((c2.won (upd g i (nI (q i / (t / (se + 1) + 1))))).its (upd f i (nI (q i - q i / (t / (se + 1) + 1) * (t / (se + 1) + 1))))) (At.set_eq2 l50) (by (first | assumption | (repeat (first | assumption | exact At.set_eq2 (by (first | omega | (simp only [hset, hnew]; omega) | rfl | decide)) | exact At.new_eq2 _ _ (by (first | omega | (simp only [hset, hnew]; omega) | rfl | decide)) | refine At.set_ne ?_ (by (first | omega | (simp only [hset, hnew]; omega) | rfl | decide)) | refine At.new_ne ?_)))) (fun k hk => ?_) (fun k hk => ?_) ((sm.set (by omega) (by omega)).set (by omega) (by omega))
    · show (if k = i then nI (q i - q i / (t / (se + 1) + 1) * (t / (se + 1) + 1)) else f k) = nI (if k < i + 1 then q k - q k / (t / (se + 1) + 1) * (t / (se + 1) + 1) else q k)
      by_cases e : k = i
      · subst e
        rw [if_pos rfl, if_pos (Nat.lt_succ_self k)]
      · rw [if_neg e, hf k hk]
        by_cases e2 : k < i
        · rw [if_pos e2, if_pos (by omega)]
        · rw [if_neg e2, if_neg (by omega)]
    · show (if k = i then nI (q i / (t / (se + 1) + 1)) else g k) = nI (if k < i + 1 then q k / (t / (se + 1) + 1) else 0)
      by_cases e : k = i
      · subst e
        rw [if_pos rfl, if_pos (Nat.lt_succ_self k)]
      · rw [if_neg e, hg k hk]
        by_cases e2 : k < i
        · rw [if_pos e2, if_pos (by omega)]
        · rw [if_neg e2, if_neg (by omega)]

end RQV
