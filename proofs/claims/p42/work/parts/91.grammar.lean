/-! the class reads sums, tests, singles -/
section REC
variable {G : GT} {d : Nat} {h h0 : AH} {r dr : Nat} {K : TKS} {s : PST}
theorem isPM_or {k : Nat} (h : isPM k = true) : k = 36 ∨ k = 37 := by
  simp only [isPM, Bool.or_eq_true, beq_iff_eq] at h
  exact h

set_option maxHeartbeats 4000000 in
set_option maxRecDepth 100000 in
theorem s_rsum_l {d2 br : Nat} {x : PST → PST × Nat} (hx : ∀ h s, Rc h0 h r dr K s → RQ G mX6_product d2 0 [some (.ref r), some (.int (nI br)), none] [] h (Rv fun h1 => Rc h0 h1 r dr K (x s).1)) (hd : d2 + 1 ≤ d) (hd3 : 3 ≤ d) : ∀ (n i : Nat) (h : AH) (q : PST × Nat) (x3 : Option Value), i + n = 400 → Rc h0 h r dr K q.1 → RQ G mX6_sum d 7 [some (.ref r), some (.int (nI br)), some (.int (nI i)), x3] [] h (Rv fun h1 => Rc h0 h1 r dr K (lpP K isPM x n q).1) := by
  intro n
  induction n with
  | zero =>
    intro i h q x3 hi rc
    refine tX6_sum_7  (r := ?_)
    refine tX6_sum_8  (r := ?_)
    refine tX6_sum_11  (kf := fun c_ => by exfalso; exact c_ ((nI_leI (by decide) (by omega)).mpr (by omega))) (kt := fun _ => ?_)
    refine tX6_sum_61  (hP := ?_)
    exact ⟨rfl, rc⟩
  | succ n ih =>
    intro i h q x3 hi rc
    obtain ⟨⟨ea, a⟩, tx, bx, sq, l1, l2, l3, l4⟩ := id rc
    have hk43 := kdP_lt rc
    have t_ := tx.1
    have b_ := bx.1
    refine tX6_sum_7  (r := ?_)
    refine tX6_sum_8  (r := ?_)
    refine tX6_sum_11  (kt := fun c_ => by exfalso; exact absurd ((nI_leI (by decide) (by omega)).mp c_) (by omega)) (kf := fun _ => ?_)
    refine tX6_sum_14  (r := ?_)
    refine tX6_sum_15 (ha := (by first | assumption | (repeat (first | assumption | exact At.set_eq2 (by first | omega | (simp only [hset, hnew]; omega) | rfl | decide) | exact At.new_eq2 _ _ (by first | omega | (simp only [hset, hnew]; omega) | rfl | decide) | refine At.set_ne ?_ (by first | omega | (simp only [hset, hnew]; omega) | rfl | decide) | refine At.new_ne ?_)))) (hv := rfl) (r := ?_)
    refine tX6_sum_18  (r := ?_)
    refine tX6_sum_21 (hi := hk43) (hj := (by omega)) (kt := fun c_21 => ?_) (kf := fun c_21 => ?_)
    · have e : lpP K isPM x (n + 1) q = lpP K isPM x n (jnP (kdP K q.1) q.2 (x (tkP K (kdP K q.1) q.1)).2 (x (tkP K (kdP K q.1) q.1)).1) := if_pos (by rw [c_21]; rfl)
      rw [e]
      refine tX6_sum_34  (r := ?_)
      refine tX6_sum_35 (ha := (by first | assumption | (repeat (first | assumption | exact At.set_eq2 (by first | omega | (simp only [hset, hnew]; omega) | rfl | decide) | exact At.new_eq2 _ _ (by first | omega | (simp only [hset, hnew]; omega) | rfl | decide) | refine At.set_ne ?_ (by first | omega | (simp only [hset, hnew]; omega) | rfl | decide) | refine At.new_ne ?_)))) (hv := rfl) (r := ?_)
      refine tX6_sum_38  (r := ?_)
      refine tX6_sum_39  (r := ?_)
      refine tX6_sum_40  (r := ?_)
      refine tX6_sum_41 (hd := (by omega)) (ha := (by first | assumption | (repeat (first | assumption | exact At.set_eq2 (by first | omega | (simp only [hset, hnew]; omega) | rfl | decide) | exact At.new_eq2 _ _ (by first | omega | (simp only [hset, hnew]; omega) | rfl | decide) | refine At.set_ne ?_ (by first | omega | (simp only [hset, hnew]; omega) | rfl | decide) | refine At.new_ne ?_)))) (call := s_rtake (d := 1) (by omega) rc (w := kdP K q.1) hk43 (by omega)) (k := ?_)
      intro h1 rc1
      obtain ⟨⟨ea1, a1⟩, tx1, bx1, sq1, l11, l21, l31, l41⟩ := id rc1
      have hk431 := kdP_lt rc1
      have t_1 := tx1.1
      have b_1 := bx1.1
      refine tX6_sum_44  (r := ?_)
      refine tX6_sum_45  (r := ?_)
      refine tX6_sum_46 (hd := (by omega)) (ha := (by first | assumption | (repeat (first | assumption | exact At.set_eq2 (by first | omega | (simp only [hset, hnew]; omega) | rfl | decide) | exact At.new_eq2 _ _ (by first | omega | (simp only [hset, hnew]; omega) | rfl | decide) | refine At.set_ne ?_ (by first | omega | (simp only [hset, hnew]; omega) | rfl | decide) | refine At.new_ne ?_)))) (call := hx _ _ rc1) (k := ?_)
      intro h2 rc2
      obtain ⟨⟨ea2, a2⟩, tx2, bx2, sq2, l12, l22, l32, l42⟩ := id rc2
      have hk432 := kdP_lt rc2
      have t_2 := tx2.1
      have b_2 := bx2.1
      refine tX6_sum_49  (r := ?_)
      refine tX6_sum_50  (r := ?_)
      refine tX6_sum_51  (r := ?_)
      refine tX6_sum_52 (hd := (by omega)) (ha := (by first | assumption | (repeat (first | assumption | exact At.set_eq2 (by first | omega | (simp only [hset, hnew]; omega) | rfl | decide) | exact At.new_eq2 _ _ (by first | omega | (simp only [hset, hnew]; omega) | rfl | decide) | refine At.set_ne ?_ (by first | omega | (simp only [hset, hnew]; omega) | rfl | decide) | refine At.new_ne ?_)))) (call := s_rstep (d := 1) (by omega) rc2 (w := kdP K q.1) (n := 0) hk43) (k := ?_)
      intro h3 rc3
      obtain ⟨⟨ea3, a3⟩, tx3, bx3, sq3, l13, l23, l33, l43⟩ := id rc3
      have hk433 := kdP_lt rc3
      have t_3 := tx3.1
      have b_3 := bx3.1
      have rc4 := rc3.nod (so := soK (kdP K q.1)) (l := q.2) (q := (x (tkP K (kdP K q.1) q.1)).2)
      refine tX6_sum_55  (r := ?_)
      rw [nI_add]
      refine tX6_sum_58 (r := ?_)
      exact ih (i + 1) _ _ _ (by omega) rc4
    · refine tX6_sum_24  (r := ?_)
      refine tX6_sum_25 (ha := (by first | assumption | (repeat (first | assumption | exact At.set_eq2 (by first | omega | (simp only [hset, hnew]; omega) | rfl | decide) | exact At.new_eq2 _ _ (by first | omega | (simp only [hset, hnew]; omega) | rfl | decide) | refine At.set_ne ?_ (by first | omega | (simp only [hset, hnew]; omega) | rfl | decide) | refine At.new_ne ?_)))) (hv := rfl) (r := ?_)
      refine tX6_sum_28  (r := ?_)
      refine tX6_sum_31 (hi := hk43) (hj := (by omega)) (kt := fun c_31 => ?_) (kf := fun c_31 => ?_)
      · have e : lpP K isPM x (n + 1) q = q := if_neg (fun z => (isPM_or z).elim c_21 c_31)
        rw [e]
        refine tX6_sum_61  (hP := ?_)
        exact ⟨rfl, rc⟩
      · have e : lpP K isPM x (n + 1) q = lpP K isPM x n (jnP (kdP K q.1) q.2 (x (tkP K (kdP K q.1) q.1)).2 (x (tkP K (kdP K q.1) q.1)).1) := if_pos (by rw [c_31]; rfl)
        rw [e]
        refine tX6_sum_34  (r := ?_)
        refine tX6_sum_35 (ha := (by first | assumption | (repeat (first | assumption | exact At.set_eq2 (by first | omega | (simp only [hset, hnew]; omega) | rfl | decide) | exact At.new_eq2 _ _ (by first | omega | (simp only [hset, hnew]; omega) | rfl | decide) | refine At.set_ne ?_ (by first | omega | (simp only [hset, hnew]; omega) | rfl | decide) | refine At.new_ne ?_)))) (hv := rfl) (r := ?_)
        refine tX6_sum_38  (r := ?_)
        refine tX6_sum_39  (r := ?_)
        refine tX6_sum_40  (r := ?_)
        refine tX6_sum_41 (hd := (by omega)) (ha := (by first | assumption | (repeat (first | assumption | exact At.set_eq2 (by first | omega | (simp only [hset, hnew]; omega) | rfl | decide) | exact At.new_eq2 _ _ (by first | omega | (simp only [hset, hnew]; omega) | rfl | decide) | refine At.set_ne ?_ (by first | omega | (simp only [hset, hnew]; omega) | rfl | decide) | refine At.new_ne ?_)))) (call := s_rtake (d := 1) (by omega) rc (w := kdP K q.1) hk43 (by omega)) (k := ?_)
        intro h1 rc1
        obtain ⟨⟨ea1, a1⟩, tx1, bx1, sq1, l11, l21, l31, l41⟩ := id rc1
        have hk431 := kdP_lt rc1
        have t_1 := tx1.1
        have b_1 := bx1.1
        refine tX6_sum_44  (r := ?_)
        refine tX6_sum_45  (r := ?_)
        refine tX6_sum_46 (hd := (by omega)) (ha := (by first | assumption | (repeat (first | assumption | exact At.set_eq2 (by first | omega | (simp only [hset, hnew]; omega) | rfl | decide) | exact At.new_eq2 _ _ (by first | omega | (simp only [hset, hnew]; omega) | rfl | decide) | refine At.set_ne ?_ (by first | omega | (simp only [hset, hnew]; omega) | rfl | decide) | refine At.new_ne ?_)))) (call := hx _ _ rc1) (k := ?_)
        intro h2 rc2
        obtain ⟨⟨ea2, a2⟩, tx2, bx2, sq2, l12, l22, l32, l42⟩ := id rc2
        have hk432 := kdP_lt rc2
        have t_2 := tx2.1
        have b_2 := bx2.1
        refine tX6_sum_49  (r := ?_)
        refine tX6_sum_50  (r := ?_)
        refine tX6_sum_51  (r := ?_)
        refine tX6_sum_52 (hd := (by omega)) (ha := (by first | assumption | (repeat (first | assumption | exact At.set_eq2 (by first | omega | (simp only [hset, hnew]; omega) | rfl | decide) | exact At.new_eq2 _ _ (by first | omega | (simp only [hset, hnew]; omega) | rfl | decide) | refine At.set_ne ?_ (by first | omega | (simp only [hset, hnew]; omega) | rfl | decide) | refine At.new_ne ?_)))) (call := s_rstep (d := 1) (by omega) rc2 (w := kdP K q.1) (n := 0) hk43) (k := ?_)
        intro h3 rc3
        obtain ⟨⟨ea3, a3⟩, tx3, bx3, sq3, l13, l23, l33, l43⟩ := id rc3
        have hk433 := kdP_lt rc3
        have t_3 := tx3.1
        have b_3 := bx3.1
        have rc4 := rc3.nod (so := soK (kdP K q.1)) (l := q.2) (q := (x (tkP K (kdP K q.1) q.1)).2)
        refine tX6_sum_55  (r := ?_)
        rw [nI_add]
        refine tX6_sum_58 (r := ?_)
        exact ih (i + 1) _ _ _ (by omega) rc4

set_option maxHeartbeats 4000000 in
set_option maxRecDepth 100000 in
theorem s_rsumF {d2 br : Nat} {x : PST → PST × Nat} (hx : ∀ h s, Rc h0 h r dr K s → RQ G mX6_product d2 0 [some (.ref r), some (.int (nI br)), none] [] h (Rv fun h1 => Rc h0 h1 r dr K (x s).1)) (hd : d2 + 1 ≤ d) (hd3 : 3 ≤ d) (rc : Rc h0 h r dr K s) : RQ G mX6_sum d 0 [some (.ref r), some (.int (nI br)), none, none] [] h (Rv fun h1 => Rc h0 h1 r dr K ((opP K isPM x s).1)) := by
  obtain ⟨⟨ea, a0⟩, tx, bx, sq, l1, l2, l3, l4⟩ := id rc
  have z0 := a0.1
  have b0 := bx.1
  have t0 := tx.1
  have hk43 := kdP_lt rc
  refine tX6_sum_0  (r := ?_)
  refine tX6_sum_1  (r := ?_)
  refine tX6_sum_2 (hd := (by omega)) (ha := (by first | assumption | (repeat (first | assumption | exact At.set_eq2 (by first | omega | (simp only [hset, hnew]; omega) | rfl | decide) | exact At.new_eq2 _ _ (by first | omega | (simp only [hset, hnew]; omega) | rfl | decide) | refine At.set_ne ?_ (by first | omega | (simp only [hset, hnew]; omega) | rfl | decide) | refine At.new_ne ?_)))) (call := hx _ _ rc) (k := ?_)
  intro h1 rc1
  obtain ⟨⟨ea1, a1⟩, tx1, bx1, sq1, l11, l21, l31, l41⟩ := id rc1
  have hk431 := kdP_lt rc1
  have t_1 := tx1.1
  have b_1 := bx1.1
  refine tX6_sum_5  (r := ?_)
  refine tX6_sum_6  (r := ?_)
  exact s_rsum_l hx hd hd3 400 0 _ _ _ (by omega) rc1

theorem s_rsum : ∀ (b br d : Nat) (h : AH) (s : PST), br + b = 6 → 5 + 3 * b ≤ d → Rc h0 h r dr K s → RQ G mX6_sum d 0 [some (.ref r), some (.int (nI br)), none, none] [] h (Rv fun h1 => Rc h0 h1 r dr K (smP K b s).1)
  | 0, br, d, h, s, hb, hd, rc => s_rsumF (d2 := 4) (x := pdP K none) (fun h s rc => s_rprod (d2 := 3) (fun h s rc => s_ratom (d2 := 0) (sub := none) (fun f e => nomatch e) (fun _ => by omega) (by omega) (by omega) (by omega) rc) (by omega) (by omega) rc) (by omega) (by omega) rc
  | b + 1, br, d, h, s, hb, hd, rc => s_rsumF (d2 := 4 + 3 * b + 3) (x := pdP K (some (smP K b))) (fun h s rc => s_rprod (d2 := 4 + 3 * b + 2) (fun h s rc => s_ratom (d2 := 4 + 3 * b + 1) (sub := some (smP K b)) (fun f e => by
      cases e
      exact ⟨by omega, fun h s rc => s_rsum b (br + 1) (4 + 3 * b + 1) h s (by omega) (by omega) rc⟩) (fun e => nomatch e) (by omega) (by omega) (by omega) rc) (by omega) (by omega) rc) (by omega) (by omega) rc

set_option maxHeartbeats 4000000 in
set_option maxRecDepth 100000 in
theorem s_rkept {d2 br : Nat} {sub : Option (PST → PST × Nat)} {sm : PST → PST × Nat} (hsm : ∀ h s, Rc h0 h r dr K s → RQ G mX6_sum d2 0 [some (.ref r), some (.int (nI br)), none, none] [] h (Rv fun h1 => Rc h0 h1 r dr K (sm s).1)) (hsub : ∀ f, sub = some f → br < 6 ∧ ∀ h s, Rc h0 h r dr K s → RQ G mX6_test d2 0 [some (.ref r), some (.int (nI (br + 1))), none] [] h (Rv fun h1 => Rc h0 h1 r dr K (f s).1)) (hno : sub = none → 6 ≤ br) (hbr : br ≤ 6) (hd : d2 + 1 ≤ d) (hd3 : 3 ≤ d) (rc : Rc h0 h r dr K s) : RQ G mX6_kept d 0 [some (.ref r), some (.int (nI br)), none, none] [] h (Rv fun h1 => Rc h0 h1 r dr K ((kpP K sub sm s).1)) := by
  obtain ⟨⟨ea, a0⟩, tx, bx, sq, l1, l2, l3, l4⟩ := id rc
  have z0 := a0.1
  have b0 := bx.1
  have t0 := tx.1
  have hk43 := kdP_lt rc
  refine tX6_kept_0  (r := ?_)
  refine tX6_kept_1 (ha := (by first | assumption | (repeat (first | assumption | exact At.set_eq2 (by first | omega | (simp only [hset, hnew]; omega) | rfl | decide) | exact At.new_eq2 _ _ (by first | omega | (simp only [hset, hnew]; omega) | rfl | decide) | refine At.set_ne ?_ (by first | omega | (simp only [hset, hnew]; omega) | rfl | decide) | refine At.new_ne ?_)))) (hv := rfl) (r := ?_)
  refine tX6_kept_4  (r := ?_)
  refine tX6_kept_5  (r := ?_)
  refine tX6_kept_6  (r := ?_)
  refine tX6_kept_9 (hi := hk43) (hj := (by omega)) (kt := fun c_9 => ?_) (kf := fun c_9 => ?_)
  · have e29 : ¬ (kdP K s = 29 ∧ sub.isSome = true) := fun z => c_9 z.1
    refine tX6_kept_42  (r := ?_)
    refine tX6_kept_43  (r := ?_)
    refine tX6_kept_46 (hi := hk43) (hj := (by omega)) (kt := fun c_46 => ?_) (kf := fun c_46 => ?_)
    · have ee : kpP K sub sm s = lkP K (kdP K s) s := by
        unfold kpP
        rw [if_neg (fun z => e29 z)]
        rw [if_pos (Or.inl c_46)]
      refine tX6_kept_56  (r := ?_)
      refine tX6_kept_57  (r := ?_)
      refine tX6_kept_58 (hd := (by omega)) (ha := (by first | assumption | (repeat (first | assumption | exact At.set_eq2 (by first | omega | (simp only [hset, hnew]; omega) | rfl | decide) | exact At.new_eq2 _ _ (by first | omega | (simp only [hset, hnew]; omega) | rfl | decide) | refine At.set_ne ?_ (by first | omega | (simp only [hset, hnew]; omega) | rfl | decide) | refine At.new_ne ?_)))) (call := s_rtake (d := 1) (by omega) rc (w := kdP K s) hk43 (by omega)) (k := ?_)
      intro h1 rc1
      obtain ⟨⟨ea1, a1⟩, tx1, bx1, sq1, l11, l21, l31, l41⟩ := id rc1
      have hk431 := kdP_lt rc1
      have t_1 := tx1.1
      have b_1 := bx1.1
      refine tX6_kept_61  (r := ?_)
      refine tX6_kept_62  (r := ?_)
      refine tX6_kept_63  (r := ?_)
      refine tX6_kept_64 (hd := (by omega)) (ha := (by first | assumption | (repeat (first | assumption | exact At.set_eq2 (by first | omega | (simp only [hset, hnew]; omega) | rfl | decide) | exact At.new_eq2 _ _ (by first | omega | (simp only [hset, hnew]; omega) | rfl | decide) | refine At.set_ne ?_ (by first | omega | (simp only [hset, hnew]; omega) | rfl | decide) | refine At.new_ne ?_)))) (call := s_rlab (d := 2) (by omega) rc1) (k := ?_)
      rintro x_ h2 ⟨hx_, rc2⟩
      rw [hx_]
      obtain ⟨⟨ea2, a2⟩, tx2, bx2, sq2, l12, l22, l32, l42⟩ := id rc2
      have hk432 := kdP_lt rc2
      have t_2 := tx2.1
      have b_2 := bx2.1
      refine tX6_kept_67 (hd := (by omega)) (ha := (by first | assumption | (repeat (first | assumption | exact At.set_eq2 (by first | omega | (simp only [hset, hnew]; omega) | rfl | decide) | exact At.new_eq2 _ _ (by first | omega | (simp only [hset, hnew]; omega) | rfl | decide) | refine At.set_ne ?_ (by first | omega | (simp only [hset, hnew]; omega) | rfl | decide) | refine At.new_ne ?_)))) (call := s_rstepO (d := 2) (by omega) rc2 (w := kdP K s) hk43) (k := ?_)
      intro h3 rc3
      obtain ⟨⟨ea3, a3⟩, tx3, bx3, sq3, l13, l23, l33, l43⟩ := id rc3
      have hk433 := kdP_lt rc3
      have t_3 := tx3.1
      have b_3 := bx3.1
      refine tX6_kept_70  (r := ?_)
      refine tX6_kept_71  (r := ?_)
      refine tX6_kept_74 (hd := (by omega)) (ha := (by first | assumption | (repeat (first | assumption | exact At.set_eq2 (by first | omega | (simp only [hset, hnew]; omega) | rfl | decide) | exact At.new_eq2 _ _ (by first | omega | (simp only [hset, hnew]; omega) | rfl | decide) | refine At.set_ne ?_ (by first | omega | (simp only [hset, hnew]; omega) | rfl | decide) | refine At.new_ne ?_)))) (call := s_rtake (d := 1) (by omega) rc3 (w := 39) (by decide) (by decide)) (k := ?_)
      intro h4 rc4
      obtain ⟨⟨ea4, a4⟩, tx4, bx4, sq4, l14, l24, l34, l44⟩ := id rc4
      have hk434 := kdP_lt rc4
      have t_4 := tx4.1
      have b_4 := bx4.1
      refine tX6_kept_77 (r := ?_)
      refine tX6_kept_126  (hP := ?_)
      rw [ee]
      exact ⟨rfl, rc4.nod⟩
    · refine tX6_kept_49  (r := ?_)
      refine tX6_kept_50  (r := ?_)
      refine tX6_kept_53 (hi := hk43) (hj := (by omega)) (kt := fun c_53 => ?_) (kf := fun c_53 => ?_)
      · have ee : kpP K sub sm s = cmP K sm s := by
          unfold kpP
          rw [if_neg (fun z => e29 z)]
          rw [if_neg (by omega)]
        refine tX6_kept_80  (r := ?_)
        refine tX6_kept_81  (r := ?_)
        refine tX6_kept_82 (hd := (by omega)) (ha := (by first | assumption | (repeat (first | assumption | exact At.set_eq2 (by first | omega | (simp only [hset, hnew]; omega) | rfl | decide) | exact At.new_eq2 _ _ (by first | omega | (simp only [hset, hnew]; omega) | rfl | decide) | refine At.set_ne ?_ (by first | omega | (simp only [hset, hnew]; omega) | rfl | decide) | refine At.new_ne ?_)))) (call := hsm _ _ rc) (k := ?_)
        intro h1 rc1
        obtain ⟨⟨ea1, a1⟩, tx1, bx1, sq1, l11, l21, l31, l41⟩ := id rc1
        have hk431 := kdP_lt rc1
        have t_1 := tx1.1
        have b_1 := bx1.1
        have w43 : sgW (kdP K (sm s).1) < 43 := by
          unfold sgW
          split <;> omega
        have w42 : sgW (kdP K (sm s).1) ≠ 42 := by
          unfold sgW
          split <;> omega
        refine tX6_kept_85  (r := ?_)
        refine tX6_kept_86 (ha := (by first | assumption | (repeat (first | assumption | exact At.set_eq2 (by first | omega | (simp only [hset, hnew]; omega) | rfl | decide) | exact At.new_eq2 _ _ (by first | omega | (simp only [hset, hnew]; omega) | rfl | decide) | refine At.set_ne ?_ (by first | omega | (simp only [hset, hnew]; omega) | rfl | decide) | refine At.new_ne ?_)))) (hv := rfl) (r := ?_)
        refine tX6_kept_89  (r := ?_)
        refine tX6_kept_90  (r := ?_)
        refine tX6_kept_91  (r := ?_)
        refine tX6_kept_92  (r := ?_)
        refine tX6_kept_95 (hi := hk431) (hj := (by omega)) (kt := fun c_95 => ?_) (kf := fun c_95 => ?_)
        · have ew : sgW (kdP K (sm s).1) = kdP K (sm s).1 := if_pos (Or.inl c_95)
          refine tX6_kept_105  (r := ?_)
          refine tX6_kept_106 (r := ?_)
          refine tX6_kept_112 (hd := (by omega)) (ha := (by first | assumption | (repeat (first | assumption | exact At.set_eq2 (by first | omega | (simp only [hset, hnew]; omega) | rfl | decide) | exact At.new_eq2 _ _ (by first | omega | (simp only [hset, hnew]; omega) | rfl | decide) | refine At.set_ne ?_ (by first | omega | (simp only [hset, hnew]; omega) | rfl | decide) | refine At.new_ne ?_)))) (call := s_rtake (d := 1) (by omega) rc1 (w := kdP K (sm s).1) hk431 (by omega)) (k := ?_)
          intro h2 rc2
          obtain ⟨⟨ea2, a2⟩, tx2, bx2, sq2, l12, l22, l32, l42⟩ := id rc2
          have hk432 := kdP_lt rc2
          have t_2 := tx2.1
          have b_2 := bx2.1
          rw [← ew] at rc2
          refine tX6_kept_115  (r := ?_)
          refine tX6_kept_116  (r := ?_)
          refine tX6_kept_117 (hd := (by omega)) (ha := (by first | assumption | (repeat (first | assumption | exact At.set_eq2 (by first | omega | (simp only [hset, hnew]; omega) | rfl | decide) | exact At.new_eq2 _ _ (by first | omega | (simp only [hset, hnew]; omega) | rfl | decide) | refine At.set_ne ?_ (by first | omega | (simp only [hset, hnew]; omega) | rfl | decide) | refine At.new_ne ?_)))) (call := hsm _ _ rc2) (k := ?_)
          intro h3 rc3
          obtain ⟨⟨ea3, a3⟩, tx3, bx3, sq3, l13, l23, l33, l43⟩ := id rc3
          have hk433 := kdP_lt rc3
          have t_3 := tx3.1
          have b_3 := bx3.1
          refine tX6_kept_120  (r := ?_)
          refine tX6_kept_121  (r := ?_)
          refine tX6_kept_122  (r := ?_)
          refine tX6_kept_123 (hd := (by omega)) (ha := (by first | assumption | (repeat (first | assumption | exact At.set_eq2 (by first | omega | (simp only [hset, hnew]; omega) | rfl | decide) | exact At.new_eq2 _ _ (by first | omega | (simp only [hset, hnew]; omega) | rfl | decide) | refine At.set_ne ?_ (by first | omega | (simp only [hset, hnew]; omega) | rfl | decide) | refine At.new_ne ?_)))) (call := s_rstep (d := 1) (by omega) rc3 (w := kdP K (sm s).1) (n := 0) hk431) (k := ?_)
          intro h4 rc4
          obtain ⟨⟨ea4, a4⟩, tx4, bx4, sq4, l14, l24, l34, l44⟩ := id rc4
          have hk434 := kdP_lt rc4
          have t_4 := tx4.1
          have b_4 := bx4.1
          have rc5 := rc4.nod (so := soK (kdP K (sm s).1)) (l := (sm s).2) (q := (sm (tkP K (sgW (kdP K (sm s).1)) (sm s).1)).2)
          refine tX6_kept_126  (hP := ?_)
          rw [ee]
          exact ⟨rfl, rc5⟩
        · refine tX6_kept_98  (r := ?_)
          refine tX6_kept_99  (r := ?_)
          refine tX6_kept_102 (hi := hk431) (hj := (by omega)) (kt := fun c_102 => ?_) (kf := fun c_102 => ?_)
          · have ew : sgW (kdP K (sm s).1) = 35 := if_neg (fun z => z.elim c_95 c_102)
            refine tX6_kept_109  (r := ?_)
            refine tX6_kept_112 (hd := (by omega)) (ha := (by first | assumption | (repeat (first | assumption | exact At.set_eq2 (by first | omega | (simp only [hset, hnew]; omega) | rfl | decide) | exact At.new_eq2 _ _ (by first | omega | (simp only [hset, hnew]; omega) | rfl | decide) | refine At.set_ne ?_ (by first | omega | (simp only [hset, hnew]; omega) | rfl | decide) | refine At.new_ne ?_)))) (call := s_rtake (d := 1) (by omega) rc1 (w := 35) (by decide) (by decide)) (k := ?_)
            intro h2 rc2
            obtain ⟨⟨ea2, a2⟩, tx2, bx2, sq2, l12, l22, l32, l42⟩ := id rc2
            have hk432 := kdP_lt rc2
            have t_2 := tx2.1
            have b_2 := bx2.1
            rw [← ew] at rc2
            refine tX6_kept_115  (r := ?_)
            refine tX6_kept_116  (r := ?_)
            refine tX6_kept_117 (hd := (by omega)) (ha := (by first | assumption | (repeat (first | assumption | exact At.set_eq2 (by first | omega | (simp only [hset, hnew]; omega) | rfl | decide) | exact At.new_eq2 _ _ (by first | omega | (simp only [hset, hnew]; omega) | rfl | decide) | refine At.set_ne ?_ (by first | omega | (simp only [hset, hnew]; omega) | rfl | decide) | refine At.new_ne ?_)))) (call := hsm _ _ rc2) (k := ?_)
            intro h3 rc3
            obtain ⟨⟨ea3, a3⟩, tx3, bx3, sq3, l13, l23, l33, l43⟩ := id rc3
            have hk433 := kdP_lt rc3
            have t_3 := tx3.1
            have b_3 := bx3.1
            refine tX6_kept_120  (r := ?_)
            refine tX6_kept_121  (r := ?_)
            refine tX6_kept_122  (r := ?_)
            refine tX6_kept_123 (hd := (by omega)) (ha := (by first | assumption | (repeat (first | assumption | exact At.set_eq2 (by first | omega | (simp only [hset, hnew]; omega) | rfl | decide) | exact At.new_eq2 _ _ (by first | omega | (simp only [hset, hnew]; omega) | rfl | decide) | refine At.set_ne ?_ (by first | omega | (simp only [hset, hnew]; omega) | rfl | decide) | refine At.new_ne ?_)))) (call := s_rstep (d := 1) (by omega) rc3 (w := kdP K (sm s).1) (n := 0) hk431) (k := ?_)
            intro h4 rc4
            obtain ⟨⟨ea4, a4⟩, tx4, bx4, sq4, l14, l24, l34, l44⟩ := id rc4
            have hk434 := kdP_lt rc4
            have t_4 := tx4.1
            have b_4 := bx4.1
            have rc5 := rc4.nod (so := soK (kdP K (sm s).1)) (l := (sm s).2) (q := (sm (tkP K (sgW (kdP K (sm s).1)) (sm s).1)).2)
            refine tX6_kept_126  (hP := ?_)
            rw [ee]
            exact ⟨rfl, rc5⟩
          · have ew : sgW (kdP K (sm s).1) = kdP K (sm s).1 := if_pos (Or.inr c_102)
            refine tX6_kept_105  (r := ?_)
            refine tX6_kept_106 (r := ?_)
            refine tX6_kept_112 (hd := (by omega)) (ha := (by first | assumption | (repeat (first | assumption | exact At.set_eq2 (by first | omega | (simp only [hset, hnew]; omega) | rfl | decide) | exact At.new_eq2 _ _ (by first | omega | (simp only [hset, hnew]; omega) | rfl | decide) | refine At.set_ne ?_ (by first | omega | (simp only [hset, hnew]; omega) | rfl | decide) | refine At.new_ne ?_)))) (call := s_rtake (d := 1) (by omega) rc1 (w := kdP K (sm s).1) hk431 (by omega)) (k := ?_)
            intro h2 rc2
            obtain ⟨⟨ea2, a2⟩, tx2, bx2, sq2, l12, l22, l32, l42⟩ := id rc2
            have hk432 := kdP_lt rc2
            have t_2 := tx2.1
            have b_2 := bx2.1
            rw [← ew] at rc2
            refine tX6_kept_115  (r := ?_)
            refine tX6_kept_116  (r := ?_)
            refine tX6_kept_117 (hd := (by omega)) (ha := (by first | assumption | (repeat (first | assumption | exact At.set_eq2 (by first | omega | (simp only [hset, hnew]; omega) | rfl | decide) | exact At.new_eq2 _ _ (by first | omega | (simp only [hset, hnew]; omega) | rfl | decide) | refine At.set_ne ?_ (by first | omega | (simp only [hset, hnew]; omega) | rfl | decide) | refine At.new_ne ?_)))) (call := hsm _ _ rc2) (k := ?_)
            intro h3 rc3
            obtain ⟨⟨ea3, a3⟩, tx3, bx3, sq3, l13, l23, l33, l43⟩ := id rc3
            have hk433 := kdP_lt rc3
            have t_3 := tx3.1
            have b_3 := bx3.1
            refine tX6_kept_120  (r := ?_)
            refine tX6_kept_121  (r := ?_)
            refine tX6_kept_122  (r := ?_)
            refine tX6_kept_123 (hd := (by omega)) (ha := (by first | assumption | (repeat (first | assumption | exact At.set_eq2 (by first | omega | (simp only [hset, hnew]; omega) | rfl | decide) | exact At.new_eq2 _ _ (by first | omega | (simp only [hset, hnew]; omega) | rfl | decide) | refine At.set_ne ?_ (by first | omega | (simp only [hset, hnew]; omega) | rfl | decide) | refine At.new_ne ?_)))) (call := s_rstep (d := 1) (by omega) rc3 (w := kdP K (sm s).1) (n := 0) hk431) (k := ?_)
            intro h4 rc4
            obtain ⟨⟨ea4, a4⟩, tx4, bx4, sq4, l14, l24, l34, l44⟩ := id rc4
            have hk434 := kdP_lt rc4
            have t_4 := tx4.1
            have b_4 := bx4.1
            have rc5 := rc4.nod (so := soK (kdP K (sm s).1)) (l := (sm s).2) (q := (sm (tkP K (sgW (kdP K (sm s).1)) (sm s).1)).2)
            refine tX6_kept_126  (hP := ?_)
            rw [ee]
            exact ⟨rfl, rc5⟩
      · have ee : kpP K sub sm s = lkP K (kdP K s) s := by
          unfold kpP
          rw [if_neg (fun z => e29 z)]
          rw [if_pos (Or.inr c_53)]
        refine tX6_kept_56  (r := ?_)
        refine tX6_kept_57  (r := ?_)
        refine tX6_kept_58 (hd := (by omega)) (ha := (by first | assumption | (repeat (first | assumption | exact At.set_eq2 (by first | omega | (simp only [hset, hnew]; omega) | rfl | decide) | exact At.new_eq2 _ _ (by first | omega | (simp only [hset, hnew]; omega) | rfl | decide) | refine At.set_ne ?_ (by first | omega | (simp only [hset, hnew]; omega) | rfl | decide) | refine At.new_ne ?_)))) (call := s_rtake (d := 1) (by omega) rc (w := kdP K s) hk43 (by omega)) (k := ?_)
        intro h1 rc1
        obtain ⟨⟨ea1, a1⟩, tx1, bx1, sq1, l11, l21, l31, l41⟩ := id rc1
        have hk431 := kdP_lt rc1
        have t_1 := tx1.1
        have b_1 := bx1.1
        refine tX6_kept_61  (r := ?_)
        refine tX6_kept_62  (r := ?_)
        refine tX6_kept_63  (r := ?_)
        refine tX6_kept_64 (hd := (by omega)) (ha := (by first | assumption | (repeat (first | assumption | exact At.set_eq2 (by first | omega | (simp only [hset, hnew]; omega) | rfl | decide) | exact At.new_eq2 _ _ (by first | omega | (simp only [hset, hnew]; omega) | rfl | decide) | refine At.set_ne ?_ (by first | omega | (simp only [hset, hnew]; omega) | rfl | decide) | refine At.new_ne ?_)))) (call := s_rlab (d := 2) (by omega) rc1) (k := ?_)
        rintro x_ h2 ⟨hx_, rc2⟩
        rw [hx_]
        obtain ⟨⟨ea2, a2⟩, tx2, bx2, sq2, l12, l22, l32, l42⟩ := id rc2
        have hk432 := kdP_lt rc2
        have t_2 := tx2.1
        have b_2 := bx2.1
        refine tX6_kept_67 (hd := (by omega)) (ha := (by first | assumption | (repeat (first | assumption | exact At.set_eq2 (by first | omega | (simp only [hset, hnew]; omega) | rfl | decide) | exact At.new_eq2 _ _ (by first | omega | (simp only [hset, hnew]; omega) | rfl | decide) | refine At.set_ne ?_ (by first | omega | (simp only [hset, hnew]; omega) | rfl | decide) | refine At.new_ne ?_)))) (call := s_rstepO (d := 2) (by omega) rc2 (w := kdP K s) hk43) (k := ?_)
        intro h3 rc3
        obtain ⟨⟨ea3, a3⟩, tx3, bx3, sq3, l13, l23, l33, l43⟩ := id rc3
        have hk433 := kdP_lt rc3
        have t_3 := tx3.1
        have b_3 := bx3.1
        refine tX6_kept_70  (r := ?_)
        refine tX6_kept_71  (r := ?_)
        refine tX6_kept_74 (hd := (by omega)) (ha := (by first | assumption | (repeat (first | assumption | exact At.set_eq2 (by first | omega | (simp only [hset, hnew]; omega) | rfl | decide) | exact At.new_eq2 _ _ (by first | omega | (simp only [hset, hnew]; omega) | rfl | decide) | refine At.set_ne ?_ (by first | omega | (simp only [hset, hnew]; omega) | rfl | decide) | refine At.new_ne ?_)))) (call := s_rtake (d := 1) (by omega) rc3 (w := 39) (by decide) (by decide)) (k := ?_)
        intro h4 rc4
        obtain ⟨⟨ea4, a4⟩, tx4, bx4, sq4, l14, l24, l34, l44⟩ := id rc4
        have hk434 := kdP_lt rc4
        have t_4 := tx4.1
        have b_4 := bx4.1
        refine tX6_kept_77 (r := ?_)
        refine tX6_kept_126  (hP := ?_)
        rw [ee]
        exact ⟨rfl, rc4.nod⟩
  · refine tX6_kept_12  (r := ?_)
    refine tX6_kept_13  (r := ?_)
    refine tX6_kept_15  (kt := fun c_15 => ?_) (kf := fun c_15 => ?_)
    · have b6 : 6 ≤ br := (nI_leI (by decide) (by omega)).mp c_15
      have e29 : ¬ (kdP K s = 29 ∧ sub.isSome = true) := fun z => by
        cases sub with
        | none => exact absurd z.2 (by decide)
        | some f =>
          have := (hsub f rfl).1
          omega
      refine tX6_kept_42  (r := ?_)
      refine tX6_kept_43  (r := ?_)
      refine tX6_kept_46 (hi := hk43) (hj := (by omega)) (kt := fun c_46 => ?_) (kf := fun c_46 => ?_)
      · have ee : kpP K sub sm s = lkP K (kdP K s) s := by
          unfold kpP
          rw [if_neg (fun z => e29 z)]
          rw [if_pos (Or.inl c_46)]
        refine tX6_kept_56  (r := ?_)
        refine tX6_kept_57  (r := ?_)
        refine tX6_kept_58 (hd := (by omega)) (ha := (by first | assumption | (repeat (first | assumption | exact At.set_eq2 (by first | omega | (simp only [hset, hnew]; omega) | rfl | decide) | exact At.new_eq2 _ _ (by first | omega | (simp only [hset, hnew]; omega) | rfl | decide) | refine At.set_ne ?_ (by first | omega | (simp only [hset, hnew]; omega) | rfl | decide) | refine At.new_ne ?_)))) (call := s_rtake (d := 1) (by omega) rc (w := kdP K s) hk43 (by omega)) (k := ?_)
        intro h1 rc1
        obtain ⟨⟨ea1, a1⟩, tx1, bx1, sq1, l11, l21, l31, l41⟩ := id rc1
        have hk431 := kdP_lt rc1
        have t_1 := tx1.1
        have b_1 := bx1.1
        refine tX6_kept_61  (r := ?_)
        refine tX6_kept_62  (r := ?_)
        refine tX6_kept_63  (r := ?_)
        refine tX6_kept_64 (hd := (by omega)) (ha := (by first | assumption | (repeat (first | assumption | exact At.set_eq2 (by first | omega | (simp only [hset, hnew]; omega) | rfl | decide) | exact At.new_eq2 _ _ (by first | omega | (simp only [hset, hnew]; omega) | rfl | decide) | refine At.set_ne ?_ (by first | omega | (simp only [hset, hnew]; omega) | rfl | decide) | refine At.new_ne ?_)))) (call := s_rlab (d := 2) (by omega) rc1) (k := ?_)
        rintro x_ h2 ⟨hx_, rc2⟩
        rw [hx_]
        obtain ⟨⟨ea2, a2⟩, tx2, bx2, sq2, l12, l22, l32, l42⟩ := id rc2
        have hk432 := kdP_lt rc2
        have t_2 := tx2.1
        have b_2 := bx2.1
        refine tX6_kept_67 (hd := (by omega)) (ha := (by first | assumption | (repeat (first | assumption | exact At.set_eq2 (by first | omega | (simp only [hset, hnew]; omega) | rfl | decide) | exact At.new_eq2 _ _ (by first | omega | (simp only [hset, hnew]; omega) | rfl | decide) | refine At.set_ne ?_ (by first | omega | (simp only [hset, hnew]; omega) | rfl | decide) | refine At.new_ne ?_)))) (call := s_rstepO (d := 2) (by omega) rc2 (w := kdP K s) hk43) (k := ?_)
        intro h3 rc3
        obtain ⟨⟨ea3, a3⟩, tx3, bx3, sq3, l13, l23, l33, l43⟩ := id rc3
        have hk433 := kdP_lt rc3
        have t_3 := tx3.1
        have b_3 := bx3.1
        refine tX6_kept_70  (r := ?_)
        refine tX6_kept_71  (r := ?_)
        refine tX6_kept_74 (hd := (by omega)) (ha := (by first | assumption | (repeat (first | assumption | exact At.set_eq2 (by first | omega | (simp only [hset, hnew]; omega) | rfl | decide) | exact At.new_eq2 _ _ (by first | omega | (simp only [hset, hnew]; omega) | rfl | decide) | refine At.set_ne ?_ (by first | omega | (simp only [hset, hnew]; omega) | rfl | decide) | refine At.new_ne ?_)))) (call := s_rtake (d := 1) (by omega) rc3 (w := 39) (by decide) (by decide)) (k := ?_)
        intro h4 rc4
        obtain ⟨⟨ea4, a4⟩, tx4, bx4, sq4, l14, l24, l34, l44⟩ := id rc4
        have hk434 := kdP_lt rc4
        have t_4 := tx4.1
        have b_4 := bx4.1
        refine tX6_kept_77 (r := ?_)
        refine tX6_kept_126  (hP := ?_)
        rw [ee]
        exact ⟨rfl, rc4.nod⟩
      · refine tX6_kept_49  (r := ?_)
        refine tX6_kept_50  (r := ?_)
        refine tX6_kept_53 (hi := hk43) (hj := (by omega)) (kt := fun c_53 => ?_) (kf := fun c_53 => ?_)
        · have ee : kpP K sub sm s = cmP K sm s := by
            unfold kpP
            rw [if_neg (fun z => e29 z)]
            rw [if_neg (by omega)]
          refine tX6_kept_80  (r := ?_)
          refine tX6_kept_81  (r := ?_)
          refine tX6_kept_82 (hd := (by omega)) (ha := (by first | assumption | (repeat (first | assumption | exact At.set_eq2 (by first | omega | (simp only [hset, hnew]; omega) | rfl | decide) | exact At.new_eq2 _ _ (by first | omega | (simp only [hset, hnew]; omega) | rfl | decide) | refine At.set_ne ?_ (by first | omega | (simp only [hset, hnew]; omega) | rfl | decide) | refine At.new_ne ?_)))) (call := hsm _ _ rc) (k := ?_)
          intro h1 rc1
          obtain ⟨⟨ea1, a1⟩, tx1, bx1, sq1, l11, l21, l31, l41⟩ := id rc1
          have hk431 := kdP_lt rc1
          have t_1 := tx1.1
          have b_1 := bx1.1
          have w43 : sgW (kdP K (sm s).1) < 43 := by
            unfold sgW
            split <;> omega
          have w42 : sgW (kdP K (sm s).1) ≠ 42 := by
            unfold sgW
            split <;> omega
          refine tX6_kept_85  (r := ?_)
          refine tX6_kept_86 (ha := (by first | assumption | (repeat (first | assumption | exact At.set_eq2 (by first | omega | (simp only [hset, hnew]; omega) | rfl | decide) | exact At.new_eq2 _ _ (by first | omega | (simp only [hset, hnew]; omega) | rfl | decide) | refine At.set_ne ?_ (by first | omega | (simp only [hset, hnew]; omega) | rfl | decide) | refine At.new_ne ?_)))) (hv := rfl) (r := ?_)
          refine tX6_kept_89  (r := ?_)
          refine tX6_kept_90  (r := ?_)
          refine tX6_kept_91  (r := ?_)
          refine tX6_kept_92  (r := ?_)
          refine tX6_kept_95 (hi := hk431) (hj := (by omega)) (kt := fun c_95 => ?_) (kf := fun c_95 => ?_)
          · have ew : sgW (kdP K (sm s).1) = kdP K (sm s).1 := if_pos (Or.inl c_95)
            refine tX6_kept_105  (r := ?_)
            refine tX6_kept_106 (r := ?_)
            refine tX6_kept_112 (hd := (by omega)) (ha := (by first | assumption | (repeat (first | assumption | exact At.set_eq2 (by first | omega | (simp only [hset, hnew]; omega) | rfl | decide) | exact At.new_eq2 _ _ (by first | omega | (simp only [hset, hnew]; omega) | rfl | decide) | refine At.set_ne ?_ (by first | omega | (simp only [hset, hnew]; omega) | rfl | decide) | refine At.new_ne ?_)))) (call := s_rtake (d := 1) (by omega) rc1 (w := kdP K (sm s).1) hk431 (by omega)) (k := ?_)
            intro h2 rc2
            obtain ⟨⟨ea2, a2⟩, tx2, bx2, sq2, l12, l22, l32, l42⟩ := id rc2
            have hk432 := kdP_lt rc2
            have t_2 := tx2.1
            have b_2 := bx2.1
            rw [← ew] at rc2
            refine tX6_kept_115  (r := ?_)
            refine tX6_kept_116  (r := ?_)
            refine tX6_kept_117 (hd := (by omega)) (ha := (by first | assumption | (repeat (first | assumption | exact At.set_eq2 (by first | omega | (simp only [hset, hnew]; omega) | rfl | decide) | exact At.new_eq2 _ _ (by first | omega | (simp only [hset, hnew]; omega) | rfl | decide) | refine At.set_ne ?_ (by first | omega | (simp only [hset, hnew]; omega) | rfl | decide) | refine At.new_ne ?_)))) (call := hsm _ _ rc2) (k := ?_)
            intro h3 rc3
            obtain ⟨⟨ea3, a3⟩, tx3, bx3, sq3, l13, l23, l33, l43⟩ := id rc3
            have hk433 := kdP_lt rc3
            have t_3 := tx3.1
            have b_3 := bx3.1
            refine tX6_kept_120  (r := ?_)
            refine tX6_kept_121  (r := ?_)
            refine tX6_kept_122  (r := ?_)
            refine tX6_kept_123 (hd := (by omega)) (ha := (by first | assumption | (repeat (first | assumption | exact At.set_eq2 (by first | omega | (simp only [hset, hnew]; omega) | rfl | decide) | exact At.new_eq2 _ _ (by first | omega | (simp only [hset, hnew]; omega) | rfl | decide) | refine At.set_ne ?_ (by first | omega | (simp only [hset, hnew]; omega) | rfl | decide) | refine At.new_ne ?_)))) (call := s_rstep (d := 1) (by omega) rc3 (w := kdP K (sm s).1) (n := 0) hk431) (k := ?_)
            intro h4 rc4
            obtain ⟨⟨ea4, a4⟩, tx4, bx4, sq4, l14, l24, l34, l44⟩ := id rc4
            have hk434 := kdP_lt rc4
            have t_4 := tx4.1
            have b_4 := bx4.1
            have rc5 := rc4.nod (so := soK (kdP K (sm s).1)) (l := (sm s).2) (q := (sm (tkP K (sgW (kdP K (sm s).1)) (sm s).1)).2)
            refine tX6_kept_126  (hP := ?_)
            rw [ee]
            exact ⟨rfl, rc5⟩
          · refine tX6_kept_98  (r := ?_)
            refine tX6_kept_99  (r := ?_)
            refine tX6_kept_102 (hi := hk431) (hj := (by omega)) (kt := fun c_102 => ?_) (kf := fun c_102 => ?_)
            · have ew : sgW (kdP K (sm s).1) = 35 := if_neg (fun z => z.elim c_95 c_102)
              refine tX6_kept_109  (r := ?_)
              refine tX6_kept_112 (hd := (by omega)) (ha := (by first | assumption | (repeat (first | assumption | exact At.set_eq2 (by first | omega | (simp only [hset, hnew]; omega) | rfl | decide) | exact At.new_eq2 _ _ (by first | omega | (simp only [hset, hnew]; omega) | rfl | decide) | refine At.set_ne ?_ (by first | omega | (simp only [hset, hnew]; omega) | rfl | decide) | refine At.new_ne ?_)))) (call := s_rtake (d := 1) (by omega) rc1 (w := 35) (by decide) (by decide)) (k := ?_)
              intro h2 rc2
              obtain ⟨⟨ea2, a2⟩, tx2, bx2, sq2, l12, l22, l32, l42⟩ := id rc2
              have hk432 := kdP_lt rc2
              have t_2 := tx2.1
              have b_2 := bx2.1
              rw [← ew] at rc2
              refine tX6_kept_115  (r := ?_)
              refine tX6_kept_116  (r := ?_)
              refine tX6_kept_117 (hd := (by omega)) (ha := (by first | assumption | (repeat (first | assumption | exact At.set_eq2 (by first | omega | (simp only [hset, hnew]; omega) | rfl | decide) | exact At.new_eq2 _ _ (by first | omega | (simp only [hset, hnew]; omega) | rfl | decide) | refine At.set_ne ?_ (by first | omega | (simp only [hset, hnew]; omega) | rfl | decide) | refine At.new_ne ?_)))) (call := hsm _ _ rc2) (k := ?_)
              intro h3 rc3
              obtain ⟨⟨ea3, a3⟩, tx3, bx3, sq3, l13, l23, l33, l43⟩ := id rc3
              have hk433 := kdP_lt rc3
              have t_3 := tx3.1
              have b_3 := bx3.1
              refine tX6_kept_120  (r := ?_)
              refine tX6_kept_121  (r := ?_)
              refine tX6_kept_122  (r := ?_)
              refine tX6_kept_123 (hd := (by omega)) (ha := (by first | assumption | (repeat (first | assumption | exact At.set_eq2 (by first | omega | (simp only [hset, hnew]; omega) | rfl | decide) | exact At.new_eq2 _ _ (by first | omega | (simp only [hset, hnew]; omega) | rfl | decide) | refine At.set_ne ?_ (by first | omega | (simp only [hset, hnew]; omega) | rfl | decide) | refine At.new_ne ?_)))) (call := s_rstep (d := 1) (by omega) rc3 (w := kdP K (sm s).1) (n := 0) hk431) (k := ?_)
              intro h4 rc4
              obtain ⟨⟨ea4, a4⟩, tx4, bx4, sq4, l14, l24, l34, l44⟩ := id rc4
              have hk434 := kdP_lt rc4
              have t_4 := tx4.1
              have b_4 := bx4.1
              have rc5 := rc4.nod (so := soK (kdP K (sm s).1)) (l := (sm s).2) (q := (sm (tkP K (sgW (kdP K (sm s).1)) (sm s).1)).2)
              refine tX6_kept_126  (hP := ?_)
              rw [ee]
              exact ⟨rfl, rc5⟩
            · have ew : sgW (kdP K (sm s).1) = kdP K (sm s).1 := if_pos (Or.inr c_102)
              refine tX6_kept_105  (r := ?_)
              refine tX6_kept_106 (r := ?_)
              refine tX6_kept_112 (hd := (by omega)) (ha := (by first | assumption | (repeat (first | assumption | exact At.set_eq2 (by first | omega | (simp only [hset, hnew]; omega) | rfl | decide) | exact At.new_eq2 _ _ (by first | omega | (simp only [hset, hnew]; omega) | rfl | decide) | refine At.set_ne ?_ (by first | omega | (simp only [hset, hnew]; omega) | rfl | decide) | refine At.new_ne ?_)))) (call := s_rtake (d := 1) (by omega) rc1 (w := kdP K (sm s).1) hk431 (by omega)) (k := ?_)
              intro h2 rc2
              obtain ⟨⟨ea2, a2⟩, tx2, bx2, sq2, l12, l22, l32, l42⟩ := id rc2
              have hk432 := kdP_lt rc2
              have t_2 := tx2.1
              have b_2 := bx2.1
              rw [← ew] at rc2
              refine tX6_kept_115  (r := ?_)
              refine tX6_kept_116  (r := ?_)
              refine tX6_kept_117 (hd := (by omega)) (ha := (by first | assumption | (repeat (first | assumption | exact At.set_eq2 (by first | omega | (simp only [hset, hnew]; omega) | rfl | decide) | exact At.new_eq2 _ _ (by first | omega | (simp only [hset, hnew]; omega) | rfl | decide) | refine At.set_ne ?_ (by first | omega | (simp only [hset, hnew]; omega) | rfl | decide) | refine At.new_ne ?_)))) (call := hsm _ _ rc2) (k := ?_)
              intro h3 rc3
              obtain ⟨⟨ea3, a3⟩, tx3, bx3, sq3, l13, l23, l33, l43⟩ := id rc3
              have hk433 := kdP_lt rc3
              have t_3 := tx3.1
              have b_3 := bx3.1
              refine tX6_kept_120  (r := ?_)
              refine tX6_kept_121  (r := ?_)
              refine tX6_kept_122  (r := ?_)
              refine tX6_kept_123 (hd := (by omega)) (ha := (by first | assumption | (repeat (first | assumption | exact At.set_eq2 (by first | omega | (simp only [hset, hnew]; omega) | rfl | decide) | exact At.new_eq2 _ _ (by first | omega | (simp only [hset, hnew]; omega) | rfl | decide) | refine At.set_ne ?_ (by first | omega | (simp only [hset, hnew]; omega) | rfl | decide) | refine At.new_ne ?_)))) (call := s_rstep (d := 1) (by omega) rc3 (w := kdP K (sm s).1) (n := 0) hk431) (k := ?_)
              intro h4 rc4
              obtain ⟨⟨ea4, a4⟩, tx4, bx4, sq4, l14, l24, l34, l44⟩ := id rc4
              have hk434 := kdP_lt rc4
              have t_4 := tx4.1
              have b_4 := bx4.1
              have rc5 := rc4.nod (so := soK (kdP K (sm s).1)) (l := (sm s).2) (q := (sm (tkP K (sgW (kdP K (sm s).1)) (sm s).1)).2)
              refine tX6_kept_126  (hP := ?_)
              rw [ee]
              exact ⟨rfl, rc5⟩
        · have ee : kpP K sub sm s = lkP K (kdP K s) s := by
            unfold kpP
            rw [if_neg (fun z => e29 z)]
            rw [if_pos (Or.inr c_53)]
          refine tX6_kept_56  (r := ?_)
          refine tX6_kept_57  (r := ?_)
          refine tX6_kept_58 (hd := (by omega)) (ha := (by first | assumption | (repeat (first | assumption | exact At.set_eq2 (by first | omega | (simp only [hset, hnew]; omega) | rfl | decide) | exact At.new_eq2 _ _ (by first | omega | (simp only [hset, hnew]; omega) | rfl | decide) | refine At.set_ne ?_ (by first | omega | (simp only [hset, hnew]; omega) | rfl | decide) | refine At.new_ne ?_)))) (call := s_rtake (d := 1) (by omega) rc (w := kdP K s) hk43 (by omega)) (k := ?_)
          intro h1 rc1
          obtain ⟨⟨ea1, a1⟩, tx1, bx1, sq1, l11, l21, l31, l41⟩ := id rc1
          have hk431 := kdP_lt rc1
          have t_1 := tx1.1
          have b_1 := bx1.1
          refine tX6_kept_61  (r := ?_)
          refine tX6_kept_62  (r := ?_)
          refine tX6_kept_63  (r := ?_)
          refine tX6_kept_64 (hd := (by omega)) (ha := (by first | assumption | (repeat (first | assumption | exact At.set_eq2 (by first | omega | (simp only [hset, hnew]; omega) | rfl | decide) | exact At.new_eq2 _ _ (by first | omega | (simp only [hset, hnew]; omega) | rfl | decide) | refine At.set_ne ?_ (by first | omega | (simp only [hset, hnew]; omega) | rfl | decide) | refine At.new_ne ?_)))) (call := s_rlab (d := 2) (by omega) rc1) (k := ?_)
          rintro x_ h2 ⟨hx_, rc2⟩
          rw [hx_]
          obtain ⟨⟨ea2, a2⟩, tx2, bx2, sq2, l12, l22, l32, l42⟩ := id rc2
          have hk432 := kdP_lt rc2
          have t_2 := tx2.1
          have b_2 := bx2.1
          refine tX6_kept_67 (hd := (by omega)) (ha := (by first | assumption | (repeat (first | assumption | exact At.set_eq2 (by first | omega | (simp only [hset, hnew]; omega) | rfl | decide) | exact At.new_eq2 _ _ (by first | omega | (simp only [hset, hnew]; omega) | rfl | decide) | refine At.set_ne ?_ (by first | omega | (simp only [hset, hnew]; omega) | rfl | decide) | refine At.new_ne ?_)))) (call := s_rstepO (d := 2) (by omega) rc2 (w := kdP K s) hk43) (k := ?_)
          intro h3 rc3
          obtain ⟨⟨ea3, a3⟩, tx3, bx3, sq3, l13, l23, l33, l43⟩ := id rc3
          have hk433 := kdP_lt rc3
          have t_3 := tx3.1
          have b_3 := bx3.1
          refine tX6_kept_70  (r := ?_)
          refine tX6_kept_71  (r := ?_)
          refine tX6_kept_74 (hd := (by omega)) (ha := (by first | assumption | (repeat (first | assumption | exact At.set_eq2 (by first | omega | (simp only [hset, hnew]; omega) | rfl | decide) | exact At.new_eq2 _ _ (by first | omega | (simp only [hset, hnew]; omega) | rfl | decide) | refine At.set_ne ?_ (by first | omega | (simp only [hset, hnew]; omega) | rfl | decide) | refine At.new_ne ?_)))) (call := s_rtake (d := 1) (by omega) rc3 (w := 39) (by decide) (by decide)) (k := ?_)
          intro h4 rc4
          obtain ⟨⟨ea4, a4⟩, tx4, bx4, sq4, l14, l24, l34, l44⟩ := id rc4
          have hk434 := kdP_lt rc4
          have t_4 := tx4.1
          have b_4 := bx4.1
          refine tX6_kept_77 (r := ?_)
          refine tX6_kept_126  (hP := ?_)
          rw [ee]
          exact ⟨rfl, rc4.nod⟩
    · have b6 : br < 6 := Nat.lt_of_not_le (fun z => c_15 ((nI_leI (by decide) (by omega)).mpr z))
      cases sub with
      | none =>
        have := hno rfl
        omega
      | some f =>
      refine tX6_kept_18  (r := ?_)
      refine tX6_kept_19  (r := ?_)
      refine tX6_kept_22 (hd := (by omega)) (ha := (by first | assumption | (repeat (first | assumption | exact At.set_eq2 (by first | omega | (simp only [hset, hnew]; omega) | rfl | decide) | exact At.new_eq2 _ _ (by first | omega | (simp only [hset, hnew]; omega) | rfl | decide) | refine At.set_ne ?_ (by first | omega | (simp only [hset, hnew]; omega) | rfl | decide) | refine At.new_ne ?_)))) (call := s_rtake (d := 1) (by omega) rc (w := 29) (by decide) (by decide)) (k := ?_)
      intro h1 rc1
      obtain ⟨⟨ea1, a1⟩, tx1, bx1, sq1, l11, l21, l31, l41⟩ := id rc1
      have hk431 := kdP_lt rc1
      have t_1 := tx1.1
      have b_1 := bx1.1
      refine tX6_kept_25  (r := ?_)
      refine tX6_kept_26  (r := ?_)
      refine tX6_kept_27  (r := ?_)
      refine tX6_kept_28  (r := ?_)
      rw [nI_add]
      refine tX6_kept_29 (hd := (by omega)) (ha := (by first | assumption | (repeat (first | assumption | exact At.set_eq2 (by first | omega | (simp only [hset, hnew]; omega) | rfl | decide) | exact At.new_eq2 _ _ (by first | omega | (simp only [hset, hnew]; omega) | rfl | decide) | refine At.set_ne ?_ (by first | omega | (simp only [hset, hnew]; omega) | rfl | decide) | refine At.new_ne ?_)))) (call := (hsub f rfl).2 _ _ rc1) (k := ?_)
      intro h2 rc2
      obtain ⟨⟨ea2, a2⟩, tx2, bx2, sq2, l12, l22, l32, l42⟩ := id rc2
      have hk432 := kdP_lt rc2
      have t_2 := tx2.1
      have b_2 := bx2.1
      refine tX6_kept_32  (r := ?_)
      refine tX6_kept_33  (r := ?_)
      refine tX6_kept_36 (hd := (by omega)) (ha := (by first | assumption | (repeat (first | assumption | exact At.set_eq2 (by first | omega | (simp only [hset, hnew]; omega) | rfl | decide) | exact At.new_eq2 _ _ (by first | omega | (simp only [hset, hnew]; omega) | rfl | decide) | refine At.set_ne ?_ (by first | omega | (simp only [hset, hnew]; omega) | rfl | decide) | refine At.new_ne ?_)))) (call := s_rtake (d := 1) (by omega) rc2 (w := 30) (by decide) (by decide)) (k := ?_)
      intro h3 rc3
      obtain ⟨⟨ea3, a3⟩, tx3, bx3, sq3, l13, l23, l33, l43⟩ := id rc3
      have hk433 := kdP_lt rc3
      have t_3 := tx3.1
      have b_3 := bx3.1
      refine tX6_kept_39 (r := ?_)
      refine tX6_kept_126  (hP := ?_)
      have ee : kpP K (some f) sm s = (tkP K 30 (f (tkP K 29 s)).1, (f (tkP K 29 s)).2) := by
        unfold kpP
        rw [if_pos ⟨c_9, rfl⟩]
        rfl
      rw [ee]
      exact ⟨rfl, rc3⟩

theorem nnP_rc : ∀ (n : Nat) (q : PST × Nat), Rc h0 h r dr K q.1 → Rc h0 h r dr K (nnP n q).1
  | 0, _, rc => rc
  | n + 1, q, rc => (nnP_rc n q rc).nod
/-- behind so many nots -/
def siQ (K : TKS) (kp : PST → PST × Nat) (n c : Nat) (s : PST) : PST := if ((ntP K n s).2 + c) % 2 = 1 then stP 15 0 (kp (ntP K n s).1).1 else (kp (ntP K n s).1).1

set_option maxHeartbeats 4000000 in
set_option maxRecDepth 100000 in
theorem s_rsi44 {d2 br i c : Nat} {kp : PST → PST × Nat} (hx : ∀ h s, Rc h0 h r dr K s → RQ G mX6_kept d2 0 [some (.ref r), some (.int (nI br)), none, none] [] h (Rv fun h1 => Rc h0 h1 r dr K (kp s).1)) (hd : d2 + 1 ≤ d) (hd3 : 3 ≤ d) (rc : Rc h0 h r dr K s) : RQ G mX6_single d 44 [some (.ref r), some (.int (nI br)), some (.int (if c % 2 = 1 then nI 1 else nI 0)), some (.int (nI i))] [] h (Rv fun h1 => Rc h0 h1 r dr K (if c % 2 = 1 then stP 15 0 (kp s).1 else (kp s).1)) := by
  obtain ⟨⟨ea, a0⟩, tx, bx, sq, l1, l2, l3, l4⟩ := id rc
  have z0 := a0.1
  have b0 := bx.1
  have t0 := tx.1
  have hk43 := kdP_lt rc
  refine tX6_single_44  (r := ?_)
  refine tX6_single_45  (r := ?_)
  refine tX6_single_46 (hd := (by omega)) (ha := (by first | assumption | (repeat (first | assumption | exact At.set_eq2 (by first | omega | (simp only [hset, hnew]; omega) | rfl | decide) | exact At.new_eq2 _ _ (by first | omega | (simp only [hset, hnew]; omega) | rfl | decide) | refine At.set_ne ?_ (by first | omega | (simp only [hset, hnew]; omega) | rfl | decide) | refine At.new_ne ?_)))) (call := hx _ _ rc) (k := ?_)
  intro h1 rc1
  obtain ⟨⟨ea1, a1⟩, tx1, bx1, sq1, l11, l21, l31, l41⟩ := id rc1
  have hk431 := kdP_lt rc1
  have t_1 := tx1.1
  have b_1 := bx1.1
  refine tX6_single_49  (r := ?_)
  refine tX6_single_50  (kt := fun c_50 => ?_) (kf := fun c_50 => ?_)
  · have c0 : ¬ c % 2 = 1 := fun z => by rw [if_pos z] at c_50; exact absurd c_50 (by decide)
    refine tX6_single_61  (hP := ?_)
    rw [if_neg c0]
    exact ⟨rfl, rc1⟩
  · have c0 : c % 2 = 1 := Classical.byContradiction (fun z => by rw [if_neg z] at c_50; exact c_50 rfl)
    refine tX6_single_53  (r := ?_)
    refine tX6_single_54  (r := ?_)
    refine tX6_single_57  (r := ?_)
    refine tX6_single_58 (hd := (by omega)) (ha := (by first | assumption | (repeat (first | assumption | exact At.set_eq2 (by first | omega | (simp only [hset, hnew]; omega) | rfl | decide) | exact At.new_eq2 _ _ (by first | omega | (simp only [hset, hnew]; omega) | rfl | decide) | refine At.set_ne ?_ (by first | omega | (simp only [hset, hnew]; omega) | rfl | decide) | refine At.new_ne ?_)))) (call := s_rstep (d := 1) (by omega) rc1 (w := 15) (n := 0) (by decide)) (k := ?_)
    intro h2 rc2
    obtain ⟨⟨ea2, a2⟩, tx2, bx2, sq2, l12, l22, l32, l42⟩ := id rc2
    have hk432 := kdP_lt rc2
    have t_2 := tx2.1
    have b_2 := bx2.1
    refine tX6_single_61  (hP := ?_)
    rw [if_pos c0]
    exact ⟨rfl, rc2⟩

set_option maxHeartbeats 4000000 in
set_option maxRecDepth 100000 in
theorem s_rsi_l {d2 br : Nat} {kp : PST → PST × Nat} (hx : ∀ h s, Rc h0 h r dr K s → RQ G mX6_kept d2 0 [some (.ref r), some (.int (nI br)), none, none] [] h (Rv fun h1 => Rc h0 h1 r dr K (kp s).1)) (hd : d2 + 1 ≤ d) (hd3 : 3 ≤ d) : ∀ (n i c : Nat) (h : AH) (s : PST), i + n = 400 → Rc h0 h r dr K s → RQ G mX6_single d 4 [some (.ref r), some (.int (nI br)), some (.int (if c % 2 = 1 then nI 1 else nI 0)), some (.int (nI i))] [] h (Rv fun h1 => Rc h0 h1 r dr K (siQ K kp n c s)) := by
  intro n
  induction n with
  | zero =>
    intro i c h s hi rc
    refine tX6_single_4  (r := ?_)
    refine tX6_single_5  (r := ?_)
    refine tX6_single_8  (kf := fun c_ => by exfalso; exact c_ ((nI_leI (by decide) (by omega)).mpr (by omega))) (kt := fun _ => ?_)
    have e : siQ K kp 0 c s = (if c % 2 = 1 then stP 15 0 (kp s).1 else (kp s).1) := by
      unfold siQ
      show (if (0 + c) % 2 = 1 then _ else _) = _
      rw [Nat.zero_add]
      rfl
    rw [e]
    exact s_rsi44 hx hd hd3 rc
  | succ n ih =>
    intro i c h s hi rc
    obtain ⟨⟨ea, a⟩, tx, bx, sq, l1, l2, l3, l4⟩ := id rc
    have hk43 := kdP_lt rc
    have t_ := tx.1
    have b_ := bx.1
    refine tX6_single_4  (r := ?_)
    refine tX6_single_5  (r := ?_)
    refine tX6_single_8  (kt := fun c_ => by exfalso; exact absurd ((nI_leI (by decide) (by omega)).mp c_) (by omega)) (kf := fun _ => ?_)
    refine tX6_single_11  (r := ?_)
    refine tX6_single_12 (ha := (by first | assumption | (repeat (first | assumption | exact At.set_eq2 (by first | omega | (simp only [hset, hnew]; omega) | rfl | decide) | exact At.new_eq2 _ _ (by first | omega | (simp only [hset, hnew]; omega) | rfl | decide) | refine At.set_ne ?_ (by first | omega | (simp only [hset, hnew]; omega) | rfl | decide) | refine At.new_ne ?_)))) (hv := rfl) (r := ?_)
    refine tX6_single_15  (r := ?_)
    refine tX6_single_18 (hi := hk43) (hj := (by omega)) (kt := fun c_18 => ?_) (kf := fun c_18 => ?_)
    · have en : ntP K (n + 1) s = (s, 0) := if_neg c_18
      have e : siQ K kp (n + 1) c s = (if c % 2 = 1 then stP 15 0 (kp s).1 else (kp s).1) := by
        unfold siQ
        rw [en]
        show (if (0 + c) % 2 = 1 then _ else _) = _
        rw [Nat.zero_add]
      rw [e]
      exact s_rsi44 hx hd hd3 rc
    · have en : ntP K (n + 1) s = ((ntP K n (tkP K 15 s)).1, (ntP K n (tkP K 15 s)).2 + 1) := if_pos c_18
      refine tX6_single_21  (r := ?_)
      refine tX6_single_22  (r := ?_)
      refine tX6_single_25 (hd := (by omega)) (ha := (by first | assumption | (repeat (first | assumption | exact At.set_eq2 (by first | omega | (simp only [hset, hnew]; omega) | rfl | decide) | exact At.new_eq2 _ _ (by first | omega | (simp only [hset, hnew]; omega) | rfl | decide) | refine At.set_ne ?_ (by first | omega | (simp only [hset, hnew]; omega) | rfl | decide) | refine At.new_ne ?_)))) (call := s_rtake (d := 1) (by omega) rc (w := 15) (by decide) (by decide)) (k := ?_)
      intro h1 rc1
      obtain ⟨⟨ea1, a1⟩, tx1, bx1, sq1, l11, l21, l31, l41⟩ := id rc1
      have hk431 := kdP_lt rc1
      have t_1 := tx1.1
      have b_1 := bx1.1
      refine tX6_single_28  (r := ?_)
      refine tX6_single_29  (kt := fun c_29 => ?_) (kf := fun c_29 => ?_)
      · have c0 : c % 2 = 1 := Classical.byContradiction (fun z => by rw [if_neg z] at c_29; exact c_29 rfl)
        refine tX6_single_36  (r := ?_)
        refine tX6_single_37  (r := ?_)
        refine tX6_single_38  (r := ?_)
        rw [nI_add]
        refine tX6_single_41 (r := ?_)
        have key := ih (i + 1) (c + 1) _ _ (by omega) rc1
        rw [show (if (c + 1) % 2 = 1 then nI 1 else nI 0) = nI 0 from if_neg (by omega)] at key
        have e2 : siQ K kp (n + 1) c s = siQ K kp n (c + 1) (tkP K 15 s) := by
          unfold siQ
          rw [en]
          show (if ((ntP K n (tkP K 15 s)).2 + 1 + c) % 2 = 1 then _ else _) = _
          rw [show (ntP K n (tkP K 15 s)).2 + 1 + c = (ntP K n (tkP K 15 s)).2 + (c + 1) by omega]
        rw [e2]
        exact key
      · have c0 : ¬ c % 2 = 1 := fun z => by rw [if_pos z] at c_29; exact absurd c_29 (by decide)
        refine tX6_single_32  (r := ?_)
        refine tX6_single_33 (r := ?_)
        refine tX6_single_37  (r := ?_)
        refine tX6_single_38  (r := ?_)
        rw [nI_add]
        refine tX6_single_41 (r := ?_)
        have key := ih (i + 1) (c + 1) _ _ (by omega) rc1
        rw [show (if (c + 1) % 2 = 1 then nI 1 else nI 0) = nI 1 from if_pos (by omega)] at key
        have e2 : siQ K kp (n + 1) c s = siQ K kp n (c + 1) (tkP K 15 s) := by
          unfold siQ
          rw [en]
          show (if ((ntP K n (tkP K 15 s)).2 + 1 + c) % 2 = 1 then _ else _) = _
          rw [show (ntP K n (tkP K 15 s)).2 + 1 + c = (ntP K n (tkP K 15 s)).2 + (c + 1) by omega]
        rw [e2]
        exact key

theorem s_rsingle {d2 br : Nat} {kp : PST → PST × Nat} (hx : ∀ h s, Rc h0 h r dr K s → RQ G mX6_kept d2 0 [some (.ref r), some (.int (nI br)), none, none] [] h (Rv fun h1 => Rc h0 h1 r dr K (kp s).1)) (hd : d2 + 1 ≤ d) (hd3 : 3 ≤ d) (rc : Rc h0 h r dr K s) : RQ G mX6_single d 0 [some (.ref r), some (.int (nI br)), none, none] [] h (Rv fun h1 => Rc h0 h1 r dr K ((siP K kp s).1)) := by
  have e : ∀ h1, Rc h0 h1 r dr K (siQ K kp 400 0 s) → Rc h0 h1 r dr K (siP K kp s).1 := fun h1 rc1 => nnP_rc _ _ rc1
  have key := s_rsi_l hx hd hd3 400 0 0 h s (by omega) rc
  refine tX6_single_0 (r := ?_)
  refine tX6_single_1 (r := ?_)
  refine tX6_single_2 (r := ?_)
  refine tX6_single_3 (r := ?_)
  exact key.imp (fun o9 h9 q9 => ⟨q9.1, e _ q9.2⟩)

theorem s_rteF {br D2 : Nat} {sub : Option (PST → PST × Nat)} {sm : PST → PST × Nat} (hsm : ∀ h s, Rc h0 h r dr K s → RQ G mX6_sum D2 0 [some (.ref r), some (.int (nI br)), none, none] [] h (Rv fun h1 => Rc h0 h1 r dr K (sm s).1)) (hsub : ∀ f, sub = some f → br < 6 ∧ ∀ h s, Rc h0 h r dr K s → RQ G mX6_test D2 0 [some (.ref r), some (.int (nI (br + 1))), none] [] h (Rv fun h1 => Rc h0 h1 r dr K (f s).1)) (hno : sub = none → 6 ≤ br) (hbr : br ≤ 6)  {d : Nat} (hd : D2 + 4 ≤ d) (hd3 : 3 ≤ D2) (rc : Rc h0 h r dr K s) : RQ G mX6_test d 0 [some (.ref r), some (.int (nI br)), none] [] h (Rv fun h1 => Rc h0 h1 r dr K (teF K sub sm s).1) :=
  s_rtest (d2 := D2 + 3) (x := boP K sub sm) (fun h s rc => s_rboth (d2 := D2 + 2) (x := siP K (kpP K sub sm)) (fun h s rc => s_rsingle (d2 := D2 + 1) (kp := kpP K sub sm) (fun h s rc => s_rkept (d2 := D2) hsm hsub hno hbr (by omega) (by omega) rc) (by omega) (by omega) rc) (by omega) (by omega) rc) (by omega) (by omega) rc
theorem s_rte : ∀ (b br d : Nat) (h : AH) (s : PST), br + b = 6 → 10 + 4 * b ≤ d → Rc h0 h r dr K s → RQ G mX6_test d 0 [some (.ref r), some (.int (nI br)), none] [] h (Rv fun h1 => Rc h0 h1 r dr K (teP K b s).1)
  | 0, br, d, h, s, hb, hd, rc => s_rteF (D2 := 6) (sub := none) (sm := smP K 0) (fun h s rc => s_rsum 0 br 6 h s (by omega) (by omega) rc) (fun f e => nomatch e) (fun _ => by omega) (by omega) (by omega) (by omega) rc
  | b + 1, br, d, h, s, hb, hd, rc => s_rteF (D2 := 10 + 4 * b) (sub := some (teP K b)) (sm := smP K (b + 1)) (fun h s rc => s_rsum (b + 1) br (10 + 4 * b) h s (by omega) (by omega) rc) (fun f e => by
      cases e
      exact ⟨by omega, fun h s rc => s_rte b (br + 1) (10 + 4 * b) h s (by omega) (by omega) rc⟩) (fun e => nomatch e) (by omega) (by omega) (by omega) rc
end REC
