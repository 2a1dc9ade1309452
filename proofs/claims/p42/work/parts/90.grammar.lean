/-! the class reads values and tests -/
theorem rpO_ne {o : Option Nat} {s : PST} (h : pEr (rpO o s) = 0) : o ≠ none ∧ rpO o s = s := by
  unfold rpO at h ⊢
  by_cases e : o = none
  · rw [if_pos e] at h
    unfold rpP at h
    by_cases z : pEr s = 0
    · rw [if_pos z] at h
      exact absurd h (show ¬ (3 : Nat) = 0 by decide)
    · rw [if_neg z] at h
      exact absurd h z
  · rw [if_neg e]
    exact ⟨e, rfl⟩
theorem vaP_rp {K : TKS} {n : Nat} {s : PST} : vaP K (rpP n s) = vaP K s := by
  unfold rpP
  split <;> rfl
section REB
variable {G : GT} {d : Nat} {h h0 : AH} {r dr : Nat} {K : TKS} {s : PST}

set_option maxHeartbeats 4000000 in
set_option maxRecDepth 100000 in
theorem s_rstep0 (rc : Rc h0 h r dr K s) (e0 : ¬ pEr s = 0) {w : Nat} {x : Int32} : RQ G mX6_step d 0 [some (.ref r), some (.ref w), some (.int x)] [] h (Rv fun h1 => h1 = h) := by
  obtain ⟨⟨ea, a0⟩, tx, bx, sq, l1, l2, l3, l4⟩ := id rc
  have z0 := a0.1
  have b0 := bx.1
  have t0 := tx.1
  have hk43 := kdP_lt rc
  refine tX6_step_0  (r := ?_)
  refine tX6_step_1 (ha := (by first | assumption | (repeat (first | assumption | exact At.set_eq2 (by first | omega | (simp only [hset, hnew]; omega) | rfl | decide) | exact At.new_eq2 _ _ (by first | omega | (simp only [hset, hnew]; omega) | rfl | decide) | refine At.set_ne ?_ (by first | omega | (simp only [hset, hnew]; omega) | rfl | decide) | refine At.new_ne ?_)))) (hv := rfl) (r := ?_)
  refine tX6_step_4  (kf := fun c_ => by exfalso; simp (disch := omega) only [ci_eq0] at c_; omega) (kt := fun _ => ?_)
  refine tX6_step_19  (hP := ?_)
  exact ⟨rfl, rfl⟩

theorem s_rstepO (hd : 1 ≤ d) {o : Option Nat} (rc : Rc h0 h r dr K (rpO o s)) {w : Nat} (hw : w < 43) : RQ G mX6_step d 0 [some (.ref r), some (.ref (OLD + w)), some (.int (oI o))] [] h (Rv fun h1 => Rc h0 h1 r dr K (stP w (o.getD 0) (rpO o s))) := by
  by_cases e0 : pEr (rpO o s) = 0
  · obtain ⟨e1, -⟩ := rpO_ne e0
    cases o with
    | none => exact absurd rfl e1
    | some n => exact s_rstep hd rc hw
  · exact (s_rstep0 rc e0).imp (fun o9 h9 q9 => ⟨q9.1, by rw [q9.2]; exact rc.no e0⟩)

set_option maxHeartbeats 4000000 in
set_option maxRecDepth 100000 in
theorem s_ratom {d2 br : Nat} {sub : Option (PST → PST × Nat)} (hsub : ∀ f, sub = some f → br < 6 ∧ ∀ h s, Rc h0 h r dr K s → RQ G mX6_sum d2 0 [some (.ref r), some (.int (nI (br + 1))), none, none] [] h (Rv fun h1 => Rc h0 h1 r dr K (f s).1)) (hno : sub = none → 6 ≤ br) (hbr : br ≤ 6) (hd : d2 + 1 ≤ d) (hd3 : 3 ≤ d) (rc : Rc h0 h r dr K s) : RQ G mX6_atom d 0 [some (.ref r), some (.int (nI br)), none] [] h (Rv fun h1 => Rc h0 h1 r dr K ((atP K sub s).1)) := by
  obtain ⟨⟨ea, a0⟩, tx, bx, sq, l1, l2, l3, l4⟩ := id rc
  have z0 := a0.1
  have b0 := bx.1
  have t0 := tx.1
  have hk43 := kdP_lt rc
  have hvv := tx.vv (pPo s)
  refine tX6_atom_0  (r := ?_)
  refine tX6_atom_1 (ha := (by first | assumption | (repeat (first | assumption | exact At.set_eq2 (by first | omega | (simp only [hset, hnew]; omega) | rfl | decide) | exact At.new_eq2 _ _ (by first | omega | (simp only [hset, hnew]; omega) | rfl | decide) | refine At.set_ne ?_ (by first | omega | (simp only [hset, hnew]; omega) | rfl | decide) | refine At.new_ne ?_)))) (hv := rfl) (r := ?_)
  refine tX6_atom_4  (r := ?_)
  refine tX6_atom_5  (r := ?_)
  refine tX6_atom_6  (r := ?_)
  refine tX6_atom_9 (hi := hk43) (hj := (by omega)) (kt := fun c_9 => ?_) (kf := fun c_9 => ?_)
  · have e27 : ¬ (kdP K s = 27 ∧ sub.isSome = true) := fun z => c_9 z.1
    refine tX6_atom_42  (r := ?_)
    refine tX6_atom_43  (r := ?_)
    refine tX6_atom_46 (hi := hk43) (hj := (by omega)) (kt := fun c_46 => ?_) (kf := fun c_46 => ?_)
    · have ee : atP K sub s = lkP K (kdP K s) s := by
        unfold atP
        rw [if_neg (fun z => e27 z)]
        rw [if_pos (Or.inl c_46)]
      refine tX6_atom_56  (r := ?_)
      refine tX6_atom_57  (r := ?_)
      refine tX6_atom_58 (hd := (by omega)) (ha := (by first | assumption | (repeat (first | assumption | exact At.set_eq2 (by first | omega | (simp only [hset, hnew]; omega) | rfl | decide) | exact At.new_eq2 _ _ (by first | omega | (simp only [hset, hnew]; omega) | rfl | decide) | refine At.set_ne ?_ (by first | omega | (simp only [hset, hnew]; omega) | rfl | decide) | refine At.new_ne ?_)))) (call := s_rtake (d := 1) (by omega) rc (w := kdP K s) hk43 (by omega)) (k := ?_)
      intro h1 rc1
      obtain ⟨⟨ea1, a1⟩, tx1, bx1, sq1, l11, l21, l31, l41⟩ := id rc1
      have hk431 := kdP_lt rc1
      have t_1 := tx1.1
      have b_1 := bx1.1
      refine tX6_atom_61  (r := ?_)
      refine tX6_atom_62  (r := ?_)
      refine tX6_atom_63  (r := ?_)
      refine tX6_atom_64 (hd := (by omega)) (ha := (by first | assumption | (repeat (first | assumption | exact At.set_eq2 (by first | omega | (simp only [hset, hnew]; omega) | rfl | decide) | exact At.new_eq2 _ _ (by first | omega | (simp only [hset, hnew]; omega) | rfl | decide) | refine At.set_ne ?_ (by first | omega | (simp only [hset, hnew]; omega) | rfl | decide) | refine At.new_ne ?_)))) (call := s_rlab (d := 2) (by omega) rc1) (k := ?_)
      rintro x_ h2 ⟨hx_, rc2⟩
      rw [hx_]
      obtain ⟨⟨ea2, a2⟩, tx2, bx2, sq2, l12, l22, l32, l42⟩ := id rc2
      have hk432 := kdP_lt rc2
      have t_2 := tx2.1
      have b_2 := bx2.1
      refine tX6_atom_67 (hd := (by omega)) (ha := (by first | assumption | (repeat (first | assumption | exact At.set_eq2 (by first | omega | (simp only [hset, hnew]; omega) | rfl | decide) | exact At.new_eq2 _ _ (by first | omega | (simp only [hset, hnew]; omega) | rfl | decide) | refine At.set_ne ?_ (by first | omega | (simp only [hset, hnew]; omega) | rfl | decide) | refine At.new_ne ?_)))) (call := s_rstepO (d := 2) (by omega) rc2 (w := kdP K s) hk43) (k := ?_)
      intro h3 rc3
      obtain ⟨⟨ea3, a3⟩, tx3, bx3, sq3, l13, l23, l33, l43⟩ := id rc3
      have hk433 := kdP_lt rc3
      have t_3 := tx3.1
      have b_3 := bx3.1
      refine tX6_atom_70  (r := ?_)
      refine tX6_atom_71  (r := ?_)
      refine tX6_atom_74 (hd := (by omega)) (ha := (by first | assumption | (repeat (first | assumption | exact At.set_eq2 (by first | omega | (simp only [hset, hnew]; omega) | rfl | decide) | exact At.new_eq2 _ _ (by first | omega | (simp only [hset, hnew]; omega) | rfl | decide) | refine At.set_ne ?_ (by first | omega | (simp only [hset, hnew]; omega) | rfl | decide) | refine At.new_ne ?_)))) (call := s_rtake (d := 1) (by omega) rc3 (w := 39) (by decide) (by decide)) (k := ?_)
      intro h4 rc4
      obtain ⟨⟨ea4, a4⟩, tx4, bx4, sq4, l14, l24, l34, l44⟩ := id rc4
      have hk434 := kdP_lt rc4
      have t_4 := tx4.1
      have b_4 := bx4.1
      refine tX6_atom_77 (r := ?_)
      refine tX6_atom_141  (hP := ?_)
      rw [ee]
      exact ⟨rfl, rc4.nod⟩
    · refine tX6_atom_49  (r := ?_)
      refine tX6_atom_50  (r := ?_)
      refine tX6_atom_53 (hi := hk43) (hj := (by omega)) (kt := fun c_53 => ?_) (kf := fun c_53 => ?_)
      · refine tX6_atom_80  (r := ?_)
        refine tX6_atom_81  (r := ?_)
        refine tX6_atom_84 (hi := hk43) (hj := (by omega)) (kt := fun c_84 => ?_) (kf := fun c_84 => ?_)
        · have c3 : kdP K s = 20 ∨ kdP K s = 22 ∨ kdP K s = 23 := Or.inl c_84
          have ee : atP K sub s = (noP (soK (kdP K s)) 0 0 (tkP K (kdP K s) (stP (kdP K s) 0 s)), nNo (pBk s)) := by
            unfold atP
            rw [if_neg (fun z => e27 z)]
            rw [if_neg (by omega), if_pos c3]
          refine tX6_atom_101  (r := ?_)
          refine tX6_atom_102  (r := ?_)
          refine tX6_atom_103  (r := ?_)
          refine tX6_atom_104 (hd := (by omega)) (ha := (by first | assumption | (repeat (first | assumption | exact At.set_eq2 (by first | omega | (simp only [hset, hnew]; omega) | rfl | decide) | exact At.new_eq2 _ _ (by first | omega | (simp only [hset, hnew]; omega) | rfl | decide) | refine At.set_ne ?_ (by first | omega | (simp only [hset, hnew]; omega) | rfl | decide) | refine At.new_ne ?_)))) (call := s_rstep (d := 1) (by omega) rc (w := kdP K s) (n := 0) hk43) (k := ?_)
          intro h1 rc1
          obtain ⟨⟨ea1, a1⟩, tx1, bx1, sq1, l11, l21, l31, l41⟩ := id rc1
          have hk431 := kdP_lt rc1
          have t_1 := tx1.1
          have b_1 := bx1.1
          refine tX6_atom_107  (r := ?_)
          refine tX6_atom_108  (r := ?_)
          refine tX6_atom_109 (hd := (by omega)) (ha := (by first | assumption | (repeat (first | assumption | exact At.set_eq2 (by first | omega | (simp only [hset, hnew]; omega) | rfl | decide) | exact At.new_eq2 _ _ (by first | omega | (simp only [hset, hnew]; omega) | rfl | decide) | refine At.set_ne ?_ (by first | omega | (simp only [hset, hnew]; omega) | rfl | decide) | refine At.new_ne ?_)))) (call := s_rtake (d := 1) (by omega) rc1 (w := kdP K s) hk43 (by omega)) (k := ?_)
          intro h3 rc3
          obtain ⟨⟨ea3, a3⟩, tx3, bx3, sq3, l13, l23, l33, l43⟩ := id rc3
          have hk433 := kdP_lt rc3
          have t_3 := tx3.1
          have b_3 := bx3.1
          refine tX6_atom_112 (r := ?_)
          refine tX6_atom_141  (hP := ?_)
          rw [ee]
          exact ⟨rfl, rc3.nod⟩
        · refine tX6_atom_87  (r := ?_)
          refine tX6_atom_88  (r := ?_)
          refine tX6_atom_91 (hi := hk43) (hj := (by omega)) (kt := fun c_91 => ?_) (kf := fun c_91 => ?_)
          · have c3 : kdP K s = 20 ∨ kdP K s = 22 ∨ kdP K s = 23 := Or.inr (Or.inl c_91)
            have ee : atP K sub s = (noP (soK (kdP K s)) 0 0 (tkP K (kdP K s) (stP (kdP K s) 0 s)), nNo (pBk s)) := by
              unfold atP
              rw [if_neg (fun z => e27 z)]
              rw [if_neg (by omega), if_pos c3]
            refine tX6_atom_101  (r := ?_)
            refine tX6_atom_102  (r := ?_)
            refine tX6_atom_103  (r := ?_)
            refine tX6_atom_104 (hd := (by omega)) (ha := (by first | assumption | (repeat (first | assumption | exact At.set_eq2 (by first | omega | (simp only [hset, hnew]; omega) | rfl | decide) | exact At.new_eq2 _ _ (by first | omega | (simp only [hset, hnew]; omega) | rfl | decide) | refine At.set_ne ?_ (by first | omega | (simp only [hset, hnew]; omega) | rfl | decide) | refine At.new_ne ?_)))) (call := s_rstep (d := 1) (by omega) rc (w := kdP K s) (n := 0) hk43) (k := ?_)
            intro h1 rc1
            obtain ⟨⟨ea1, a1⟩, tx1, bx1, sq1, l11, l21, l31, l41⟩ := id rc1
            have hk431 := kdP_lt rc1
            have t_1 := tx1.1
            have b_1 := bx1.1
            refine tX6_atom_107  (r := ?_)
            refine tX6_atom_108  (r := ?_)
            refine tX6_atom_109 (hd := (by omega)) (ha := (by first | assumption | (repeat (first | assumption | exact At.set_eq2 (by first | omega | (simp only [hset, hnew]; omega) | rfl | decide) | exact At.new_eq2 _ _ (by first | omega | (simp only [hset, hnew]; omega) | rfl | decide) | refine At.set_ne ?_ (by first | omega | (simp only [hset, hnew]; omega) | rfl | decide) | refine At.new_ne ?_)))) (call := s_rtake (d := 1) (by omega) rc1 (w := kdP K s) hk43 (by omega)) (k := ?_)
            intro h3 rc3
            obtain ⟨⟨ea3, a3⟩, tx3, bx3, sq3, l13, l23, l33, l43⟩ := id rc3
            have hk433 := kdP_lt rc3
            have t_3 := tx3.1
            have b_3 := bx3.1
            refine tX6_atom_112 (r := ?_)
            refine tX6_atom_141  (hP := ?_)
            rw [ee]
            exact ⟨rfl, rc3.nod⟩
          · refine tX6_atom_94  (r := ?_)
            refine tX6_atom_95  (r := ?_)
            refine tX6_atom_98 (hi := hk43) (hj := (by omega)) (kt := fun c_98 => ?_) (kf := fun c_98 => ?_)
            · have ee : atP K sub s = (noP 31 (vaP K s) 0 (tkP K 40 (stP 40 (vaP K s) s)), nNo (pBk s)) := by
                unfold atP
                rw [if_neg (fun z => e27 z)]
                rw [if_neg (by omega), if_neg (by omega)]
              refine tX6_atom_115  (r := ?_)
              refine tX6_atom_116  (r := ?_)
              refine tX6_atom_119  (r := ?_)
              refine tX6_atom_120 (ha := (by first | assumption | (repeat (first | assumption | exact At.set_eq2 (by first | omega | (simp only [hset, hnew]; omega) | rfl | decide) | exact At.new_eq2 _ _ (by first | omega | (simp only [hset, hnew]; omega) | rfl | decide) | refine At.set_ne ?_ (by first | omega | (simp only [hset, hnew]; omega) | rfl | decide) | refine At.new_ne ?_)))) (hv := rfl) (r := ?_)
              refine tX6_atom_123  (r := ?_)
              refine tX6_atom_124 (ha := (by first | assumption | (repeat (first | assumption | exact At.set_eq2 (by first | omega | (simp only [hset, hnew]; omega) | rfl | decide) | exact At.new_eq2 _ _ (by first | omega | (simp only [hset, hnew]; omega) | rfl | decide) | refine At.set_ne ?_ (by first | omega | (simp only [hset, hnew]; omega) | rfl | decide) | refine At.new_ne ?_)))) (hv := rfl) (r := ?_)
              refine tX6_atom_127 (hd := (by omega)) (ha := (by first | assumption | (repeat (first | assumption | exact At.set_eq2 (by first | omega | (simp only [hset, hnew]; omega) | rfl | decide) | exact At.new_eq2 _ _ (by first | omega | (simp only [hset, hnew]; omega) | rfl | decide) | refine At.set_ne ?_ (by first | omega | (simp only [hset, hnew]; omega) | rfl | decide) | refine At.new_ne ?_)))) (call := s_tkValue (d := 0) tx (by omega)) (k := ?_)
              rintro x_ h_ ⟨hx_, e_⟩
              rw [e_, hx_]
              refine tX6_atom_130  (r := ?_)
              rw [nL_i32]
              refine tX6_atom_131 (hd := (by omega)) (ha := (by first | assumption | (repeat (first | assumption | exact At.set_eq2 (by first | omega | (simp only [hset, hnew]; omega) | rfl | decide) | exact At.new_eq2 _ _ (by first | omega | (simp only [hset, hnew]; omega) | rfl | decide) | refine At.set_ne ?_ (by first | omega | (simp only [hset, hnew]; omega) | rfl | decide) | refine At.new_ne ?_)))) (call := s_rstep (d := 1) (by omega) rc (w := 40) (n := vaP K s) (by decide)) (k := ?_)
              intro h1 rc1
              obtain ⟨⟨ea1, a1⟩, tx1, bx1, sq1, l11, l21, l31, l41⟩ := id rc1
              have hk431 := kdP_lt rc1
              have t_1 := tx1.1
              have b_1 := bx1.1
              refine tX6_atom_134  (r := ?_)
              refine tX6_atom_135  (r := ?_)
              refine tX6_atom_138 (hd := (by omega)) (ha := (by first | assumption | (repeat (first | assumption | exact At.set_eq2 (by first | omega | (simp only [hset, hnew]; omega) | rfl | decide) | exact At.new_eq2 _ _ (by first | omega | (simp only [hset, hnew]; omega) | rfl | decide) | refine At.set_ne ?_ (by first | omega | (simp only [hset, hnew]; omega) | rfl | decide) | refine At.new_ne ?_)))) (call := s_rtake (d := 1) (by omega) rc1 (w := 40) (by decide) (by decide)) (k := ?_)
              intro h3 rc3
              obtain ⟨⟨ea3, a3⟩, tx3, bx3, sq3, l13, l23, l33, l43⟩ := id rc3
              have hk433 := kdP_lt rc3
              have t_3 := tx3.1
              have b_3 := bx3.1
              refine tX6_atom_141  (hP := ?_)
              rw [ee]
              exact ⟨rfl, rc3.nod⟩
            · have c3 : kdP K s = 20 ∨ kdP K s = 22 ∨ kdP K s = 23 := Or.inr (Or.inr c_98)
              have ee : atP K sub s = (noP (soK (kdP K s)) 0 0 (tkP K (kdP K s) (stP (kdP K s) 0 s)), nNo (pBk s)) := by
                unfold atP
                rw [if_neg (fun z => e27 z)]
                rw [if_neg (by omega), if_pos c3]
              refine tX6_atom_101  (r := ?_)
              refine tX6_atom_102  (r := ?_)
              refine tX6_atom_103  (r := ?_)
              refine tX6_atom_104 (hd := (by omega)) (ha := (by first | assumption | (repeat (first | assumption | exact At.set_eq2 (by first | omega | (simp only [hset, hnew]; omega) | rfl | decide) | exact At.new_eq2 _ _ (by first | omega | (simp only [hset, hnew]; omega) | rfl | decide) | refine At.set_ne ?_ (by first | omega | (simp only [hset, hnew]; omega) | rfl | decide) | refine At.new_ne ?_)))) (call := s_rstep (d := 1) (by omega) rc (w := kdP K s) (n := 0) hk43) (k := ?_)
              intro h1 rc1
              obtain ⟨⟨ea1, a1⟩, tx1, bx1, sq1, l11, l21, l31, l41⟩ := id rc1
              have hk431 := kdP_lt rc1
              have t_1 := tx1.1
              have b_1 := bx1.1
              refine tX6_atom_107  (r := ?_)
              refine tX6_atom_108  (r := ?_)
              refine tX6_atom_109 (hd := (by omega)) (ha := (by first | assumption | (repeat (first | assumption | exact At.set_eq2 (by first | omega | (simp only [hset, hnew]; omega) | rfl | decide) | exact At.new_eq2 _ _ (by first | omega | (simp only [hset, hnew]; omega) | rfl | decide) | refine At.set_ne ?_ (by first | omega | (simp only [hset, hnew]; omega) | rfl | decide) | refine At.new_ne ?_)))) (call := s_rtake (d := 1) (by omega) rc1 (w := kdP K s) hk43 (by omega)) (k := ?_)
              intro h3 rc3
              obtain ⟨⟨ea3, a3⟩, tx3, bx3, sq3, l13, l23, l33, l43⟩ := id rc3
              have hk433 := kdP_lt rc3
              have t_3 := tx3.1
              have b_3 := bx3.1
              refine tX6_atom_112 (r := ?_)
              refine tX6_atom_141  (hP := ?_)
              rw [ee]
              exact ⟨rfl, rc3.nod⟩
      · have ee : atP K sub s = lkP K (kdP K s) s := by
          unfold atP
          rw [if_neg (fun z => e27 z)]
          rw [if_pos (Or.inr c_53)]
        refine tX6_atom_56  (r := ?_)
        refine tX6_atom_57  (r := ?_)
        refine tX6_atom_58 (hd := (by omega)) (ha := (by first | assumption | (repeat (first | assumption | exact At.set_eq2 (by first | omega | (simp only [hset, hnew]; omega) | rfl | decide) | exact At.new_eq2 _ _ (by first | omega | (simp only [hset, hnew]; omega) | rfl | decide) | refine At.set_ne ?_ (by first | omega | (simp only [hset, hnew]; omega) | rfl | decide) | refine At.new_ne ?_)))) (call := s_rtake (d := 1) (by omega) rc (w := kdP K s) hk43 (by omega)) (k := ?_)
        intro h1 rc1
        obtain ⟨⟨ea1, a1⟩, tx1, bx1, sq1, l11, l21, l31, l41⟩ := id rc1
        have hk431 := kdP_lt rc1
        have t_1 := tx1.1
        have b_1 := bx1.1
        refine tX6_atom_61  (r := ?_)
        refine tX6_atom_62  (r := ?_)
        refine tX6_atom_63  (r := ?_)
        refine tX6_atom_64 (hd := (by omega)) (ha := (by first | assumption | (repeat (first | assumption | exact At.set_eq2 (by first | omega | (simp only [hset, hnew]; omega) | rfl | decide) | exact At.new_eq2 _ _ (by first | omega | (simp only [hset, hnew]; omega) | rfl | decide) | refine At.set_ne ?_ (by first | omega | (simp only [hset, hnew]; omega) | rfl | decide) | refine At.new_ne ?_)))) (call := s_rlab (d := 2) (by omega) rc1) (k := ?_)
        rintro x_ h2 ⟨hx_, rc2⟩
        rw [hx_]
        obtain ⟨⟨ea2, a2⟩, tx2, bx2, sq2, l12, l22, l32, l42⟩ := id rc2
        have hk432 := kdP_lt rc2
        have t_2 := tx2.1
        have b_2 := bx2.1
        refine tX6_atom_67 (hd := (by omega)) (ha := (by first | assumption | (repeat (first | assumption | exact At.set_eq2 (by first | omega | (simp only [hset, hnew]; omega) | rfl | decide) | exact At.new_eq2 _ _ (by first | omega | (simp only [hset, hnew]; omega) | rfl | decide) | refine At.set_ne ?_ (by first | omega | (simp only [hset, hnew]; omega) | rfl | decide) | refine At.new_ne ?_)))) (call := s_rstepO (d := 2) (by omega) rc2 (w := kdP K s) hk43) (k := ?_)
        intro h3 rc3
        obtain ⟨⟨ea3, a3⟩, tx3, bx3, sq3, l13, l23, l33, l43⟩ := id rc3
        have hk433 := kdP_lt rc3
        have t_3 := tx3.1
        have b_3 := bx3.1
        refine tX6_atom_70  (r := ?_)
        refine tX6_atom_71  (r := ?_)
        refine tX6_atom_74 (hd := (by omega)) (ha := (by first | assumption | (repeat (first | assumption | exact At.set_eq2 (by first | omega | (simp only [hset, hnew]; omega) | rfl | decide) | exact At.new_eq2 _ _ (by first | omega | (simp only [hset, hnew]; omega) | rfl | decide) | refine At.set_ne ?_ (by first | omega | (simp only [hset, hnew]; omega) | rfl | decide) | refine At.new_ne ?_)))) (call := s_rtake (d := 1) (by omega) rc3 (w := 39) (by decide) (by decide)) (k := ?_)
        intro h4 rc4
        obtain ⟨⟨ea4, a4⟩, tx4, bx4, sq4, l14, l24, l34, l44⟩ := id rc4
        have hk434 := kdP_lt rc4
        have t_4 := tx4.1
        have b_4 := bx4.1
        refine tX6_atom_77 (r := ?_)
        refine tX6_atom_141  (hP := ?_)
        rw [ee]
        exact ⟨rfl, rc4.nod⟩
  · refine tX6_atom_12  (r := ?_)
    refine tX6_atom_13  (r := ?_)
    refine tX6_atom_15  (kt := fun c_15 => ?_) (kf := fun c_15 => ?_)
    · have b6 : 6 ≤ br := (nI_leI (by decide) (by omega)).mp c_15
      have e27 : ¬ (kdP K s = 27 ∧ sub.isSome = true) := fun z => by
        cases sub with
        | none => exact absurd z.2 (by decide)
        | some f =>
          have := (hsub f rfl).1
          omega
      refine tX6_atom_42  (r := ?_)
      refine tX6_atom_43  (r := ?_)
      refine tX6_atom_46 (hi := hk43) (hj := (by omega)) (kt := fun c_46 => ?_) (kf := fun c_46 => ?_)
      · have ee : atP K sub s = lkP K (kdP K s) s := by
          unfold atP
          rw [if_neg (fun z => e27 z)]
          rw [if_pos (Or.inl c_46)]
        refine tX6_atom_56  (r := ?_)
        refine tX6_atom_57  (r := ?_)
        refine tX6_atom_58 (hd := (by omega)) (ha := (by first | assumption | (repeat (first | assumption | exact At.set_eq2 (by first | omega | (simp only [hset, hnew]; omega) | rfl | decide) | exact At.new_eq2 _ _ (by first | omega | (simp only [hset, hnew]; omega) | rfl | decide) | refine At.set_ne ?_ (by first | omega | (simp only [hset, hnew]; omega) | rfl | decide) | refine At.new_ne ?_)))) (call := s_rtake (d := 1) (by omega) rc (w := kdP K s) hk43 (by omega)) (k := ?_)
        intro h1 rc1
        obtain ⟨⟨ea1, a1⟩, tx1, bx1, sq1, l11, l21, l31, l41⟩ := id rc1
        have hk431 := kdP_lt rc1
        have t_1 := tx1.1
        have b_1 := bx1.1
        refine tX6_atom_61  (r := ?_)
        refine tX6_atom_62  (r := ?_)
        refine tX6_atom_63  (r := ?_)
        refine tX6_atom_64 (hd := (by omega)) (ha := (by first | assumption | (repeat (first | assumption | exact At.set_eq2 (by first | omega | (simp only [hset, hnew]; omega) | rfl | decide) | exact At.new_eq2 _ _ (by first | omega | (simp only [hset, hnew]; omega) | rfl | decide) | refine At.set_ne ?_ (by first | omega | (simp only [hset, hnew]; omega) | rfl | decide) | refine At.new_ne ?_)))) (call := s_rlab (d := 2) (by omega) rc1) (k := ?_)
        rintro x_ h2 ⟨hx_, rc2⟩
        rw [hx_]
        obtain ⟨⟨ea2, a2⟩, tx2, bx2, sq2, l12, l22, l32, l42⟩ := id rc2
        have hk432 := kdP_lt rc2
        have t_2 := tx2.1
        have b_2 := bx2.1
        refine tX6_atom_67 (hd := (by omega)) (ha := (by first | assumption | (repeat (first | assumption | exact At.set_eq2 (by first | omega | (simp only [hset, hnew]; omega) | rfl | decide) | exact At.new_eq2 _ _ (by first | omega | (simp only [hset, hnew]; omega) | rfl | decide) | refine At.set_ne ?_ (by first | omega | (simp only [hset, hnew]; omega) | rfl | decide) | refine At.new_ne ?_)))) (call := s_rstepO (d := 2) (by omega) rc2 (w := kdP K s) hk43) (k := ?_)
        intro h3 rc3
        obtain ⟨⟨ea3, a3⟩, tx3, bx3, sq3, l13, l23, l33, l43⟩ := id rc3
        have hk433 := kdP_lt rc3
        have t_3 := tx3.1
        have b_3 := bx3.1
        refine tX6_atom_70  (r := ?_)
        refine tX6_atom_71  (r := ?_)
        refine tX6_atom_74 (hd := (by omega)) (ha := (by first | assumption | (repeat (first | assumption | exact At.set_eq2 (by first | omega | (simp only [hset, hnew]; omega) | rfl | decide) | exact At.new_eq2 _ _ (by first | omega | (simp only [hset, hnew]; omega) | rfl | decide) | refine At.set_ne ?_ (by first | omega | (simp only [hset, hnew]; omega) | rfl | decide) | refine At.new_ne ?_)))) (call := s_rtake (d := 1) (by omega) rc3 (w := 39) (by decide) (by decide)) (k := ?_)
        intro h4 rc4
        obtain ⟨⟨ea4, a4⟩, tx4, bx4, sq4, l14, l24, l34, l44⟩ := id rc4
        have hk434 := kdP_lt rc4
        have t_4 := tx4.1
        have b_4 := bx4.1
        refine tX6_atom_77 (r := ?_)
        refine tX6_atom_141  (hP := ?_)
        rw [ee]
        exact ⟨rfl, rc4.nod⟩
      · refine tX6_atom_49  (r := ?_)
        refine tX6_atom_50  (r := ?_)
        refine tX6_atom_53 (hi := hk43) (hj := (by omega)) (kt := fun c_53 => ?_) (kf := fun c_53 => ?_)
        · refine tX6_atom_80  (r := ?_)
          refine tX6_atom_81  (r := ?_)
          refine tX6_atom_84 (hi := hk43) (hj := (by omega)) (kt := fun c_84 => ?_) (kf := fun c_84 => ?_)
          · have c3 : kdP K s = 20 ∨ kdP K s = 22 ∨ kdP K s = 23 := Or.inl c_84
            have ee : atP K sub s = (noP (soK (kdP K s)) 0 0 (tkP K (kdP K s) (stP (kdP K s) 0 s)), nNo (pBk s)) := by
              unfold atP
              rw [if_neg (fun z => e27 z)]
              rw [if_neg (by omega), if_pos c3]
            refine tX6_atom_101  (r := ?_)
            refine tX6_atom_102  (r := ?_)
            refine tX6_atom_103  (r := ?_)
            refine tX6_atom_104 (hd := (by omega)) (ha := (by first | assumption | (repeat (first | assumption | exact At.set_eq2 (by first | omega | (simp only [hset, hnew]; omega) | rfl | decide) | exact At.new_eq2 _ _ (by first | omega | (simp only [hset, hnew]; omega) | rfl | decide) | refine At.set_ne ?_ (by first | omega | (simp only [hset, hnew]; omega) | rfl | decide) | refine At.new_ne ?_)))) (call := s_rstep (d := 1) (by omega) rc (w := kdP K s) (n := 0) hk43) (k := ?_)
            intro h1 rc1
            obtain ⟨⟨ea1, a1⟩, tx1, bx1, sq1, l11, l21, l31, l41⟩ := id rc1
            have hk431 := kdP_lt rc1
            have t_1 := tx1.1
            have b_1 := bx1.1
            refine tX6_atom_107  (r := ?_)
            refine tX6_atom_108  (r := ?_)
            refine tX6_atom_109 (hd := (by omega)) (ha := (by first | assumption | (repeat (first | assumption | exact At.set_eq2 (by first | omega | (simp only [hset, hnew]; omega) | rfl | decide) | exact At.new_eq2 _ _ (by first | omega | (simp only [hset, hnew]; omega) | rfl | decide) | refine At.set_ne ?_ (by first | omega | (simp only [hset, hnew]; omega) | rfl | decide) | refine At.new_ne ?_)))) (call := s_rtake (d := 1) (by omega) rc1 (w := kdP K s) hk43 (by omega)) (k := ?_)
            intro h3 rc3
            obtain ⟨⟨ea3, a3⟩, tx3, bx3, sq3, l13, l23, l33, l43⟩ := id rc3
            have hk433 := kdP_lt rc3
            have t_3 := tx3.1
            have b_3 := bx3.1
            refine tX6_atom_112 (r := ?_)
            refine tX6_atom_141  (hP := ?_)
            rw [ee]
            exact ⟨rfl, rc3.nod⟩
          · refine tX6_atom_87  (r := ?_)
            refine tX6_atom_88  (r := ?_)
            refine tX6_atom_91 (hi := hk43) (hj := (by omega)) (kt := fun c_91 => ?_) (kf := fun c_91 => ?_)
            · have c3 : kdP K s = 20 ∨ kdP K s = 22 ∨ kdP K s = 23 := Or.inr (Or.inl c_91)
              have ee : atP K sub s = (noP (soK (kdP K s)) 0 0 (tkP K (kdP K s) (stP (kdP K s) 0 s)), nNo (pBk s)) := by
                unfold atP
                rw [if_neg (fun z => e27 z)]
                rw [if_neg (by omega), if_pos c3]
              refine tX6_atom_101  (r := ?_)
              refine tX6_atom_102  (r := ?_)
              refine tX6_atom_103  (r := ?_)
              refine tX6_atom_104 (hd := (by omega)) (ha := (by first | assumption | (repeat (first | assumption | exact At.set_eq2 (by first | omega | (simp only [hset, hnew]; omega) | rfl | decide) | exact At.new_eq2 _ _ (by first | omega | (simp only [hset, hnew]; omega) | rfl | decide) | refine At.set_ne ?_ (by first | omega | (simp only [hset, hnew]; omega) | rfl | decide) | refine At.new_ne ?_)))) (call := s_rstep (d := 1) (by omega) rc (w := kdP K s) (n := 0) hk43) (k := ?_)
              intro h1 rc1
              obtain ⟨⟨ea1, a1⟩, tx1, bx1, sq1, l11, l21, l31, l41⟩ := id rc1
              have hk431 := kdP_lt rc1
              have t_1 := tx1.1
              have b_1 := bx1.1
              refine tX6_atom_107  (r := ?_)
              refine tX6_atom_108  (r := ?_)
              refine tX6_atom_109 (hd := (by omega)) (ha := (by first | assumption | (repeat (first | assumption | exact At.set_eq2 (by first | omega | (simp only [hset, hnew]; omega) | rfl | decide) | exact At.new_eq2 _ _ (by first | omega | (simp only [hset, hnew]; omega) | rfl | decide) | refine At.set_ne ?_ (by first | omega | (simp only [hset, hnew]; omega) | rfl | decide) | refine At.new_ne ?_)))) (call := s_rtake (d := 1) (by omega) rc1 (w := kdP K s) hk43 (by omega)) (k := ?_)
              intro h3 rc3
              obtain ⟨⟨ea3, a3⟩, tx3, bx3, sq3, l13, l23, l33, l43⟩ := id rc3
              have hk433 := kdP_lt rc3
              have t_3 := tx3.1
              have b_3 := bx3.1
              refine tX6_atom_112 (r := ?_)
              refine tX6_atom_141  (hP := ?_)
              rw [ee]
              exact ⟨rfl, rc3.nod⟩
            · refine tX6_atom_94  (r := ?_)
              refine tX6_atom_95  (r := ?_)
              refine tX6_atom_98 (hi := hk43) (hj := (by omega)) (kt := fun c_98 => ?_) (kf := fun c_98 => ?_)
              · have ee : atP K sub s = (noP 31 (vaP K s) 0 (tkP K 40 (stP 40 (vaP K s) s)), nNo (pBk s)) := by
                  unfold atP
                  rw [if_neg (fun z => e27 z)]
                  rw [if_neg (by omega), if_neg (by omega)]
                refine tX6_atom_115  (r := ?_)
                refine tX6_atom_116  (r := ?_)
                refine tX6_atom_119  (r := ?_)
                refine tX6_atom_120 (ha := (by first | assumption | (repeat (first | assumption | exact At.set_eq2 (by first | omega | (simp only [hset, hnew]; omega) | rfl | decide) | exact At.new_eq2 _ _ (by first | omega | (simp only [hset, hnew]; omega) | rfl | decide) | refine At.set_ne ?_ (by first | omega | (simp only [hset, hnew]; omega) | rfl | decide) | refine At.new_ne ?_)))) (hv := rfl) (r := ?_)
                refine tX6_atom_123  (r := ?_)
                refine tX6_atom_124 (ha := (by first | assumption | (repeat (first | assumption | exact At.set_eq2 (by first | omega | (simp only [hset, hnew]; omega) | rfl | decide) | exact At.new_eq2 _ _ (by first | omega | (simp only [hset, hnew]; omega) | rfl | decide) | refine At.set_ne ?_ (by first | omega | (simp only [hset, hnew]; omega) | rfl | decide) | refine At.new_ne ?_)))) (hv := rfl) (r := ?_)
                refine tX6_atom_127 (hd := (by omega)) (ha := (by first | assumption | (repeat (first | assumption | exact At.set_eq2 (by first | omega | (simp only [hset, hnew]; omega) | rfl | decide) | exact At.new_eq2 _ _ (by first | omega | (simp only [hset, hnew]; omega) | rfl | decide) | refine At.set_ne ?_ (by first | omega | (simp only [hset, hnew]; omega) | rfl | decide) | refine At.new_ne ?_)))) (call := s_tkValue (d := 0) tx (by omega)) (k := ?_)
                rintro x_ h_ ⟨hx_, e_⟩
                rw [e_, hx_]
                refine tX6_atom_130  (r := ?_)
                rw [nL_i32]
                refine tX6_atom_131 (hd := (by omega)) (ha := (by first | assumption | (repeat (first | assumption | exact At.set_eq2 (by first | omega | (simp only [hset, hnew]; omega) | rfl | decide) | exact At.new_eq2 _ _ (by first | omega | (simp only [hset, hnew]; omega) | rfl | decide) | refine At.set_ne ?_ (by first | omega | (simp only [hset, hnew]; omega) | rfl | decide) | refine At.new_ne ?_)))) (call := s_rstep (d := 1) (by omega) rc (w := 40) (n := vaP K s) (by decide)) (k := ?_)
                intro h1 rc1
                obtain ⟨⟨ea1, a1⟩, tx1, bx1, sq1, l11, l21, l31, l41⟩ := id rc1
                have hk431 := kdP_lt rc1
                have t_1 := tx1.1
                have b_1 := bx1.1
                refine tX6_atom_134  (r := ?_)
                refine tX6_atom_135  (r := ?_)
                refine tX6_atom_138 (hd := (by omega)) (ha := (by first | assumption | (repeat (first | assumption | exact At.set_eq2 (by first | omega | (simp only [hset, hnew]; omega) | rfl | decide) | exact At.new_eq2 _ _ (by first | omega | (simp only [hset, hnew]; omega) | rfl | decide) | refine At.set_ne ?_ (by first | omega | (simp only [hset, hnew]; omega) | rfl | decide) | refine At.new_ne ?_)))) (call := s_rtake (d := 1) (by omega) rc1 (w := 40) (by decide) (by decide)) (k := ?_)
                intro h3 rc3
                obtain ⟨⟨ea3, a3⟩, tx3, bx3, sq3, l13, l23, l33, l43⟩ := id rc3
                have hk433 := kdP_lt rc3
                have t_3 := tx3.1
                have b_3 := bx3.1
                refine tX6_atom_141  (hP := ?_)
                rw [ee]
                exact ⟨rfl, rc3.nod⟩
              · have c3 : kdP K s = 20 ∨ kdP K s = 22 ∨ kdP K s = 23 := Or.inr (Or.inr c_98)
                have ee : atP K sub s = (noP (soK (kdP K s)) 0 0 (tkP K (kdP K s) (stP (kdP K s) 0 s)), nNo (pBk s)) := by
                  unfold atP
                  rw [if_neg (fun z => e27 z)]
                  rw [if_neg (by omega), if_pos c3]
                refine tX6_atom_101  (r := ?_)
                refine tX6_atom_102  (r := ?_)
                refine tX6_atom_103  (r := ?_)
                refine tX6_atom_104 (hd := (by omega)) (ha := (by first | assumption | (repeat (first | assumption | exact At.set_eq2 (by first | omega | (simp only [hset, hnew]; omega) | rfl | decide) | exact At.new_eq2 _ _ (by first | omega | (simp only [hset, hnew]; omega) | rfl | decide) | refine At.set_ne ?_ (by first | omega | (simp only [hset, hnew]; omega) | rfl | decide) | refine At.new_ne ?_)))) (call := s_rstep (d := 1) (by omega) rc (w := kdP K s) (n := 0) hk43) (k := ?_)
                intro h1 rc1
                obtain ⟨⟨ea1, a1⟩, tx1, bx1, sq1, l11, l21, l31, l41⟩ := id rc1
                have hk431 := kdP_lt rc1
                have t_1 := tx1.1
                have b_1 := bx1.1
                refine tX6_atom_107  (r := ?_)
                refine tX6_atom_108  (r := ?_)
                refine tX6_atom_109 (hd := (by omega)) (ha := (by first | assumption | (repeat (first | assumption | exact At.set_eq2 (by first | omega | (simp only [hset, hnew]; omega) | rfl | decide) | exact At.new_eq2 _ _ (by first | omega | (simp only [hset, hnew]; omega) | rfl | decide) | refine At.set_ne ?_ (by first | omega | (simp only [hset, hnew]; omega) | rfl | decide) | refine At.new_ne ?_)))) (call := s_rtake (d := 1) (by omega) rc1 (w := kdP K s) hk43 (by omega)) (k := ?_)
                intro h3 rc3
                obtain ⟨⟨ea3, a3⟩, tx3, bx3, sq3, l13, l23, l33, l43⟩ := id rc3
                have hk433 := kdP_lt rc3
                have t_3 := tx3.1
                have b_3 := bx3.1
                refine tX6_atom_112 (r := ?_)
                refine tX6_atom_141  (hP := ?_)
                rw [ee]
                exact ⟨rfl, rc3.nod⟩
        · have ee : atP K sub s = lkP K (kdP K s) s := by
            unfold atP
            rw [if_neg (fun z => e27 z)]
            rw [if_pos (Or.inr c_53)]
          refine tX6_atom_56  (r := ?_)
          refine tX6_atom_57  (r := ?_)
          refine tX6_atom_58 (hd := (by omega)) (ha := (by first | assumption | (repeat (first | assumption | exact At.set_eq2 (by first | omega | (simp only [hset, hnew]; omega) | rfl | decide) | exact At.new_eq2 _ _ (by first | omega | (simp only [hset, hnew]; omega) | rfl | decide) | refine At.set_ne ?_ (by first | omega | (simp only [hset, hnew]; omega) | rfl | decide) | refine At.new_ne ?_)))) (call := s_rtake (d := 1) (by omega) rc (w := kdP K s) hk43 (by omega)) (k := ?_)
          intro h1 rc1
          obtain ⟨⟨ea1, a1⟩, tx1, bx1, sq1, l11, l21, l31, l41⟩ := id rc1
          have hk431 := kdP_lt rc1
          have t_1 := tx1.1
          have b_1 := bx1.1
          refine tX6_atom_61  (r := ?_)
          refine tX6_atom_62  (r := ?_)
          refine tX6_atom_63  (r := ?_)
          refine tX6_atom_64 (hd := (by omega)) (ha := (by first | assumption | (repeat (first | assumption | exact At.set_eq2 (by first | omega | (simp only [hset, hnew]; omega) | rfl | decide) | exact At.new_eq2 _ _ (by first | omega | (simp only [hset, hnew]; omega) | rfl | decide) | refine At.set_ne ?_ (by first | omega | (simp only [hset, hnew]; omega) | rfl | decide) | refine At.new_ne ?_)))) (call := s_rlab (d := 2) (by omega) rc1) (k := ?_)
          rintro x_ h2 ⟨hx_, rc2⟩
          rw [hx_]
          obtain ⟨⟨ea2, a2⟩, tx2, bx2, sq2, l12, l22, l32, l42⟩ := id rc2
          have hk432 := kdP_lt rc2
          have t_2 := tx2.1
          have b_2 := bx2.1
          refine tX6_atom_67 (hd := (by omega)) (ha := (by first | assumption | (repeat (first | assumption | exact At.set_eq2 (by first | omega | (simp only [hset, hnew]; omega) | rfl | decide) | exact At.new_eq2 _ _ (by first | omega | (simp only [hset, hnew]; omega) | rfl | decide) | refine At.set_ne ?_ (by first | omega | (simp only [hset, hnew]; omega) | rfl | decide) | refine At.new_ne ?_)))) (call := s_rstepO (d := 2) (by omega) rc2 (w := kdP K s) hk43) (k := ?_)
          intro h3 rc3
          obtain ⟨⟨ea3, a3⟩, tx3, bx3, sq3, l13, l23, l33, l43⟩ := id rc3
          have hk433 := kdP_lt rc3
          have t_3 := tx3.1
          have b_3 := bx3.1
          refine tX6_atom_70  (r := ?_)
          refine tX6_atom_71  (r := ?_)
          refine tX6_atom_74 (hd := (by omega)) (ha := (by first | assumption | (repeat (first | assumption | exact At.set_eq2 (by first | omega | (simp only [hset, hnew]; omega) | rfl | decide) | exact At.new_eq2 _ _ (by first | omega | (simp only [hset, hnew]; omega) | rfl | decide) | refine At.set_ne ?_ (by first | omega | (simp only [hset, hnew]; omega) | rfl | decide) | refine At.new_ne ?_)))) (call := s_rtake (d := 1) (by omega) rc3 (w := 39) (by decide) (by decide)) (k := ?_)
          intro h4 rc4
          obtain ⟨⟨ea4, a4⟩, tx4, bx4, sq4, l14, l24, l34, l44⟩ := id rc4
          have hk434 := kdP_lt rc4
          have t_4 := tx4.1
          have b_4 := bx4.1
          refine tX6_atom_77 (r := ?_)
          refine tX6_atom_141  (hP := ?_)
          rw [ee]
          exact ⟨rfl, rc4.nod⟩
    · have b6 : br < 6 := Nat.lt_of_not_le (fun z => c_15 ((nI_leI (by decide) (by omega)).mpr z))
      cases sub with
      | none =>
        have := hno rfl
        omega
      | some f =>
      refine tX6_atom_18  (r := ?_)
      refine tX6_atom_19  (r := ?_)
      refine tX6_atom_22 (hd := (by omega)) (ha := (by first | assumption | (repeat (first | assumption | exact At.set_eq2 (by first | omega | (simp only [hset, hnew]; omega) | rfl | decide) | exact At.new_eq2 _ _ (by first | omega | (simp only [hset, hnew]; omega) | rfl | decide) | refine At.set_ne ?_ (by first | omega | (simp only [hset, hnew]; omega) | rfl | decide) | refine At.new_ne ?_)))) (call := s_rtake (d := 1) (by omega) rc (w := 27) (by decide) (by decide)) (k := ?_)
      intro h1 rc1
      obtain ⟨⟨ea1, a1⟩, tx1, bx1, sq1, l11, l21, l31, l41⟩ := id rc1
      have hk431 := kdP_lt rc1
      have t_1 := tx1.1
      have b_1 := bx1.1
      refine tX6_atom_25  (r := ?_)
      refine tX6_atom_26  (r := ?_)
      refine tX6_atom_27  (r := ?_)
      refine tX6_atom_28  (r := ?_)
      rw [nI_add]
      refine tX6_atom_29 (hd := (by omega)) (ha := (by first | assumption | (repeat (first | assumption | exact At.set_eq2 (by first | omega | (simp only [hset, hnew]; omega) | rfl | decide) | exact At.new_eq2 _ _ (by first | omega | (simp only [hset, hnew]; omega) | rfl | decide) | refine At.set_ne ?_ (by first | omega | (simp only [hset, hnew]; omega) | rfl | decide) | refine At.new_ne ?_)))) (call := (hsub f rfl).2 _ _ rc1) (k := ?_)
      intro h2 rc2
      obtain ⟨⟨ea2, a2⟩, tx2, bx2, sq2, l12, l22, l32, l42⟩ := id rc2
      have hk432 := kdP_lt rc2
      have t_2 := tx2.1
      have b_2 := bx2.1
      refine tX6_atom_32  (r := ?_)
      refine tX6_atom_33  (r := ?_)
      refine tX6_atom_36 (hd := (by omega)) (ha := (by first | assumption | (repeat (first | assumption | exact At.set_eq2 (by first | omega | (simp only [hset, hnew]; omega) | rfl | decide) | exact At.new_eq2 _ _ (by first | omega | (simp only [hset, hnew]; omega) | rfl | decide) | refine At.set_ne ?_ (by first | omega | (simp only [hset, hnew]; omega) | rfl | decide) | refine At.new_ne ?_)))) (call := s_rtake (d := 1) (by omega) rc2 (w := 28) (by decide) (by decide)) (k := ?_)
      intro h3 rc3
      obtain ⟨⟨ea3, a3⟩, tx3, bx3, sq3, l13, l23, l33, l43⟩ := id rc3
      have hk433 := kdP_lt rc3
      have t_3 := tx3.1
      have b_3 := bx3.1
      refine tX6_atom_39 (r := ?_)
      refine tX6_atom_141  (hP := ?_)
      have ee : atP K (some f) s = (tkP K 28 (f (tkP K 27 s)).1, (f (tkP K 27 s)).2) := by
        unfold atP
        rw [if_pos ⟨c_9, rfl⟩]
        rfl
      rw [ee]
      exact ⟨rfl, rc3⟩

set_option maxHeartbeats 4000000 in
set_option maxRecDepth 100000 in
theorem s_rprod_l {d2 br : Nat} {x : PST → PST × Nat} (hx : ∀ h s, Rc h0 h r dr K s → RQ G mX6_atom d2 0 [some (.ref r), some (.int (nI br)), none] [] h (Rv fun h1 => Rc h0 h1 r dr K (x s).1)) (hd : d2 + 1 ≤ d) (hd3 : 3 ≤ d) : ∀ (n i : Nat) (h : AH) (q : PST × Nat), i + n = 400 → Rc h0 h r dr K q.1 → RQ G mX6_product d 7 [some (.ref r), some (.int (nI br)), some (.int (nI i))] [] h (Rv fun h1 => Rc h0 h1 r dr K (lpP K is38 (x) n q).1) := by
  intro n
  induction n with
  | zero =>
    intro i h q hi rc
    refine tX6_product_7  (r := ?_)
    refine tX6_product_8  (r := ?_)
    refine tX6_product_11  (kf := fun c_ => by exfalso; exact c_ ((nI_leI (by decide) (by omega)).mpr (by omega))) (kt := fun _ => ?_)
    refine tX6_product_50  (hP := ?_)
    exact ⟨rfl, rc⟩
  | succ n ih =>
    intro i h q hi rc
    obtain ⟨⟨ea, a⟩, tx, bx, sq, l1, l2, l3, l4⟩ := id rc
    have hk43 := kdP_lt rc
    have t_ := tx.1
    have b_ := bx.1
    refine tX6_product_7  (r := ?_)
    refine tX6_product_8  (r := ?_)
    refine tX6_product_11  (kt := fun c_ => by exfalso; exact absurd ((nI_leI (by decide) (by omega)).mp c_) (by omega)) (kf := fun _ => ?_)
    refine tX6_product_14  (r := ?_)
    refine tX6_product_15 (ha := (by first | assumption | (repeat (first | assumption | exact At.set_eq2 (by first | omega | (simp only [hset, hnew]; omega) | rfl | decide) | exact At.new_eq2 _ _ (by first | omega | (simp only [hset, hnew]; omega) | rfl | decide) | refine At.set_ne ?_ (by first | omega | (simp only [hset, hnew]; omega) | rfl | decide) | refine At.new_ne ?_)))) (hv := rfl) (r := ?_)
    refine tX6_product_18  (r := ?_)
    refine tX6_product_21 (hi := hk43) (hj := (by omega)) (kt := fun c_21 => ?_) (kf := fun c_21 => ?_)
    · have e : lpP K is38 (x) (n + 1) q = q := if_neg (fun z => c_21 (by simp only [is38, beq_iff_eq] at z; exact z))
      rw [e]
      refine tX6_product_50  (hP := ?_)
      exact ⟨rfl, rc⟩
    · have e : lpP K is38 (x) (n + 1) q = lpP K is38 (x) n (jnP 38 q.2 (x (tkP K 38 q.1)).2 (x (tkP K 38 q.1)).1) := by
        have e9 : lpP K is38 (x) (n + 1) q = lpP K is38 (x) n (jnP (kdP K q.1) q.2 (x (tkP K (kdP K q.1) q.1)).2 (x (tkP K (kdP K q.1) q.1)).1) := if_pos (by rw [c_21]; rfl)
        rw [e9, c_21]
      rw [e]
      refine tX6_product_24  (r := ?_)
      refine tX6_product_25  (r := ?_)
      refine tX6_product_28 (hd := (by omega)) (ha := (by first | assumption | (repeat (first | assumption | exact At.set_eq2 (by first | omega | (simp only [hset, hnew]; omega) | rfl | decide) | exact At.new_eq2 _ _ (by first | omega | (simp only [hset, hnew]; omega) | rfl | decide) | refine At.set_ne ?_ (by first | omega | (simp only [hset, hnew]; omega) | rfl | decide) | refine At.new_ne ?_)))) (call := s_rtake (d := 1) (by omega) rc (w := 38) (by decide) (by decide)) (k := ?_)
      intro h1 rc1
      obtain ⟨⟨ea1, a1⟩, tx1, bx1, sq1, l11, l21, l31, l41⟩ := id rc1
      have hk431 := kdP_lt rc1
      have t_1 := tx1.1
      have b_1 := bx1.1
      refine tX6_product_31  (r := ?_)
      refine tX6_product_32  (r := ?_)
      refine tX6_product_33 (hd := (by omega)) (ha := (by first | assumption | (repeat (first | assumption | exact At.set_eq2 (by first | omega | (simp only [hset, hnew]; omega) | rfl | decide) | exact At.new_eq2 _ _ (by first | omega | (simp only [hset, hnew]; omega) | rfl | decide) | refine At.set_ne ?_ (by first | omega | (simp only [hset, hnew]; omega) | rfl | decide) | refine At.new_ne ?_)))) (call := hx _ _ rc1) (k := ?_)
      intro h2 rc2
      obtain ⟨⟨ea2, a2⟩, tx2, bx2, sq2, l12, l22, l32, l42⟩ := id rc2
      have hk432 := kdP_lt rc2
      have t_2 := tx2.1
      have b_2 := bx2.1
      refine tX6_product_36  (r := ?_)
      refine tX6_product_37  (r := ?_)
      refine tX6_product_40  (r := ?_)
      refine tX6_product_41 (hd := (by omega)) (ha := (by first | assumption | (repeat (first | assumption | exact At.set_eq2 (by first | omega | (simp only [hset, hnew]; omega) | rfl | decide) | exact At.new_eq2 _ _ (by first | omega | (simp only [hset, hnew]; omega) | rfl | decide) | refine At.set_ne ?_ (by first | omega | (simp only [hset, hnew]; omega) | rfl | decide) | refine At.new_ne ?_)))) (call := s_rstep (d := 1) (by omega) rc2 (w := 38) (n := 0) (by decide)) (k := ?_)
      intro h3 rc3
      obtain ⟨⟨ea3, a3⟩, tx3, bx3, sq3, l13, l23, l33, l43⟩ := id rc3
      have hk433 := kdP_lt rc3
      have t_3 := tx3.1
      have b_3 := bx3.1
      have rc4 := rc3.nod (so := soK 38) (l := q.2) (q := (x (tkP K 38 q.1)).2)
      refine tX6_product_44  (r := ?_)
      rw [nI_add]
      refine tX6_product_47 (r := ?_)
      exact ih (i + 1) _ _ (by omega) rc4

set_option maxHeartbeats 4000000 in
set_option maxRecDepth 100000 in
theorem s_rprod {d2 br : Nat} {x : PST → PST × Nat} (hx : ∀ h s, Rc h0 h r dr K s → RQ G mX6_atom d2 0 [some (.ref r), some (.int (nI br)), none] [] h (Rv fun h1 => Rc h0 h1 r dr K (x s).1)) (hd : d2 + 1 ≤ d) (hd3 : 3 ≤ d) (rc : Rc h0 h r dr K s) : RQ G mX6_product d 0 [some (.ref r), some (.int (nI br)), none] [] h (Rv fun h1 => Rc h0 h1 r dr K ((opP K is38 (x) s).1)) := by
  obtain ⟨⟨ea, a0⟩, tx, bx, sq, l1, l2, l3, l4⟩ := id rc
  have z0 := a0.1
  have b0 := bx.1
  have t0 := tx.1
  have hk43 := kdP_lt rc
  refine tX6_product_0  (r := ?_)
  refine tX6_product_1  (r := ?_)
  refine tX6_product_2 (hd := (by omega)) (ha := (by first | assumption | (repeat (first | assumption | exact At.set_eq2 (by first | omega | (simp only [hset, hnew]; omega) | rfl | decide) | exact At.new_eq2 _ _ (by first | omega | (simp only [hset, hnew]; omega) | rfl | decide) | refine At.set_ne ?_ (by first | omega | (simp only [hset, hnew]; omega) | rfl | decide) | refine At.new_ne ?_)))) (call := hx _ _ rc) (k := ?_)
  intro h1 rc1
  obtain ⟨⟨ea1, a1⟩, tx1, bx1, sq1, l11, l21, l31, l41⟩ := id rc1
  have hk431 := kdP_lt rc1
  have t_1 := tx1.1
  have b_1 := bx1.1
  refine tX6_product_5  (r := ?_)
  refine tX6_product_6  (r := ?_)
  exact s_rprod_l hx hd hd3 400 0 _ _ (by omega) rc1

set_option maxHeartbeats 4000000 in
set_option maxRecDepth 100000 in
theorem s_rboth_l {d2 br : Nat} {x : PST → PST × Nat} (hx : ∀ h s, Rc h0 h r dr K s → RQ G mX6_single d2 0 [some (.ref r), some (.int (nI br)), none, none] [] h (Rv fun h1 => Rc h0 h1 r dr K (x s).1)) (hd : d2 + 1 ≤ d) (hd3 : 3 ≤ d) : ∀ (n i : Nat) (h : AH) (q : PST × Nat), i + n = 400 → Rc h0 h r dr K q.1 → RQ G mX6_both d 7 [some (.ref r), some (.int (nI br)), some (.int (nI i))] [] h (Rv fun h1 => Rc h0 h1 r dr K (lpP K is16 (x) n q).1) := by
  intro n
  induction n with
  | zero =>
    intro i h q hi rc
    refine tX6_both_7  (r := ?_)
    refine tX6_both_8  (r := ?_)
    refine tX6_both_11  (kf := fun c_ => by exfalso; exact c_ ((nI_leI (by decide) (by omega)).mpr (by omega))) (kt := fun _ => ?_)
    refine tX6_both_50  (hP := ?_)
    exact ⟨rfl, rc⟩
  | succ n ih =>
    intro i h q hi rc
    obtain ⟨⟨ea, a⟩, tx, bx, sq, l1, l2, l3, l4⟩ := id rc
    have hk43 := kdP_lt rc
    have t_ := tx.1
    have b_ := bx.1
    refine tX6_both_7  (r := ?_)
    refine tX6_both_8  (r := ?_)
    refine tX6_both_11  (kt := fun c_ => by exfalso; exact absurd ((nI_leI (by decide) (by omega)).mp c_) (by omega)) (kf := fun _ => ?_)
    refine tX6_both_14  (r := ?_)
    refine tX6_both_15 (ha := (by first | assumption | (repeat (first | assumption | exact At.set_eq2 (by first | omega | (simp only [hset, hnew]; omega) | rfl | decide) | exact At.new_eq2 _ _ (by first | omega | (simp only [hset, hnew]; omega) | rfl | decide) | refine At.set_ne ?_ (by first | omega | (simp only [hset, hnew]; omega) | rfl | decide) | refine At.new_ne ?_)))) (hv := rfl) (r := ?_)
    refine tX6_both_18  (r := ?_)
    refine tX6_both_21 (hi := hk43) (hj := (by omega)) (kt := fun c_21 => ?_) (kf := fun c_21 => ?_)
    · have e : lpP K is16 (x) (n + 1) q = q := if_neg (fun z => c_21 (by simp only [is16, beq_iff_eq] at z; exact z))
      rw [e]
      refine tX6_both_50  (hP := ?_)
      exact ⟨rfl, rc⟩
    · have e : lpP K is16 (x) (n + 1) q = lpP K is16 (x) n (jnP 16 q.2 (x (tkP K 16 q.1)).2 (x (tkP K 16 q.1)).1) := by
        have e9 : lpP K is16 (x) (n + 1) q = lpP K is16 (x) n (jnP (kdP K q.1) q.2 (x (tkP K (kdP K q.1) q.1)).2 (x (tkP K (kdP K q.1) q.1)).1) := if_pos (by rw [c_21]; rfl)
        rw [e9, c_21]
      rw [e]
      refine tX6_both_24  (r := ?_)
      refine tX6_both_25  (r := ?_)
      refine tX6_both_28 (hd := (by omega)) (ha := (by first | assumption | (repeat (first | assumption | exact At.set_eq2 (by first | omega | (simp only [hset, hnew]; omega) | rfl | decide) | exact At.new_eq2 _ _ (by first | omega | (simp only [hset, hnew]; omega) | rfl | decide) | refine At.set_ne ?_ (by first | omega | (simp only [hset, hnew]; omega) | rfl | decide) | refine At.new_ne ?_)))) (call := s_rtake (d := 1) (by omega) rc (w := 16) (by decide) (by decide)) (k := ?_)
      intro h1 rc1
      obtain ⟨⟨ea1, a1⟩, tx1, bx1, sq1, l11, l21, l31, l41⟩ := id rc1
      have hk431 := kdP_lt rc1
      have t_1 := tx1.1
      have b_1 := bx1.1
      refine tX6_both_31  (r := ?_)
      refine tX6_both_32  (r := ?_)
      refine tX6_both_33 (hd := (by omega)) (ha := (by first | assumption | (repeat (first | assumption | exact At.set_eq2 (by first | omega | (simp only [hset, hnew]; omega) | rfl | decide) | exact At.new_eq2 _ _ (by first | omega | (simp only [hset, hnew]; omega) | rfl | decide) | refine At.set_ne ?_ (by first | omega | (simp only [hset, hnew]; omega) | rfl | decide) | refine At.new_ne ?_)))) (call := hx _ _ rc1) (k := ?_)
      intro h2 rc2
      obtain ⟨⟨ea2, a2⟩, tx2, bx2, sq2, l12, l22, l32, l42⟩ := id rc2
      have hk432 := kdP_lt rc2
      have t_2 := tx2.1
      have b_2 := bx2.1
      refine tX6_both_36  (r := ?_)
      refine tX6_both_37  (r := ?_)
      refine tX6_both_40  (r := ?_)
      refine tX6_both_41 (hd := (by omega)) (ha := (by first | assumption | (repeat (first | assumption | exact At.set_eq2 (by first | omega | (simp only [hset, hnew]; omega) | rfl | decide) | exact At.new_eq2 _ _ (by first | omega | (simp only [hset, hnew]; omega) | rfl | decide) | refine At.set_ne ?_ (by first | omega | (simp only [hset, hnew]; omega) | rfl | decide) | refine At.new_ne ?_)))) (call := s_rstep (d := 1) (by omega) rc2 (w := 16) (n := 0) (by decide)) (k := ?_)
      intro h3 rc3
      obtain ⟨⟨ea3, a3⟩, tx3, bx3, sq3, l13, l23, l33, l43⟩ := id rc3
      have hk433 := kdP_lt rc3
      have t_3 := tx3.1
      have b_3 := bx3.1
      have rc4 := rc3.nod (so := soK 16) (l := q.2) (q := (x (tkP K 16 q.1)).2)
      refine tX6_both_44  (r := ?_)
      rw [nI_add]
      refine tX6_both_47 (r := ?_)
      exact ih (i + 1) _ _ (by omega) rc4

set_option maxHeartbeats 4000000 in
set_option maxRecDepth 100000 in
theorem s_rboth {d2 br : Nat} {x : PST → PST × Nat} (hx : ∀ h s, Rc h0 h r dr K s → RQ G mX6_single d2 0 [some (.ref r), some (.int (nI br)), none, none] [] h (Rv fun h1 => Rc h0 h1 r dr K (x s).1)) (hd : d2 + 1 ≤ d) (hd3 : 3 ≤ d) (rc : Rc h0 h r dr K s) : RQ G mX6_both d 0 [some (.ref r), some (.int (nI br)), none] [] h (Rv fun h1 => Rc h0 h1 r dr K ((opP K is16 (x) s).1)) := by
  obtain ⟨⟨ea, a0⟩, tx, bx, sq, l1, l2, l3, l4⟩ := id rc
  have z0 := a0.1
  have b0 := bx.1
  have t0 := tx.1
  have hk43 := kdP_lt rc
  refine tX6_both_0  (r := ?_)
  refine tX6_both_1  (r := ?_)
  refine tX6_both_2 (hd := (by omega)) (ha := (by first | assumption | (repeat (first | assumption | exact At.set_eq2 (by first | omega | (simp only [hset, hnew]; omega) | rfl | decide) | exact At.new_eq2 _ _ (by first | omega | (simp only [hset, hnew]; omega) | rfl | decide) | refine At.set_ne ?_ (by first | omega | (simp only [hset, hnew]; omega) | rfl | decide) | refine At.new_ne ?_)))) (call := hx _ _ rc) (k := ?_)
  intro h1 rc1
  obtain ⟨⟨ea1, a1⟩, tx1, bx1, sq1, l11, l21, l31, l41⟩ := id rc1
  have hk431 := kdP_lt rc1
  have t_1 := tx1.1
  have b_1 := bx1.1
  refine tX6_both_5  (r := ?_)
  refine tX6_both_6  (r := ?_)
  exact s_rboth_l hx hd hd3 400 0 _ _ (by omega) rc1

set_option maxHeartbeats 4000000 in
set_option maxRecDepth 100000 in
theorem s_rtest_l {d2 br : Nat} {x : PST → PST × Nat} (hx : ∀ h s, Rc h0 h r dr K s → RQ G mX6_both d2 0 [some (.ref r), some (.int (nI br)), none] [] h (Rv fun h1 => Rc h0 h1 r dr K (x s).1)) (hd : d2 + 1 ≤ d) (hd3 : 3 ≤ d) : ∀ (n i : Nat) (h : AH) (q : PST × Nat), i + n = 400 → Rc h0 h r dr K q.1 → RQ G mX6_test d 7 [some (.ref r), some (.int (nI br)), some (.int (nI i))] [] h (Rv fun h1 => Rc h0 h1 r dr K (lpP K is17 (x) n q).1) := by
  intro n
  induction n with
  | zero =>
    intro i h q hi rc
    refine tX6_test_7  (r := ?_)
    refine tX6_test_8  (r := ?_)
    refine tX6_test_11  (kf := fun c_ => by exfalso; exact c_ ((nI_leI (by decide) (by omega)).mpr (by omega))) (kt := fun _ => ?_)
    refine tX6_test_50  (hP := ?_)
    exact ⟨rfl, rc⟩
  | succ n ih =>
    intro i h q hi rc
    obtain ⟨⟨ea, a⟩, tx, bx, sq, l1, l2, l3, l4⟩ := id rc
    have hk43 := kdP_lt rc
    have t_ := tx.1
    have b_ := bx.1
    refine tX6_test_7  (r := ?_)
    refine tX6_test_8  (r := ?_)
    refine tX6_test_11  (kt := fun c_ => by exfalso; exact absurd ((nI_leI (by decide) (by omega)).mp c_) (by omega)) (kf := fun _ => ?_)
    refine tX6_test_14  (r := ?_)
    refine tX6_test_15 (ha := (by first | assumption | (repeat (first | assumption | exact At.set_eq2 (by first | omega | (simp only [hset, hnew]; omega) | rfl | decide) | exact At.new_eq2 _ _ (by first | omega | (simp only [hset, hnew]; omega) | rfl | decide) | refine At.set_ne ?_ (by first | omega | (simp only [hset, hnew]; omega) | rfl | decide) | refine At.new_ne ?_)))) (hv := rfl) (r := ?_)
    refine tX6_test_18  (r := ?_)
    refine tX6_test_21 (hi := hk43) (hj := (by omega)) (kt := fun c_21 => ?_) (kf := fun c_21 => ?_)
    · have e : lpP K is17 (x) (n + 1) q = q := if_neg (fun z => c_21 (by simp only [is17, beq_iff_eq] at z; exact z))
      rw [e]
      refine tX6_test_50  (hP := ?_)
      exact ⟨rfl, rc⟩
    · have e : lpP K is17 (x) (n + 1) q = lpP K is17 (x) n (jnP 17 q.2 (x (tkP K 17 q.1)).2 (x (tkP K 17 q.1)).1) := by
        have e9 : lpP K is17 (x) (n + 1) q = lpP K is17 (x) n (jnP (kdP K q.1) q.2 (x (tkP K (kdP K q.1) q.1)).2 (x (tkP K (kdP K q.1) q.1)).1) := if_pos (by rw [c_21]; rfl)
        rw [e9, c_21]
      rw [e]
      refine tX6_test_24  (r := ?_)
      refine tX6_test_25  (r := ?_)
      refine tX6_test_28 (hd := (by omega)) (ha := (by first | assumption | (repeat (first | assumption | exact At.set_eq2 (by first | omega | (simp only [hset, hnew]; omega) | rfl | decide) | exact At.new_eq2 _ _ (by first | omega | (simp only [hset, hnew]; omega) | rfl | decide) | refine At.set_ne ?_ (by first | omega | (simp only [hset, hnew]; omega) | rfl | decide) | refine At.new_ne ?_)))) (call := s_rtake (d := 1) (by omega) rc (w := 17) (by decide) (by decide)) (k := ?_)
      intro h1 rc1
      obtain ⟨⟨ea1, a1⟩, tx1, bx1, sq1, l11, l21, l31, l41⟩ := id rc1
      have hk431 := kdP_lt rc1
      have t_1 := tx1.1
      have b_1 := bx1.1
      refine tX6_test_31  (r := ?_)
      refine tX6_test_32  (r := ?_)
      refine tX6_test_33 (hd := (by omega)) (ha := (by first | assumption | (repeat (first | assumption | exact At.set_eq2 (by first | omega | (simp only [hset, hnew]; omega) | rfl | decide) | exact At.new_eq2 _ _ (by first | omega | (simp only [hset, hnew]; omega) | rfl | decide) | refine At.set_ne ?_ (by first | omega | (simp only [hset, hnew]; omega) | rfl | decide) | refine At.new_ne ?_)))) (call := hx _ _ rc1) (k := ?_)
      intro h2 rc2
      obtain ⟨⟨ea2, a2⟩, tx2, bx2, sq2, l12, l22, l32, l42⟩ := id rc2
      have hk432 := kdP_lt rc2
      have t_2 := tx2.1
      have b_2 := bx2.1
      refine tX6_test_36  (r := ?_)
      refine tX6_test_37  (r := ?_)
      refine tX6_test_40  (r := ?_)
      refine tX6_test_41 (hd := (by omega)) (ha := (by first | assumption | (repeat (first | assumption | exact At.set_eq2 (by first | omega | (simp only [hset, hnew]; omega) | rfl | decide) | exact At.new_eq2 _ _ (by first | omega | (simp only [hset, hnew]; omega) | rfl | decide) | refine At.set_ne ?_ (by first | omega | (simp only [hset, hnew]; omega) | rfl | decide) | refine At.new_ne ?_)))) (call := s_rstep (d := 1) (by omega) rc2 (w := 17) (n := 0) (by decide)) (k := ?_)
      intro h3 rc3
      obtain ⟨⟨ea3, a3⟩, tx3, bx3, sq3, l13, l23, l33, l43⟩ := id rc3
      have hk433 := kdP_lt rc3
      have t_3 := tx3.1
      have b_3 := bx3.1
      have rc4 := rc3.nod (so := soK 17) (l := q.2) (q := (x (tkP K 17 q.1)).2)
      refine tX6_test_44  (r := ?_)
      rw [nI_add]
      refine tX6_test_47 (r := ?_)
      exact ih (i + 1) _ _ (by omega) rc4

set_option maxHeartbeats 4000000 in
set_option maxRecDepth 100000 in
theorem s_rtest {d2 br : Nat} {x : PST → PST × Nat} (hx : ∀ h s, Rc h0 h r dr K s → RQ G mX6_both d2 0 [some (.ref r), some (.int (nI br)), none] [] h (Rv fun h1 => Rc h0 h1 r dr K (x s).1)) (hd : d2 + 1 ≤ d) (hd3 : 3 ≤ d) (rc : Rc h0 h r dr K s) : RQ G mX6_test d 0 [some (.ref r), some (.int (nI br)), none] [] h (Rv fun h1 => Rc h0 h1 r dr K ((opP K is17 (x) s).1)) := by
  obtain ⟨⟨ea, a0⟩, tx, bx, sq, l1, l2, l3, l4⟩ := id rc
  have z0 := a0.1
  have b0 := bx.1
  have t0 := tx.1
  have hk43 := kdP_lt rc
  refine tX6_test_0  (r := ?_)
  refine tX6_test_1  (r := ?_)
  refine tX6_test_2 (hd := (by omega)) (ha := (by first | assumption | (repeat (first | assumption | exact At.set_eq2 (by first | omega | (simp only [hset, hnew]; omega) | rfl | decide) | exact At.new_eq2 _ _ (by first | omega | (simp only [hset, hnew]; omega) | rfl | decide) | refine At.set_ne ?_ (by first | omega | (simp only [hset, hnew]; omega) | rfl | decide) | refine At.new_ne ?_)))) (call := hx _ _ rc) (k := ?_)
  intro h1 rc1
  obtain ⟨⟨ea1, a1⟩, tx1, bx1, sq1, l11, l21, l31, l41⟩ := id rc1
  have hk431 := kdP_lt rc1
  have t_1 := tx1.1
  have b_1 := bx1.1
  refine tX6_test_5  (r := ?_)
  refine tX6_test_6  (r := ?_)
  exact s_rtest_l hx hd hd3 400 0 _ _ (by omega) rc1

end REB
