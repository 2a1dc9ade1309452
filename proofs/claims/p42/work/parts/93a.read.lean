/-! the class reads all lines -/
section REE
variable {G : GT} {d : Nat} {h h0 : AH} {r dr tp : Nat} {K : TKS} {s t : PST} {P : OC → AH → Prop}

set_option maxHeartbeats 4000000 in
set_option maxRecDepth 100000 in
theorem s_rd39 (hd : 60 ≤ d) (kk : ∀ h1 (s1 : PST) (x2 : Option Value), Rc h0 h1 r dr K s1 → s1 = lsP K 400 t → RQ G mX6_read d 115 [some (.ref r), some (.ref tp), x2] [] h1 P) : ∀ (n i : Nat) (h : AH) (s : PST), i + n = 400 → lsP K n s = lsP K 400 t → Rc h0 h r dr K s → RQ G mX6_read d 39 [some (.ref r), some (.ref tp), some (.int (nI i))] [] h P := by
  intro n
  induction n with
  | zero =>
    intro i h s hi es rc
    refine tX6_read_39  (r := ?_)
    refine tX6_read_40  (r := ?_)
    refine tX6_read_43  (kf := fun c_ => by exfalso; exact c_ ((nI_leI (by decide) (by omega)).mpr (by omega))) (kt := fun _ => ?_)
    exact kk h s _ rc es
  | succ n ih =>
    intro i h s hi es rc
    obtain ⟨⟨ea, a0⟩, tx, bx, sq, l1, l2, l3, l4⟩ := id rc
    have z0 := a0.1
    have b0 := bx.1
    have t0 := tx.1
    have hk43 := kdP_lt rc
    refine tX6_read_39  (r := ?_)
    refine tX6_read_40  (r := ?_)
    refine tX6_read_43  (kt := fun c_ => by exfalso; exact absurd ((nI_leI (by decide) (by omega)).mp c_) (by omega)) (kf := fun _ => ?_)
    refine tX6_read_46  (r := ?_)
    refine tX6_read_47 (ha := (by first | assumption | (repeat (first | assumption | exact At.set_eq2 (by first | omega | (simp only [hset, hnew]; omega) | rfl | decide) | exact At.new_eq2 _ _ (by first | omega | (simp only [hset, hnew]; omega) | rfl | decide) | refine At.set_ne ?_ (by first | omega | (simp only [hset, hnew]; omega) | rfl | decide) | refine At.new_ne ?_)))) (hv := rfl) (r := ?_)
    refine tX6_read_50  (r := ?_)
    refine tX6_read_53 (hi := hk43) (hj := (by omega)) (kt := fun c_53 => ?_) (kf := fun c_53 => ?_)
    · have en : lsP K (n + 1) s = s := if_neg (fun z => z.1 c_53)
      exact kk h s _ rc (en.symm.trans es)
    · refine tX6_read_56  (r := ?_)
      refine tX6_read_57 (ha := (by first | assumption | (repeat (first | assumption | exact At.set_eq2 (by first | omega | (simp only [hset, hnew]; omega) | rfl | decide) | exact At.new_eq2 _ _ (by first | omega | (simp only [hset, hnew]; omega) | rfl | decide) | refine At.set_ne ?_ (by first | omega | (simp only [hset, hnew]; omega) | rfl | decide) | refine At.new_ne ?_)))) (hv := rfl) (r := ?_)
      refine tX6_read_60  (r := ?_)
      refine tX6_read_61  (kt := fun c_61 => ?_) (kf := fun c_61 => ?_)
      · have en : lsP K (n + 1) s = s := if_neg (fun z => z.2 (by simp (disch := omega) only [show (1 : Int32) = nI 1 from rfl, ci_eq] at c_61; omega))
        exact kk h s _ rc (en.symm.trans es)
      · have e1 : pEr s ≠ 1 := fun z => c_61 (by rw [z])
        have en : lsP K (n + 1) s = lsP K n (tkP K 31 (lnP K s)) := if_pos ⟨c_53, e1⟩
        refine tX6_read_64  (r := ?_)
        refine tX6_read_65 (ha := (by first | assumption | (repeat (first | assumption | exact At.set_eq2 (by first | omega | (simp only [hset, hnew]; omega) | rfl | decide) | exact At.new_eq2 _ _ (by first | omega | (simp only [hset, hnew]; omega) | rfl | decide) | refine At.set_ne ?_ (by first | omega | (simp only [hset, hnew]; omega) | rfl | decide) | refine At.new_ne ?_)))) (hv := rfl) (r := ?_)
        refine tX6_read_68  (r := ?_)
        refine tX6_read_71 (hi := hk43) (hj := (by omega)) (kt := fun c_71 => ?_) (kf := fun c_71 => ?_)
        · refine tX6_read_81  (r := ?_)
          refine tX6_read_82 (ha := (by first | assumption | (repeat (first | assumption | exact At.set_eq2 (by first | omega | (simp only [hset, hnew]; omega) | rfl | decide) | exact At.new_eq2 _ _ (by first | omega | (simp only [hset, hnew]; omega) | rfl | decide) | refine At.set_ne ?_ (by first | omega | (simp only [hset, hnew]; omega) | rfl | decide) | refine At.new_ne ?_)))) (hv := rfl) (r := ?_)
          refine tX6_read_85  (r := ?_)
          refine tX6_read_88 (hi := hk43) (hj := (by omega)) (kt := fun c_88 => ?_) (kf := fun c_88 => ?_)
          · have LN : lnP K s = ilP K s := by
              unfold lnP
              rw [if_neg c_71, if_neg c_88]
            refine tX6_read_98  (r := ?_)
            refine tX6_read_99 (hd := (by omega)) (ha := (by first | assumption | (repeat (first | assumption | exact At.set_eq2 (by first | omega | (simp only [hset, hnew]; omega) | rfl | decide) | exact At.new_eq2 _ _ (by first | omega | (simp only [hset, hnew]; omega) | rfl | decide) | refine At.set_ne ?_ (by first | omega | (simp only [hset, hnew]; omega) | rfl | decide) | refine At.new_ne ?_)))) (call := s_rlidl (d := 59) (by omega) rc) (k := ?_)
            intro h1 rc1
            obtain ⟨⟨ea1, a1⟩, tx1, bx1, sq1, l11, l21, l31, l41⟩ := id rc1
            have hk431 := kdP_lt rc1
            have t_1 := tx1.1
            have b_1 := bx1.1
            refine tX6_read_102  (r := ?_)
            refine tX6_read_103  (r := ?_)
            refine tX6_read_106 (hd := (by omega)) (ha := (by first | assumption | (repeat (first | assumption | exact At.set_eq2 (by first | omega | (simp only [hset, hnew]; omega) | rfl | decide) | exact At.new_eq2 _ _ (by first | omega | (simp only [hset, hnew]; omega) | rfl | decide) | refine At.set_ne ?_ (by first | omega | (simp only [hset, hnew]; omega) | rfl | decide) | refine At.new_ne ?_)))) (call := s_rtake (d := 3) (by omega) rc1 (w := 31) (by decide) (by decide)) (k := ?_)
            intro h2 rc2
            obtain ⟨⟨ea2, a2⟩, tx2, bx2, sq2, l12, l22, l32, l42⟩ := id rc2
            have hk432 := kdP_lt rc2
            have t_2 := tx2.1
            have b_2 := bx2.1
            refine tX6_read_109  (r := ?_)
            rw [nI_add]
            refine tX6_read_112 (r := ?_)
            exact ih (i + 1) h2 _ (by omega) (en.symm.trans es) (by rw [LN]; exact rc2)
          · have LN : lnP K s = jlP K s := by
              unfold lnP
              rw [if_neg c_71, if_pos c_88]
            refine tX6_read_91  (r := ?_)
            refine tX6_read_92 (hd := (by omega)) (ha := (by first | assumption | (repeat (first | assumption | exact At.set_eq2 (by first | omega | (simp only [hset, hnew]; omega) | rfl | decide) | exact At.new_eq2 _ _ (by first | omega | (simp only [hset, hnew]; omega) | rfl | decide) | refine At.set_ne ?_ (by first | omega | (simp only [hset, hnew]; omega) | rfl | decide) | refine At.new_ne ?_)))) (call := s_rjarl (d := 59) (by omega) rc) (k := ?_)
            intro h1 rc1
            obtain ⟨⟨ea1, a1⟩, tx1, bx1, sq1, l11, l21, l31, l41⟩ := id rc1
            have hk431 := kdP_lt rc1
            have t_1 := tx1.1
            have b_1 := bx1.1
            refine tX6_read_95 (r := ?_)
            refine tX6_read_102  (r := ?_)
            refine tX6_read_103  (r := ?_)
            refine tX6_read_106 (hd := (by omega)) (ha := (by first | assumption | (repeat (first | assumption | exact At.set_eq2 (by first | omega | (simp only [hset, hnew]; omega) | rfl | decide) | exact At.new_eq2 _ _ (by first | omega | (simp only [hset, hnew]; omega) | rfl | decide) | refine At.set_ne ?_ (by first | omega | (simp only [hset, hnew]; omega) | rfl | decide) | refine At.new_ne ?_)))) (call := s_rtake (d := 3) (by omega) rc1 (w := 31) (by decide) (by decide)) (k := ?_)
            intro h2 rc2
            obtain ⟨⟨ea2, a2⟩, tx2, bx2, sq2, l12, l22, l32, l42⟩ := id rc2
            have hk432 := kdP_lt rc2
            have t_2 := tx2.1
            have b_2 := bx2.1
            refine tX6_read_109  (r := ?_)
            rw [nI_add]
            refine tX6_read_112 (r := ?_)
            exact ih (i + 1) h2 _ (by omega) (en.symm.trans es) (by rw [LN]; exact rc2)
        · have LN : lnP K s = llP K s := by
            unfold lnP
            rw [if_pos c_71]
          refine tX6_read_74  (r := ?_)
          refine tX6_read_75 (hd := (by omega)) (ha := (by first | assumption | (repeat (first | assumption | exact At.set_eq2 (by first | omega | (simp only [hset, hnew]; omega) | rfl | decide) | exact At.new_eq2 _ _ (by first | omega | (simp only [hset, hnew]; omega) | rfl | decide) | refine At.set_ne ?_ (by first | omega | (simp only [hset, hnew]; omega) | rfl | decide) | refine At.new_ne ?_)))) (call := s_rlabel (d := 59) (by omega) rc) (k := ?_)
          intro h1 rc1
          obtain ⟨⟨ea1, a1⟩, tx1, bx1, sq1, l11, l21, l31, l41⟩ := id rc1
          have hk431 := kdP_lt rc1
          have t_1 := tx1.1
          have b_1 := bx1.1
          refine tX6_read_78 (r := ?_)
          refine tX6_read_102  (r := ?_)
          refine tX6_read_103  (r := ?_)
          refine tX6_read_106 (hd := (by omega)) (ha := (by first | assumption | (repeat (first | assumption | exact At.set_eq2 (by first | omega | (simp only [hset, hnew]; omega) | rfl | decide) | exact At.new_eq2 _ _ (by first | omega | (simp only [hset, hnew]; omega) | rfl | decide) | refine At.set_ne ?_ (by first | omega | (simp only [hset, hnew]; omega) | rfl | decide) | refine At.new_ne ?_)))) (call := s_rtake (d := 3) (by omega) rc1 (w := 31) (by decide) (by decide)) (k := ?_)
          intro h2 rc2
          obtain ⟨⟨ea2, a2⟩, tx2, bx2, sq2, l12, l22, l32, l42⟩ := id rc2
          have hk432 := kdP_lt rc2
          have t_2 := tx2.1
          have b_2 := bx2.1
          refine tX6_read_109  (r := ?_)
          rw [nI_add]
          refine tX6_read_112 (r := ?_)
          exact ih (i + 1) h2 _ (by omega) (en.symm.trans es) (by rw [LN]; exact rc2)

set_option maxHeartbeats 4000000 in
set_option maxRecDepth 100000 in
theorem s_rd115 (hd : 2 ≤ d) {x2 : Option Value} (rc : Rc h0 h r dr K s) : RQ G mX6_read d 115 [some (.ref r), some (.ref tp), x2] [] h (Ri fun v h1 => v = nI (pEr s) ∧ (∃ et : Int32, At h1 r (ReaO r dr (nI (pPo s)) (kdP K s) (nI (pEr s)) et (if pEr s = 0 then (-1 : Int32) else nI (ssT K (pEt s))))) ∧ TkX h1 (r + 1) K ∧ BoX h1 dr (pDf s) ∧ Sq h0 h1 r dr) := by
  obtain ⟨⟨ea, a0⟩, tx, bx, sq, l1, l2, l3, l4⟩ := id rc
  have z0 := a0.1
  have b0 := bx.1
  have t0 := tx.1
  have hk43 := kdP_lt rc
  refine tX6_read_115  (r := ?_)
  refine tX6_read_116  (r := ?_)
  refine tX6_read_117 (ha := (by first | assumption | (repeat (first | assumption | exact At.set_eq2 (by first | omega | (simp only [hset, hnew]; omega) | rfl | decide) | exact At.new_eq2 _ _ (by first | omega | (simp only [hset, hnew]; omega) | rfl | decide) | refine At.set_ne ?_ (by first | omega | (simp only [hset, hnew]; omega) | rfl | decide) | refine At.new_ne ?_)))) (hv := rfl) (r := ?_)
  refine tX6_read_120  (kt := fun c_120 => ?_) (kf := fun c_120 => ?_)
  · have e0 : ¬ pEr s = 0 := fun z => c_120 (by rw [z]; rfl)
    refine tX6_read_127  (r := ?_)
    refine tX6_read_128 (ha := (by first | assumption | (repeat (first | assumption | exact At.set_eq2 (by first | omega | (simp only [hset, hnew]; omega) | rfl | decide) | exact At.new_eq2 _ _ (by first | omega | (simp only [hset, hnew]; omega) | rfl | decide) | refine At.set_ne ?_ (by first | omega | (simp only [hset, hnew]; omega) | rfl | decide) | refine At.new_ne ?_)))) (hv := rfl) (r := ?_)
    refine tX6_read_131  (r := ?_)
    refine tX6_read_132 (ha := (by first | assumption | (repeat (first | assumption | exact At.set_eq2 (by first | omega | (simp only [hset, hnew]; omega) | rfl | decide) | exact At.new_eq2 _ _ (by first | omega | (simp only [hset, hnew]; omega) | rfl | decide) | refine At.set_ne ?_ (by first | omega | (simp only [hset, hnew]; omega) | rfl | decide) | refine At.new_ne ?_)))) (hv := rfl) (r := ?_)
    rw [show etI ea.2 (pEr s) (pEt s) = nI (pEt s) from if_neg e0]
    refine tX6_read_135 (hd := (by omega)) (ha := (by first | assumption | (repeat (first | assumption | exact At.set_eq2 (by first | omega | (simp only [hset, hnew]; omega) | rfl | decide) | exact At.new_eq2 _ _ (by first | omega | (simp only [hset, hnew]; omega) | rfl | decide) | refine At.set_ne ?_ (by first | omega | (simp only [hset, hnew]; omega) | rfl | decide) | refine At.new_ne ?_)))) (call := s_tkStart (d := 0) tx (by omega)) (k := ?_)
    rintro x_ h_ ⟨hx_, e_⟩
    rw [e_, hx_]
    refine tX6_read_138 (ha := (by first | assumption | (repeat (first | assumption | exact At.set_eq2 (by first | omega | (simp only [hset, hnew]; omega) | rfl | decide) | exact At.new_eq2 _ _ (by first | omega | (simp only [hset, hnew]; omega) | rfl | decide) | refine At.set_ne ?_ (by first | omega | (simp only [hset, hnew]; omega) | rfl | decide) | refine At.new_ne ?_)))) (hlen := rfl) (r := ?_)
    refine tX6_read_141  (r := ?_)
    refine tX6_read_142 (ha := (by first | assumption | (repeat (first | assumption | exact At.set_eq2 (by first | omega | (simp only [hset, hnew]; omega) | rfl | decide) | exact At.new_eq2 _ _ (by first | omega | (simp only [hset, hnew]; omega) | rfl | decide) | refine At.set_ne ?_ (by first | omega | (simp only [hset, hnew]; omega) | rfl | decide) | refine At.new_ne ?_)))) (hv := rfl) (r := ?_)
    refine tX6_read_145  (hP := ?_)
    have sm := (Sm.rf h r (r + 1)).set (i := r) (c := ReaO r dr (nI (pPo s)) (kdP K s) (nI (pEr s)) (etI ea.2 (pEr s) (pEt s)) (nI (ssT K (pEt s)))) (by omega) (by omega)
    refine ⟨_, rfl, rfl, ⟨etI ea.2 (pEr s) (pEt s), ?_⟩, tx.sm sm (by omega), bx.sm sm (by omega), sq.setR (by omega)⟩
    rw [if_neg e0]
    exact At.set_eq2 z0
  · have e0 : pEr s = 0 := by simp (disch := omega) only [ci_eq0] at c_120; omega
    refine tX6_read_123  (r := ?_)
    refine tX6_read_124 (r := ?_)
    refine tX6_read_138 (ha := (by first | assumption | (repeat (first | assumption | exact At.set_eq2 (by first | omega | (simp only [hset, hnew]; omega) | rfl | decide) | exact At.new_eq2 _ _ (by first | omega | (simp only [hset, hnew]; omega) | rfl | decide) | refine At.set_ne ?_ (by first | omega | (simp only [hset, hnew]; omega) | rfl | decide) | refine At.new_ne ?_)))) (hlen := rfl) (r := ?_)
    refine tX6_read_141  (r := ?_)
    refine tX6_read_142 (ha := (by first | assumption | (repeat (first | assumption | exact At.set_eq2 (by first | omega | (simp only [hset, hnew]; omega) | rfl | decide) | exact At.new_eq2 _ _ (by first | omega | (simp only [hset, hnew]; omega) | rfl | decide) | refine At.set_ne ?_ (by first | omega | (simp only [hset, hnew]; omega) | rfl | decide) | refine At.new_ne ?_)))) (hv := rfl) (r := ?_)
    refine tX6_read_145  (hP := ?_)
    have sm := (Sm.rf h r (r + 1)).set (i := r) (c := ReaO r dr (nI (pPo s)) (kdP K s) (nI (pEr s)) (etI ea.2 (pEr s) (pEt s)) (-1)) (by omega) (by omega)
    refine ⟨_, rfl, rfl, ⟨etI ea.2 (pEr s) (pEt s), ?_⟩, tx.sm sm (by omega), bx.sm sm (by omega), sq.setR (by omega)⟩
    rw [if_pos e0]
    exact At.set_eq2 z0

end REE
