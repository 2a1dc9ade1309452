/-! the class reads acts, rules, lines -/
theorem tkP_er {K : TKS} {w : Nat} {s : PST} (h : pEr (tkP K w s) = 0) : pEr s = 0 ∧ kdP K s = w ∧ tkP K w s = (pPo s + 1, pEr s, pEt s, pDf s) := by
  unfold tkP at h ⊢
  by_cases e : pEr s = 1
  · rw [if_pos e] at h
    omega
  · rw [if_neg e] at h ⊢
    by_cases e2 : kdP K s = w
    · rw [if_pos e2] at h ⊢
      exact ⟨h, e2, rfl⟩
    · rw [if_neg e2] at h
      exact absurd h (show ¬ (1 : Nat) = 0 by decide)
theorem rpP_er {n : Nat} {s : PST} (hn : n ≠ 0) (h : pEr (rpP n s) = 0) : False := by
  unfold rpP at h
  by_cases e : pEr s = 0
  · rw [if_pos e] at h
    exact hn h
  · rw [if_neg e] at h
    exact e h
section RED
variable {G : GT} {d : Nat} {h h0 : AH} {r dr : Nat} {K : TKS} {s : PST} {P : OC → AH → Prop}

set_option maxHeartbeats 4000000 in
set_option maxRecDepth 100000 in
theorem s_ract25 {w : Nat} (rc : Rc h0 h r dr K s) (hn : pEr s = 0 → nAn (pBk s) < 60) (kk : ∀ h1, Rc h0 h1 r dr K (upP acD s) → RQ G mX6_act d 48 [some (.ref r), some (.ref w)] [] h1 P) : RQ G mX6_act d 25 [some (.ref r), some (.ref w)] [] h P := by
  obtain ⟨⟨ea, a0⟩, tx, bx, sq, l1, l2, l3, l4⟩ := id rc
  have z0 := a0.1
  have b0 := bx.1
  have t0 := tx.1
  have hk43 := kdP_lt rc
  obtain ⟨s0, q1, q2, q3, q4, q5, m1, m2, m3⟩ := id bx.2.2.2.2.2.2.2.2.1
  have z52 := s0.1
  have m3b : nAn (pBk s) ≤ 60 := m3
  have m2b : bRs (pBk s) ≤ 24 := m2
  refine tX6_act_25  (r := ?_)
  refine tX6_act_26 (ha := (by first | assumption | (repeat (first | assumption | exact At.set_eq2 (by first | omega | (simp only [hset, hnew]; omega) | rfl | decide) | exact At.new_eq2 _ _ (by first | omega | (simp only [hset, hnew]; omega) | rfl | decide) | refine At.set_ne ?_ (by first | omega | (simp only [hset, hnew]; omega) | rfl | decide) | refine At.new_ne ?_)))) (hv := rfl) (r := ?_)
  refine tX6_act_29  (kt := fun c_29 => ?_) (kf := fun c_29 => ?_)
  · have e0 : ¬ pEr s = 0 := fun z => c_29 (by rw [z]; rfl)
    exact kk _ (rc.no e0)
  · have e0 : pEr s = 0 := by simp (disch := omega) only [ci_eq0] at c_29; omega
    have n60 := hn e0
    refine tX6_act_32  (r := ?_)
    refine tX6_act_33 (ha := (by first | assumption | (repeat (first | assumption | exact At.set_eq2 (by first | omega | (simp only [hset, hnew]; omega) | rfl | decide) | exact At.new_eq2 _ _ (by first | omega | (simp only [hset, hnew]; omega) | rfl | decide) | refine At.set_ne ?_ (by first | omega | (simp only [hset, hnew]; omega) | rfl | decide) | refine At.new_ne ?_)))) (hv := rfl) (r := ?_)
    refine tX6_act_36 (ha := (by first | assumption | (repeat (first | assumption | exact At.set_eq2 (by first | omega | (simp only [hset, hnew]; omega) | rfl | decide) | exact At.new_eq2 _ _ (by first | omega | (simp only [hset, hnew]; omega) | rfl | decide) | refine At.set_ne ?_ (by first | omega | (simp only [hset, hnew]; omega) | rfl | decide) | refine At.new_ne ?_)))) (hv := rfl) (r := ?_)
    refine tX6_act_39  (r := ?_)
    refine tX6_act_40 (ha := (by first | assumption | (repeat (first | assumption | exact At.set_eq2 (by first | omega | (simp only [hset, hnew]; omega) | rfl | decide) | exact At.new_eq2 _ _ (by first | omega | (simp only [hset, hnew]; omega) | rfl | decide) | refine At.set_ne ?_ (by first | omega | (simp only [hset, hnew]; omega) | rfl | decide) | refine At.new_ne ?_)))) (hv := rfl) (r := ?_)
    refine tX6_act_43  (r := ?_)
    refine tX6_act_44  (r := ?_)
    rw [nI_add]
    refine tX6_act_45 (ha := (by first | assumption | (repeat (first | assumption | exact At.set_eq2 (by first | omega | (simp only [hset, hnew]; omega) | rfl | decide) | exact At.new_eq2 _ _ (by first | omega | (simp only [hset, hnew]; omega) | rfl | decide) | refine At.set_ne ?_ (by first | omega | (simp only [hset, hnew]; omega) | rfl | decide) | refine At.new_ne ?_)))) (hlen := rfl) (r := ?_)
    have sm0 := (Sm.rf h (dr + 52) (dr + 53)).set (i := dr + 52) (c := ScO (dr + 52) (nI (cSt (pBk s))) (nI (bRs (pBk s))) (nI (nAn (pBk s) + 1))) (by omega) (by omega)
    have sm := sm0.sub (lo2 := dr + 52) (hi2 := dr + 58) (by omega) (by omega)
    exact kk _ (rc.up (f := acD) e0 (bx.sc (f := bSc (pBk s)) (g := (nNo (pBk s), nAn (pBk s) + 1, nSo (pBk s), nLe (pBk s), nRi (pBk s), nRu (pBk s), nAc (pBk s))) sm ⟨At.set_eq2 z52, q1.sm sm0 (by omega), q2.sm sm0 (by omega), q3.sm sm0 (by omega), q4.sm sm0 (by omega), q5.sm sm0 (by omega), m1, m2, n60⟩) (sm.sub (by omega) (by omega)))

set_option maxHeartbeats 4000000 in
set_option maxRecDepth 100000 in
theorem s_ract48 (hd : 40 ≤ d) {w k : Nat} (hw : w < 43) (rc : Rc h0 h r dr K s) : RQ G mX6_act d 48 [some (.ref r), some (.ref (OLD + w))] [] h (Rv fun h1 => Rc h0 h1 r dr K (if w = 9 then awP K k s else if w = 11 then ahP K k s else if w = 13 then ajP K k s else aoP K w k s)) := by
  obtain ⟨⟨ea, a0⟩, tx, bx, sq, l1, l2, l3, l4⟩ := id rc
  have z0 := a0.1
  have b0 := bx.1
  have t0 := tx.1
  have hk43 := kdP_lt rc
  refine tX6_act_48  (r := ?_)
  refine tX6_act_49  (r := ?_)
  refine tX6_act_52 (hi := hw) (hj := (by omega)) (kt := fun c_52 => ?_) (kf := fun c_52 => ?_)
  · refine tX6_act_93  (r := ?_)
    refine tX6_act_94  (r := ?_)
    refine tX6_act_97 (hi := hw) (hj := (by omega)) (kt := fun c_97 => ?_) (kf := fun c_97 => ?_)
    · refine tX6_act_126  (r := ?_)
      refine tX6_act_127  (r := ?_)
      refine tX6_act_130 (hi := hw) (hj := (by omega)) (kt := fun c_130 => ?_) (kf := fun c_130 => ?_)
      · have ee : (if w = 9 then awP K k s else if w = 11 then ahP K k s else if w = 13 then ajP K k s else aoP K w k s) = aoP K w k s := by
          rw [if_neg c_52, if_neg c_97, if_neg c_130]
        refine tX6_act_159  (r := ?_)
        refine tX6_act_160  (r := ?_)
        refine tX6_act_161  (r := ?_)
        refine tX6_act_162 (hd := (by omega)) (ha := (by first | assumption | (repeat (first | assumption | exact At.set_eq2 (by first | omega | (simp only [hset, hnew]; omega) | rfl | decide) | exact At.new_eq2 _ _ (by first | omega | (simp only [hset, hnew]; omega) | rfl | decide) | refine At.set_ne ?_ (by first | omega | (simp only [hset, hnew]; omega) | rfl | decide) | refine At.new_ne ?_)))) (call := s_rstep (d := 1) (by omega) rc (w := w) (n := 0) hw) (k := ?_)
        intro h1 rc1
        obtain ⟨⟨ea1, a1⟩, tx1, bx1, sq1, l11, l21, l31, l41⟩ := id rc1
        have hk431 := kdP_lt rc1
        have t_1 := tx1.1
        have b_1 := bx1.1
        refine tX6_act_165  (r := ?_)
        refine tX6_act_166  (r := ?_)
        refine tX6_act_167  (r := ?_)
        refine tX6_act_170 (hi := hw) (hj := (by omega)) (kt := fun c_170 => ?_) (kf := fun c_170 => ?_)
        · have et : (if w = 12 then 12 else 14) = 14 := if_neg c_170
          refine tX6_act_179  (r := ?_)
          refine tX6_act_182 (hd := (by omega)) (ha := (by first | assumption | (repeat (first | assumption | exact At.set_eq2 (by first | omega | (simp only [hset, hnew]; omega) | rfl | decide) | exact At.new_eq2 _ _ (by first | omega | (simp only [hset, hnew]; omega) | rfl | decide) | refine At.set_ne ?_ (by first | omega | (simp only [hset, hnew]; omega) | rfl | decide) | refine At.new_ne ?_)))) (call := s_rtake (d := 1) (by omega) rc1 (w := 14) (by decide) (by decide)) (k := ?_)
          intro h2 rc2
          obtain ⟨⟨ea2, a2⟩, tx2, bx2, sq2, l12, l22, l32, l42⟩ := id rc2
          have hk432 := kdP_lt rc2
          have t_2 := tx2.1
          have b_2 := bx2.1
          rw [← et] at rc2
          refine tX6_act_185  (hP := ?_)
          rw [ee]
          exact ⟨rfl, rc2.inv (fun b => b.ar)⟩
        · have et : (if w = 12 then 12 else 14) = 12 := if_pos c_170
          refine tX6_act_173  (r := ?_)
          refine tX6_act_176 (r := ?_)
          refine tX6_act_182 (hd := (by omega)) (ha := (by first | assumption | (repeat (first | assumption | exact At.set_eq2 (by first | omega | (simp only [hset, hnew]; omega) | rfl | decide) | exact At.new_eq2 _ _ (by first | omega | (simp only [hset, hnew]; omega) | rfl | decide) | refine At.set_ne ?_ (by first | omega | (simp only [hset, hnew]; omega) | rfl | decide) | refine At.new_ne ?_)))) (call := s_rtake (d := 1) (by omega) rc1 (w := 12) (by decide) (by decide)) (k := ?_)
          intro h2 rc2
          obtain ⟨⟨ea2, a2⟩, tx2, bx2, sq2, l12, l22, l32, l42⟩ := id rc2
          have hk432 := kdP_lt rc2
          have t_2 := tx2.1
          have b_2 := bx2.1
          rw [← et] at rc2
          refine tX6_act_185  (hP := ?_)
          rw [ee]
          exact ⟨rfl, rc2.inv (fun b => b.ar)⟩
      · have ee : (if w = 9 then awP K k s else if w = 11 then ahP K k s else if w = 13 then ajP K k s else aoP K w k s) = ajP K k s := by
          rw [if_neg c_52, if_neg c_97, if_pos c_130]
        subst c_130
        refine tX6_act_133  (r := ?_)
        refine tX6_act_134  (r := ?_)
        refine tX6_act_137 (hd := (by omega)) (ha := (by first | assumption | (repeat (first | assumption | exact At.set_eq2 (by first | omega | (simp only [hset, hnew]; omega) | rfl | decide) | exact At.new_eq2 _ _ (by first | omega | (simp only [hset, hnew]; omega) | rfl | decide) | refine At.set_ne ?_ (by first | omega | (simp only [hset, hnew]; omega) | rfl | decide) | refine At.new_ne ?_)))) (call := s_rtake (d := 1) (by omega) rc (w := 13) (by decide) (by decide)) (k := ?_)
        intro h1 rc1
        obtain ⟨⟨ea1, a1⟩, tx1, bx1, sq1, l11, l21, l31, l41⟩ := id rc1
        have hk431 := kdP_lt rc1
        have t_1 := tx1.1
        have b_1 := bx1.1
        refine tX6_act_140  (r := ?_)
        refine tX6_act_141  (r := ?_)
        refine tX6_act_142  (r := ?_)
        refine tX6_act_143 (hd := (by omega)) (ha := (by first | assumption | (repeat (first | assumption | exact At.set_eq2 (by first | omega | (simp only [hset, hnew]; omega) | rfl | decide) | exact At.new_eq2 _ _ (by first | omega | (simp only [hset, hnew]; omega) | rfl | decide) | refine At.set_ne ?_ (by first | omega | (simp only [hset, hnew]; omega) | rfl | decide) | refine At.new_ne ?_)))) (call := s_rlab (d := 2) (by omega) rc1) (k := ?_)
        rintro x_ h2 ⟨hx_, rc2⟩
        rw [hx_]
        obtain ⟨⟨ea2, a2⟩, tx2, bx2, sq2, l12, l22, l32, l42⟩ := id rc2
        have hk432 := kdP_lt rc2
        have t_2 := tx2.1
        have b_2 := bx2.1
        refine tX6_act_146 (hd := (by omega)) (ha := (by first | assumption | (repeat (first | assumption | exact At.set_eq2 (by first | omega | (simp only [hset, hnew]; omega) | rfl | decide) | exact At.new_eq2 _ _ (by first | omega | (simp only [hset, hnew]; omega) | rfl | decide) | refine At.set_ne ?_ (by first | omega | (simp only [hset, hnew]; omega) | rfl | decide) | refine At.new_ne ?_)))) (call := s_rstepO (d := 2) (by omega) rc2 (w := 13) (by decide)) (k := ?_)
        intro h3 rc3
        obtain ⟨⟨ea3, a3⟩, tx3, bx3, sq3, l13, l23, l33, l43⟩ := id rc3
        have hk433 := kdP_lt rc3
        have t_3 := tx3.1
        have b_3 := bx3.1
        refine tX6_act_149  (r := ?_)
        refine tX6_act_150  (r := ?_)
        refine tX6_act_153 (hd := (by omega)) (ha := (by first | assumption | (repeat (first | assumption | exact At.set_eq2 (by first | omega | (simp only [hset, hnew]; omega) | rfl | decide) | exact At.new_eq2 _ _ (by first | omega | (simp only [hset, hnew]; omega) | rfl | decide) | refine At.set_ne ?_ (by first | omega | (simp only [hset, hnew]; omega) | rfl | decide) | refine At.new_ne ?_)))) (call := s_rtake (d := 1) (by omega) rc3 (w := 39) (by decide) (by decide)) (k := ?_)
        intro h4 rc4
        obtain ⟨⟨ea4, a4⟩, tx4, bx4, sq4, l14, l24, l34, l44⟩ := id rc4
        have hk434 := kdP_lt rc4
        have t_4 := tx4.1
        have b_4 := bx4.1
        refine tX6_act_156 (r := ?_)
        refine tX6_act_185  (hP := ?_)
        rw [ee]
        exact ⟨rfl, rc4.inv (fun b => b.ar)⟩
    · have ee : (if w = 9 then awP K k s else if w = 11 then ahP K k s else if w = 13 then ajP K k s else aoP K w k s) = ahP K k s := by
        rw [if_neg c_52, if_pos c_97]
      subst c_97
      refine tX6_act_100  (r := ?_)
      refine tX6_act_101  (r := ?_)
      refine tX6_act_104 (hd := (by omega)) (ha := (by first | assumption | (repeat (first | assumption | exact At.set_eq2 (by first | omega | (simp only [hset, hnew]; omega) | rfl | decide) | exact At.new_eq2 _ _ (by first | omega | (simp only [hset, hnew]; omega) | rfl | decide) | refine At.set_ne ?_ (by first | omega | (simp only [hset, hnew]; omega) | rfl | decide) | refine At.new_ne ?_)))) (call := s_rtake (d := 1) (by omega) rc (w := 11) (by decide) (by decide)) (k := ?_)
      intro h1 rc1
      obtain ⟨⟨ea1, a1⟩, tx1, bx1, sq1, l11, l21, l31, l41⟩ := id rc1
      have hk431 := kdP_lt rc1
      have t_1 := tx1.1
      have b_1 := bx1.1
      refine tX6_act_107  (r := ?_)
      refine tX6_act_108  (r := ?_)
      refine tX6_act_109  (r := ?_)
      refine tX6_act_110 (hd := (by omega)) (ha := (by first | assumption | (repeat (first | assumption | exact At.set_eq2 (by first | omega | (simp only [hset, hnew]; omega) | rfl | decide) | exact At.new_eq2 _ _ (by first | omega | (simp only [hset, hnew]; omega) | rfl | decide) | refine At.set_ne ?_ (by first | omega | (simp only [hset, hnew]; omega) | rfl | decide) | refine At.new_ne ?_)))) (call := s_rjar (d := 2) (by omega) rc1) (k := ?_)
      rintro x_ h2 ⟨hx_, rc2⟩
      rw [hx_]
      obtain ⟨⟨ea2, a2⟩, tx2, bx2, sq2, l12, l22, l32, l42⟩ := id rc2
      have hk432 := kdP_lt rc2
      have t_2 := tx2.1
      have b_2 := bx2.1
      refine tX6_act_113 (hd := (by omega)) (ha := (by first | assumption | (repeat (first | assumption | exact At.set_eq2 (by first | omega | (simp only [hset, hnew]; omega) | rfl | decide) | exact At.new_eq2 _ _ (by first | omega | (simp only [hset, hnew]; omega) | rfl | decide) | refine At.set_ne ?_ (by first | omega | (simp only [hset, hnew]; omega) | rfl | decide) | refine At.new_ne ?_)))) (call := s_rstepO (d := 2) (by omega) rc2 (w := 11) (by decide)) (k := ?_)
      intro h3 rc3
      obtain ⟨⟨ea3, a3⟩, tx3, bx3, sq3, l13, l23, l33, l43⟩ := id rc3
      have hk433 := kdP_lt rc3
      have t_3 := tx3.1
      have b_3 := bx3.1
      refine tX6_act_116  (r := ?_)
      refine tX6_act_117  (r := ?_)
      refine tX6_act_120 (hd := (by omega)) (ha := (by first | assumption | (repeat (first | assumption | exact At.set_eq2 (by first | omega | (simp only [hset, hnew]; omega) | rfl | decide) | exact At.new_eq2 _ _ (by first | omega | (simp only [hset, hnew]; omega) | rfl | decide) | refine At.set_ne ?_ (by first | omega | (simp only [hset, hnew]; omega) | rfl | decide) | refine At.new_ne ?_)))) (call := s_rtake (d := 1) (by omega) rc3 (w := 39) (by decide) (by decide)) (k := ?_)
      intro h4 rc4
      obtain ⟨⟨ea4, a4⟩, tx4, bx4, sq4, l14, l24, l34, l44⟩ := id rc4
      have hk434 := kdP_lt rc4
      have t_4 := tx4.1
      have b_4 := bx4.1
      refine tX6_act_123 (r := ?_)
      refine tX6_act_185  (hP := ?_)
      rw [ee]
      exact ⟨rfl, rc4.inv (fun b => b.ar)⟩
  · have ee : (if w = 9 then awP K k s else if w = 11 then ahP K k s else if w = 13 then ajP K k s else aoP K w k s) = awP K k s := by
      rw [if_pos c_52]
    subst c_52
    refine tX6_act_55  (r := ?_)
    refine tX6_act_56  (r := ?_)
    refine tX6_act_59 (hd := (by omega)) (ha := (by first | assumption | (repeat (first | assumption | exact At.set_eq2 (by first | omega | (simp only [hset, hnew]; omega) | rfl | decide) | exact At.new_eq2 _ _ (by first | omega | (simp only [hset, hnew]; omega) | rfl | decide) | refine At.set_ne ?_ (by first | omega | (simp only [hset, hnew]; omega) | rfl | decide) | refine At.new_ne ?_)))) (call := s_rtake (d := 1) (by omega) rc (w := 9) (by decide) (by decide)) (k := ?_)
    intro h1 rc1
    obtain ⟨⟨ea1, a1⟩, tx1, bx1, sq1, l11, l21, l31, l41⟩ := id rc1
    have hk431 := kdP_lt rc1
    have t_1 := tx1.1
    have b_1 := bx1.1
    refine tX6_act_62  (r := ?_)
    refine tX6_act_63  (r := ?_)
    refine tX6_act_64 (hd := (by omega)) (ha := (by first | assumption | (repeat (first | assumption | exact At.set_eq2 (by first | omega | (simp only [hset, hnew]; omega) | rfl | decide) | exact At.new_eq2 _ _ (by first | omega | (simp only [hset, hnew]; omega) | rfl | decide) | refine At.set_ne ?_ (by first | omega | (simp only [hset, hnew]; omega) | rfl | decide) | refine At.new_ne ?_)))) (call := s_rsum 6 0 39 _ _ (by omega) (by omega) rc1) (k := ?_)
    intro h2 rc2
    obtain ⟨⟨ea2, a2⟩, tx2, bx2, sq2, l12, l22, l32, l42⟩ := id rc2
    have hk432 := kdP_lt rc2
    have t_2 := tx2.1
    have b_2 := bx2.1
    refine tX6_act_67  (r := ?_)
    refine tX6_act_68  (r := ?_)
    refine tX6_act_71 (hd := (by omega)) (ha := (by first | assumption | (repeat (first | assumption | exact At.set_eq2 (by first | omega | (simp only [hset, hnew]; omega) | rfl | decide) | exact At.new_eq2 _ _ (by first | omega | (simp only [hset, hnew]; omega) | rfl | decide) | refine At.set_ne ?_ (by first | omega | (simp only [hset, hnew]; omega) | rfl | decide) | refine At.new_ne ?_)))) (call := s_rtake (d := 1) (by omega) rc2 (w := 10) (by decide) (by decide)) (k := ?_)
    intro h3 rc3
    obtain ⟨⟨ea3, a3⟩, tx3, bx3, sq3, l13, l23, l33, l43⟩ := id rc3
    have hk433 := kdP_lt rc3
    have t_3 := tx3.1
    have b_3 := bx3.1
    refine tX6_act_74  (r := ?_)
    refine tX6_act_75  (r := ?_)
    refine tX6_act_76  (r := ?_)
    refine tX6_act_77 (hd := (by omega)) (ha := (by first | assumption | (repeat (first | assumption | exact At.set_eq2 (by first | omega | (simp only [hset, hnew]; omega) | rfl | decide) | exact At.new_eq2 _ _ (by first | omega | (simp only [hset, hnew]; omega) | rfl | decide) | refine At.set_ne ?_ (by first | omega | (simp only [hset, hnew]; omega) | rfl | decide) | refine At.new_ne ?_)))) (call := s_rlab (d := 2) (by omega) rc3) (k := ?_)
    rintro x_ h4 ⟨hx_, rc4⟩
    rw [hx_]
    obtain ⟨⟨ea4, a4⟩, tx4, bx4, sq4, l14, l24, l34, l44⟩ := id rc4
    have hk434 := kdP_lt rc4
    have t_4 := tx4.1
    have b_4 := bx4.1
    refine tX6_act_80 (hd := (by omega)) (ha := (by first | assumption | (repeat (first | assumption | exact At.set_eq2 (by first | omega | (simp only [hset, hnew]; omega) | rfl | decide) | exact At.new_eq2 _ _ (by first | omega | (simp only [hset, hnew]; omega) | rfl | decide) | refine At.set_ne ?_ (by first | omega | (simp only [hset, hnew]; omega) | rfl | decide) | refine At.new_ne ?_)))) (call := s_rstepO (d := 2) (by omega) rc4 (w := 9) (by decide)) (k := ?_)
    intro h5 rc5
    obtain ⟨⟨ea5, a5⟩, tx5, bx5, sq5, l15, l25, l35, l45⟩ := id rc5
    have hk435 := kdP_lt rc5
    have t_5 := tx5.1
    have b_5 := bx5.1
    refine tX6_act_83  (r := ?_)
    refine tX6_act_84  (r := ?_)
    refine tX6_act_87 (hd := (by omega)) (ha := (by first | assumption | (repeat (first | assumption | exact At.set_eq2 (by first | omega | (simp only [hset, hnew]; omega) | rfl | decide) | exact At.new_eq2 _ _ (by first | omega | (simp only [hset, hnew]; omega) | rfl | decide) | refine At.set_ne ?_ (by first | omega | (simp only [hset, hnew]; omega) | rfl | decide) | refine At.new_ne ?_)))) (call := s_rtake (d := 1) (by omega) rc5 (w := 39) (by decide) (by decide)) (k := ?_)
    intro h6 rc6
    obtain ⟨⟨ea6, a6⟩, tx6, bx6, sq6, l16, l26, l36, l46⟩ := id rc6
    have hk436 := kdP_lt rc6
    have t_6 := tx6.1
    have b_6 := bx6.1
    refine tX6_act_90 (r := ?_)
    refine tX6_act_185  (hP := ?_)
    rw [ee]
    exact ⟨rfl, rc6.inv (fun b => b.ar)⟩

set_option maxHeartbeats 4000000 in
set_option maxRecDepth 100000 in
theorem s_ract (hd : 40 ≤ d) (rc : Rc h0 h r dr K s) : RQ G mX6_act d 0 [some (.ref r), none] [] h (Rv fun h1 => Rc h0 h1 r dr K (acP K s)) := by
  obtain ⟨⟨ea, a0⟩, tx, bx, sq, l1, l2, l3, l4⟩ := id rc
  have z0 := a0.1
  have b0 := bx.1
  have t0 := tx.1
  have hk43 := kdP_lt rc
  obtain ⟨s0, q1, q2, q3, q4, q5, m1, m2, m3⟩ := id bx.2.2.2.2.2.2.2.2.1
  have z52 := s0.1
  have m3b : nAn (pBk s) ≤ 60 := m3
  have m2b : bRs (pBk s) ≤ 24 := m2
  refine tX6_act_0  (r := ?_)
  refine tX6_act_1 (ha := (by first | assumption | (repeat (first | assumption | exact At.set_eq2 (by first | omega | (simp only [hset, hnew]; omega) | rfl | decide) | exact At.new_eq2 _ _ (by first | omega | (simp only [hset, hnew]; omega) | rfl | decide) | refine At.set_ne ?_ (by first | omega | (simp only [hset, hnew]; omega) | rfl | decide) | refine At.new_ne ?_)))) (hv := rfl) (r := ?_)
  refine tX6_act_4  (r := ?_)
  refine tX6_act_5  (r := ?_)
  refine tX6_act_6 (ha := (by first | assumption | (repeat (first | assumption | exact At.set_eq2 (by first | omega | (simp only [hset, hnew]; omega) | rfl | decide) | exact At.new_eq2 _ _ (by first | omega | (simp only [hset, hnew]; omega) | rfl | decide) | refine At.set_ne ?_ (by first | omega | (simp only [hset, hnew]; omega) | rfl | decide) | refine At.new_ne ?_)))) (hv := rfl) (r := ?_)
  refine tX6_act_9 (ha := (by first | assumption | (repeat (first | assumption | exact At.set_eq2 (by first | omega | (simp only [hset, hnew]; omega) | rfl | decide) | exact At.new_eq2 _ _ (by first | omega | (simp only [hset, hnew]; omega) | rfl | decide) | refine At.set_ne ?_ (by first | omega | (simp only [hset, hnew]; omega) | rfl | decide) | refine At.new_ne ?_)))) (hv := rfl) (r := ?_)
  refine tX6_act_12 (ha := (by first | assumption | (repeat (first | assumption | exact At.set_eq2 (by first | omega | (simp only [hset, hnew]; omega) | rfl | decide) | exact At.new_eq2 _ _ (by first | omega | (simp only [hset, hnew]; omega) | rfl | decide) | refine At.set_ne ?_ (by first | omega | (simp only [hset, hnew]; omega) | rfl | decide) | refine At.new_ne ?_)))) (hv := rfl) (r := ?_)
  refine tX6_act_15  (r := ?_)
  refine tX6_act_17  (kt := fun c_17 => ?_) (kf := fun c_17 => ?_)
  · have lt : nAn (pBk s) < 60 := (nI_ltI (by omega) (by decide)).mp c_17
    have e9 : (if 60 ≤ nAn (pBk s) then rpP 4 s else s) = s := if_neg (by omega)
    refine s_ract25 rc (fun _ => lt) (fun h1 rc1 => ?_)
    have key := s_ract48 (G := G) (d := d) hd (k := nAn (pBk s)) hk43 rc1
    unfold acP abP
    rw [e9]
    exact key
  · have ge : 60 ≤ nAn (pBk s) := Nat.le_of_not_lt (fun z => c_17 ((nI_ltI (by omega) (by decide)).mpr z))
    have e9 : (if 60 ≤ nAn (pBk s) then rpP 4 s else s) = rpP 4 s := if_pos ge
    refine tX6_act_20  (r := ?_)
    refine tX6_act_21  (r := ?_)
    refine tX6_act_22 (hd := (by omega)) (ha := (by first | assumption | (repeat (first | assumption | exact At.set_eq2 (by first | omega | (simp only [hset, hnew]; omega) | rfl | decide) | exact At.new_eq2 _ _ (by first | omega | (simp only [hset, hnew]; omega) | rfl | decide) | refine At.set_ne ?_ (by first | omega | (simp only [hset, hnew]; omega) | rfl | decide) | refine At.new_ne ?_)))) (call := s_rrep (d := 1) rc (n := 4) (by decide)) (k := ?_)
    intro h1 rc1
    refine s_ract25 rc1 (fun z => (rpP_er (by decide) z).elim) (fun h1 rc1 => ?_)
    have key := s_ract48 (G := G) (d := d) hd (k := nAn (pBk s)) hk43 rc1
    unfold acP abP
    rw [e9]
    exact key

set_option maxHeartbeats 4000000 in
set_option maxRecDepth 100000 in
theorem s_rr107 (hd : 40 ≤ d) {x1 : Option Value} (rc : Rc h0 h r dr K s) : RQ G mX6_ruleOfBook d 114 [some (.ref r), x1] [] h (Rv fun h1 => Rc h0 h1 r dr K (upP aeD s)) := by
  obtain ⟨⟨ea, a0⟩, tx, bx, sq, l1, l2, l3, l4⟩ := id rc
  have z0 := a0.1
  have b0 := bx.1
  have t0 := tx.1
  have hk43 := kdP_lt rc
  obtain ⟨s0, q1, q2, q3, q4, q5, m1, m2, m3⟩ := id bx.2.2.2.2.2.2.2.2.1
  have z52 := s0.1
  have m3b : nAn (pBk s) ≤ 60 := m3
  have m2b : bRs (pBk s) ≤ 24 := m2
  refine tX6_ruleOfBook_114  (r := ?_)
  refine tX6_ruleOfBook_115 (ha := (by first | assumption | (repeat (first | assumption | exact At.set_eq2 (by first | omega | (simp only [hset, hnew]; omega) | rfl | decide) | exact At.new_eq2 _ _ (by first | omega | (simp only [hset, hnew]; omega) | rfl | decide) | refine At.set_ne ?_ (by first | omega | (simp only [hset, hnew]; omega) | rfl | decide) | refine At.new_ne ?_)))) (hv := rfl) (r := ?_)
  refine tX6_ruleOfBook_118  (kt := fun c_118 => ?_) (kf := fun c_118 => ?_)
  · have e0 : ¬ pEr s = 0 := fun z => c_118 (by rw [z]; rfl)
    refine tX6_ruleOfBook_131  (hP := ?_)
    exact ⟨rfl, rc.no e0⟩
  · have e0 : pEr s = 0 := by simp (disch := omega) only [ci_eq0] at c_118; omega
    refine tX6_ruleOfBook_121  (r := ?_)
    refine tX6_ruleOfBook_122 (ha := (by first | assumption | (repeat (first | assumption | exact At.set_eq2 (by first | omega | (simp only [hset, hnew]; omega) | rfl | decide) | exact At.new_eq2 _ _ (by first | omega | (simp only [hset, hnew]; omega) | rfl | decide) | refine At.set_ne ?_ (by first | omega | (simp only [hset, hnew]; omega) | rfl | decide) | refine At.new_ne ?_)))) (hv := rfl) (r := ?_)
    refine tX6_ruleOfBook_125 (ha := (by first | assumption | (repeat (first | assumption | exact At.set_eq2 (by first | omega | (simp only [hset, hnew]; omega) | rfl | decide) | exact At.new_eq2 _ _ (by first | omega | (simp only [hset, hnew]; omega) | rfl | decide) | refine At.set_ne ?_ (by first | omega | (simp only [hset, hnew]; omega) | rfl | decide) | refine At.new_ne ?_)))) (hv := rfl) (r := ?_)
    refine tX6_ruleOfBook_128 (hd := (by omega)) (ha := (by first | assumption | (repeat (first | assumption | exact At.set_eq2 (by first | omega | (simp only [hset, hnew]; omega) | rfl | decide) | exact At.new_eq2 _ _ (by first | omega | (simp only [hset, hnew]; omega) | rfl | decide) | refine At.set_ne ?_ (by first | omega | (simp only [hset, hnew]; omega) | rfl | decide) | refine At.new_ne ?_)))) (call := s_xaend (d := 0) bx) (k := ?_)
    intro h1 hq
    obtain ⟨bx1, sm1⟩ := hq
    refine tX6_ruleOfBook_131  (hP := ?_)
    exact ⟨rfl, rc.up e0 bx1 sm1⟩

set_option maxHeartbeats 4000000 in
set_option maxRecDepth 100000 in
theorem s_rr72 (hd : 41 ≤ d) : ∀ (n i : Nat) (h : AH) (s : PST), i + n = 400 → Rc h0 h r dr K s → RQ G mX6_ruleOfBook d 72 [some (.ref r), some (.int (nI i))] [] h (Rv fun h1 => Rc h0 h1 r dr K (upP aeD (tkP K 28 (asP K n s)))) := by
  intro n
  induction n with
  | zero =>
    intro i h s hi rc
    obtain ⟨⟨ea, a0⟩, tx, bx, sq, l1, l2, l3, l4⟩ := id rc
    have z0 := a0.1
    have b0 := bx.1
    have t0 := tx.1
    have hk43 := kdP_lt rc
    refine tX6_ruleOfBook_72  (r := ?_)
    refine tX6_ruleOfBook_73  (r := ?_)
    refine tX6_ruleOfBook_76  (kf := fun c_ => by exfalso; exact c_ ((nI_leI (by decide) (by omega)).mpr (by omega))) (kt := fun _ => ?_)
    refine tX6_ruleOfBook_107  (r := ?_)
    refine tX6_ruleOfBook_108  (r := ?_)
    refine tX6_ruleOfBook_111 (hd := (by omega)) (ha := (by first | assumption | (repeat (first | assumption | exact At.set_eq2 (by first | omega | (simp only [hset, hnew]; omega) | rfl | decide) | exact At.new_eq2 _ _ (by first | omega | (simp only [hset, hnew]; omega) | rfl | decide) | refine At.set_ne ?_ (by first | omega | (simp only [hset, hnew]; omega) | rfl | decide) | refine At.new_ne ?_)))) (call := s_rtake (d := 1) (by omega) rc (w := 28) (by decide) (by decide)) (k := ?_)
    intro h1 rc1
    obtain ⟨⟨ea1, a1⟩, tx1, bx1, sq1, l11, l21, l31, l41⟩ := id rc1
    have hk431 := kdP_lt rc1
    have t_1 := tx1.1
    have b_1 := bx1.1
    exact s_rr107 (by omega) rc1
  | succ n ih =>
    intro i h s hi rc
    obtain ⟨⟨ea, a0⟩, tx, bx, sq, l1, l2, l3, l4⟩ := id rc
    have z0 := a0.1
    have b0 := bx.1
    have t0 := tx.1
    have hk43 := kdP_lt rc
    refine tX6_ruleOfBook_72  (r := ?_)
    refine tX6_ruleOfBook_73  (r := ?_)
    refine tX6_ruleOfBook_76  (kt := fun c_ => by exfalso; exact absurd ((nI_leI (by decide) (by omega)).mp c_) (by omega)) (kf := fun _ => ?_)
    refine tX6_ruleOfBook_79  (r := ?_)
    refine tX6_ruleOfBook_80 (ha := (by first | assumption | (repeat (first | assumption | exact At.set_eq2 (by first | omega | (simp only [hset, hnew]; omega) | rfl | decide) | exact At.new_eq2 _ _ (by first | omega | (simp only [hset, hnew]; omega) | rfl | decide) | refine At.set_ne ?_ (by first | omega | (simp only [hset, hnew]; omega) | rfl | decide) | refine At.new_ne ?_)))) (hv := rfl) (r := ?_)
    refine tX6_ruleOfBook_83  (r := ?_)
    refine tX6_ruleOfBook_86 (hi := hk43) (hj := (by omega)) (kt := fun c_86 => ?_) (kf := fun c_86 => ?_)
    · have e : asP K (n + 1) s = s := if_neg (fun z => z.1 c_86)
      rw [e]
      refine tX6_ruleOfBook_107  (r := ?_)
      refine tX6_ruleOfBook_108  (r := ?_)
      refine tX6_ruleOfBook_111 (hd := (by omega)) (ha := (by first | assumption | (repeat (first | assumption | exact At.set_eq2 (by first | omega | (simp only [hset, hnew]; omega) | rfl | decide) | exact At.new_eq2 _ _ (by first | omega | (simp only [hset, hnew]; omega) | rfl | decide) | refine At.set_ne ?_ (by first | omega | (simp only [hset, hnew]; omega) | rfl | decide) | refine At.new_ne ?_)))) (call := s_rtake (d := 1) (by omega) rc (w := 28) (by decide) (by decide)) (k := ?_)
      intro h1 rc1
      obtain ⟨⟨ea1, a1⟩, tx1, bx1, sq1, l11, l21, l31, l41⟩ := id rc1
      have hk431 := kdP_lt rc1
      have t_1 := tx1.1
      have b_1 := bx1.1
      exact s_rr107 (by omega) rc1
    · refine tX6_ruleOfBook_89  (r := ?_)
      refine tX6_ruleOfBook_90 (ha := (by first | assumption | (repeat (first | assumption | exact At.set_eq2 (by first | omega | (simp only [hset, hnew]; omega) | rfl | decide) | exact At.new_eq2 _ _ (by first | omega | (simp only [hset, hnew]; omega) | rfl | decide) | refine At.set_ne ?_ (by first | omega | (simp only [hset, hnew]; omega) | rfl | decide) | refine At.new_ne ?_)))) (hv := rfl) (r := ?_)
      refine tX6_ruleOfBook_93  (r := ?_)
      refine tX6_ruleOfBook_94  (kt := fun c_94 => ?_) (kf := fun c_94 => ?_)
      · have e : asP K (n + 1) s = s := if_neg (fun z => z.2 (by simp (disch := omega) only [show (1 : Int32) = nI 1 from rfl, ci_eq] at c_94; omega))
        rw [e]
        refine tX6_ruleOfBook_107  (r := ?_)
        refine tX6_ruleOfBook_108  (r := ?_)
        refine tX6_ruleOfBook_111 (hd := (by omega)) (ha := (by first | assumption | (repeat (first | assumption | exact At.set_eq2 (by first | omega | (simp only [hset, hnew]; omega) | rfl | decide) | exact At.new_eq2 _ _ (by first | omega | (simp only [hset, hnew]; omega) | rfl | decide) | refine At.set_ne ?_ (by first | omega | (simp only [hset, hnew]; omega) | rfl | decide) | refine At.new_ne ?_)))) (call := s_rtake (d := 1) (by omega) rc (w := 28) (by decide) (by decide)) (k := ?_)
        intro h1 rc1
        obtain ⟨⟨ea1, a1⟩, tx1, bx1, sq1, l11, l21, l31, l41⟩ := id rc1
        have hk431 := kdP_lt rc1
        have t_1 := tx1.1
        have b_1 := bx1.1
        exact s_rr107 (by omega) rc1
      · have e : asP K (n + 1) s = asP K n (acP K s) := if_pos ⟨c_86, fun z => c_94 (by rw [z])⟩
        rw [e]
        refine tX6_ruleOfBook_97  (r := ?_)
        refine tX6_ruleOfBook_98 (hd := (by omega)) (ha := (by first | assumption | (repeat (first | assumption | exact At.set_eq2 (by first | omega | (simp only [hset, hnew]; omega) | rfl | decide) | exact At.new_eq2 _ _ (by first | omega | (simp only [hset, hnew]; omega) | rfl | decide) | refine At.set_ne ?_ (by first | omega | (simp only [hset, hnew]; omega) | rfl | decide) | refine At.new_ne ?_)))) (call := s_ract (d := 40) (by omega) rc) (k := ?_)
        intro h1 rc1
        obtain ⟨⟨ea1, a1⟩, tx1, bx1, sq1, l11, l21, l31, l41⟩ := id rc1
        have hk431 := kdP_lt rc1
        have t_1 := tx1.1
        have b_1 := bx1.1
        refine tX6_ruleOfBook_101  (r := ?_)
        rw [nI_add]
        refine tX6_ruleOfBook_104 (r := ?_)
        exact ih (i + 1) _ _ (by omega) rc1

set_option maxHeartbeats 4000000 in
set_option maxRecDepth 100000 in
theorem s_rr53 (hd : 41 ≤ d) (rc : Rc h0 h r dr K s) : RQ G mX6_ruleOfBook d 53 [some (.ref r), none] [] h (Rv fun h1 => Rc h0 h1 r dr K (raP K (upP teD s))) := by
  obtain ⟨⟨ea, a0⟩, tx, bx, sq, l1, l2, l3, l4⟩ := id rc
  have z0 := a0.1
  have b0 := bx.1
  have t0 := tx.1
  have hk43 := kdP_lt rc
  obtain ⟨s0, q1, q2, q3, q4, q5, m1, m2, m3⟩ := id bx.2.2.2.2.2.2.2.2.1
  have z52 := s0.1
  have m3b : nAn (pBk s) ≤ 60 := m3
  have m2b : bRs (pBk s) ≤ 24 := m2
  refine tX6_ruleOfBook_53  (r := ?_)
  refine tX6_ruleOfBook_54 (ha := (by first | assumption | (repeat (first | assumption | exact At.set_eq2 (by first | omega | (simp only [hset, hnew]; omega) | rfl | decide) | exact At.new_eq2 _ _ (by first | omega | (simp only [hset, hnew]; omega) | rfl | decide) | refine At.set_ne ?_ (by first | omega | (simp only [hset, hnew]; omega) | rfl | decide) | refine At.new_ne ?_)))) (hv := rfl) (r := ?_)
  refine tX6_ruleOfBook_57  (kt := fun c_57 => ?_) (kf := fun c_57 => ?_)
  · have e0 : ¬ pEr s = 0 := fun z => c_57 (by rw [z]; rfl)
    refine tX6_ruleOfBook_70  (r := ?_)
    refine tX6_ruleOfBook_71  (r := ?_)
    exact s_rr72 (by omega) 400 0 _ _ (by omega) (rc.no e0)
  · have e0 : pEr s = 0 := by simp (disch := omega) only [ci_eq0] at c_57; omega
    refine tX6_ruleOfBook_60  (r := ?_)
    refine tX6_ruleOfBook_61 (ha := (by first | assumption | (repeat (first | assumption | exact At.set_eq2 (by first | omega | (simp only [hset, hnew]; omega) | rfl | decide) | exact At.new_eq2 _ _ (by first | omega | (simp only [hset, hnew]; omega) | rfl | decide) | refine At.set_ne ?_ (by first | omega | (simp only [hset, hnew]; omega) | rfl | decide) | refine At.new_ne ?_)))) (hv := rfl) (r := ?_)
    refine tX6_ruleOfBook_64 (ha := (by first | assumption | (repeat (first | assumption | exact At.set_eq2 (by first | omega | (simp only [hset, hnew]; omega) | rfl | decide) | exact At.new_eq2 _ _ (by first | omega | (simp only [hset, hnew]; omega) | rfl | decide) | refine At.set_ne ?_ (by first | omega | (simp only [hset, hnew]; omega) | rfl | decide) | refine At.new_ne ?_)))) (hv := rfl) (r := ?_)
    refine tX6_ruleOfBook_67 (hd := (by omega)) (ha := (by first | assumption | (repeat (first | assumption | exact At.set_eq2 (by first | omega | (simp only [hset, hnew]; omega) | rfl | decide) | exact At.new_eq2 _ _ (by first | omega | (simp only [hset, hnew]; omega) | rfl | decide) | refine At.set_ne ?_ (by first | omega | (simp only [hset, hnew]; omega) | rfl | decide) | refine At.new_ne ?_)))) (call := s_xtend (d := 0) bx) (k := ?_)
    intro h1 hq
    obtain ⟨bx1, sm1⟩ := hq
    refine tX6_ruleOfBook_70  (r := ?_)
    refine tX6_ruleOfBook_71  (r := ?_)
    exact s_rr72 (by omega) 400 0 _ _ (by omega) (rc.up e0 bx1 sm1)

set_option maxHeartbeats 4000000 in
set_option maxRecDepth 100000 in
theorem s_rr41 (hd : 42 ≤ d) (rc : Rc h0 h r dr K s) : RQ G mX6_ruleOfBook d 41 [some (.ref r), none] [] h (Rv fun h1 => Rc h0 h1 r dr K (raP K (rtP K s))) := by
  obtain ⟨⟨ea, a0⟩, tx, bx, sq, l1, l2, l3, l4⟩ := id rc
  have z0 := a0.1
  have b0 := bx.1
  have t0 := tx.1
  have hk43 := kdP_lt rc
  refine tX6_ruleOfBook_41  (r := ?_)
  refine tX6_ruleOfBook_42  (r := ?_)
  refine tX6_ruleOfBook_43 (hd := (by omega)) (ha := (by first | assumption | (repeat (first | assumption | exact At.set_eq2 (by first | omega | (simp only [hset, hnew]; omega) | rfl | decide) | exact At.new_eq2 _ _ (by first | omega | (simp only [hset, hnew]; omega) | rfl | decide) | refine At.set_ne ?_ (by first | omega | (simp only [hset, hnew]; omega) | rfl | decide) | refine At.new_ne ?_)))) (call := s_rte 6 0 41 _ _ (by omega) (by omega) rc) (k := ?_)
  intro h1 rc1
  obtain ⟨⟨ea1, a1⟩, tx1, bx1, sq1, l11, l21, l31, l41⟩ := id rc1
  have hk431 := kdP_lt rc1
  have t_1 := tx1.1
  have b_1 := bx1.1
  refine tX6_ruleOfBook_46  (r := ?_)
  refine tX6_ruleOfBook_47  (r := ?_)
  refine tX6_ruleOfBook_50 (hd := (by omega)) (ha := (by first | assumption | (repeat (first | assumption | exact At.set_eq2 (by first | omega | (simp only [hset, hnew]; omega) | rfl | decide) | exact At.new_eq2 _ _ (by first | omega | (simp only [hset, hnew]; omega) | rfl | decide) | refine At.set_ne ?_ (by first | omega | (simp only [hset, hnew]; omega) | rfl | decide) | refine At.new_ne ?_)))) (call := s_rtake (d := 1) (by omega) rc1 (w := 27) (by decide) (by decide)) (k := ?_)
  intro h2 rc2
  obtain ⟨⟨ea2, a2⟩, tx2, bx2, sq2, l12, l22, l32, l42⟩ := id rc2
  have hk432 := kdP_lt rc2
  have t_2 := tx2.1
  have b_2 := bx2.1
  exact s_rr53 (by omega) rc2

set_option maxHeartbeats 4000000 in
set_option maxRecDepth 100000 in
theorem s_rr20 (hd : 42 ≤ d) (rc : Rc h0 h r dr K s) : RQ G mX6_ruleOfBook d 27 [some (.ref r), none] [] h (Rv fun h1 => Rc h0 h1 r dr K (raP K (rtP K (upP ruD s)))) := by
  obtain ⟨⟨ea, a0⟩, tx, bx, sq, l1, l2, l3, l4⟩ := id rc
  have z0 := a0.1
  have b0 := bx.1
  have t0 := tx.1
  have hk43 := kdP_lt rc
  refine tX6_ruleOfBook_27  (r := ?_)
  refine tX6_ruleOfBook_28 (ha := (by first | assumption | (repeat (first | assumption | exact At.set_eq2 (by first | omega | (simp only [hset, hnew]; omega) | rfl | decide) | exact At.new_eq2 _ _ (by first | omega | (simp only [hset, hnew]; omega) | rfl | decide) | refine At.set_ne ?_ (by first | omega | (simp only [hset, hnew]; omega) | rfl | decide) | refine At.new_ne ?_)))) (hv := rfl) (r := ?_)
  refine tX6_ruleOfBook_31  (kt := fun c_31 => ?_) (kf := fun c_31 => ?_)
  · have e0 : ¬ pEr s = 0 := fun z => c_31 (by rw [z]; rfl)
    exact s_rr41 hd (rc.no e0)
  · have e0 : pEr s = 0 := by simp (disch := omega) only [ci_eq0] at c_31; omega
    refine tX6_ruleOfBook_34  (r := ?_)
    refine tX6_ruleOfBook_35 (ha := (by first | assumption | (repeat (first | assumption | exact At.set_eq2 (by first | omega | (simp only [hset, hnew]; omega) | rfl | decide) | exact At.new_eq2 _ _ (by first | omega | (simp only [hset, hnew]; omega) | rfl | decide) | refine At.set_ne ?_ (by first | omega | (simp only [hset, hnew]; omega) | rfl | decide) | refine At.new_ne ?_)))) (hv := rfl) (r := ?_)
    refine tX6_ruleOfBook_38 (hd := (by omega)) (ha := (by first | assumption | (repeat (first | assumption | exact At.set_eq2 (by first | omega | (simp only [hset, hnew]; omega) | rfl | decide) | exact At.new_eq2 _ _ (by first | omega | (simp only [hset, hnew]; omega) | rfl | decide) | refine At.set_ne ?_ (by first | omega | (simp only [hset, hnew]; omega) | rfl | decide) | refine At.new_ne ?_)))) (call := s_xrule (d := 1) (by decide) bx) (k := ?_)
    intro h1 hq
    obtain ⟨bx1, sm1⟩ := hq
    exact s_rr41 hd (rc.up e0 bx1 sm1)

set_option maxHeartbeats 4000000 in
set_option maxRecDepth 100000 in
theorem s_rrule (hd : 42 ≤ d) (rc : Rc h0 h r dr K s) : RQ G mX6_ruleOfBook d 0 [some (.ref r), none] [] h (Rv fun h1 => Rc h0 h1 r dr K (rlP K s)) := by
  obtain ⟨⟨ea, a0⟩, tx, bx, sq, l1, l2, l3, l4⟩ := id rc
  have z0 := a0.1
  have b0 := bx.1
  have t0 := tx.1
  have hk43 := kdP_lt rc
  obtain ⟨s0, q1, q2, q3, q4, q5, m1, m2, m3⟩ := id bx.2.2.2.2.2.2.2.2.1
  have z52 := s0.1
  have m3b : nAn (pBk s) ≤ 60 := m3
  have m2b : bRs (pBk s) ≤ 24 := m2
  refine tX6_ruleOfBook_0  (r := ?_)
  refine tX6_ruleOfBook_1 (ha := (by first | assumption | (repeat (first | assumption | exact At.set_eq2 (by first | omega | (simp only [hset, hnew]; omega) | rfl | decide) | exact At.new_eq2 _ _ (by first | omega | (simp only [hset, hnew]; omega) | rfl | decide) | refine At.set_ne ?_ (by first | omega | (simp only [hset, hnew]; omega) | rfl | decide) | refine At.new_ne ?_)))) (hv := rfl) (r := ?_)
  refine tX6_ruleOfBook_4 (ha := (by first | assumption | (repeat (first | assumption | exact At.set_eq2 (by first | omega | (simp only [hset, hnew]; omega) | rfl | decide) | exact At.new_eq2 _ _ (by first | omega | (simp only [hset, hnew]; omega) | rfl | decide) | refine At.set_ne ?_ (by first | omega | (simp only [hset, hnew]; omega) | rfl | decide) | refine At.new_ne ?_)))) (hv := rfl) (r := ?_)
  refine tX6_ruleOfBook_7 (ha := (by first | assumption | (repeat (first | assumption | exact At.set_eq2 (by first | omega | (simp only [hset, hnew]; omega) | rfl | decide) | exact At.new_eq2 _ _ (by first | omega | (simp only [hset, hnew]; omega) | rfl | decide) | refine At.set_ne ?_ (by first | omega | (simp only [hset, hnew]; omega) | rfl | decide) | refine At.new_ne ?_)))) (hv := rfl) (r := ?_)
  refine tX6_ruleOfBook_10  (r := ?_)
  refine tX6_ruleOfBook_12  (kt := fun c_12 => ?_) (kf := fun c_12 => ?_)
  · have lt : bRs (pBk s) < 24 := (nI_ltI (by omega) (by decide)).mp c_12
    have e9 : (if 24 ≤ bRs (pBk s) then rpP 4 s else s) = s := if_neg (by omega)
    refine tX6_ruleOfBook_20  (r := ?_)
    refine tX6_ruleOfBook_21  (r := ?_)
    refine tX6_ruleOfBook_24 (hd := (by omega)) (ha := (by first | assumption | (repeat (first | assumption | exact At.set_eq2 (by first | omega | (simp only [hset, hnew]; omega) | rfl | decide) | exact At.new_eq2 _ _ (by first | omega | (simp only [hset, hnew]; omega) | rfl | decide) | refine At.set_ne ?_ (by first | omega | (simp only [hset, hnew]; omega) | rfl | decide) | refine At.new_ne ?_)))) (call := s_rtake (d := 1) (by omega) rc (w := 8) (by decide) (by decide)) (k := ?_)
    intro h1 rc1
    obtain ⟨⟨ea1, a1⟩, tx1, bx1, sq1, l11, l21, l31, l41⟩ := id rc1
    have hk431 := kdP_lt rc1
    have t_1 := tx1.1
    have b_1 := bx1.1
    refine (s_rr20 hd rc1).imp (fun o9 h9 q9 => ⟨q9.1, ?_⟩)
    have q9 := q9
    have e8 : upP ruD (tkP K 8 (s)) = rbP K s := by
      unfold rbP
      rw [e9]
    rw [e8] at q9
    exact q9.2.inv (fun b => b.rr)
  · have ge : 24 ≤ bRs (pBk s) := Nat.le_of_not_lt (fun z => c_12 ((nI_ltI (by omega) (by decide)).mpr z))
    have e9 : (if 24 ≤ bRs (pBk s) then rpP 4 s else s) = rpP 4 s := if_pos ge
    refine tX6_ruleOfBook_15  (r := ?_)
    refine tX6_ruleOfBook_16  (r := ?_)
    refine tX6_ruleOfBook_17 (hd := (by omega)) (ha := (by first | assumption | (repeat (first | assumption | exact At.set_eq2 (by first | omega | (simp only [hset, hnew]; omega) | rfl | decide) | exact At.new_eq2 _ _ (by first | omega | (simp only [hset, hnew]; omega) | rfl | decide) | refine At.set_ne ?_ (by first | omega | (simp only [hset, hnew]; omega) | rfl | decide) | refine At.new_ne ?_)))) (call := s_rrep (d := 1) rc (n := 4) (by decide)) (k := ?_)
    intro h1 rc1
    obtain ⟨⟨ea1, a1⟩, tx1, bx1, sq1, l11, l21, l31, l41⟩ := id rc1
    have hk431 := kdP_lt rc1
    have t_1 := tx1.1
    have b_1 := bx1.1
    refine tX6_ruleOfBook_20  (r := ?_)
    refine tX6_ruleOfBook_21  (r := ?_)
    refine tX6_ruleOfBook_24 (hd := (by omega)) (ha := (by first | assumption | (repeat (first | assumption | exact At.set_eq2 (by first | omega | (simp only [hset, hnew]; omega) | rfl | decide) | exact At.new_eq2 _ _ (by first | omega | (simp only [hset, hnew]; omega) | rfl | decide) | refine At.set_ne ?_ (by first | omega | (simp only [hset, hnew]; omega) | rfl | decide) | refine At.new_ne ?_)))) (call := s_rtake (d := 1) (by omega) rc1 (w := 8) (by decide) (by decide)) (k := ?_)
    intro h2 rc2
    obtain ⟨⟨ea2, a2⟩, tx2, bx2, sq2, l12, l22, l32, l42⟩ := id rc2
    have hk432 := kdP_lt rc2
    have t_2 := tx2.1
    have b_2 := bx2.1
    refine (s_rr20 hd rc2).imp (fun o9 h9 q9 => ⟨q9.1, ?_⟩)
    have q9 := q9
    have e8 : upP ruD (tkP K 8 (rpP 4 s)) = rbP K s := by
      unfold rbP
      rw [e9]
    rw [e8] at q9
    exact q9.2.inv (fun b => b.rr)

end RED
