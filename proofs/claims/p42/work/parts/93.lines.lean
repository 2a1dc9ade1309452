/-! the class reads lines -/
section REL
variable {G : GT} {d : Nat} {h h0 : AH} {r dr : Nat} {K : TKS} {s : PST} {P : OC → AH → Prop}

set_option maxHeartbeats 4000000 in
set_option maxRecDepth 100000 in
theorem s_rl25 (hd : 4 ≤ d) {f : Bool} (rc : Rc h0 h r dr K s) : RQ G mX6_labelLine d 25 [some (.ref r)] [.int (if f = true then nI 1 else nI 0), .ref r] h (Rv fun h1 => Rc h0 h1 r dr K (tkP K 39 (upP (laD (vaP K (nwP K f s))) (nwP K f s)))) := by
  obtain ⟨⟨ea, a0⟩, tx, bx, sq, l1, l2, l3, l4⟩ := id rc
  have z0 := a0.1
  have b0 := bx.1
  have t0 := tx.1
  have hk43 := kdP_lt rc
  have hvv := tx.vv (pPo (nwP K f s))
  refine tX6_labelLine_25 (hd := (by omega)) (ha := (by first | assumption | (repeat (first | assumption | exact At.set_eq2 (by first | omega | (simp only [hset, hnew]; omega) | rfl | decide) | exact At.new_eq2 _ _ (by first | omega | (simp only [hset, hnew]; omega) | rfl | decide) | refine At.set_ne ?_ (by first | omega | (simp only [hset, hnew]; omega) | rfl | decide) | refine At.new_ne ?_)))) (call := s_rnew (d := 2) (by omega) rc (f := f)) (k := ?_)
  intro h1 rc1
  obtain ⟨⟨ea1, a1⟩, tx1, bx1, sq1, l11, l21, l31, l41⟩ := id rc1
  have hk431 := kdP_lt rc1
  have t_1 := tx1.1
  have b_1 := bx1.1
  refine tX6_labelLine_28  (r := ?_)
  refine tX6_labelLine_29 (ha := (by first | assumption | (repeat (first | assumption | exact At.set_eq2 (by first | omega | (simp only [hset, hnew]; omega) | rfl | decide) | exact At.new_eq2 _ _ (by first | omega | (simp only [hset, hnew]; omega) | rfl | decide) | refine At.set_ne ?_ (by first | omega | (simp only [hset, hnew]; omega) | rfl | decide) | refine At.new_ne ?_)))) (hv := rfl) (r := ?_)
  refine tX6_labelLine_32  (kt := fun c_32 => ?_) (kf := fun c_32 => ?_)
  · have e0 : ¬ pEr (nwP K f s) = 0 := fun z => c_32 (by rw [z]; rfl)
    refine tX6_labelLine_53  (r := ?_)
    refine tX6_labelLine_54  (r := ?_)
    refine tX6_labelLine_57 (hd := (by omega)) (ha := (by first | assumption | (repeat (first | assumption | exact At.set_eq2 (by first | omega | (simp only [hset, hnew]; omega) | rfl | decide) | exact At.new_eq2 _ _ (by first | omega | (simp only [hset, hnew]; omega) | rfl | decide) | refine At.set_ne ?_ (by first | omega | (simp only [hset, hnew]; omega) | rfl | decide) | refine At.new_ne ?_)))) (call := s_rtake (d := 1) (by omega) (rc1.no (f := laD (vaP K (nwP K f s))) e0) (w := 39) (by decide) (by decide)) (k := ?_)
    intro h2 rc2
    obtain ⟨⟨ea2, a2⟩, tx2, bx2, sq2, l12, l22, l32, l42⟩ := id rc2
    have hk432 := kdP_lt rc2
    have t_2 := tx2.1
    have b_2 := bx2.1
    refine tX6_labelLine_60  (hP := ?_)
    exact ⟨rfl, rc2⟩
  · have e0 : pEr (nwP K f s) = 0 := by simp (disch := omega) only [ci_eq0] at c_32; omega
    refine tX6_labelLine_35  (r := ?_)
    refine tX6_labelLine_36 (ha := (by first | assumption | (repeat (first | assumption | exact At.set_eq2 (by first | omega | (simp only [hset, hnew]; omega) | rfl | decide) | exact At.new_eq2 _ _ (by first | omega | (simp only [hset, hnew]; omega) | rfl | decide) | refine At.set_ne ?_ (by first | omega | (simp only [hset, hnew]; omega) | rfl | decide) | refine At.new_ne ?_)))) (hv := rfl) (r := ?_)
    refine tX6_labelLine_39  (r := ?_)
    refine tX6_labelLine_40 (ha := (by first | assumption | (repeat (first | assumption | exact At.set_eq2 (by first | omega | (simp only [hset, hnew]; omega) | rfl | decide) | exact At.new_eq2 _ _ (by first | omega | (simp only [hset, hnew]; omega) | rfl | decide) | refine At.set_ne ?_ (by first | omega | (simp only [hset, hnew]; omega) | rfl | decide) | refine At.new_ne ?_)))) (hv := rfl) (r := ?_)
    refine tX6_labelLine_43  (r := ?_)
    refine tX6_labelLine_44 (ha := (by first | assumption | (repeat (first | assumption | exact At.set_eq2 (by first | omega | (simp only [hset, hnew]; omega) | rfl | decide) | exact At.new_eq2 _ _ (by first | omega | (simp only [hset, hnew]; omega) | rfl | decide) | refine At.set_ne ?_ (by first | omega | (simp only [hset, hnew]; omega) | rfl | decide) | refine At.new_ne ?_)))) (hv := rfl) (r := ?_)
    refine tX6_labelLine_47 (hd := (by omega)) (ha := (by first | assumption | (repeat (first | assumption | exact At.set_eq2 (by first | omega | (simp only [hset, hnew]; omega) | rfl | decide) | exact At.new_eq2 _ _ (by first | omega | (simp only [hset, hnew]; omega) | rfl | decide) | refine At.set_ne ?_ (by first | omega | (simp only [hset, hnew]; omega) | rfl | decide) | refine At.new_ne ?_)))) (call := s_tkValue (d := 0) tx1 (by omega)) (k := ?_)
    rintro x_ h_ ⟨hx_, e_⟩
    rw [e_, hx_]
    refine tX6_labelLine_50 (hd := (by omega)) (ha := (by first | assumption | (repeat (first | assumption | exact At.set_eq2 (by first | omega | (simp only [hset, hnew]; omega) | rfl | decide) | exact At.new_eq2 _ _ (by first | omega | (simp only [hset, hnew]; omega) | rfl | decide) | refine At.set_ne ?_ (by first | omega | (simp only [hset, hnew]; omega) | rfl | decide) | refine At.new_ne ?_)))) (call := s_addLabel (d := 0) bx1 hvv) (k := ?_)
    intro h2 hq
    obtain ⟨bx2_, sm2⟩ := hq
    have rc2 := rc1.up (f := laD (vaP K (nwP K f s))) e0 bx2_ sm2
    obtain ⟨⟨ea2, a2⟩, tx2, bx2, sq2, l12, l22, l32, l42⟩ := id rc2
    have hk432 := kdP_lt rc2
    have t_2 := tx2.1
    have b_2 := bx2.1
    refine tX6_labelLine_53  (r := ?_)
    refine tX6_labelLine_54  (r := ?_)
    refine tX6_labelLine_57 (hd := (by omega)) (ha := (by first | assumption | (repeat (first | assumption | exact At.set_eq2 (by first | omega | (simp only [hset, hnew]; omega) | rfl | decide) | exact At.new_eq2 _ _ (by first | omega | (simp only [hset, hnew]; omega) | rfl | decide) | refine At.set_ne ?_ (by first | omega | (simp only [hset, hnew]; omega) | rfl | decide) | refine At.new_ne ?_)))) (call := s_rtake (d := 1) (by omega) rc2 (w := 39) (by decide) (by decide)) (k := ?_)
    intro h3 rc3
    obtain ⟨⟨ea3, a3⟩, tx3, bx3, sq3, l13, l23, l33, l43⟩ := id rc3
    have hk433 := kdP_lt rc3
    have t_3 := tx3.1
    have b_3 := bx3.1
    refine tX6_labelLine_60  (hP := ?_)
    exact ⟨rfl, rc3⟩

set_option maxHeartbeats 4000000 in
set_option maxRecDepth 100000 in
theorem s_rlabel (hd : 5 ≤ d) (rc : Rc h0 h r dr K s) : RQ G mX6_labelLine d 0 [some (.ref r)] [] h (Rv fun h1 => Rc h0 h1 r dr K (llP K s)) := by
  obtain ⟨⟨ea, a0⟩, tx, bx, sq, l1, l2, l3, l4⟩ := id rc
  have z0 := a0.1
  have b0 := bx.1
  have t0 := tx.1
  have hk43 := kdP_lt rc
  refine tX6_labelLine_0  (r := ?_)
  refine tX6_labelLine_1  (r := ?_)
  refine tX6_labelLine_4 (hd := (by omega)) (ha := (by first | assumption | (repeat (first | assumption | exact At.set_eq2 (by first | omega | (simp only [hset, hnew]; omega) | rfl | decide) | exact At.new_eq2 _ _ (by first | omega | (simp only [hset, hnew]; omega) | rfl | decide) | refine At.set_ne ?_ (by first | omega | (simp only [hset, hnew]; omega) | rfl | decide) | refine At.new_ne ?_)))) (call := s_rtake (d := 1) (by omega) rc (w := 0) (by decide) (by decide)) (k := ?_)
  intro h1 rc1
  obtain ⟨⟨ea1, a1⟩, tx1, bx1, sq1, l11, l21, l31, l41⟩ := id rc1
  have hk431 := kdP_lt rc1
  have t_1 := tx1.1
  have b_1 := bx1.1
  have hbl : bLa (pBk (tkP K 0 s)) ≤ 6 := bx1.2.2.2.2.2.2.2.2.2.1
  have hbl2 : bLa (pDf (tkP K 0 s)).1 ≤ 6 := bx1.2.2.2.2.2.2.2.2.2.1
  refine tX6_labelLine_7  (r := ?_)
  refine tX6_labelLine_8  (r := ?_)
  refine tX6_labelLine_9 (ha := (by first | assumption | (repeat (first | assumption | exact At.set_eq2 (by first | omega | (simp only [hset, hnew]; omega) | rfl | decide) | exact At.new_eq2 _ _ (by first | omega | (simp only [hset, hnew]; omega) | rfl | decide) | refine At.set_ne ?_ (by first | omega | (simp only [hset, hnew]; omega) | rfl | decide) | refine At.new_ne ?_)))) (hv := rfl) (r := ?_)
  refine tX6_labelLine_12 (ha := (by first | assumption | (repeat (first | assumption | exact At.set_eq2 (by first | omega | (simp only [hset, hnew]; omega) | rfl | decide) | exact At.new_eq2 _ _ (by first | omega | (simp only [hset, hnew]; omega) | rfl | decide) | refine At.set_ne ?_ (by first | omega | (simp only [hset, hnew]; omega) | rfl | decide) | refine At.new_ne ?_)))) (hv := rfl) (r := ?_)
  refine tX6_labelLine_15  (r := ?_)
  refine tX6_labelLine_17  (kt := fun c_17 => ?_) (kf := fun c_17 => ?_)
  · have f0 : decide (6 ≤ bLa (pBk (tkP K 0 s))) = false := decide_eq_false (Nat.not_le.mpr ((nI_ltI (by omega) (by decide)).mp c_17))
    refine tX6_labelLine_24  (r := ?_)
    have key := s_rl25 (G := G) (d := d) (by omega) (f := decide (6 ≤ bLa (pBk (tkP K 0 s)))) rc1
    rw [show (if decide (6 ≤ bLa (pBk (tkP K 0 s))) = true then nI 1 else nI 0) = nI 0 from if_neg (by rw [f0]; decide)] at key
    exact key
  · have f0 : decide (6 ≤ bLa (pBk (tkP K 0 s))) = true := decide_eq_true (Nat.le_of_not_lt (fun z => c_17 ((nI_ltI (by omega) (by decide)).mpr z)))
    refine tX6_labelLine_20  (r := ?_)
    refine tX6_labelLine_21 (r := ?_)
    have key := s_rl25 (G := G) (d := d) (by omega) (f := decide (6 ≤ bLa (pBk (tkP K 0 s)))) rc1
    rw [show (if decide (6 ≤ bLa (pBk (tkP K 0 s))) = true then nI 1 else nI 0) = nI 1 from if_pos f0] at key
    exact key

set_option maxHeartbeats 4000000 in
set_option maxRecDepth 100000 in
theorem s_rj170 (hd : 5 ≤ d) {v w : Nat} : ∀ (n l : Nat) (h : AH) (s : PST), l + n = 400 → Rc h0 h r dr K s → RQ G mX6_jarLine d 170 [some (.ref r), some (.int (nI v)), some (.ref (OLD + w)), some (.int (nI l))] [] h (Rv fun h1 => Rc h0 h1 r dr K (hsP K n l s)) := by
  intro n
  induction n with
  | zero =>
    intro l h s hi rc
    refine tX6_jarLine_170  (r := ?_)
    refine tX6_jarLine_171  (r := ?_)
    refine tX6_jarLine_174  (kf := fun c_ => by exfalso; exact c_ ((nI_leI (by decide) (by omega)).mpr (by omega))) (kt := fun _ => ?_)
    refine tX6_jarLine_205  (hP := ?_)
    exact ⟨rfl, rc⟩
  | succ n ih =>
    intro l h s hi rc
    obtain ⟨⟨ea, a0⟩, tx, bx, sq, l1, l2, l3, l4⟩ := id rc
    have z0 := a0.1
    have b0 := bx.1
    have t0 := tx.1
    have hk43 := kdP_lt rc
    refine tX6_jarLine_170  (r := ?_)
    refine tX6_jarLine_171  (r := ?_)
    refine tX6_jarLine_174  (kt := fun c_ => by exfalso; exact absurd ((nI_leI (by decide) (by omega)).mp c_) (by omega)) (kf := fun _ => ?_)
    refine tX6_jarLine_177  (r := ?_)
    refine tX6_jarLine_178 (ha := (by first | assumption | (repeat (first | assumption | exact At.set_eq2 (by first | omega | (simp only [hset, hnew]; omega) | rfl | decide) | exact At.new_eq2 _ _ (by first | omega | (simp only [hset, hnew]; omega) | rfl | decide) | refine At.set_ne ?_ (by first | omega | (simp only [hset, hnew]; omega) | rfl | decide) | refine At.new_ne ?_)))) (hv := rfl) (r := ?_)
    refine tX6_jarLine_181  (r := ?_)
    refine tX6_jarLine_184 (hi := hk43) (hj := (by omega)) (kt := fun c_184 => ?_) (kf := fun c_184 => ?_)
    · have e : hsP K (n + 1) l s = s := if_neg c_184
      rw [e]
      refine tX6_jarLine_205  (hP := ?_)
      exact ⟨rfl, rc⟩
    · have e : hsP K (n + 1) l s = hsP K n (l + 1) (hoP K l (tkP K 32 s)) := if_pos c_184
      rw [e]
      refine tX6_jarLine_187  (r := ?_)
      refine tX6_jarLine_188  (r := ?_)
      refine tX6_jarLine_191 (hd := (by omega)) (ha := (by first | assumption | (repeat (first | assumption | exact At.set_eq2 (by first | omega | (simp only [hset, hnew]; omega) | rfl | decide) | exact At.new_eq2 _ _ (by first | omega | (simp only [hset, hnew]; omega) | rfl | decide) | refine At.set_ne ?_ (by first | omega | (simp only [hset, hnew]; omega) | rfl | decide) | refine At.new_ne ?_)))) (call := s_rtake (d := 1) (by omega) rc (w := 32) (by decide) (by decide)) (k := ?_)
      intro h1 rc1
      obtain ⟨⟨ea1, a1⟩, tx1, bx1, sq1, l11, l21, l31, l41⟩ := id rc1
      have hk431 := kdP_lt rc1
      have t_1 := tx1.1
      have b_1 := bx1.1
      refine tX6_jarLine_194  (r := ?_)
      refine tX6_jarLine_195  (r := ?_)
      refine tX6_jarLine_196 (hd := (by omega)) (ha := (by first | assumption | (repeat (first | assumption | exact At.set_eq2 (by first | omega | (simp only [hset, hnew]; omega) | rfl | decide) | exact At.new_eq2 _ _ (by first | omega | (simp only [hset, hnew]; omega) | rfl | decide) | refine At.set_ne ?_ (by first | omega | (simp only [hset, hnew]; omega) | rfl | decide) | refine At.new_ne ?_)))) (call := s_rhold (d := 4) (by omega) rc1 (l := l) (by omega)) (k := ?_)
      intro h2 rc2
      obtain ⟨⟨ea2, a2⟩, tx2, bx2, sq2, l12, l22, l32, l42⟩ := id rc2
      have hk432 := kdP_lt rc2
      have t_2 := tx2.1
      have b_2 := bx2.1
      refine tX6_jarLine_199  (r := ?_)
      rw [nI_add]
      refine tX6_jarLine_202 (r := ?_)
      exact ih (l + 1) _ _ (by omega) rc2

set_option maxHeartbeats 4000000 in
set_option maxRecDepth 100000 in
theorem s_rj156 (hd : 5 ≤ d) {v w : Nat} {x3 : Option Value} (rc : Rc h0 h r dr K s) : RQ G mX6_jarLine d 156 [some (.ref r), some (.int (nI v)), some (.ref (OLD + w)), x3] [] h (Rv fun h1 => Rc h0 h1 r dr K (hsP K 399 1 (hoP K 0 (tkP K 4 s)))) := by
  obtain ⟨⟨ea, a0⟩, tx, bx, sq, l1, l2, l3, l4⟩ := id rc
  have z0 := a0.1
  have b0 := bx.1
  have t0 := tx.1
  have hk43 := kdP_lt rc
  refine tX6_jarLine_156  (r := ?_)
  refine tX6_jarLine_157  (r := ?_)
  refine tX6_jarLine_160 (hd := (by omega)) (ha := (by first | assumption | (repeat (first | assumption | exact At.set_eq2 (by first | omega | (simp only [hset, hnew]; omega) | rfl | decide) | exact At.new_eq2 _ _ (by first | omega | (simp only [hset, hnew]; omega) | rfl | decide) | refine At.set_ne ?_ (by first | omega | (simp only [hset, hnew]; omega) | rfl | decide) | refine At.new_ne ?_)))) (call := s_rtake (d := 1) (by omega) rc (w := 4) (by decide) (by decide)) (k := ?_)
  intro h1 rc1
  obtain ⟨⟨ea1, a1⟩, tx1, bx1, sq1, l11, l21, l31, l41⟩ := id rc1
  have hk431 := kdP_lt rc1
  have t_1 := tx1.1
  have b_1 := bx1.1
  refine tX6_jarLine_163  (r := ?_)
  refine tX6_jarLine_164  (r := ?_)
  refine tX6_jarLine_165 (hd := (by omega)) (ha := (by first | assumption | (repeat (first | assumption | exact At.set_eq2 (by first | omega | (simp only [hset, hnew]; omega) | rfl | decide) | exact At.new_eq2 _ _ (by first | omega | (simp only [hset, hnew]; omega) | rfl | decide) | refine At.set_ne ?_ (by first | omega | (simp only [hset, hnew]; omega) | rfl | decide) | refine At.new_ne ?_)))) (call := s_rhold (d := 4) (by omega) rc1 (l := 0) (by omega)) (k := ?_)
  intro h2 rc2
  obtain ⟨⟨ea2, a2⟩, tx2, bx2, sq2, l12, l22, l32, l42⟩ := id rc2
  have hk432 := kdP_lt rc2
  have t_2 := tx2.1
  have b_2 := bx2.1
  refine tX6_jarLine_168  (r := ?_)
  refine tX6_jarLine_169  (r := ?_)
  exact s_rj170 hd 399 1 _ _ (by omega) rc2

set_option maxHeartbeats 4000000 in
set_option maxRecDepth 100000 in
theorem s_rj140 (hd : 5 ≤ d) {v w : Nat} {x3 : Option Value} (hw : pEr s = 0 → 24 ≤ w ∧ w < 27) (rc : Rc h0 h r dr K s) : RQ G mX6_jarLine d 140 [some (.ref r), some (.int (nI v)), some (.ref (OLD + w)), x3] [] h (Rv fun h1 => Rc h0 h1 r dr K (hsP K 399 1 (hoP K 0 (tkP K 4 (upP (seD v w) s))))) := by
  obtain ⟨⟨ea, a0⟩, tx, bx, sq, l1, l2, l3, l4⟩ := id rc
  have z0 := a0.1
  have b0 := bx.1
  have t0 := tx.1
  have hk43 := kdP_lt rc
  refine tX6_jarLine_140  (r := ?_)
  refine tX6_jarLine_141 (ha := (by first | assumption | (repeat (first | assumption | exact At.set_eq2 (by first | omega | (simp only [hset, hnew]; omega) | rfl | decide) | exact At.new_eq2 _ _ (by first | omega | (simp only [hset, hnew]; omega) | rfl | decide) | refine At.set_ne ?_ (by first | omega | (simp only [hset, hnew]; omega) | rfl | decide) | refine At.new_ne ?_)))) (hv := rfl) (r := ?_)
  refine tX6_jarLine_144  (kt := fun c_144 => ?_) (kf := fun c_144 => ?_)
  · have e0 : ¬ pEr s = 0 := fun z => c_144 (by rw [z]; rfl)
    exact s_rj156 hd (rc.no e0)
  · have e0 : pEr s = 0 := by simp (disch := omega) only [ci_eq0] at c_144; omega
    refine tX6_jarLine_147  (r := ?_)
    refine tX6_jarLine_148 (ha := (by first | assumption | (repeat (first | assumption | exact At.set_eq2 (by first | omega | (simp only [hset, hnew]; omega) | rfl | decide) | exact At.new_eq2 _ _ (by first | omega | (simp only [hset, hnew]; omega) | rfl | decide) | refine At.set_ne ?_ (by first | omega | (simp only [hset, hnew]; omega) | rfl | decide) | refine At.new_ne ?_)))) (hv := rfl) (r := ?_)
    refine tX6_jarLine_151  (r := ?_)
    refine tX6_jarLine_152  (r := ?_)
    refine tX6_jarLine_153 (hd := (by omega)) (ha := (by first | assumption | (repeat (first | assumption | exact At.set_eq2 (by first | omega | (simp only [hset, hnew]; omega) | rfl | decide) | exact At.new_eq2 _ _ (by first | omega | (simp only [hset, hnew]; omega) | rfl | decide) | refine At.set_ne ?_ (by first | omega | (simp only [hset, hnew]; omega) | rfl | decide) | refine At.new_ne ?_)))) (call := s_setSeats (d := 0) bx (hw e0)) (k := ?_)
    intro h1 hq
    obtain ⟨bx1, sm1⟩ := hq
    exact s_rj156 hd (rc.up e0 bx1 sm1)

set_option maxHeartbeats 4000000 in
set_option maxRecDepth 100000 in
theorem s_rj96 (hd : 5 ≤ d) {v : Nat} (rc : Rc h0 h r dr K s) : RQ G mX6_jarLine d 96 [some (.ref r), some (.int (nI v)), none, none] [] h (Rv fun h1 => Rc h0 h1 r dr K (hsP K 399 1 (hoP K 0 (j3P K v (tkP K 3 (tkP K 40 s)))))) := by
  obtain ⟨⟨ea, a0⟩, tx, bx, sq, l1, l2, l3, l4⟩ := id rc
  have z0 := a0.1
  have b0 := bx.1
  have t0 := tx.1
  have hk43 := kdP_lt rc
  refine tX6_jarLine_96  (r := ?_)
  refine tX6_jarLine_97  (r := ?_)
  refine tX6_jarLine_100 (hd := (by omega)) (ha := (by first | assumption | (repeat (first | assumption | exact At.set_eq2 (by first | omega | (simp only [hset, hnew]; omega) | rfl | decide) | exact At.new_eq2 _ _ (by first | omega | (simp only [hset, hnew]; omega) | rfl | decide) | refine At.set_ne ?_ (by first | omega | (simp only [hset, hnew]; omega) | rfl | decide) | refine At.new_ne ?_)))) (call := s_rtake (d := 1) (by omega) rc (w := 40) (by decide) (by decide)) (k := ?_)
  intro h1 rc1
  obtain ⟨⟨ea1, a1⟩, tx1, bx1, sq1, l11, l21, l31, l41⟩ := id rc1
  have hk431 := kdP_lt rc1
  have t_1 := tx1.1
  have b_1 := bx1.1
  refine tX6_jarLine_103  (r := ?_)
  refine tX6_jarLine_104  (r := ?_)
  refine tX6_jarLine_107 (hd := (by omega)) (ha := (by first | assumption | (repeat (first | assumption | exact At.set_eq2 (by first | omega | (simp only [hset, hnew]; omega) | rfl | decide) | exact At.new_eq2 _ _ (by first | omega | (simp only [hset, hnew]; omega) | rfl | decide) | refine At.set_ne ?_ (by first | omega | (simp only [hset, hnew]; omega) | rfl | decide) | refine At.new_ne ?_)))) (call := s_rtake (d := 1) (by omega) rc1 (w := 3) (by decide) (by decide)) (k := ?_)
  intro h2 rc2
  obtain ⟨⟨ea2, a2⟩, tx2, bx2, sq2, l12, l22, l32, l42⟩ := id rc2
  have hk432 := kdP_lt rc2
  have t_2 := tx2.1
  have b_2 := bx2.1
  refine tX6_jarLine_110  (r := ?_)
  refine tX6_jarLine_111 (ha := (by first | assumption | (repeat (first | assumption | exact At.set_eq2 (by first | omega | (simp only [hset, hnew]; omega) | rfl | decide) | exact At.new_eq2 _ _ (by first | omega | (simp only [hset, hnew]; omega) | rfl | decide) | refine At.set_ne ?_ (by first | omega | (simp only [hset, hnew]; omega) | rfl | decide) | refine At.new_ne ?_)))) (hv := rfl) (r := ?_)
  refine tX6_jarLine_114  (r := ?_)
  refine tX6_jarLine_115  (r := ?_)
  refine tX6_jarLine_116  (r := ?_)
  refine tX6_jarLine_117  (r := ?_)
  refine tX6_jarLine_120 (hi := hk432) (hj := (by omega)) (kt := fun c_120 => ?_) (kf := fun c_120 => ?_)
  · have ew : wyW (kdP K (tkP K 3 (tkP K 40 s))) = kdP K (tkP K 3 (tkP K 40 s)) := if_pos (Or.inl c_120)
    refine tX6_jarLine_130  (r := ?_)
    refine tX6_jarLine_131 (r := ?_)
    refine tX6_jarLine_137 (hd := (by omega)) (ha := (by first | assumption | (repeat (first | assumption | exact At.set_eq2 (by first | omega | (simp only [hset, hnew]; omega) | rfl | decide) | exact At.new_eq2 _ _ (by first | omega | (simp only [hset, hnew]; omega) | rfl | decide) | refine At.set_ne ?_ (by first | omega | (simp only [hset, hnew]; omega) | rfl | decide) | refine At.new_ne ?_)))) (call := s_rtake (d := 1) (by omega) rc2 (w := kdP K (tkP K 3 (tkP K 40 s))) hk432 (by omega)) (k := ?_)
    intro h3 rc3
    obtain ⟨⟨ea3, a3⟩, tx3, bx3, sq3, l13, l23, l33, l43⟩ := id rc3
    have hk433 := kdP_lt rc3
    have t_3 := tx3.1
    have b_3 := bx3.1
    rw [← ew] at rc3
    have hw : pEr (tkP K (wyW (kdP K (tkP K 3 (tkP K 40 s)))) (tkP K 3 (tkP K 40 s))) = 0 → 24 ≤ kdP K (tkP K 3 (tkP K 40 s)) ∧ kdP K (tkP K 3 (tkP K 40 s)) < 27 := fun z => by
      obtain ⟨-, z2, -⟩ := tkP_er z
      rw [z2]
      unfold wyW
      split <;> omega
    exact s_rj140 hd hw rc3
  · refine tX6_jarLine_123  (r := ?_)
    refine tX6_jarLine_124  (r := ?_)
    refine tX6_jarLine_127 (hi := hk432) (hj := (by omega)) (kt := fun c_127 => ?_) (kf := fun c_127 => ?_)
    · have ew : wyW (kdP K (tkP K 3 (tkP K 40 s))) = 26 := if_neg (fun z => z.elim c_120 c_127)
      refine tX6_jarLine_134  (r := ?_)
      refine tX6_jarLine_137 (hd := (by omega)) (ha := (by first | assumption | (repeat (first | assumption | exact At.set_eq2 (by first | omega | (simp only [hset, hnew]; omega) | rfl | decide) | exact At.new_eq2 _ _ (by first | omega | (simp only [hset, hnew]; omega) | rfl | decide) | refine At.set_ne ?_ (by first | omega | (simp only [hset, hnew]; omega) | rfl | decide) | refine At.new_ne ?_)))) (call := s_rtake (d := 1) (by omega) rc2 (w := 26) (by decide) (by decide)) (k := ?_)
      intro h3 rc3
      obtain ⟨⟨ea3, a3⟩, tx3, bx3, sq3, l13, l23, l33, l43⟩ := id rc3
      have hk433 := kdP_lt rc3
      have t_3 := tx3.1
      have b_3 := bx3.1
      rw [← ew] at rc3
      have hw : pEr (tkP K (wyW (kdP K (tkP K 3 (tkP K 40 s)))) (tkP K 3 (tkP K 40 s))) = 0 → 24 ≤ kdP K (tkP K 3 (tkP K 40 s)) ∧ kdP K (tkP K 3 (tkP K 40 s)) < 27 := fun z => by
        obtain ⟨-, z2, -⟩ := tkP_er z
        rw [z2]
        unfold wyW
        split <;> omega
      exact s_rj140 hd hw rc3
    · have ew : wyW (kdP K (tkP K 3 (tkP K 40 s))) = kdP K (tkP K 3 (tkP K 40 s)) := if_pos (Or.inr c_127)
      refine tX6_jarLine_130  (r := ?_)
      refine tX6_jarLine_131 (r := ?_)
      refine tX6_jarLine_137 (hd := (by omega)) (ha := (by first | assumption | (repeat (first | assumption | exact At.set_eq2 (by first | omega | (simp only [hset, hnew]; omega) | rfl | decide) | exact At.new_eq2 _ _ (by first | omega | (simp only [hset, hnew]; omega) | rfl | decide) | refine At.set_ne ?_ (by first | omega | (simp only [hset, hnew]; omega) | rfl | decide) | refine At.new_ne ?_)))) (call := s_rtake (d := 1) (by omega) rc2 (w := kdP K (tkP K 3 (tkP K 40 s))) hk432 (by omega)) (k := ?_)
      intro h3 rc3
      obtain ⟨⟨ea3, a3⟩, tx3, bx3, sq3, l13, l23, l33, l43⟩ := id rc3
      have hk433 := kdP_lt rc3
      have t_3 := tx3.1
      have b_3 := bx3.1
      rw [← ew] at rc3
      have hw : pEr (tkP K (wyW (kdP K (tkP K 3 (tkP K 40 s)))) (tkP K 3 (tkP K 40 s))) = 0 → 24 ≤ kdP K (tkP K 3 (tkP K 40 s)) ∧ kdP K (tkP K 3 (tkP K 40 s)) < 27 := fun z => by
        obtain ⟨-, z2, -⟩ := tkP_er z
        rw [z2]
        unfold wyW
        split <;> omega
      exact s_rj140 hd hw rc3

set_option maxHeartbeats 4000000 in
set_option maxRecDepth 100000 in
theorem s_rj78 (hd : 5 ≤ d) (rc : Rc h0 h r dr K s) : RQ G mX6_jarLine d 78 [some (.ref r), none, none, none] [.long (nL (vaP K s))] h (Rv fun h1 => Rc h0 h1 r dr K (hsP K 399 1 (hoP K 0 (j3P K (vaP K s) (j2P K s))))) := by
  obtain ⟨⟨ea, a0⟩, tx, bx, sq, l1, l2, l3, l4⟩ := id rc
  have z0 := a0.1
  have b0 := bx.1
  have t0 := tx.1
  have hk43 := kdP_lt rc
  refine tX6_jarLine_78  (r := ?_)
  rw [nL_i32]
  refine tX6_jarLine_79  (r := ?_)
  refine tX6_jarLine_80  (r := ?_)
  refine tX6_jarLine_81  (r := ?_)
  refine tX6_jarLine_82  (kt := fun c_82 => ?_) (kf := fun c_82 => ?_)
  · have e9 : (if nI (vaP K s) < nI 1 ∨ nI 9 < nI (vaP K s) then rpP 5 s else s) = rpP 5 s := if_pos (Or.inl c_82)
    unfold j2P
    rw [e9]
    refine tX6_jarLine_91  (r := ?_)
    refine tX6_jarLine_92  (r := ?_)
    refine tX6_jarLine_93 (hd := (by omega)) (ha := (by first | assumption | (repeat (first | assumption | exact At.set_eq2 (by first | omega | (simp only [hset, hnew]; omega) | rfl | decide) | exact At.new_eq2 _ _ (by first | omega | (simp only [hset, hnew]; omega) | rfl | decide) | refine At.set_ne ?_ (by first | omega | (simp only [hset, hnew]; omega) | rfl | decide) | refine At.new_ne ?_)))) (call := s_rrep (d := 1) rc (n := 5) (by decide)) (k := ?_)
    intro h1 rc1
    exact s_rj96 hd rc1
  · refine tX6_jarLine_85  (r := ?_)
    refine tX6_jarLine_86  (r := ?_)
    refine tX6_jarLine_88  (kt := fun c_88 => ?_) (kf := fun c_88 => ?_)
    · have e9 : (if nI (vaP K s) < nI 1 ∨ nI 9 < nI (vaP K s) then rpP 5 s else s) = s := if_neg (fun z => z.elim c_82 (fun z => absurd c_88 (Int32.not_le.mpr z)))
      unfold j2P
      rw [e9]
      exact s_rj96 hd rc
    · have e9 : (if nI (vaP K s) < nI 1 ∨ nI 9 < nI (vaP K s) then rpP 5 s else s) = rpP 5 s := if_pos (Or.inr (Int32.not_le.mp c_88))
      unfold j2P
      rw [e9]
      refine tX6_jarLine_91  (r := ?_)
      refine tX6_jarLine_92  (r := ?_)
      refine tX6_jarLine_93 (hd := (by omega)) (ha := (by first | assumption | (repeat (first | assumption | exact At.set_eq2 (by first | omega | (simp only [hset, hnew]; omega) | rfl | decide) | exact At.new_eq2 _ _ (by first | omega | (simp only [hset, hnew]; omega) | rfl | decide) | refine At.set_ne ?_ (by first | omega | (simp only [hset, hnew]; omega) | rfl | decide) | refine At.new_ne ?_)))) (call := s_rrep (d := 1) rc (n := 5) (by decide)) (k := ?_)
      intro h1 rc1
      exact s_rj96 hd rc1

set_option maxHeartbeats 4000000 in
set_option maxRecDepth 100000 in
theorem s_rj53 (hd : 5 ≤ d) (rc : Rc h0 h r dr K s) : RQ G mX6_jarLine d 53 [some (.ref r), none, none, none] [] h (Rv fun h1 => Rc h0 h1 r dr K (hsP K 399 1 (hoP K 0 (j3P K (vaP K (tkP K 2 (tkP K 39 s))) (j2P K (tkP K 2 (tkP K 39 s))))))) := by
  obtain ⟨⟨ea, a0⟩, tx, bx, sq, l1, l2, l3, l4⟩ := id rc
  have z0 := a0.1
  have b0 := bx.1
  have t0 := tx.1
  have hk43 := kdP_lt rc
  refine tX6_jarLine_53  (r := ?_)
  refine tX6_jarLine_54  (r := ?_)
  refine tX6_jarLine_57 (hd := (by omega)) (ha := (by first | assumption | (repeat (first | assumption | exact At.set_eq2 (by first | omega | (simp only [hset, hnew]; omega) | rfl | decide) | exact At.new_eq2 _ _ (by first | omega | (simp only [hset, hnew]; omega) | rfl | decide) | refine At.set_ne ?_ (by first | omega | (simp only [hset, hnew]; omega) | rfl | decide) | refine At.new_ne ?_)))) (call := s_rtake (d := 1) (by omega) rc (w := 39) (by decide) (by decide)) (k := ?_)
  intro h1 rc1
  obtain ⟨⟨ea1, a1⟩, tx1, bx1, sq1, l11, l21, l31, l41⟩ := id rc1
  have hk431 := kdP_lt rc1
  have t_1 := tx1.1
  have b_1 := bx1.1
  refine tX6_jarLine_60  (r := ?_)
  refine tX6_jarLine_61  (r := ?_)
  refine tX6_jarLine_64 (hd := (by omega)) (ha := (by first | assumption | (repeat (first | assumption | exact At.set_eq2 (by first | omega | (simp only [hset, hnew]; omega) | rfl | decide) | exact At.new_eq2 _ _ (by first | omega | (simp only [hset, hnew]; omega) | rfl | decide) | refine At.set_ne ?_ (by first | omega | (simp only [hset, hnew]; omega) | rfl | decide) | refine At.new_ne ?_)))) (call := s_rtake (d := 1) (by omega) rc1 (w := 2) (by decide) (by decide)) (k := ?_)
  intro h2 rc2
  obtain ⟨⟨ea2, a2⟩, tx2, bx2, sq2, l12, l22, l32, l42⟩ := id rc2
  have hk432 := kdP_lt rc2
  have t_2 := tx2.1
  have b_2 := bx2.1
  refine tX6_jarLine_67  (r := ?_)
  refine tX6_jarLine_68 (ha := (by first | assumption | (repeat (first | assumption | exact At.set_eq2 (by first | omega | (simp only [hset, hnew]; omega) | rfl | decide) | exact At.new_eq2 _ _ (by first | omega | (simp only [hset, hnew]; omega) | rfl | decide) | refine At.set_ne ?_ (by first | omega | (simp only [hset, hnew]; omega) | rfl | decide) | refine At.new_ne ?_)))) (hv := rfl) (r := ?_)
  refine tX6_jarLine_71  (r := ?_)
  refine tX6_jarLine_72 (ha := (by first | assumption | (repeat (first | assumption | exact At.set_eq2 (by first | omega | (simp only [hset, hnew]; omega) | rfl | decide) | exact At.new_eq2 _ _ (by first | omega | (simp only [hset, hnew]; omega) | rfl | decide) | refine At.set_ne ?_ (by first | omega | (simp only [hset, hnew]; omega) | rfl | decide) | refine At.new_ne ?_)))) (hv := rfl) (r := ?_)
  refine tX6_jarLine_75 (hd := (by omega)) (ha := (by first | assumption | (repeat (first | assumption | exact At.set_eq2 (by first | omega | (simp only [hset, hnew]; omega) | rfl | decide) | exact At.new_eq2 _ _ (by first | omega | (simp only [hset, hnew]; omega) | rfl | decide) | refine At.set_ne ?_ (by first | omega | (simp only [hset, hnew]; omega) | rfl | decide) | refine At.new_ne ?_)))) (call := s_tkValue (d := 0) tx2 (by omega)) (k := ?_)
  rintro x_ h_ ⟨hx_, e_⟩
  rw [e_, hx_]
  exact s_rj78 hd rc2

set_option maxHeartbeats 4000000 in
set_option maxRecDepth 100000 in
theorem s_rj25 (hd : 5 ≤ d) {f : Bool} (rc : Rc h0 h r dr K s) : RQ G mX6_jarLine d 25 [some (.ref r), none, none, none] [.int (if f = true then nI 1 else nI 0), .ref r] h (Rv fun h1 => Rc h0 h1 r dr K (hsP K 399 1 (hoP K 0 (j3P K (vaP K (tkP K 2 (tkP K 39 (upP (jaD (vaP K (nwP K f s))) (nwP K f s))))) (j2P K (tkP K 2 (tkP K 39 (upP (jaD (vaP K (nwP K f s))) (nwP K f s))))))))) := by
  obtain ⟨⟨ea, a0⟩, tx, bx, sq, l1, l2, l3, l4⟩ := id rc
  have z0 := a0.1
  have b0 := bx.1
  have t0 := tx.1
  have hk43 := kdP_lt rc
  have hvv := tx.vv (pPo (nwP K f s))
  refine tX6_jarLine_25 (hd := (by omega)) (ha := (by first | assumption | (repeat (first | assumption | exact At.set_eq2 (by first | omega | (simp only [hset, hnew]; omega) | rfl | decide) | exact At.new_eq2 _ _ (by first | omega | (simp only [hset, hnew]; omega) | rfl | decide) | refine At.set_ne ?_ (by first | omega | (simp only [hset, hnew]; omega) | rfl | decide) | refine At.new_ne ?_)))) (call := s_rnew (d := 2) (by omega) rc (f := f)) (k := ?_)
  intro h1 rc1
  obtain ⟨⟨ea1, a1⟩, tx1, bx1, sq1, l11, l21, l31, l41⟩ := id rc1
  have hk431 := kdP_lt rc1
  have t_1 := tx1.1
  have b_1 := bx1.1
  refine tX6_jarLine_28  (r := ?_)
  refine tX6_jarLine_29 (ha := (by first | assumption | (repeat (first | assumption | exact At.set_eq2 (by first | omega | (simp only [hset, hnew]; omega) | rfl | decide) | exact At.new_eq2 _ _ (by first | omega | (simp only [hset, hnew]; omega) | rfl | decide) | refine At.set_ne ?_ (by first | omega | (simp only [hset, hnew]; omega) | rfl | decide) | refine At.new_ne ?_)))) (hv := rfl) (r := ?_)
  refine tX6_jarLine_32  (kt := fun c_32 => ?_) (kf := fun c_32 => ?_)
  · have e0 : ¬ pEr (nwP K f s) = 0 := fun z => c_32 (by rw [z]; rfl)
    exact s_rj53 hd (rc1.no e0)
  · have e0 : pEr (nwP K f s) = 0 := by simp (disch := omega) only [ci_eq0] at c_32; omega
    refine tX6_jarLine_35  (r := ?_)
    refine tX6_jarLine_36 (ha := (by first | assumption | (repeat (first | assumption | exact At.set_eq2 (by first | omega | (simp only [hset, hnew]; omega) | rfl | decide) | exact At.new_eq2 _ _ (by first | omega | (simp only [hset, hnew]; omega) | rfl | decide) | refine At.set_ne ?_ (by first | omega | (simp only [hset, hnew]; omega) | rfl | decide) | refine At.new_ne ?_)))) (hv := rfl) (r := ?_)
    refine tX6_jarLine_39  (r := ?_)
    refine tX6_jarLine_40 (ha := (by first | assumption | (repeat (first | assumption | exact At.set_eq2 (by first | omega | (simp only [hset, hnew]; omega) | rfl | decide) | exact At.new_eq2 _ _ (by first | omega | (simp only [hset, hnew]; omega) | rfl | decide) | refine At.set_ne ?_ (by first | omega | (simp only [hset, hnew]; omega) | rfl | decide) | refine At.new_ne ?_)))) (hv := rfl) (r := ?_)
    refine tX6_jarLine_43  (r := ?_)
    refine tX6_jarLine_44 (ha := (by first | assumption | (repeat (first | assumption | exact At.set_eq2 (by first | omega | (simp only [hset, hnew]; omega) | rfl | decide) | exact At.new_eq2 _ _ (by first | omega | (simp only [hset, hnew]; omega) | rfl | decide) | refine At.set_ne ?_ (by first | omega | (simp only [hset, hnew]; omega) | rfl | decide) | refine At.new_ne ?_)))) (hv := rfl) (r := ?_)
    refine tX6_jarLine_47 (hd := (by omega)) (ha := (by first | assumption | (repeat (first | assumption | exact At.set_eq2 (by first | omega | (simp only [hset, hnew]; omega) | rfl | decide) | exact At.new_eq2 _ _ (by first | omega | (simp only [hset, hnew]; omega) | rfl | decide) | refine At.set_ne ?_ (by first | omega | (simp only [hset, hnew]; omega) | rfl | decide) | refine At.new_ne ?_)))) (call := s_tkValue (d := 0) tx1 (by omega)) (k := ?_)
    rintro x_ h_ ⟨hx_, e_⟩
    rw [e_, hx_]
    refine tX6_jarLine_50 (hd := (by omega)) (ha := (by first | assumption | (repeat (first | assumption | exact At.set_eq2 (by first | omega | (simp only [hset, hnew]; omega) | rfl | decide) | exact At.new_eq2 _ _ (by first | omega | (simp only [hset, hnew]; omega) | rfl | decide) | refine At.set_ne ?_ (by first | omega | (simp only [hset, hnew]; omega) | rfl | decide) | refine At.new_ne ?_)))) (call := s_addJar (d := 0) bx1 hvv) (k := ?_)
    intro h2 hq
    obtain ⟨bx2_, sm2⟩ := hq
    have rc2 := rc1.up (f := jaD (vaP K (nwP K f s))) e0 bx2_ sm2
    exact s_rj53 hd rc2

set_option maxHeartbeats 4000000 in
set_option maxRecDepth 100000 in
theorem s_rjarl (hd : 5 ≤ d) (rc : Rc h0 h r dr K s) : RQ G mX6_jarLine d 0 [some (.ref r), none, none, none] [] h (Rv fun h1 => Rc h0 h1 r dr K (jlP K s)) := by
  obtain ⟨⟨ea, a0⟩, tx, bx, sq, l1, l2, l3, l4⟩ := id rc
  have z0 := a0.1
  have b0 := bx.1
  have t0 := tx.1
  have hk43 := kdP_lt rc
  refine tX6_jarLine_0  (r := ?_)
  refine tX6_jarLine_1  (r := ?_)
  refine tX6_jarLine_4 (hd := (by omega)) (ha := (by first | assumption | (repeat (first | assumption | exact At.set_eq2 (by first | omega | (simp only [hset, hnew]; omega) | rfl | decide) | exact At.new_eq2 _ _ (by first | omega | (simp only [hset, hnew]; omega) | rfl | decide) | refine At.set_ne ?_ (by first | omega | (simp only [hset, hnew]; omega) | rfl | decide) | refine At.new_ne ?_)))) (call := s_rtake (d := 1) (by omega) rc (w := 1) (by decide) (by decide)) (k := ?_)
  intro h1 rc1
  obtain ⟨⟨ea1, a1⟩, tx1, bx1, sq1, l11, l21, l31, l41⟩ := id rc1
  have hk431 := kdP_lt rc1
  have t_1 := tx1.1
  have b_1 := bx1.1
  have hbl : bJa (pBk (tkP K 1 s)) ≤ 8 := bx1.2.2.2.2.2.2.2.2.2.2.1
  have hbl2 : bJa (pDf (tkP K 1 s)).1 ≤ 8 := bx1.2.2.2.2.2.2.2.2.2.2.1
  refine tX6_jarLine_7  (r := ?_)
  refine tX6_jarLine_8  (r := ?_)
  refine tX6_jarLine_9 (ha := (by first | assumption | (repeat (first | assumption | exact At.set_eq2 (by first | omega | (simp only [hset, hnew]; omega) | rfl | decide) | exact At.new_eq2 _ _ (by first | omega | (simp only [hset, hnew]; omega) | rfl | decide) | refine At.set_ne ?_ (by first | omega | (simp only [hset, hnew]; omega) | rfl | decide) | refine At.new_ne ?_)))) (hv := rfl) (r := ?_)
  refine tX6_jarLine_12 (ha := (by first | assumption | (repeat (first | assumption | exact At.set_eq2 (by first | omega | (simp only [hset, hnew]; omega) | rfl | decide) | exact At.new_eq2 _ _ (by first | omega | (simp only [hset, hnew]; omega) | rfl | decide) | refine At.set_ne ?_ (by first | omega | (simp only [hset, hnew]; omega) | rfl | decide) | refine At.new_ne ?_)))) (hv := rfl) (r := ?_)
  refine tX6_jarLine_15  (r := ?_)
  refine tX6_jarLine_17  (kt := fun c_17 => ?_) (kf := fun c_17 => ?_)
  · have f0 : decide (8 ≤ bJa (pBk (tkP K 1 s))) = false := decide_eq_false (Nat.not_le.mpr ((nI_ltI (by omega) (by decide)).mp c_17))
    refine tX6_jarLine_24  (r := ?_)
    have key := s_rj25 (G := G) (d := d) (by omega) (f := decide (8 ≤ bJa (pBk (tkP K 1 s)))) rc1
    rw [show (if decide (8 ≤ bJa (pBk (tkP K 1 s))) = true then nI 1 else nI 0) = nI 0 from if_neg (by rw [f0]; decide)] at key
    exact key
  · have f0 : decide (8 ≤ bJa (pBk (tkP K 1 s))) = true := decide_eq_true (Nat.le_of_not_lt (fun z => c_17 ((nI_ltI (by omega) (by decide)).mpr z)))
    refine tX6_jarLine_20  (r := ?_)
    refine tX6_jarLine_21 (r := ?_)
    have key := s_rj25 (G := G) (d := d) (by omega) (f := decide (8 ≤ bJa (pBk (tkP K 1 s)))) rc1
    rw [show (if decide (8 ≤ bJa (pBk (tkP K 1 s))) = true then nI 1 else nI 0) = nI 1 from if_pos f0] at key
    exact key

set_option maxHeartbeats 4000000 in
set_option maxRecDepth 100000 in
theorem s_ri107 (hd : 43 ≤ d) {v : Int64} {x3 x4 : Int32} : ∀ (n i : Nat) (h : AH) (s : PST), i + n = 400 → Rc h0 h r dr K s → RQ G mX6_lidLine d 107 [some (.ref r), some (.long v), none, some (.int x3), some (.int x4), some (.int (nI i))] [] h (Rv fun h1 => Rc h0 h1 r dr K (rsP K n s)) := by
  intro n
  induction n with
  | zero =>
    intro i h s hi rc
    refine tX6_lidLine_107  (r := ?_)
    refine tX6_lidLine_109  (r := ?_)
    refine tX6_lidLine_112  (kf := fun c_ => by exfalso; exact c_ ((nI_leI (by decide) (by omega)).mpr (by omega))) (kt := fun _ => ?_)
    refine tX6_lidLine_135  (hP := ?_)
    exact ⟨rfl, rc⟩
  | succ n ih =>
    intro i h s hi rc
    obtain ⟨⟨ea, a0⟩, tx, bx, sq, l1, l2, l3, l4⟩ := id rc
    have z0 := a0.1
    have b0 := bx.1
    have t0 := tx.1
    have hk43 := kdP_lt rc
    refine tX6_lidLine_107  (r := ?_)
    refine tX6_lidLine_109  (r := ?_)
    refine tX6_lidLine_112  (kt := fun c_ => by exfalso; exact absurd ((nI_leI (by decide) (by omega)).mp c_) (by omega)) (kf := fun _ => ?_)
    refine tX6_lidLine_115  (r := ?_)
    refine tX6_lidLine_116 (ha := (by first | assumption | (repeat (first | assumption | exact At.set_eq2 (by first | omega | (simp only [hset, hnew]; omega) | rfl | decide) | exact At.new_eq2 _ _ (by first | omega | (simp only [hset, hnew]; omega) | rfl | decide) | refine At.set_ne ?_ (by first | omega | (simp only [hset, hnew]; omega) | rfl | decide) | refine At.new_ne ?_)))) (hv := rfl) (r := ?_)
    refine tX6_lidLine_119  (r := ?_)
    refine tX6_lidLine_122 (hi := hk43) (hj := (by omega)) (kt := fun c_122 => ?_) (kf := fun c_122 => ?_)
    · have e : rsP K (n + 1) s = s := if_neg c_122
      rw [e]
      refine tX6_lidLine_135  (hP := ?_)
      exact ⟨rfl, rc⟩
    · have e : rsP K (n + 1) s = rsP K n (rlP K s) := if_pos c_122
      rw [e]
      refine tX6_lidLine_125  (r := ?_)
      refine tX6_lidLine_126 (hd := (by omega)) (ha := (by first | assumption | (repeat (first | assumption | exact At.set_eq2 (by first | omega | (simp only [hset, hnew]; omega) | rfl | decide) | exact At.new_eq2 _ _ (by first | omega | (simp only [hset, hnew]; omega) | rfl | decide) | refine At.set_ne ?_ (by first | omega | (simp only [hset, hnew]; omega) | rfl | decide) | refine At.new_ne ?_)))) (call := s_rrule (d := 42) (by omega) rc) (k := ?_)
      intro h1 rc1
      obtain ⟨⟨ea1, a1⟩, tx1, bx1, sq1, l11, l21, l31, l41⟩ := id rc1
      have hk431 := kdP_lt rc1
      have t_1 := tx1.1
      have b_1 := bx1.1
      refine tX6_lidLine_129  (r := ?_)
      rw [nI_add]
      refine tX6_lidLine_132 (r := ?_)
      exact ih (i + 1) _ _ (by omega) rc1

set_option maxHeartbeats 4000000 in
set_option maxRecDepth 100000 in
theorem s_ri40 (hd : 43 ≤ d) {v0 : Nat} (hv : v0 < 1099511627776) (rc : Rc h0 h r dr K s) : RQ G mX6_lidLine d 40 [some (.ref r), some (.long (nL v0)), none, none, none, none] [] h (Rv fun h1 => Rc h0 h1 r dr K (rsP K 400 (upP (liD v0 ((jbO K (tkP K 6 (tkP K 39 s))).getD 0) ((lbO K (i2P K (tkP K 6 (tkP K 39 s)))).getD 0)) (i3P K (i2P K (tkP K 6 (tkP K 39 s))))))) := by
  obtain ⟨⟨ea, a0⟩, tx, bx, sq, l1, l2, l3, l4⟩ := id rc
  have z0 := a0.1
  have b0 := bx.1
  have t0 := tx.1
  have hk43 := kdP_lt rc
  refine tX6_lidLine_40  (r := ?_)
  refine tX6_lidLine_41  (r := ?_)
  refine tX6_lidLine_44 (hd := (by omega)) (ha := (by first | assumption | (repeat (first | assumption | exact At.set_eq2 (by first | omega | (simp only [hset, hnew]; omega) | rfl | decide) | exact At.new_eq2 _ _ (by first | omega | (simp only [hset, hnew]; omega) | rfl | decide) | refine At.set_ne ?_ (by first | omega | (simp only [hset, hnew]; omega) | rfl | decide) | refine At.new_ne ?_)))) (call := s_rtake (d := 1) (by omega) rc (w := 39) (by decide) (by decide)) (k := ?_)
  intro h1 rc1
  obtain ⟨⟨ea1, a1⟩, tx1, bx1, sq1, l11, l21, l31, l41⟩ := id rc1
  have hk431 := kdP_lt rc1
  have t_1 := tx1.1
  have b_1 := bx1.1
  refine tX6_lidLine_47  (r := ?_)
  refine tX6_lidLine_48  (r := ?_)
  refine tX6_lidLine_51 (hd := (by omega)) (ha := (by first | assumption | (repeat (first | assumption | exact At.set_eq2 (by first | omega | (simp only [hset, hnew]; omega) | rfl | decide) | exact At.new_eq2 _ _ (by first | omega | (simp only [hset, hnew]; omega) | rfl | decide) | refine At.set_ne ?_ (by first | omega | (simp only [hset, hnew]; omega) | rfl | decide) | refine At.new_ne ?_)))) (call := s_rtake (d := 1) (by omega) rc1 (w := 6) (by decide) (by decide)) (k := ?_)
  intro h2 rc2
  obtain ⟨⟨ea2, a2⟩, tx2, bx2, sq2, l12, l22, l32, l42⟩ := id rc2
  have hk432 := kdP_lt rc2
  have t_2 := tx2.1
  have b_2 := bx2.1
  refine tX6_lidLine_54  (r := ?_)
  refine tX6_lidLine_55 (hd := (by omega)) (ha := (by first | assumption | (repeat (first | assumption | exact At.set_eq2 (by first | omega | (simp only [hset, hnew]; omega) | rfl | decide) | exact At.new_eq2 _ _ (by first | omega | (simp only [hset, hnew]; omega) | rfl | decide) | refine At.set_ne ?_ (by first | omega | (simp only [hset, hnew]; omega) | rfl | decide) | refine At.new_ne ?_)))) (call := s_rjar (d := 2) (by omega) rc2) (k := ?_)
  rintro x_ h3 ⟨hx_, rc3⟩
  rw [hx_]
  obtain ⟨⟨ea3, a3⟩, tx3, bx3, sq3, l13, l23, l33, l43⟩ := id rc3
  have hk433 := kdP_lt rc3
  have t_3 := tx3.1
  have b_3 := bx3.1
  refine tX6_lidLine_58  (r := ?_)
  refine tX6_lidLine_59  (r := ?_)
  refine tX6_lidLine_60  (r := ?_)
  refine tX6_lidLine_63 (hd := (by omega)) (ha := (by first | assumption | (repeat (first | assumption | exact At.set_eq2 (by first | omega | (simp only [hset, hnew]; omega) | rfl | decide) | exact At.new_eq2 _ _ (by first | omega | (simp only [hset, hnew]; omega) | rfl | decide) | refine At.set_ne ?_ (by first | omega | (simp only [hset, hnew]; omega) | rfl | decide) | refine At.new_ne ?_)))) (call := s_rtake (d := 1) (by omega) rc3 (w := 39) (by decide) (by decide)) (k := ?_)
  intro h4 rc4
  obtain ⟨⟨ea4, a4⟩, tx4, bx4, sq4, l14, l24, l34, l44⟩ := id rc4
  have hk434 := kdP_lt rc4
  have t_4 := tx4.1
  have b_4 := bx4.1
  refine tX6_lidLine_66  (r := ?_)
  refine tX6_lidLine_67  (r := ?_)
  refine tX6_lidLine_70 (hd := (by omega)) (ha := (by first | assumption | (repeat (first | assumption | exact At.set_eq2 (by first | omega | (simp only [hset, hnew]; omega) | rfl | decide) | exact At.new_eq2 _ _ (by first | omega | (simp only [hset, hnew]; omega) | rfl | decide) | refine At.set_ne ?_ (by first | omega | (simp only [hset, hnew]; omega) | rfl | decide) | refine At.new_ne ?_)))) (call := s_rtake (d := 1) (by omega) rc4 (w := 7) (by decide) (by decide)) (k := ?_)
  intro h5 rc5
  obtain ⟨⟨ea5, a5⟩, tx5, bx5, sq5, l15, l25, l35, l45⟩ := id rc5
  have hk435 := kdP_lt rc5
  have t_5 := tx5.1
  have b_5 := bx5.1
  refine tX6_lidLine_73  (r := ?_)
  refine tX6_lidLine_74 (hd := (by omega)) (ha := (by first | assumption | (repeat (first | assumption | exact At.set_eq2 (by first | omega | (simp only [hset, hnew]; omega) | rfl | decide) | exact At.new_eq2 _ _ (by first | omega | (simp only [hset, hnew]; omega) | rfl | decide) | refine At.set_ne ?_ (by first | omega | (simp only [hset, hnew]; omega) | rfl | decide) | refine At.new_ne ?_)))) (call := s_rlab (d := 2) (by omega) rc5) (k := ?_)
  rintro x_ h6 ⟨hx_, rc6⟩
  rw [hx_]
  obtain ⟨⟨ea6, a6⟩, tx6, bx6, sq6, l16, l26, l36, l46⟩ := id rc6
  have hk436 := kdP_lt rc6
  have t_6 := tx6.1
  have b_6 := bx6.1
  refine tX6_lidLine_77  (r := ?_)
  refine tX6_lidLine_79  (r := ?_)
  refine tX6_lidLine_80  (r := ?_)
  refine tX6_lidLine_83 (hd := (by omega)) (ha := (by first | assumption | (repeat (first | assumption | exact At.set_eq2 (by first | omega | (simp only [hset, hnew]; omega) | rfl | decide) | exact At.new_eq2 _ _ (by first | omega | (simp only [hset, hnew]; omega) | rfl | decide) | refine At.set_ne ?_ (by first | omega | (simp only [hset, hnew]; omega) | rfl | decide) | refine At.new_ne ?_)))) (call := s_rtake (d := 1) (by omega) rc6 (w := 39) (by decide) (by decide)) (k := ?_)
  intro h7 rc7
  obtain ⟨⟨ea7, a7⟩, tx7, bx7, sq7, l17, l27, l37, l47⟩ := id rc7
  have hk437 := kdP_lt rc7
  have t_7 := tx7.1
  have b_7 := bx7.1
  refine tX6_lidLine_86  (r := ?_)
  refine tX6_lidLine_87 (ha := (by first | assumption | (repeat (first | assumption | exact At.set_eq2 (by first | omega | (simp only [hset, hnew]; omega) | rfl | decide) | exact At.new_eq2 _ _ (by first | omega | (simp only [hset, hnew]; omega) | rfl | decide) | refine At.set_ne ?_ (by first | omega | (simp only [hset, hnew]; omega) | rfl | decide) | refine At.new_ne ?_)))) (hv := rfl) (r := ?_)
  refine tX6_lidLine_90  (kt := fun c_90 => ?_) (kf := fun c_90 => ?_)
  · have e0 : ¬ pEr (i3P K (i2P K (tkP K 6 (tkP K 39 s)))) = 0 := fun z => c_90 (by show nI (pEr (i3P K (i2P K (tkP K 6 (tkP K 39 s))))) = 0; rw [z]; rfl)
    have rc8 : Rc h0 h7 r dr K (upP (liD v0 ((jbO K (tkP K 6 (tkP K 39 s))).getD 0) ((lbO K (i2P K (tkP K 6 (tkP K 39 s)))).getD 0)) (i3P K (i2P K (tkP K 6 (tkP K 39 s))))) := rc7.no e0
    refine tX6_lidLine_104 (r := ?_)
    refine tX6_lidLine_105 (r := ?_)
    exact s_ri107 hd 400 0 _ _ (by omega) rc8
  · have e0 : pEr (i3P K (i2P K (tkP K 6 (tkP K 39 s)))) = 0 := by
      have c_ : nI (pEr (i3P K (i2P K (tkP K 6 (tkP K 39 s))))) = 0 := c_90
      have l9 : pEr (i3P K (i2P K (tkP K 6 (tkP K 39 s)))) ≤ 5 := l27
      simp (disch := omega) only [ci_eq0] at c_
      exact c_
    have f1 := (tkP_er (w := 39) (s := laP K (i2P K (tkP K 6 (tkP K 39 s)))) e0).1
    obtain ⟨f2, f3⟩ := rpO_ne f1
    have f4 : pEr (i2P K (tkP K 6 (tkP K 39 s))) = 0 := by
      have f5 : laP K (i2P K (tkP K 6 (tkP K 39 s))) = i2P K (tkP K 6 (tkP K 39 s)) := f3
      rw [f5] at f1
      exact f1
    have f6 := (tkP_er (w := 39) (tkP_er (w := 7) f4).1).1
    obtain ⟨f7, -⟩ := rpO_ne f6
    obtain ⟨jj, ej⟩ := Option.ne_none_iff_exists'.mp f7
    obtain ⟨ll, el⟩ := Option.ne_none_iff_exists'.mp f2
    have el2 : lbO K (tkP K 7 (tkP K 39 (jaP K (tkP K 6 (tkP K 39 s))))) = some ll := el
    have hjj : jj < 8 := Nat.lt_of_lt_of_le (fnN_lt jj ej) bx2.2.2.2.2.2.2.2.2.2.2.1
    rw [el2, ej]
    refine tX6_lidLine_93  (r := ?_)
    refine tX6_lidLine_94 (ha := (by first | assumption | (repeat (first | assumption | exact At.set_eq2 (by first | omega | (simp only [hset, hnew]; omega) | rfl | decide) | exact At.new_eq2 _ _ (by first | omega | (simp only [hset, hnew]; omega) | rfl | decide) | refine At.set_ne ?_ (by first | omega | (simp only [hset, hnew]; omega) | rfl | decide) | refine At.new_ne ?_)))) (hv := rfl) (r := ?_)
    refine tX6_lidLine_97  (r := ?_)
    refine tX6_lidLine_98  (r := ?_)
    refine tX6_lidLine_99  (r := ?_)
    refine tX6_lidLine_101 (hd := (by omega)) (ha := (by first | assumption | (repeat (first | assumption | exact At.set_eq2 (by first | omega | (simp only [hset, hnew]; omega) | rfl | decide) | exact At.new_eq2 _ _ (by first | omega | (simp only [hset, hnew]; omega) | rfl | decide) | refine At.set_ne ?_ (by first | omega | (simp only [hset, hnew]; omega) | rfl | decide) | refine At.new_ne ?_)))) (call := s_addLid (d := 0) bx7 hv hjj (l := ll)) (k := ?_)
    intro h8 hq
    obtain ⟨bx8_, sm8⟩ := hq
    have rc8 : Rc h0 h8 r dr K (upP (liD v0 ((jbO K (tkP K 6 (tkP K 39 s))).getD 0) ((lbO K (i2P K (tkP K 6 (tkP K 39 s)))).getD 0)) (i3P K (i2P K (tkP K 6 (tkP K 39 s))))) := by
      rw [ej, el]
      exact rc7.up (f := liD v0 jj ll) e0 bx8_ sm8
    refine tX6_lidLine_104 (r := ?_)
    refine tX6_lidLine_105 (r := ?_)
    have key := s_ri107 (G := G) (d := d) (v := nL v0) (x3 := oI (some jj)) (x4 := oI (some ll)) hd 400 0 _ _ (by omega) rc8
    rw [ej] at key
    exact key

set_option maxHeartbeats 4000000 in
set_option maxRecDepth 100000 in
theorem s_ri25 (hd : 43 ≤ d) {f : Bool} (rc : Rc h0 h r dr K s) : RQ G mX6_lidLine d 25 [some (.ref r), none, none, none, none, none] [.int (if f = true then nI 1 else nI 0), .ref r] h (Rv fun h1 => Rc h0 h1 r dr K (rsP K 400 (upP (liD (vaP K (nwP K f s)) ((jbO K (tkP K 6 (tkP K 39 (nwP K f s)))).getD 0) ((lbO K (i2P K (tkP K 6 (tkP K 39 (nwP K f s))))).getD 0)) (i3P K (i2P K (tkP K 6 (tkP K 39 (nwP K f s)))))))) := by
  obtain ⟨⟨ea, a0⟩, tx, bx, sq, l1, l2, l3, l4⟩ := id rc
  have z0 := a0.1
  have b0 := bx.1
  have t0 := tx.1
  have hk43 := kdP_lt rc
  have hvv := tx.vv (pPo (nwP K f s))
  refine tX6_lidLine_25 (hd := (by omega)) (ha := (by first | assumption | (repeat (first | assumption | exact At.set_eq2 (by first | omega | (simp only [hset, hnew]; omega) | rfl | decide) | exact At.new_eq2 _ _ (by first | omega | (simp only [hset, hnew]; omega) | rfl | decide) | refine At.set_ne ?_ (by first | omega | (simp only [hset, hnew]; omega) | rfl | decide) | refine At.new_ne ?_)))) (call := s_rnew (d := 2) (by omega) rc (f := f)) (k := ?_)
  intro h1 rc1
  obtain ⟨⟨ea1, a1⟩, tx1, bx1, sq1, l11, l21, l31, l41⟩ := id rc1
  have hk431 := kdP_lt rc1
  have t_1 := tx1.1
  have b_1 := bx1.1
  refine tX6_lidLine_28  (r := ?_)
  refine tX6_lidLine_29 (ha := (by first | assumption | (repeat (first | assumption | exact At.set_eq2 (by first | omega | (simp only [hset, hnew]; omega) | rfl | decide) | exact At.new_eq2 _ _ (by first | omega | (simp only [hset, hnew]; omega) | rfl | decide) | refine At.set_ne ?_ (by first | omega | (simp only [hset, hnew]; omega) | rfl | decide) | refine At.new_ne ?_)))) (hv := rfl) (r := ?_)
  refine tX6_lidLine_32  (r := ?_)
  refine tX6_lidLine_33 (ha := (by first | assumption | (repeat (first | assumption | exact At.set_eq2 (by first | omega | (simp only [hset, hnew]; omega) | rfl | decide) | exact At.new_eq2 _ _ (by first | omega | (simp only [hset, hnew]; omega) | rfl | decide) | refine At.set_ne ?_ (by first | omega | (simp only [hset, hnew]; omega) | rfl | decide) | refine At.new_ne ?_)))) (hv := rfl) (r := ?_)
  refine tX6_lidLine_36 (hd := (by omega)) (ha := (by first | assumption | (repeat (first | assumption | exact At.set_eq2 (by first | omega | (simp only [hset, hnew]; omega) | rfl | decide) | exact At.new_eq2 _ _ (by first | omega | (simp only [hset, hnew]; omega) | rfl | decide) | refine At.set_ne ?_ (by first | omega | (simp only [hset, hnew]; omega) | rfl | decide) | refine At.new_ne ?_)))) (call := s_tkValue (d := 0) tx1 (by omega)) (k := ?_)
  rintro x_ h_ ⟨hx_, e_⟩
  rw [e_, hx_]
  refine tX6_lidLine_39  (r := ?_)
  exact s_ri40 hd hvv rc1

set_option maxHeartbeats 4000000 in
set_option maxRecDepth 100000 in
theorem s_rlidl (hd : 43 ≤ d) (rc : Rc h0 h r dr K s) : RQ G mX6_lidLine d 0 [some (.ref r), none, none, none, none, none] [] h (Rv fun h1 => Rc h0 h1 r dr K (ilP K s)) := by
  obtain ⟨⟨ea, a0⟩, tx, bx, sq, l1, l2, l3, l4⟩ := id rc
  have z0 := a0.1
  have b0 := bx.1
  have t0 := tx.1
  have hk43 := kdP_lt rc
  refine tX6_lidLine_0  (r := ?_)
  refine tX6_lidLine_1  (r := ?_)
  refine tX6_lidLine_4 (hd := (by omega)) (ha := (by first | assumption | (repeat (first | assumption | exact At.set_eq2 (by first | omega | (simp only [hset, hnew]; omega) | rfl | decide) | exact At.new_eq2 _ _ (by first | omega | (simp only [hset, hnew]; omega) | rfl | decide) | refine At.set_ne ?_ (by first | omega | (simp only [hset, hnew]; omega) | rfl | decide) | refine At.new_ne ?_)))) (call := s_rtake (d := 1) (by omega) rc (w := 5) (by decide) (by decide)) (k := ?_)
  intro h1 rc1
  obtain ⟨⟨ea1, a1⟩, tx1, bx1, sq1, l11, l21, l31, l41⟩ := id rc1
  have hk431 := kdP_lt rc1
  have t_1 := tx1.1
  have b_1 := bx1.1
  have hbl : bLi (pBk (tkP K 5 s)) ≤ 6 := bx1.2.2.2.2.2.2.2.2.2.2.2
  have hbl2 : bLi (pDf (tkP K 5 s)).1 ≤ 6 := bx1.2.2.2.2.2.2.2.2.2.2.2
  refine tX6_lidLine_7  (r := ?_)
  refine tX6_lidLine_8  (r := ?_)
  refine tX6_lidLine_9 (ha := (by first | assumption | (repeat (first | assumption | exact At.set_eq2 (by first | omega | (simp only [hset, hnew]; omega) | rfl | decide) | exact At.new_eq2 _ _ (by first | omega | (simp only [hset, hnew]; omega) | rfl | decide) | refine At.set_ne ?_ (by first | omega | (simp only [hset, hnew]; omega) | rfl | decide) | refine At.new_ne ?_)))) (hv := rfl) (r := ?_)
  refine tX6_lidLine_12 (ha := (by first | assumption | (repeat (first | assumption | exact At.set_eq2 (by first | omega | (simp only [hset, hnew]; omega) | rfl | decide) | exact At.new_eq2 _ _ (by first | omega | (simp only [hset, hnew]; omega) | rfl | decide) | refine At.set_ne ?_ (by first | omega | (simp only [hset, hnew]; omega) | rfl | decide) | refine At.new_ne ?_)))) (hv := rfl) (r := ?_)
  refine tX6_lidLine_15  (r := ?_)
  refine tX6_lidLine_17  (kt := fun c_17 => ?_) (kf := fun c_17 => ?_)
  · have f0 : decide (6 ≤ bLi (pBk (tkP K 5 s))) = false := decide_eq_false (Nat.not_le.mpr ((nI_ltI (by omega) (by decide)).mp c_17))
    refine tX6_lidLine_24  (r := ?_)
    have key := s_ri25 (G := G) (d := d) (by omega) (f := decide (6 ≤ bLi (pBk (tkP K 5 s)))) rc1
    rw [show (if decide (6 ≤ bLi (pBk (tkP K 5 s))) = true then nI 1 else nI 0) = nI 0 from if_neg (by rw [f0]; decide)] at key
    exact key
  · have f0 : decide (6 ≤ bLi (pBk (tkP K 5 s))) = true := decide_eq_true (Nat.le_of_not_lt (fun z => c_17 ((nI_ltI (by omega) (by decide)).mpr z)))
    refine tX6_lidLine_20  (r := ?_)
    refine tX6_lidLine_21 (r := ?_)
    have key := s_ri25 (G := G) (d := d) (by omega) (f := decide (6 ≤ bLi (pBk (tkP K 5 s)))) rc1
    rw [show (if decide (6 ≤ bLi (pBk (tkP K 5 s))) = true then nI 1 else nI 0) = nI 1 from if_pos f0] at key
    exact key

end REL
