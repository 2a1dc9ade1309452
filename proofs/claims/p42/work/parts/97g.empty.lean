/-! the class empties its draft and reads a book -/
section RGG
variable {G : GT} {d : Nat} {h : AH}
theorem RQ.gen {M : MI} {pc : Nat} {L : List (Option Value)} {S : List Value} {P : OC → AH → Prop} {h1 : AH} (Q : AH → Prop) (q : Q h1) (k : ∀ H, Q H → RQ G M d pc L S H P) : RQ G M d pc L S h1 P := k h1 q

set_option maxHeartbeats 4000000 in
set_option maxRecDepth 100000 in
theorem s_sempty {b : Nat} {st ru ac : Int32} (a0 : At h b (ScO b st ru ac)) : RQ G mX7_empty d 0 [some (.ref b)] [] h (Rv fun h1 => At h1 b (ScO b (nI 0) (nI 0) (nI 0)) ∧ Sm h h1 b (b + 1)) := by
  have z0 := a0.1
  refine tX7_empty_0  (r := ?_)
  refine tX7_empty_1  (r := ?_)
  refine tX7_empty_2 (ha := (by first | assumption | (repeat (first | assumption | exact At.set_eq2 (by first | omega | (simp only [hset, hnew]; omega) | rfl | decide) | exact At.new_eq2 _ _ (by first | omega | (simp only [hset, hnew]; omega) | rfl | decide) | refine At.set_ne ?_ (by first | omega | (simp only [hset, hnew]; omega) | rfl | decide) | refine At.new_ne ?_)))) (hlen := rfl) (r := ?_)
  refine tX7_empty_5  (r := ?_)
  refine tX7_empty_6  (r := ?_)
  refine tX7_empty_7 (ha := (by first | assumption | (repeat (first | assumption | exact At.set_eq2 (by first | omega | (simp only [hset, hnew]; omega) | rfl | decide) | exact At.new_eq2 _ _ (by first | omega | (simp only [hset, hnew]; omega) | rfl | decide) | refine At.set_ne ?_ (by first | omega | (simp only [hset, hnew]; omega) | rfl | decide) | refine At.new_ne ?_)))) (hlen := rfl) (r := ?_)
  refine tX7_empty_10  (r := ?_)
  refine tX7_empty_11  (r := ?_)
  refine tX7_empty_12 (ha := (by first | assumption | (repeat (first | assumption | exact At.set_eq2 (by first | omega | (simp only [hset, hnew]; omega) | rfl | decide) | exact At.new_eq2 _ _ (by first | omega | (simp only [hset, hnew]; omega) | rfl | decide) | refine At.set_ne ?_ (by first | omega | (simp only [hset, hnew]; omega) | rfl | decide) | refine At.new_ne ?_)))) (hlen := rfl) (r := ?_)
  refine tX7_empty_15  (hP := ?_)
  refine RvS (h := h) (lo := b) (hi := b + 1) ((((Sm.rf h b (b + 1)).set (by omega) (by omega)).set (by omega) (by omega)).set (by omega) (by omega)) (fun sm => ⟨At.set_eq2 z0, sm⟩)

/-- a draft's cells before it is emptied: what stays of them -/
def CuW (h : AH) (c : Nat) (w O : Nat → Nat) : Prop := ∃ (jf : Nat → Option Nat) (lj fo le : Nat → Int32), At h c (CupO c 0) ∧ At h (c + 1) (.inl (3, 8, .inr (.inr (.inr (.inr jf))))) ∧ At h (c + 2) (.inl (0, 6, .inl lj)) ∧ At h (c + 3) (.inl (0, 6, .inl fo)) ∧ At h (c + 4) (.inl (0, 6, .inl le)) ∧ (∀ i, i < 8 → jf i = some (c + 5 + 5 * i)) ∧ (∀ i, i < 6 → lj i = nI (O i) ∧ O i < 8) ∧ (∀ i, i < 6 → fo i = -1 ∧ le i = nI i) ∧ ∀ i, i < 8 → JaW h (c + 5 + 5 * i) (w i)
def BkW (h : AH) (b : Nat) (w te tn ae O : Nat → Nat) : Prop := (∃ la ja li, At h b (BooO b la ja li)) ∧ ArJ h (b + 1) 6 ∧ ArJ h (b + 2) 8 ∧ ArJ h (b + 3) 6 ∧ ArI h (b + 4) 6 ∧ ArI h (b + 5) 6 ∧ ArI h (b + 6) 6 ∧ CuW h (b + 7) w O ∧ (∃ st ru ac, At h (b + 52) (ScO (b + 52) st ru ac)) ∧ ArK h (b + 52 + 1) 400 ∧ ArI h (b + 52 + 2) 400 ∧ NiX h (b + 52 + 3) 24 24 te ∧ NiX h (b + 52 + 4) 24 24 tn ∧ NiX h (b + 52 + 5) 24 24 ae
theorem NiX.any {a n : Nat} (q : ArI h a n) : ∃ f : Nat → Nat, NiX h a n n f := by
  obtain ⟨g, a0⟩ := q
  obtain ⟨f, hf⟩ := Classical.skolem.mp (fun k => nI_any (g k))
  exact ⟨f, g, a0, fun k _ => (hf k).symm⟩
theorem CupS.W {c : Nat} (q : CupS h c) : ∃ w O : Nat → Nat, (∀ j, w j < 3) ∧ CuW h c w O := by
  obtain ⟨jf, lj, fo, le, a0, a1, a2, a3, a4, b1, b2, b3, b4⟩ := q
  obtain ⟨O, hO⟩ := Classical.skolem.mp (fun i => show ∃ x, i < 6 → lj i = nI x ∧ x < 8 from by
    by_cases z : i < 6
    · obtain ⟨j, j1, j2⟩ := b2 i z
      exact ⟨j, fun _ => ⟨j2, j1⟩⟩
    · exact ⟨0, fun y => absurd y z⟩)
  obtain ⟨w, hw⟩ := Classical.skolem.mp (fun i => show ∃ x, x < 3 ∧ (i < 8 → JaW h (c + 5 + 5 * i) x) from by
    by_cases z : i < 8
    · obtain ⟨b, p, w, l, se, wy, tu, fi, ma, co, hwy, jc⟩ := b4 i z
      refine ⟨wy - 24, by omega, fun _ => ⟨b, p, w, l, se, tu, fi, ma, co, ?_⟩⟩
      rw [show 24 + (wy - 24) = wy from by omega]
      exact jc
    · exact ⟨0, by decide, fun y => absurd y z⟩)
  exact ⟨w, O, fun j => (hw j).1, jf, lj, fo, le, a0, a1, a2, a3, a4, b1, hO, b3, fun i hi => (hw i).2 hi⟩
theorem BookE.W {b : Nat} {la ja li : Int32} (q : BookE h b la ja li) : ∃ w te tn ae O : Nat → Nat, (∀ j, w j < 3) ∧ BkW h b w te tn ae O := by
  obtain ⟨a0, a1, a2, a3, a4, a5, a6, a7, ⟨s0, s1, s2, s3, s4, s5⟩⟩ := q
  obtain ⟨w, O, hw, cw⟩ := a7.W
  obtain ⟨te, x3⟩ := NiX.any s3
  obtain ⟨tn, x4⟩ := NiX.any s4
  obtain ⟨ae, x5⟩ := NiX.any s5
  exact ⟨w, te, tn, ae, O, hw, ⟨la, ja, li, a0⟩, a1, a2, a3, a4, a5, a6, cw, s0, s1, s2, x3, x4, x5⟩
theorem ArI.sm {h1 : AH} {a n lo hi : Nat} (q : ArI h a n) (sm : Sm h h1 lo hi) (e : a < lo ∨ hi ≤ a) : ArI h1 a n := ⟨q.choose, sm.at q.choose_spec e⟩
theorem ArJ.sm {h1 : AH} {a n lo hi : Nat} (q : ArJ h a n) (sm : Sm h h1 lo hi) (e : a < lo ∨ hi ≤ a) : ArJ h1 a n := ⟨q.choose, sm.at q.choose_spec e⟩
theorem ArK.sm {h1 : AH} {a n lo hi : Nat} (q : ArK h a n) (sm : Sm h h1 lo hi) (e : a < lo ∨ hi ≤ a) : ArK h1 a n := ⟨q.choose, sm.at q.choose_spec e⟩
theorem CuW.sm {h1 : AH} {c lo hi : Nat} {w O : Nat → Nat} (q : CuW h c w O) (sm : Sm h h1 lo hi) (e : c + 45 ≤ lo ∨ hi ≤ c) : CuW h1 c w O := by
  obtain ⟨jf, lj, fo, le, a0, a1, a2, a3, a4, b1, b2, b3, b4⟩ := q
  exact ⟨jf, lj, fo, le, sm.at a0 (by omega), sm.at a1 (by omega), sm.at a2 (by omega), sm.at a3 (by omega), sm.at a4 (by omega), b1, b2, b3, fun i hi => (b4 i hi).sm sm (by omega)⟩
theorem BkW.sm {h1 : AH} {b lo hi : Nat} {w te tn ae O : Nat → Nat} (q : BkW h b w te tn ae O) (sm : Sm h h1 lo hi) (e : b + 58 ≤ lo ∨ hi ≤ b) : BkW h1 b w te tn ae O := by
  obtain ⟨⟨la, ja, li, a0⟩, a1, a2, a3, a4, a5, a6, a7, ⟨st, ru, ac, s0⟩, s1, s2, s3, s4, s5⟩ := q
  exact ⟨⟨la, ja, li, sm.at a0 (by omega)⟩, a1.sm sm (by omega), a2.sm sm (by omega), a3.sm sm (by omega), a4.sm sm (by omega), a5.sm sm (by omega), a6.sm sm (by omega), a7.sm sm (by omega), ⟨st, ru, ac, sm.at s0 (by omega)⟩, s1.sm sm (by omega), s2.sm sm (by omega), s3.sm sm (by omega), s4.sm sm (by omega), s5.sm sm (by omega)⟩
theorem BkW.room {b : Nat} {w te tn ae O : Nat → Nat} (q : BkW h b w te tn ae O) : b + 58 ≤ h.1 := by
  obtain ⟨-, -, -, -, -, -, -, -, -, -, -, -, -, ⟨f, a, -⟩⟩ := q
  have := a.1
  omega

set_option maxHeartbeats 4000000 in
set_option maxRecDepth 100000 in
theorem s_cempty (hd : 1 ≤ d) {c : Nat} {w O : Nat → Nat} (w3 : ∀ j, w j < 3) (q : CuW h c w O) : RQ G mX3_empty d 0 [some (.ref c), none] [] h (Rv fun h1 => CuN h1 c (fun _ => 0) w (fun _ _ => 0) O ∧ Sm h h1 c (c + 45)) := by
  obtain ⟨jf, lj, fo, le, a0, a1, a2, a3, a4, b1, b2, b3, b4⟩ := q
  refine tX3_empty_0  (r := ?_)
  refine tX3_empty_1  (r := ?_)
  refine RQ.imp (s_cempty_l hd b1 a0 a1 8 0 h (by omega) (by omega) (fun j hj => ⟨fun z => absurd z (Nat.not_lt_zero j), b4 j hj⟩) (Sm.rf _ _ _)) ?_
  rintro o_ h_ ⟨e_, jn_, sm_⟩
  exact ⟨e_, ⟨jf, lj, fo, le, sm_.at a0 (by omega), sm_.at a1 (by omega), sm_.at a2 (by omega), sm_.at a3 (by omega), sm_.at a4 (by omega), b1, b2, b3, fun i hi => ⟨jn_ i hi, w3 i⟩⟩, sm_.sub (by omega) (by omega)⟩

set_option maxHeartbeats 4000000 in
set_option maxRecDepth 100000 in
theorem s_bempty (hd : 3 ≤ d) {b : Nat} {w te tn ae O : Nat → Nat} (w3 : ∀ j, w j < 3) (q : BkW h b w te tn ae O) : RQ G mX1_empty d 0 [some (.ref b)] [] h (Rv fun h1 => BoX h1 b (dfZ w te tn ae O) ∧ Sm h h1 b (b + 58)) := by
  obtain ⟨⟨la, ja, li, a0⟩, a1, a2, a3, a4, a5, a6, a7, ⟨st, ru, ac, s0⟩, s1, s2, s3, s4, s5⟩ := q
  have z0 := a0.1
  refine tX1_empty_0  (r := ?_)
  refine tX1_empty_1  (r := ?_)
  refine tX1_empty_2 (ha := (by first | assumption | (repeat (first | assumption | exact At.set_eq2 (by first | omega | (simp only [hset, hnew]; omega) | rfl | decide) | exact At.new_eq2 _ _ (by first | omega | (simp only [hset, hnew]; omega) | rfl | decide) | refine At.set_ne ?_ (by first | omega | (simp only [hset, hnew]; omega) | rfl | decide) | refine At.new_ne ?_)))) (hlen := rfl) (r := ?_)
  refine tX1_empty_5  (r := ?_)
  refine tX1_empty_6  (r := ?_)
  refine tX1_empty_7 (ha := (by first | assumption | (repeat (first | assumption | exact At.set_eq2 (by first | omega | (simp only [hset, hnew]; omega) | rfl | decide) | exact At.new_eq2 _ _ (by first | omega | (simp only [hset, hnew]; omega) | rfl | decide) | refine At.set_ne ?_ (by first | omega | (simp only [hset, hnew]; omega) | rfl | decide) | refine At.new_ne ?_)))) (hlen := rfl) (r := ?_)
  refine tX1_empty_10  (r := ?_)
  refine tX1_empty_11  (r := ?_)
  refine tX1_empty_12 (ha := (by first | assumption | (repeat (first | assumption | exact At.set_eq2 (by first | omega | (simp only [hset, hnew]; omega) | rfl | decide) | exact At.new_eq2 _ _ (by first | omega | (simp only [hset, hnew]; omega) | rfl | decide) | refine At.set_ne ?_ (by first | omega | (simp only [hset, hnew]; omega) | rfl | decide) | refine At.new_ne ?_)))) (hlen := rfl) (r := ?_)
  refine RQ.gen (fun H => At H b (BooO b (nI 0) (nI 0) (nI 0)) ∧ Sm h H b (b + 1)) ⟨At.set_eq2 z0, (((Sm.rf h b (b + 1)).set (by omega) (by omega)).set (by omega) (by omega)).set (by omega) (by omega)⟩ (fun H hq => ?_)
  obtain ⟨x0, smA⟩ := hq
  have c7 := a7.sm smA (by omega)
  obtain ⟨jf, lj, fo, le, c0, -⟩ := id c7
  refine tX1_empty_15  (r := ?_)
  refine tX1_empty_16 (ha := (by first | assumption | (repeat (first | assumption | exact At.set_eq2 (by first | omega | (simp only [hset, hnew]; omega) | rfl | decide) | exact At.new_eq2 _ _ (by first | omega | (simp only [hset, hnew]; omega) | rfl | decide) | refine At.set_ne ?_ (by first | omega | (simp only [hset, hnew]; omega) | rfl | decide) | refine At.new_ne ?_)))) (hv := rfl) (r := ?_)
  refine tX1_empty_19 (hd := (by omega)) (ha := (by first | assumption | (repeat (first | assumption | exact At.set_eq2 (by first | omega | (simp only [hset, hnew]; omega) | rfl | decide) | exact At.new_eq2 _ _ (by first | omega | (simp only [hset, hnew]; omega) | rfl | decide) | refine At.set_ne ?_ (by first | omega | (simp only [hset, hnew]; omega) | rfl | decide) | refine At.new_ne ?_)))) (call := s_cempty (d := 2) (by omega) w3 c7) (k := ?_)
  intro H2 q2
  obtain ⟨cn, smB⟩ := q2
  have x1 := smB.at x0 (by omega)
  have t0 := smB.at (smA.at s0 (by omega)) (by omega)
  refine tX1_empty_22  (r := ?_)
  refine tX1_empty_23 (ha := (by first | assumption | (repeat (first | assumption | exact At.set_eq2 (by first | omega | (simp only [hset, hnew]; omega) | rfl | decide) | exact At.new_eq2 _ _ (by first | omega | (simp only [hset, hnew]; omega) | rfl | decide) | refine At.set_ne ?_ (by first | omega | (simp only [hset, hnew]; omega) | rfl | decide) | refine At.new_ne ?_)))) (hv := rfl) (r := ?_)
  refine tX1_empty_26 (hd := (by omega)) (ha := (by first | assumption | (repeat (first | assumption | exact At.set_eq2 (by first | omega | (simp only [hset, hnew]; omega) | rfl | decide) | exact At.new_eq2 _ _ (by first | omega | (simp only [hset, hnew]; omega) | rfl | decide) | refine At.set_ne ?_ (by first | omega | (simp only [hset, hnew]; omega) | rfl | decide) | refine At.new_ne ?_)))) (call := s_sempty (d := 2) t0) (k := ?_)
  intro H3 q3
  obtain ⟨t1, smC⟩ := q3
  refine tX1_empty_29  (hP := ?_)
  have sm : Sm h H3 b (b + 58) := ((smA.sub (by omega) (by omega)).trans (smB.sub (by omega) (by omega))).trans (smC.sub (by omega) (by omega))
  have kj : ∀ (i n : Nat) (f : Nat → Nat), ArJ h (b + 1 + i) n → i < 3 → NaX H3 (b + 1 + i) n 0 f := fun i n f a hi => by
    obtain ⟨g, z⟩ := ((a.sm smA (by omega)).sm smB (by omega)).sm smC (by omega)
    exact ⟨g, z, fun k hk => absurd hk (Nat.not_lt_zero k)⟩
  have ki : ∀ (i n : Nat) (f : Nat → Nat), ArI h (b + 4 + i) n → i < 3 → NiX H3 (b + 4 + i) n 0 f := fun i n f a hi => by
    obtain ⟨g, z⟩ := ((a.sm smA (by omega)).sm smB (by omega)).sm smC (by omega)
    exact ⟨g, z, fun k hk => absurd hk (Nat.not_lt_zero k)⟩
  obtain ⟨g1, y1⟩ := ((s1.sm smA (by omega)).sm smB (by omega)).sm smC (by omega)
  obtain ⟨g2, y2⟩ := ((s2.sm smA (by omega)).sm smB (by omega)).sm smC (by omega)
  exact ⟨rfl, ⟨smC.at x1 (by omega), kj 0 6 _ a1 (by omega), kj 1 8 _ a2 (by omega), kj 2 6 _ a3 (by omega), ki 0 6 _ a4 (by omega), ki 1 6 _ a5 (by omega), ki 2 6 _ a6 (by omega), cn.sm smC (by omega), ⟨t1, ⟨g1, y1, fun k hk => absurd hk (Nat.not_lt_zero k)⟩, ⟨g2, y2, fun k hk => absurd hk (Nat.not_lt_zero k)⟩, ((s3.sm smA (by omega)).sm smB (by omega)).sm smC (by omega), ((s4.sm smA (by omega)).sm smB (by omega)).sm smC (by omega), ((s5.sm smA (by omega)).sm smB (by omega)).sm smC (by omega), Nat.zero_le _, Nat.zero_le _, Nat.zero_le _⟩, Nat.zero_le _, Nat.zero_le _, Nat.zero_le _⟩, sm⟩

theorem Sq.of {h1 : AH} {r dr : Nat} (sm : Sm h h1 r (r + 1)) (e : r < dr) (e2 : dr ≤ h.1) : Sq h h1 r dr := ⟨sm.1, sm.2.1, sm.2.2.1, sm.2.2.2.sub (Nat.le_refl _) e2, sm.2.2.2.sub (by omega) (Nat.le_refl _)⟩

set_option maxHeartbeats 4000000 in
set_option maxRecDepth 100000 in
theorem s_read (hd : 70 ≤ d) {tp r dr : Nat} {T : List Nat} {w te tn ae O : Nat → Nat} (w3 : ∀ j, w j < 3) (ta : TaR h tp T) (re : ReaE h r dr) (bw : BkW h dr w te tn ae O) (e1 : r + 5 ≤ dr) (e2 : tp + 2 ≤ r) {s : PST} (es : s = lsP (tkK T) 400 (0, 0, 0, dfZ w te tn ae O)) : RQ G mX6_read d 0 [some (.ref r), some (.ref tp), none] [] h (Ri fun v h1 => v = nI (pEr s) ∧ pEr s ≤ 5 ∧ (∃ et : Int32, At h1 r (ReaO r dr (nI (pPo s)) (kdP (tkK T) s) (nI (pEr s)) et (if pEr s = 0 then (-1 : Int32) else nI (ssT (tkK T) (pEt s))))) ∧ kdP (tkK T) s < 43 ∧ TkX h1 (r + 1) (tkK T) ∧ BoX h1 dr (pDf s) ∧ h1.1 = h.1 ∧ h1.2.1 = h.2.1 ∧ Un h h1 0 r ∧ Un h h1 (r + 5) dr ∧ Un h h1 (dr + 58) h.1) := by
  obtain ⟨⟨ne, kd, er, et, ea, kd43, a0⟩, te0⟩ := re
  obtain ⟨c0, k0⟩ := te0.1
  have z0 := a0.1
  have room := bw.room
  refine tX6_read_0  (r := ?_)
  refine tX6_read_1 (ha := (by first | assumption | (repeat (first | assumption | exact At.set_eq2 (by first | omega | (simp only [hset, hnew]; omega) | rfl | decide) | exact At.new_eq2 _ _ (by first | omega | (simp only [hset, hnew]; omega) | rfl | decide) | refine At.set_ne ?_ (by first | omega | (simp only [hset, hnew]; omega) | rfl | decide) | refine At.new_ne ?_)))) (hv := rfl) (r := ?_)
  refine tX6_read_4  (r := ?_)
  refine tX6_read_5 (hd := (by omega)) (ha := (by first | assumption | (repeat (first | assumption | exact At.set_eq2 (by first | omega | (simp only [hset, hnew]; omega) | rfl | decide) | exact At.new_eq2 _ _ (by first | omega | (simp only [hset, hnew]; omega) | rfl | decide) | refine At.set_ne ?_ (by first | omega | (simp only [hset, hnew]; omega) | rfl | decide) | refine At.new_ne ?_)))) (call := s_readFrom (d := 60) (by omega) ta (Or.inl (by omega)) te0) (k := ?_)
  intro H1 q1
  obtain ⟨tx1, sm1⟩ := q1
  have a1 := sm1.at a0 (by omega)
  have b1 := bw.sm sm1 (by omega)
  obtain ⟨la, ja, li, b0⟩ := b1.1
  refine tX6_read_8  (r := ?_)
  refine tX6_read_9 (ha := (by first | assumption | (repeat (first | assumption | exact At.set_eq2 (by first | omega | (simp only [hset, hnew]; omega) | rfl | decide) | exact At.new_eq2 _ _ (by first | omega | (simp only [hset, hnew]; omega) | rfl | decide) | refine At.set_ne ?_ (by first | omega | (simp only [hset, hnew]; omega) | rfl | decide) | refine At.new_ne ?_)))) (hv := rfl) (r := ?_)
  refine tX6_read_12 (hd := (by omega)) (ha := (by first | assumption | (repeat (first | assumption | exact At.set_eq2 (by first | omega | (simp only [hset, hnew]; omega) | rfl | decide) | exact At.new_eq2 _ _ (by first | omega | (simp only [hset, hnew]; omega) | rfl | decide) | refine At.set_ne ?_ (by first | omega | (simp only [hset, hnew]; omega) | rfl | decide) | refine At.new_ne ?_)))) (call := s_bempty (d := 60) (by omega) w3 b1) (k := ?_)
  intro H2 q2
  obtain ⟨bx2, sm2⟩ := q2
  have a2 := sm2.at a1 (by omega)
  have tx2 := tx1.sm sm2 (by omega)
  have z2 := a2.1
  refine tX6_read_15  (r := ?_)
  refine tX6_read_16  (r := ?_)
  refine tX6_read_17 (ha := (by first | assumption | (repeat (first | assumption | exact At.set_eq2 (by first | omega | (simp only [hset, hnew]; omega) | rfl | decide) | exact At.new_eq2 _ _ (by first | omega | (simp only [hset, hnew]; omega) | rfl | decide) | refine At.set_ne ?_ (by first | omega | (simp only [hset, hnew]; omega) | rfl | decide) | refine At.new_ne ?_)))) (hlen := rfl) (r := ?_)
  refine tX6_read_20  (r := ?_)
  refine tX6_read_21  (r := ?_)
  refine tX6_read_22 (ha := (by first | assumption | (repeat (first | assumption | exact At.set_eq2 (by first | omega | (simp only [hset, hnew]; omega) | rfl | decide) | exact At.new_eq2 _ _ (by first | omega | (simp only [hset, hnew]; omega) | rfl | decide) | refine At.set_ne ?_ (by first | omega | (simp only [hset, hnew]; omega) | rfl | decide) | refine At.new_ne ?_)))) (hlen := rfl) (r := ?_)
  refine RQ.gen (fun H => At H r (ReaO r dr (nI 0) kd (nI 0) et ea) ∧ Sm H2 H r (r + 1)) ⟨At.set_eq2 z2, ((Sm.rf H2 r (r + 1)).set (by omega) (by omega)).set (by omega) (by omega)⟩ (fun H3 hq => ?_)
  obtain ⟨a3, sm3⟩ := hq
  have tx3 := tx2.sm sm3 (by omega)
  have t3 := tx3.1
  have z3 := a3.1
  refine tX6_read_25  (r := ?_)
  refine tX6_read_26  (r := ?_)
  refine tX6_read_27 (ha := (by first | assumption | (repeat (first | assumption | exact At.set_eq2 (by first | omega | (simp only [hset, hnew]; omega) | rfl | decide) | exact At.new_eq2 _ _ (by first | omega | (simp only [hset, hnew]; omega) | rfl | decide) | refine At.set_ne ?_ (by first | omega | (simp only [hset, hnew]; omega) | rfl | decide) | refine At.new_ne ?_)))) (hv := rfl) (r := ?_)
  refine tX6_read_30  (r := ?_)
  refine tX6_read_31 (hd := (by omega)) (ha := (by first | assumption | (repeat (first | assumption | exact At.set_eq2 (by first | omega | (simp only [hset, hnew]; omega) | rfl | decide) | exact At.new_eq2 _ _ (by first | omega | (simp only [hset, hnew]; omega) | rfl | decide) | refine At.set_ne ?_ (by first | omega | (simp only [hset, hnew]; omega) | rfl | decide) | refine At.new_ne ?_)))) (call := s_tkKind (d := 60) tx3 (p := 0) (by decide)) (k := ?_)
  rintro x_ h_ ⟨hx_, e_⟩
  rw [e_, hx_]
  refine tX6_read_34 (ha := (by first | assumption | (repeat (first | assumption | exact At.set_eq2 (by first | omega | (simp only [hset, hnew]; omega) | rfl | decide) | exact At.new_eq2 _ _ (by first | omega | (simp only [hset, hnew]; omega) | rfl | decide) | refine At.set_ne ?_ (by first | omega | (simp only [hset, hnew]; omega) | rfl | decide) | refine At.new_ne ?_)))) (hlen := rfl) (r := ?_)
  refine tX6_read_37  (r := ?_)
  refine tX6_read_38  (r := ?_)
  have rm2 : H2.1 = h.1 := sm2.1.trans sm1.1
  have smR := (Sm.rf H3 r (r + 1)).set (i := r) (c := ReaO r dr (nI 0) (kdT (tkK T) 0) (nI 0) et ea) (by omega) (by omega)
  have ek : kdP (tkK T) (0, 0, 0, dfZ w te tn ae O) = kdT (tkK T) 0 := if_neg (show ¬ (0 : Nat) = 1 by decide)
  have rc0 : Rc H2 (hset H3 r (ReaO r dr (nI 0) (kdT (tkK T) 0) (nI 0) et ea)) r dr (tkK T) (0, 0, 0, dfZ w te tn ae O) := by
    refine ⟨⟨(ea, et), ?_⟩, tx3.sm smR (by omega), (bx2.sm sm3 (by omega)).sm smR (by omega), (Sq.of sm3 (by omega) (by omega)).setR (by omega), Nat.zero_le _, Nat.zero_le _, e1, Nat.zero_le _⟩
    rw [ek]
    exact At.set_eq2 z3
  refine s_rd39 (h0 := H2) (t := (0, 0, 0, dfZ w te tn ae O)) (by omega) (fun h1 s1 x2 rc es1 => ?_) 400 0 _ (0, 0, 0, dfZ w te tn ae O) rfl rfl rc0
  rw [← es] at es1
  subst es1
  refine RQ.imp (s_rd115 (by omega) rc) ?_
  rintro o_ hh ⟨v, ev, hv, et9, tx9, bx9, sq9⟩
  obtain ⟨g1, g2, g3, g4, g5⟩ := sq9
  refine ⟨v, ev, hv, rc.2.2.2.2.2.1, et9, kdP_lt rc, tx9, bx9, g1.trans rm2, g2.trans (sm2.2.1.trans sm1.2.1), ?_, ?_, ?_⟩
  · exact ((sm1.un (Or.inl (by omega)) (by omega)).trans (sm2.un (Or.inl (by omega)) (by rw [sm1.1]; omega))).trans g3
  · exact ((sm1.un (Or.inr (by omega)) (by omega)).trans (sm2.un (Or.inl (by omega)) (by rw [sm1.1]; omega))).trans (g4.sub (by omega) (Nat.le_refl _))
  · exact ((sm1.un (Or.inr (by omega)) (by omega)).trans (sm2.un (Or.inr (by omega)) (by rw [sm1.1]; omega))).trans (g5.sub (Nat.le_refl _) (by rw [rm2]; omega))

end RGG
