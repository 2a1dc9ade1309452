/-! the class's teach -/
section RTH
variable {G : GT} {d : Nat} {h : AH}
theorem CuN.R {c : Nat} {B : BK} {E : Nat → Nat → Nat} {O : Nat → Nat} (q : CuN h c (bSe B) (bWy B) E O) : CuR h c B (0, E, O, fun _ => none) := by
  obtain ⟨jf, lj, fo, le, a0, a1, a2, a3, a4, b1, b2, b3, b4⟩ := q
  refine ⟨jf, lj, fo, le, a0, a1, a2, a3, a4, b1, fun i hi => (b2 i hi).1, fun i hi => (b3 i hi).1, fun i hi => (b3 i hi).2, fun i hi => ?_⟩
  obtain ⟨⟨bf, p, w, l, tu, fi, ma, jc, hbf⟩, -⟩ := b4 i hi
  exact ⟨bf, p, w, l, tu, fi, ma, nI 0, jc, hbf, Or.inl rfl⟩
theorem CuN.S {c : Nat} {se wy : Nat → Nat} {E : Nat → Nat → Nat} {O : Nat → Nat} (q : CuN h c se wy E O) : CupS h c := by
  obtain ⟨jf, lj, fo, le, a0, a1, a2, a3, a4, b1, b2, b3, b4⟩ := q
  refine ⟨jf, lj, fo, le, a0, a1, a2, a3, a4, b1, fun i hi => ⟨O i, (b2 i hi).2, (b2 i hi).1⟩, b3, fun i hi => ?_⟩
  obtain ⟨⟨bf, p, w, l, tu, fi, ma, jc, hbf⟩, w3⟩ := b4 i hi
  exact ⟨bf, p, w, l, nI (se i), 24 + wy i, tu, fi, ma, nI 0, ⟨by omega, by omega⟩, jc⟩
theorem NaX.J {a n c : Nat} {f : Nat → Nat} (q : NaX h a n c f) : ArJ h a n := ⟨q.choose, q.choose_spec.1⟩
theorem NiX.I {a n c : Nat} {f : Nat → Nat} (q : NiX h a n c f) : ArI h a n := ⟨q.choose, q.choose_spec.1⟩
theorem NkX.K {a n c : Nat} {f : Nat → Nat} (q : NkX h a n c f) : ArK h a n := ⟨q.choose, q.choose_spec.1⟩
theorem BoX.E {b : Nat} {D : DRF} (q : BoX h b D) : BookE h b (nI (bLa D.1)) (nI (bJa D.1)) (nI (bLi D.1)) := by
  obtain ⟨a0, a1, a2, a3, a4, a5, a6, a7, ⟨s0, s1, s2, s3, s4, s5, -⟩, -⟩ := q
  exact ⟨a0, a1.J, a2.J, a3.J, a4.I, a5.I, a6.I, a7.S, ⟨_, _, _, s0⟩, s1.K, s2.I, s3.I, s4.I, s5.I⟩
theorem BoX.R {b : Nat} {D : DRF} (q : BoX h b D) : BoR h b D.1 := by
  obtain ⟨a0, a1, a2, a3, a4, a5, a6, a7, ⟨s0, s1, s2, ⟨f3, s3, c3⟩, ⟨f4, s4, c4⟩, ⟨f5, s5, c5⟩, l1, l2, l3⟩, -⟩ := q
  exact ⟨a0, a1.J, a2.J, a3.J, a4, a5, a6, a7.S, ⟨_, _, _, s0, fun _ => rfl⟩, s1, s2, ⟨f3, s3, fun k hk => c3 k (Nat.lt_of_lt_of_le hk l2)⟩, ⟨f4, s4, fun k hk => c4 k (Nat.lt_of_lt_of_le hk l2)⟩, ⟨f5, s5, fun k hk => c5 k (Nat.lt_of_lt_of_le hk l2)⟩⟩
theorem BoR.E {b : Nat} {B : BK} (q : BoR h b B) : BookE h b (nI (bLa B)) (nI (bJa B)) (nI (bLi B)) := by
  obtain ⟨a0, a1, a2, a3, ⟨f4, a4, -⟩, ⟨f5, a5, -⟩, ⟨f6, a6, -⟩, a7, ⟨st, ru, ac, s0, -⟩, ⟨g1, s1, -⟩, ⟨g2, s2, -⟩, ⟨g3, s3, -⟩, ⟨g4, s4, -⟩, ⟨g5, s5, -⟩⟩ := q
  exact ⟨a0, a1, a2, a3, ⟨f4, a4⟩, ⟨f5, a5⟩, ⟨f6, a6⟩, a7, ⟨_, _, _, s0⟩, ⟨g1, s1⟩, ⟨g2, s2⟩, ⟨g3, s3⟩, ⟨g4, s4⟩, ⟨g5, s5⟩⟩
theorem TkX.E {b : Nat} {K : TKS} (q : TkX h b K) : TokE h b := by
  obtain ⟨a0, ⟨f1, a1, -⟩, ⟨f2, a2, -⟩, ⟨f3, a3, -⟩, -⟩ := q
  exact ⟨⟨_, a0⟩, ⟨f1, a1⟩, ⟨f2, a2⟩, ⟨f3, a3⟩⟩

set_option maxHeartbeats 4000000 in
set_option maxRecDepth 100000 in
theorem k_teach (hd : 90 ≤ d) {bk dr : Nat} {s : ST} (c : ClR h 0 bk dr s) (hb : BDok s.2.2.1 s.2.2.2) (hh : 216 ≤ h.1) {w te tn ae O : Nat → Nat} (w3 : ∀ j, w j < 3) (bw : BkW h dr w te tn ae O) {S : PST} (es : S = lsP (tkK s.1) 400 (0, 0, 0, dfZ w te tn ae O)) (iv : pEr S = 0 → BDok (pBk S) (dyN (pDf S))) : RQ G mX10_teach d 0 [some (.ref 0), none] [] h (fun o h1 => o = .inl (some (.int (nI (pEr S)))) ∧ ClR h1 0 (if pEr S = 0 then dr else bk) (if pEr S = 0 then bk else dr) (if pEr S = 0 then ([], -1, pBk S, dyN (pDf S)) else ([], nI (ssT (tkK s.1) (pEt S)), s.2.2.1, s.2.2.2)) ∧ Ch h h1 0 216 0 0) := by
  obtain ⟨a0, ta, re, -, cu, ⟨dy, ce⟩, cam, bo, hbd⟩ := id c
  have ce66 := cu.E hb
  obtain ⟨t0, -, tf, ta2, -⟩ := id ta
  obtain ⟨⟨ne, kd, er, et, ea, k43, r0⟩, te0⟩ := id re
  refine tX10_teach_0  (r := ?_)
  refine tX10_teach_1 (ha := (by first | assumption | (repeat (first | assumption | exact At.set_eq2 (by first | omega | (simp only [hset, hnew]; omega) | rfl | decide) | exact At.new_eq2 _ _ (by first | omega | (simp only [hset, hnew]; omega) | rfl | decide) | refine At.set_ne ?_ (by first | omega | (simp only [hset, hnew]; omega) | rfl | decide) | refine At.new_ne ?_)))) (hv := rfl) (r := ?_)
  refine tX10_teach_4  (r := ?_)
  refine tX10_teach_5 (ha := (by first | assumption | (repeat (first | assumption | exact At.set_eq2 (by first | omega | (simp only [hset, hnew]; omega) | rfl | decide) | exact At.new_eq2 _ _ (by first | omega | (simp only [hset, hnew]; omega) | rfl | decide) | refine At.set_ne ?_ (by first | omega | (simp only [hset, hnew]; omega) | rfl | decide) | refine At.new_ne ?_)))) (hv := rfl) (r := ?_)
  refine tX10_teach_8 (hd := (by omega)) (ha := (by first | assumption | (repeat (first | assumption | exact At.set_eq2 (by first | omega | (simp only [hset, hnew]; omega) | rfl | decide) | exact At.new_eq2 _ _ (by first | omega | (simp only [hset, hnew]; omega) | rfl | decide) | refine At.set_ne ?_ (by first | omega | (simp only [hset, hnew]; omega) | rfl | decide) | refine At.new_ne ?_)))) (call := s_read (d := 80) (by omega) w3 ta re bw (by omega) (by omega) es) (k := ?_)
  rintro v_ H1 ⟨hv_, p5, ⟨et9, r9⟩, k9, tx9, bx9, f1, f2, u1, u2, u3⟩
  rw [hv_]
  have uu : ∀ i, i < h.1 → (i < 3 ∨ 8 ≤ i) → (i < dr ∨ dr + 58 ≤ i) → H1.2.2 i = h.2.2 i := fun i x2 x3 x4 => by
    by_cases y : i < 3
    · exact u1 i (Nat.zero_le _) (by omega)
    · by_cases y2 : i < dr
      · exact u2 i (by omega) y2
      · exact u3 i (by omega) x2
  have c1 : At H1 0 (PolO 0 bk s.2.1) := a0.keep (Nat.le_of_eq f1.symm) (uu _ (by omega) (by omega) (by omega))
  have t1 := t0.keep (Nat.le_of_eq f1.symm) (uu _ (by omega) (by omega) (by omega))
  have z0 := c1.1
  have z1 := t1.1
  refine tX10_teach_11  (r := ?_)
  refine tX10_teach_12  (r := ?_)
  refine tX10_teach_13  (r := ?_)
  refine tX10_teach_14 (ha := (by first | assumption | (repeat (first | assumption | exact At.set_eq2 (by first | omega | (simp only [hset, hnew]; omega) | rfl | decide) | exact At.new_eq2 _ _ (by first | omega | (simp only [hset, hnew]; omega) | rfl | decide) | refine At.set_ne ?_ (by first | omega | (simp only [hset, hnew]; omega) | rfl | decide) | refine At.new_ne ?_)))) (hv := rfl) (r := ?_)
  refine tX10_teach_17 (ha := (by first | assumption | (repeat (first | assumption | exact At.set_eq2 (by first | omega | (simp only [hset, hnew]; omega) | rfl | decide) | exact At.new_eq2 _ _ (by first | omega | (simp only [hset, hnew]; omega) | rfl | decide) | refine At.set_ne ?_ (by first | omega | (simp only [hset, hnew]; omega) | rfl | decide) | refine At.new_ne ?_)))) (hv := rfl) (r := ?_)
  refine tX10_teach_20 (ha := (by first | assumption | (repeat (first | assumption | exact At.set_eq2 (by first | omega | (simp only [hset, hnew]; omega) | rfl | decide) | exact At.new_eq2 _ _ (by first | omega | (simp only [hset, hnew]; omega) | rfl | decide) | refine At.set_ne ?_ (by first | omega | (simp only [hset, hnew]; omega) | rfl | decide) | refine At.new_ne ?_)))) (hlen := rfl) (r := ?_)
  refine tX10_teach_23  (r := ?_)
  refine tX10_teach_24 (ha := (by first | assumption | (repeat (first | assumption | exact At.set_eq2 (by first | omega | (simp only [hset, hnew]; omega) | rfl | decide) | exact At.new_eq2 _ _ (by first | omega | (simp only [hset, hnew]; omega) | rfl | decide) | refine At.set_ne ?_ (by first | omega | (simp only [hset, hnew]; omega) | rfl | decide) | refine At.new_ne ?_)))) (hv := rfl) (r := ?_)
  refine tX10_teach_27  (r := ?_)
  refine tX10_teach_28 (ha := (by first | assumption | (repeat (first | assumption | exact At.set_eq2 (by first | omega | (simp only [hset, hnew]; omega) | rfl | decide) | exact At.new_eq2 _ _ (by first | omega | (simp only [hset, hnew]; omega) | rfl | decide) | refine At.set_ne ?_ (by first | omega | (simp only [hset, hnew]; omega) | rfl | decide) | refine At.new_ne ?_)))) (hlen := rfl) (r := ?_)
  refine RQ.gen (fun H => At H 0 (PolO 0 bk (if pEr S = 0 then (-1 : Int32) else nI (ssT (tkK s.1) (pEt S)))) ∧ At H (0 + 1) (.inr (6, [.ref (0 + 1 + 1), .int (nI 0)])) ∧ Sm H1 H 0 2) ⟨At.set_ne (At.set_eq2 z0) (by omega), At.set_eq2 z1, ((Sm.rf H1 0 2).set (by omega) (by omega)).set (by omega) (by omega)⟩ (fun H hq => ?_)
  obtain ⟨x0, x1, sm⟩ := hq
  have uH : ∀ i, 2 ≤ i → i < h.1 → (i < 3 ∨ 8 ≤ i) → (i < dr ∨ dr + 58 ≤ i) → H.2.2 i = h.2.2 i := fun i x1 x2 x3 x4 => (sm.2.2.2 i x1 (by rw [f1]; exact x2)).trans (uu i x2 x3 x4)
  have eH : h.1 ≤ H.1 := by rw [sm.1, f1]; exact Nat.le_refl _
  have rH := sm.at r9 (by omega)
  have bH := bx9.sm sm (by omega)
  have tH := tx9.sm sm (by omega)
  have fH : At H (0 + 1 + 1) (.inl (1, 1600, .inl tf)) := ta2.keep eH (uH _ (by omega) (by omega) (by omega) (by omega))
  refine tX10_teach_31  (r := ?_)
  refine tX10_teach_32  (kt := fun c_32 => ?_) (kf := fun c_32 => ?_)
  · have e0 : ¬ pEr S = 0 := fun z => c_32 (by rw [z]; rfl)
    refine tX10_teach_64  (r := ?_)
    refine tX10_teach_65  (hP := ?_)
    rw [if_neg e0, if_neg e0, if_neg e0]
    rw [if_neg e0] at x0 rH
    exact ⟨rfl, ⟨x0, ⟨x1, Nat.zero_le _, tf, fH, fun i hi => absurd hi (Nat.not_lt_zero i)⟩, ⟨⟨_, _, _, _, _, k9, rH⟩, tH.E⟩, ⟨_, _, _, bH.E⟩, cu.keep eH (fun i y1 y2 => uH i (by omega) (by omega) (by omega) (by omega)), ⟨dy, ce.keep eH (fun i y1 y2 => uH i (by omega) (by omega) (by omega) (by omega))⟩, cam.keep eH (fun i y1 y2 => uH i (by omega) (by omega) (by omega) (by omega)), bo.keep eH (fun i y1 y2 => uH i (by omega) (by omega) (by omega) (by omega)), hbd⟩, eH, by rw [sm.1, f1]; exact Nat.le_refl _, by rw [sm.2.1, f2]; exact Nat.le_refl _, fun i _ y2 => absurd y2 (Nat.not_lt_zero i), fun i y1 y2 => uH i (by omega) y2 (by omega) (by omega)⟩
  · have e0 : pEr S = 0 := by simp (disch := omega) only [ci_eq0] at c_32; omega
    refine tX10_teach_35  (r := ?_)
    refine tX10_teach_36  (r := ?_)
    refine tX10_teach_37 (ha := (by first | assumption | (repeat (first | assumption | exact At.set_eq2 (by first | omega | (simp only [hset, hnew]; omega) | rfl | decide) | exact At.new_eq2 _ _ (by first | omega | (simp only [hset, hnew]; omega) | rfl | decide) | refine At.set_ne ?_ (by first | omega | (simp only [hset, hnew]; omega) | rfl | decide) | refine At.new_ne ?_)))) (hv := rfl) (r := ?_)
    refine tX10_teach_40  (r := ?_)
    refine tX10_teach_41 (ha := (by first | assumption | (repeat (first | assumption | exact At.set_eq2 (by first | omega | (simp only [hset, hnew]; omega) | rfl | decide) | exact At.new_eq2 _ _ (by first | omega | (simp only [hset, hnew]; omega) | rfl | decide) | refine At.set_ne ?_ (by first | omega | (simp only [hset, hnew]; omega) | rfl | decide) | refine At.new_ne ?_)))) (hv := rfl) (r := ?_)
    refine tX10_teach_44 (hd := (by omega)) (ha := (by first | assumption | (repeat (first | assumption | exact At.set_eq2 (by first | omega | (simp only [hset, hnew]; omega) | rfl | decide) | exact At.new_eq2 _ _ (by first | omega | (simp only [hset, hnew]; omega) | rfl | decide) | refine At.set_ne ?_ (by first | omega | (simp only [hset, hnew]; omega) | rfl | decide) | refine At.new_ne ?_)))) (call := s_hand (d := 80) rH) (k := ?_)
    rintro x_ h_ ⟨hx_, e_⟩
    rw [e_, hx_]
    refine tX10_teach_47 (ha := (by first | assumption | (repeat (first | assumption | exact At.set_eq2 (by first | omega | (simp only [hset, hnew]; omega) | rfl | decide) | exact At.new_eq2 _ _ (by first | omega | (simp only [hset, hnew]; omega) | rfl | decide) | refine At.set_ne ?_ (by first | omega | (simp only [hset, hnew]; omega) | rfl | decide) | refine At.new_ne ?_)))) (hlen := rfl) (r := ?_)
    have w0 := x0.1
    have w3_ := rH.1
    refine RQ.gen (fun H4 => At H4 0 (PolO 0 dr (if pEr S = 0 then (-1 : Int32) else nI (ssT (tkK s.1) (pEt S)))) ∧ At H4 (0 + 1) (.inr (6, [.ref (0 + 1 + 1), .int (nI 0)])) ∧ At H4 (0 + 1 + 1) (.inl (1, 1600, .inl tf)) ∧ At H4 (0 + 3) (ReaO (0 + 3) bk (nI (pPo S)) (kdP (tkK s.1) S) (nI (pEr S)) et9 (if pEr S = 0 then (-1 : Int32) else nI (ssT (tkK s.1) (pEt S)))) ∧ Sm H H4 0 4) ⟨At.set_eq2 w0, At.set_ne (At.set_ne x1 (by omega)) (by omega), At.set_ne (At.set_ne fH (by omega)) (by omega), At.set_ne (At.set_eq2 w3_) (by omega), ((Sm.rf H 0 4).set (by omega) (by omega)).set (by omega) (by omega)⟩ (fun H4 hq => ?_)
    obtain ⟨x4, y4, f4, r4, sm4⟩ := hq
    have b4 := bH.sm sm4 (by omega)
    have b40 := b4.1
    have ce4 : CupE H4 (0 + 66) (dDay s.2.2.2) := ce66.keep (by rw [sm4.1]; exact eH) (fun i y1 y2 => (sm4.2.2.2 i (by omega) (by rw [sm.1, f1]; omega)).trans (uH i (by omega) (by omega) (by omega) (by omega)))
    have cu4 : CuR H4 (dr + 7) (pBk S) (dyN (pDf S)) := CuN.R b4.2.2.2.2.2.2.2.1
    obtain ⟨jf4, lj4, fo4, le4, ca4, -⟩ := id ce4
    obtain ⟨jf5, lj5, fo5, le5, ca5, -⟩ := id cu4
    refine tX10_teach_50  (r := ?_)
    refine tX10_teach_51 (ha := (by first | assumption | (repeat (first | assumption | exact At.set_eq2 (by first | omega | (simp only [hset, hnew]; omega) | rfl | decide) | exact At.new_eq2 _ _ (by first | omega | (simp only [hset, hnew]; omega) | rfl | decide) | refine At.set_ne ?_ (by first | omega | (simp only [hset, hnew]; omega) | rfl | decide) | refine At.new_ne ?_)))) (hv := rfl) (r := ?_)
    refine tX10_teach_54  (r := ?_)
    refine tX10_teach_55 (ha := (by first | assumption | (repeat (first | assumption | exact At.set_eq2 (by first | omega | (simp only [hset, hnew]; omega) | rfl | decide) | exact At.new_eq2 _ _ (by first | omega | (simp only [hset, hnew]; omega) | rfl | decide) | refine At.set_ne ?_ (by first | omega | (simp only [hset, hnew]; omega) | rfl | decide) | refine At.new_ne ?_)))) (hv := rfl) (r := ?_)
    refine tX10_teach_58 (ha := (by first | assumption | (repeat (first | assumption | exact At.set_eq2 (by first | omega | (simp only [hset, hnew]; omega) | rfl | decide) | exact At.new_eq2 _ _ (by first | omega | (simp only [hset, hnew]; omega) | rfl | decide) | refine At.set_ne ?_ (by first | omega | (simp only [hset, hnew]; omega) | rfl | decide) | refine At.new_ne ?_)))) (hv := rfl) (r := ?_)
    refine tX10_teach_61 (hd := (by omega)) (ha := (by first | assumption | (repeat (first | assumption | exact At.set_eq2 (by first | omega | (simp only [hset, hnew]; omega) | rfl | decide) | exact At.new_eq2 _ _ (by first | omega | (simp only [hset, hnew]; omega) | rfl | decide) | refine At.set_ne ?_ (by first | omega | (simp only [hset, hnew]; omega) | rfl | decide) | refine At.new_ne ?_)))) (call := s_like (d := 80) (by omega) ce4 cu4 (iv e0) (by omega)) (k := ?_)
    intro H5 q5
    obtain ⟨cu5, sm5⟩ := q5
    refine tX10_teach_64  (r := ?_)
    refine tX10_teach_65  (hP := ?_)
    rw [if_pos e0, if_pos e0, if_pos e0]
    have u5 : ∀ i, 4 ≤ i → i < h.1 → (i < 66 ∨ 111 ≤ i) → 8 ≤ i → (i < dr ∨ dr + 58 ≤ i) → H5.2.2 i = h.2.2 i := fun i y1 y2 y3 y4 y5 => by
      have z1 : H5.2.2 i = H4.2.2 i := by
        by_cases q : i < 66
        · exact sm5.2.2.1 i (Nat.zero_le _) q
        · exact sm5.2.2.2 i (by omega) (by rw [sm4.1, sm.1, f1]; exact y2)
      exact z1.trans ((sm4.2.2.2 i y1 (by rw [sm.1, f1]; exact y2)).trans (uH i (by omega) y2 (by omega) y5))
    have e5 : h.1 ≤ H5.1 := by rw [sm5.1, sm4.1]; exact eH
    have be5 : BookE H5 bk (nI (bLa s.2.2.1)) (nI (bJa s.2.2.1)) (nI (bLi s.2.2.1)) := bo.E.keep e5 (fun i y1 y2 => u5 i (by omega) (by omega) (by omega) (by omega) (by omega))
    rw [if_pos e0] at x4 r4
    exact ⟨by rw [e0], ⟨sm5.at x4 (by omega), ⟨sm5.at y4 (by omega), Nat.zero_le _, tf, sm5.at f4 (by omega), fun i hi => absurd hi (Nat.not_lt_zero i)⟩, ⟨⟨_, _, _, _, _, k9, sm5.at r4 (by omega)⟩, ((tH.sm sm4 (by omega)).sm sm5 (by omega)).E⟩, ⟨_, _, _, be5⟩, cu5, ⟨dy, ce.keep e5 (fun i y1 y2 => u5 i (by omega) (by omega) (by omega) (by omega) (by omega))⟩, cam.keep e5 (fun i y1 y2 => u5 i (by omega) (by omega) (by omega) (by omega) (by omega)), ((bH.sm sm4 (by omega)).sm sm5 (by omega)).R, by omega⟩, e5, by rw [sm5.1, sm4.1, sm.1, f1]; exact Nat.le_refl _, by rw [sm5.2.1, sm4.2.1, sm.2.1, f2]; exact Nat.le_refl _, fun i _ y2 => absurd y2 (Nat.not_lt_zero i), fun i y1 y2 => u5 i (by omega) y2 (by omega) (by omega) (by omega)⟩

end RTH
