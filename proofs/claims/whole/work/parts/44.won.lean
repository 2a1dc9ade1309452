/-! seats won: the class's answer; how the reference divides -/
section SW
variable {G : GT} {d : Nat} {h : AH} {bk dr : Nat} {s : ST}
theorem bestD_ext {p w : Nat → Nat} {n : Nat} : ∀ m, n ≤ m → (∀ i, n ≤ i → i < m → p i = 0) → bestD p w m = bestD p w n
  | 0, h, _ => by
    have : n = 0 := by omega
    rw [this]
  | m + 1, h, hz => by
    by_cases e : n = m + 1
    · rw [e]
    · rw [← bestD_ext (p := p) (w := w) m (by omega) (fun i h1 h2 => hz i h1 (by omega))]
      refine if_neg ?_
      rw [hz m (by omega) (by omega), Nat.zero_mul]
      exact Nat.not_lt_zero _
theorem bestD_lt {p w : Nat → Nat} {n : Nat} (hn : n ≤ 6) : bestD p w n < 6 := by
  rcases (bestD_spec p w n).2 with h | h <;> omega

set_option maxHeartbeats 4000000 in
set_option maxRecDepth 100000 in
theorem k_seatsWon_ok (hd : 7 ≤ d) (c : ClR h 0 bk dr s) (hb : BDok s.2.2.1 s.2.2.2) (hh : 216 ≤ h.1) {j0 : Nat} (q0 : j0 < bJa s.2.2.1) {j1 : Nat} (q1 : j1 < bLa s.2.2.1) : RQ G mX10_seatsWon d 0 [some (.ref 0), some (.int (nI j0)), some (.int (nI j1))] [] h (CK h bk dr s "java/lang/IndexOutOfBoundsException" "" 0 (nI (wo (po (rt (dF s.2.2.2)) (dB s.2.2.2 j0)) (su (dB s.2.2.2 j0) 6) (bSe s.2.2.1 j0) (bWy s.2.2.1 j0) (rt (dF s.2.2.2) j1)))) := by
  have c1 := c.poll
  have cb := c.book
  obtain ⟨jf, lj, fo, le, u0, u1, u2, u3, u4, u5, u6, u7, u8, u9⟩ := id c.2.2.2.2.1
  have l1 := hb.1
  have l2 := hb.2.1
  have l3 := hb.2.2.1
  have r6 := rt_lt6 hb j1 (by omega)
  refine tX10_seatsWon_0  (r := ?_)
  refine tX10_seatsWon_1  (r := ?_)
  refine tX10_seatsWon_2 (hd := (by omega)) (ha := (by first | assumption | (repeat (first | assumption | exact At.set_eq2 (by first | omega | (simp only [hset, hnew]; omega) | rfl | decide) | exact At.new_eq2 _ _ (by first | omega | (simp only [hset, hnew]; omega) | rfl | decide) | refine At.set_ne ?_ (by first | omega | (simp only [hset, hnew]; omega) | rfl | decide) | refine At.new_ne ?_)))) (call := s_checkJar_ok (d := 6) (QX := fun _ _ => False) c hb q0) (kx := fun E_ h_ hx_ => by exact hx_.elim) (k := ?_)
  intro h_ e0
  rw [e0]
  refine tX10_seatsWon_5  (r := ?_)
  refine tX10_seatsWon_6  (r := ?_)
  refine tX10_seatsWon_7 (hd := (by omega)) (ha := (by first | assumption | (repeat (first | assumption | exact At.set_eq2 (by first | omega | (simp only [hset, hnew]; omega) | rfl | decide) | exact At.new_eq2 _ _ (by first | omega | (simp only [hset, hnew]; omega) | rfl | decide) | refine At.set_ne ?_ (by first | omega | (simp only [hset, hnew]; omega) | rfl | decide) | refine At.new_ne ?_)))) (call := s_checkLabel_ok (d := 6) (QX := fun _ _ => False) c hb q1) (kx := fun E_ h_ hx_ => by exact hx_.elim) (k := ?_)
  intro h_ e1
  rw [e1]
  refine tX10_seatsWon_10  (r := ?_)
  refine tX10_seatsWon_11 (ha := (by first | assumption | (repeat (first | assumption | exact At.set_eq2 (by first | omega | (simp only [hset, hnew]; omega) | rfl | decide) | exact At.new_eq2 _ _ (by first | omega | (simp only [hset, hnew]; omega) | rfl | decide) | refine At.set_ne ?_ (by first | omega | (simp only [hset, hnew]; omega) | rfl | decide) | refine At.new_ne ?_)))) (hv := rfl) (r := ?_)
  refine tX10_seatsWon_14  (r := ?_)
  refine tX10_seatsWon_15 (hd := (by omega)) (ha := (by first | assumption | (repeat (first | assumption | exact At.set_eq2 (by first | omega | (simp only [hset, hnew]; omega) | rfl | decide) | exact At.new_eq2 _ _ (by first | omega | (simp only [hset, hnew]; omega) | rfl | decide) | refine At.set_ne ?_ (by first | omega | (simp only [hset, hnew]; omega) | rfl | decide) | refine At.new_ne ?_)))) (call := (s_counted (d := 3) (by decide) c.2.2.2.2.1 hb (show j0 < 8 by omega)).imp (fun o9 h9 q9 => (⟨_, q9.1, rfl, q9.2⟩ : Rr (fun r h1 => r = 0 + 66 + 5 + 5 * j0 ∧ JaC h1 (0 + 66 + 5 + 5 * j0) (dB s.2.2.2 j0) (bSe s.2.2.1 j0) (bWy s.2.2.1 j0) (rt (dF s.2.2.2)) ∧ CuR h1 (0 + 66) s.2.2.1 s.2.2.2 ∧ Sm h h1 (0 + 66 + 5 + 5 * j0) (0 + 66 + 5 + 5 * j0 + 5)) o9 h9))) (k := ?_)
  rintro jj h1 ⟨rfl, q9⟩
  obtain ⟨jc, cu, sm⟩ := q9
  have cl := c.now cu sm (by omega) (by omega)
  have chh : Ch h h1 0 216 0 0 := sm.ch (Nat.zero_le _) (by omega)
  obtain ⟨bf, p, w, l, tu, fi, ma, ⟨b0, b1, b2, b3, b4⟩, hb2, cp, cw_, ct, cf, cm⟩ := jc
  obtain ⟨jf', lj', fo', le', v0, v1, v2, v3, v4, v5, v6, v7, v8, v9⟩ := id cu
  have c1 := cl.poll
  refine tX10_seatsWon_18 (ha := (by first | assumption | (repeat (first | assumption | exact At.set_eq2 (by first | omega | (simp only [hset, hnew]; omega) | rfl | decide) | exact At.new_eq2 _ _ (by first | omega | (simp only [hset, hnew]; omega) | rfl | decide) | refine At.set_ne ?_ (by first | omega | (simp only [hset, hnew]; omega) | rfl | decide) | refine At.new_ne ?_)))) (hv := rfl) (r := ?_)
  refine tX10_seatsWon_21  (r := ?_)
  refine tX10_seatsWon_22 (ha := (by first | assumption | (repeat (first | assumption | exact At.set_eq2 (by first | omega | (simp only [hset, hnew]; omega) | rfl | decide) | exact At.new_eq2 _ _ (by first | omega | (simp only [hset, hnew]; omega) | rfl | decide) | refine At.set_ne ?_ (by first | omega | (simp only [hset, hnew]; omega) | rfl | decide) | refine At.new_ne ?_)))) (hv := rfl) (r := ?_)
  refine tX10_seatsWon_25 (ha := (by first | assumption | (repeat (first | assumption | exact At.set_eq2 (by first | omega | (simp only [hset, hnew]; omega) | rfl | decide) | exact At.new_eq2 _ _ (by first | omega | (simp only [hset, hnew]; omega) | rfl | decide) | refine At.set_ne ?_ (by first | omega | (simp only [hset, hnew]; omega) | rfl | decide) | refine At.new_ne ?_)))) (hv := rfl) (r := ?_)
  refine tX10_seatsWon_28  (r := ?_)
  refine tX10_seatsWon_29 (ha := (by first | assumption | (repeat (first | assumption | exact At.set_eq2 (by first | omega | (simp only [hset, hnew]; omega) | rfl | decide) | exact At.new_eq2 _ _ (by first | omega | (simp only [hset, hnew]; omega) | rfl | decide) | refine At.set_ne ?_ (by first | omega | (simp only [hset, hnew]; omega) | rfl | decide) | refine At.new_ne ?_)))) (hx := rfl) (hj := (by omega)) (hn := (by decide)) (r := ?_)
  rw [v8 _ (by omega)]
  refine tX10_seatsWon_30 (ha := (by first | assumption | (repeat (first | assumption | exact At.set_eq2 (by first | omega | (simp only [hset, hnew]; omega) | rfl | decide) | exact At.new_eq2 _ _ (by first | omega | (simp only [hset, hnew]; omega) | rfl | decide) | refine At.set_ne ?_ (by first | omega | (simp only [hset, hnew]; omega) | rfl | decide) | refine At.new_ne ?_)))) (hx := rfl) (hj := r6) (hn := (by decide)) (r := ?_)
  rw [cw_ _ r6]
  refine tX10_seatsWon_31  (hP := ?_)
  exact ck_val cl chh

set_option maxHeartbeats 4000000 in
set_option maxRecDepth 100000 in
theorem s_dividing_l {th : Int32} (c2 : MoT h 216 th s) (hb : BDok s.2.2.1 s.2.2.2) {f g : Nat → Int32} (ai : At h (216 + 50) (.inl (0, 6, .inl f))) (aw : At h (216 + 51) (.inl (0, 6, .inl g))) {q w : Nat → Nat} (hf : ∀ k, k < 6 → f k = nI (q k)) (hg : ∀ k, k < 6 → g k = nI (w k)) (hq : ∀ k, k < 6 → q k ≤ 1200) (hw : ∀ k, k < 6 → w k ≤ 9) (hz : ∀ k, bLa s.2.2.1 ≤ k → k < 6 → q k = 0) : ∀ (n i : Nat), bLa s.2.2.1 ≤ i + n → i ≤ bLa s.2.2.1 → RQ G mX12_dividing d 4 [some (.ref 216), some (.int (nI (bestD q w i))), some (.int (nI i))] [] h (Ri fun v h1 => v = nI (bestD q w 6) ∧ h1 = h) := by
  obtain ⟨⟨tk, iw, er, et, dp, nm, am⟩, ⟨-, ⟨ft, at1, ct1⟩, -, -, -, -, -, -, -, ⟨ru, ac, no, a9, -⟩, -, -, ⟨fn, a48, n0, nb, nf, nl⟩, -, -, -, -⟩, ⟨⟨gs, as_, cs⟩, ⟨gw, aw9, cw⟩, ⟨gl, al, cl⟩, ⟨g0, a0_, c0_⟩, ⟨g1, a1_, c1_⟩⟩⟩ := id c2
  have l1 := hb.1
  have l2 := hb.2.1
  have l3 := hb.2.2.1
  have ex : ∀ i, i = bLa s.2.2.1 → RQ G mX12_dividing d 4 [some (.ref 216), some (.int (nI (bestD q w i))), some (.int (nI i))] [] h (Ri fun v h1 => v = nI (bestD q w 6) ∧ h1 = h) := by
    intro i hi
    rw [hi]
    refine tX12_dividing_4  (r := ?_)
    refine tX12_dividing_5  (r := ?_)
    refine tX12_dividing_6 (ha := (by first | assumption | (repeat (first | assumption | exact At.set_eq2 (by first | omega | (simp only [hset, hnew]; omega) | rfl | decide) | exact At.new_eq2 _ _ (by first | omega | (simp only [hset, hnew]; omega) | rfl | decide) | refine At.set_ne ?_ (by first | omega | (simp only [hset, hnew]; omega) | rfl | decide) | refine At.new_ne ?_)))) (hv := rfl) (r := ?_)
    refine tX12_dividing_9 (ha := (by first | assumption | (repeat (first | assumption | exact At.set_eq2 (by first | omega | (simp only [hset, hnew]; omega) | rfl | decide) | exact At.new_eq2 _ _ (by first | omega | (simp only [hset, hnew]; omega) | rfl | decide) | refine At.set_ne ?_ (by first | omega | (simp only [hset, hnew]; omega) | rfl | decide) | refine At.new_ne ?_)))) (hv := rfl) (r := ?_)
    refine tX12_dividing_12  (kf := fun c_ => by exfalso; (simp (disch := first | omega | decide) only [ci_lt, ci_le, ci_eq, ci_lt0, ci_ge0, ci_gt0, ci_le0, ci_eq0, ci_m1_lt, ci_m1_le, ci_lt_m1, ci_le_m1, ci_eq_m1, ci_m1_eq, not_true, not_false_iff, Nat.not_lt, Nat.not_le] at c_ <;> omega)) (kt := fun _ => ?_)
    refine tX12_dividing_56  (r := ?_)
    refine tX12_dividing_57  (hP := ?_)
    exact ⟨_, rfl, by rw [bestD_ext 6 l1 hz], rfl⟩
  intro n
  induction n with
  | zero => exact fun i h1_ h2_ => ex i (by omega)
  | succ n ih =>
    intro i h1_ h2_
    by_cases hi : i = bLa s.2.2.1
    · exact ex i hi
    have hi2 : i < bLa s.2.2.1 := by omega
    refine tX12_dividing_4  (r := ?_)
    refine tX12_dividing_5  (r := ?_)
    refine tX12_dividing_6 (ha := (by first | assumption | (repeat (first | assumption | exact At.set_eq2 (by first | omega | (simp only [hset, hnew]; omega) | rfl | decide) | exact At.new_eq2 _ _ (by first | omega | (simp only [hset, hnew]; omega) | rfl | decide) | refine At.set_ne ?_ (by first | omega | (simp only [hset, hnew]; omega) | rfl | decide) | refine At.new_ne ?_)))) (hv := rfl) (r := ?_)
    refine tX12_dividing_9 (ha := (by first | assumption | (repeat (first | assumption | exact At.set_eq2 (by first | omega | (simp only [hset, hnew]; omega) | rfl | decide) | exact At.new_eq2 _ _ (by first | omega | (simp only [hset, hnew]; omega) | rfl | decide) | refine At.set_ne ?_ (by first | omega | (simp only [hset, hnew]; omega) | rfl | decide) | refine At.new_ne ?_)))) (hv := rfl) (r := ?_)
    refine tX12_dividing_12  (kt := fun c_ => by exfalso; (simp (disch := first | omega | decide) only [ci_lt, ci_le, ci_eq, ci_lt0, ci_ge0, ci_gt0, ci_le0, ci_eq0, ci_m1_lt, ci_m1_le, ci_lt_m1, ci_le_m1, ci_eq_m1, ci_m1_eq, not_true, not_false_iff, Nat.not_lt, Nat.not_le] at c_ <;> omega)) (kf := fun _ => ?_)
    refine tX12_dividing_15  (r := ?_)
    refine tX12_dividing_16 (ha := (by first | assumption | (repeat (first | assumption | exact At.set_eq2 (by first | omega | (simp only [hset, hnew]; omega) | rfl | decide) | exact At.new_eq2 _ _ (by first | omega | (simp only [hset, hnew]; omega) | rfl | decide) | refine At.set_ne ?_ (by first | omega | (simp only [hset, hnew]; omega) | rfl | decide) | refine At.new_ne ?_)))) (hv := rfl) (r := ?_)
    refine tX12_dividing_19  (r := ?_)
    refine tX12_dividing_20 (ha := (by first | assumption | (repeat (first | assumption | exact At.set_eq2 (by first | omega | (simp only [hset, hnew]; omega) | rfl | decide) | exact At.new_eq2 _ _ (by first | omega | (simp only [hset, hnew]; omega) | rfl | decide) | refine At.set_ne ?_ (by first | omega | (simp only [hset, hnew]; omega) | rfl | decide) | refine At.new_ne ?_)))) (hx := rfl) (hj := (by omega)) (hn := (by decide)) (r := ?_)
    have b6 : bestD q w i < 6 := bestD_lt (by omega)
    have m1 : q i * (w (bestD q w i) + 1) ≤ 1200 * 10 := Nat.mul_le_mul (hq i (by omega)) (by have := hw _ b6; omega)
    have m2 : q (bestD q w i) * (w i + 1) ≤ 1200 * 10 := Nat.mul_le_mul (hq _ b6) (by have := hw i (by omega); omega)
    rw [hf _ (by omega)]
    refine tX12_dividing_21  (r := ?_)
    refine tX12_dividing_22 (ha := (by first | assumption | (repeat (first | assumption | exact At.set_eq2 (by first | omega | (simp only [hset, hnew]; omega) | rfl | decide) | exact At.new_eq2 _ _ (by first | omega | (simp only [hset, hnew]; omega) | rfl | decide) | refine At.set_ne ?_ (by first | omega | (simp only [hset, hnew]; omega) | rfl | decide) | refine At.new_ne ?_)))) (hv := rfl) (r := ?_)
    refine tX12_dividing_25  (r := ?_)
    refine tX12_dividing_26 (ha := (by first | assumption | (repeat (first | assumption | exact At.set_eq2 (by first | omega | (simp only [hset, hnew]; omega) | rfl | decide) | exact At.new_eq2 _ _ (by first | omega | (simp only [hset, hnew]; omega) | rfl | decide) | refine At.set_ne ?_ (by first | omega | (simp only [hset, hnew]; omega) | rfl | decide) | refine At.new_ne ?_)))) (hx := rfl) (hj := b6) (hn := (by decide)) (r := ?_)
    rw [hg _ b6]
    refine tX12_dividing_27  (r := ?_)
    refine tX12_dividing_28  (r := ?_)
    rw [nI_add]
    refine tX12_dividing_29  (r := ?_)
    rw [nI_mulN]
    refine tX12_dividing_30  (r := ?_)
    refine tX12_dividing_31 (ha := (by first | assumption | (repeat (first | assumption | exact At.set_eq2 (by first | omega | (simp only [hset, hnew]; omega) | rfl | decide) | exact At.new_eq2 _ _ (by first | omega | (simp only [hset, hnew]; omega) | rfl | decide) | refine At.set_ne ?_ (by first | omega | (simp only [hset, hnew]; omega) | rfl | decide) | refine At.new_ne ?_)))) (hv := rfl) (r := ?_)
    refine tX12_dividing_34  (r := ?_)
    refine tX12_dividing_35 (ha := (by first | assumption | (repeat (first | assumption | exact At.set_eq2 (by first | omega | (simp only [hset, hnew]; omega) | rfl | decide) | exact At.new_eq2 _ _ (by first | omega | (simp only [hset, hnew]; omega) | rfl | decide) | refine At.set_ne ?_ (by first | omega | (simp only [hset, hnew]; omega) | rfl | decide) | refine At.new_ne ?_)))) (hx := rfl) (hj := b6) (hn := (by decide)) (r := ?_)
    rw [hf _ b6]
    refine tX12_dividing_36  (r := ?_)
    refine tX12_dividing_37 (ha := (by first | assumption | (repeat (first | assumption | exact At.set_eq2 (by first | omega | (simp only [hset, hnew]; omega) | rfl | decide) | exact At.new_eq2 _ _ (by first | omega | (simp only [hset, hnew]; omega) | rfl | decide) | refine At.set_ne ?_ (by first | omega | (simp only [hset, hnew]; omega) | rfl | decide) | refine At.new_ne ?_)))) (hv := rfl) (r := ?_)
    refine tX12_dividing_40  (r := ?_)
    refine tX12_dividing_41 (ha := (by first | assumption | (repeat (first | assumption | exact At.set_eq2 (by first | omega | (simp only [hset, hnew]; omega) | rfl | decide) | exact At.new_eq2 _ _ (by first | omega | (simp only [hset, hnew]; omega) | rfl | decide) | refine At.set_ne ?_ (by first | omega | (simp only [hset, hnew]; omega) | rfl | decide) | refine At.new_ne ?_)))) (hx := rfl) (hj := (by omega)) (hn := (by decide)) (r := ?_)
    rw [hg _ (by omega)]
    refine tX12_dividing_42  (r := ?_)
    refine tX12_dividing_43  (r := ?_)
    rw [nI_add]
    refine tX12_dividing_44  (r := ?_)
    rw [nI_mulN]
    refine tX12_dividing_45  (kt := fun c_45 => ?_) (kf := fun c_45 => ?_)
    · have e : bestD q w (i + 1) = bestD q w i := if_neg (Nat.not_lt.mpr ((nI_leI (by omega) (by omega)).mp c_45))
      refine tX12_dividing_50  (r := ?_)
      rw [nI_add]
      refine tX12_dividing_53 (r := ?_)
      have key := ih (i + 1) (by omega) (by omega)
      rw [e] at key
      exact key
    · have e : bestD q w (i + 1) = i := if_pos (Nat.lt_of_not_le (fun z => c_45 ((nI_leI (by omega) (by omega)).mpr z)))
      refine tX12_dividing_48  (r := ?_)
      refine tX12_dividing_49  (r := ?_)
      refine tX12_dividing_50  (r := ?_)
      rw [nI_add]
      refine tX12_dividing_53 (r := ?_)
      have key := ih (i + 1) (by omega) (by omega)
      rw [e] at key
      exact key

set_option maxHeartbeats 4000000 in
set_option maxRecDepth 100000 in
theorem s_dividing {th : Int32} (c2 : MoT h 216 th s) (hb : BDok s.2.2.1 s.2.2.2) {f g : Nat → Int32} (ai : At h (216 + 50) (.inl (0, 6, .inl f))) (aw : At h (216 + 51) (.inl (0, 6, .inl g))) {q w : Nat → Nat} (hf : ∀ k, k < 6 → f k = nI (q k)) (hg : ∀ k, k < 6 → g k = nI (w k)) (hq : ∀ k, k < 6 → q k ≤ 1200) (hw : ∀ k, k < 6 → w k ≤ 9) (hz : ∀ k, bLa s.2.2.1 ≤ k → k < 6 → q k = 0) (hla : 1 ≤ bLa s.2.2.1) : RQ G mX12_dividing d 0 [some (.ref 216), none, none] [] h (Ri fun v h1 => v = nI (bestD q w 6) ∧ h1 = h) := by
  refine tX12_dividing_0  (r := ?_)
  refine tX12_dividing_1  (r := ?_)
  refine tX12_dividing_2  (r := ?_)
  refine tX12_dividing_3  (r := ?_)
  have key := s_dividing_l (G := G) (d := d) c2 hb ai aw hf hg hq hw hz (bLa s.2.2.1) 1 (by omega) hla
  have e1 : bestD q w 1 = 0 := by
    rcases (bestD_spec q w 1).2 with h9 | h9 <;> omega
  rw [e1] at key
  exact key

end SW
