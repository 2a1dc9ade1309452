/-! allianceBeans, marginIn, putLid -/
section MA
variable {G : GT} {d : Nat} {h : AH} {bk dr : Nat} {s : ST}
theorem sec_ext {p : Nat → Nat} {f : Option Nat} {n : Nat} : ∀ m, n ≤ m → (∀ i, n ≤ i → i < m → p i = 0) → sec p f m = sec p f n
  | 0, h, _ => by
    have : n = 0 := by omega
    rw [this]
  | m + 1, h, hz => by
    by_cases e : n = m + 1
    · rw [e]
    · have e2 := sec_ext (p := p) (f := f) m (by omega) (fun i h1 h2 => hz i h1 (by omega))
      have e3 := hz m (by omega) (by omega)
      show (if f = some m then sec p f m else max (sec p f m) (p m)) = _
      rw [e2, e3]
      split
      · rfl
      · exact Nat.max_eq_left (Nat.zero_le _)
theorem mar_some {p : Nat → Nat} {f : Nat} (e : fiN p 6 = some f) : mar p = p f - sec p (some f) 6 := by
  unfold mar
  rw [e]
theorem mar_none {p : Nat → Nat} (e : fiN p 6 = none) : mar p = 0 := by
  unfold mar
  rw [e]
theorem nI_maxN {a b : Nat} (ha : a < 2147483648) (hb : b < 2147483648) : (if nI a < nI b then nI b else nI a) = nI (max a b) := by
  by_cases e : a < b
  · rw [if_pos ((nI_ltI ha hb).mpr e), Nat.max_eq_right (by omega)]
  · rw [if_neg (fun z => e ((nI_ltI ha hb).mp z)), Nat.max_eq_left (by omega)]

set_option maxHeartbeats 4000000 in
set_option maxRecDepth 100000 in
theorem k_allianceBeans_ok (hd : 7 ≤ d) (c : ClR h 0 bk dr s) (hb : BDok s.2.2.1 s.2.2.2) (hh : 216 ≤ h.1) {j0 : Nat} (q0 : j0 < bJa s.2.2.1) {j1 : Nat} (q1 : j1 < bLa s.2.2.1) : RQ G mX10_allianceBeans d 0 [some (.ref 0), some (.int (nI j0)), some (.int (nI j1))] [] h (CK h bk dr s "java/lang/IndexOutOfBoundsException" "" 0 (nI ((po (rt (dF s.2.2.2)) (dB s.2.2.2 j0)) (rt (dF s.2.2.2) j1)))) := by
  have c1 := c.poll
  have cb := c.book
  obtain ⟨jf, lj, fo, le, u0, u1, u2, u3, u4, u5, u6, u7, u8, u9⟩ := id c.2.2.2.2.1
  have l1 := hb.1
  have l2 := hb.2.1
  have l3 := hb.2.2.1
  have r6 := rt_lt6 hb j1 (by omega)
  refine tX10_allianceBeans_0  (r := ?_)
  refine tX10_allianceBeans_1  (r := ?_)
  refine tX10_allianceBeans_2 (hd := (by omega)) (ha := (by first | assumption | (repeat (first | assumption | exact At.set_eq2 (by first | omega | (simp only [hset, hnew]; omega) | rfl | decide) | exact At.new_eq2 _ _ (by first | omega | (simp only [hset, hnew]; omega) | rfl | decide) | refine At.set_ne ?_ (by first | omega | (simp only [hset, hnew]; omega) | rfl | decide) | refine At.new_ne ?_)))) (call := s_checkJar_ok (d := 6) (QX := fun _ _ => False) c hb q0) (kx := fun E_ h_ hx_ => by exact hx_.elim) (k := ?_)
  intro h_ e0
  rw [e0]
  refine tX10_allianceBeans_5  (r := ?_)
  refine tX10_allianceBeans_6  (r := ?_)
  refine tX10_allianceBeans_7 (hd := (by omega)) (ha := (by first | assumption | (repeat (first | assumption | exact At.set_eq2 (by first | omega | (simp only [hset, hnew]; omega) | rfl | decide) | exact At.new_eq2 _ _ (by first | omega | (simp only [hset, hnew]; omega) | rfl | decide) | refine At.set_ne ?_ (by first | omega | (simp only [hset, hnew]; omega) | rfl | decide) | refine At.new_ne ?_)))) (call := s_checkLabel_ok (d := 6) (QX := fun _ _ => False) c hb q1) (kx := fun E_ h_ hx_ => by exact hx_.elim) (k := ?_)
  intro h_ e1
  rw [e1]
  refine tX10_allianceBeans_10  (r := ?_)
  refine tX10_allianceBeans_11 (ha := (by first | assumption | (repeat (first | assumption | exact At.set_eq2 (by first | omega | (simp only [hset, hnew]; omega) | rfl | decide) | exact At.new_eq2 _ _ (by first | omega | (simp only [hset, hnew]; omega) | rfl | decide) | refine At.set_ne ?_ (by first | omega | (simp only [hset, hnew]; omega) | rfl | decide) | refine At.new_ne ?_)))) (hv := rfl) (r := ?_)
  refine tX10_allianceBeans_14  (r := ?_)
  refine tX10_allianceBeans_15 (hd := (by omega)) (ha := (by first | assumption | (repeat (first | assumption | exact At.set_eq2 (by first | omega | (simp only [hset, hnew]; omega) | rfl | decide) | exact At.new_eq2 _ _ (by first | omega | (simp only [hset, hnew]; omega) | rfl | decide) | refine At.set_ne ?_ (by first | omega | (simp only [hset, hnew]; omega) | rfl | decide) | refine At.new_ne ?_)))) (call := (s_counted (d := 3) (by decide) c.2.2.2.2.1 hb (show j0 < 8 by omega)).imp (fun o9 h9 q9 => (⟨_, q9.1, rfl, q9.2⟩ : Rr (fun r h1 => r = 0 + 66 + 5 + 5 * j0 ∧ JaC h1 (0 + 66 + 5 + 5 * j0) (dB s.2.2.2 j0) (bSe s.2.2.1 j0) (bWy s.2.2.1 j0) (rt (dF s.2.2.2)) ∧ CuR h1 (0 + 66) s.2.2.1 s.2.2.2 ∧ Sm h h1 (0 + 66 + 5 + 5 * j0) (0 + 66 + 5 + 5 * j0 + 5)) o9 h9))) (k := ?_)
  rintro jj h1 ⟨rfl, q9⟩
  obtain ⟨jc, cu, sm⟩ := q9
  have cl := c.now cu sm (by omega) (by omega)
  have chh : Ch h h1 0 216 0 0 := sm.ch (Nat.zero_le _) (by omega)
  obtain ⟨bf, p, w, l, tu, fi, ma, ⟨b0, b1, b2, b3, b4⟩, hb2, cp, cw_, ct, cf, cm⟩ := jc
  obtain ⟨jf', lj', fo', le', v0, v1, v2, v3, v4, v5, v6, v7, v8, v9⟩ := id cu
  have c1 := cl.poll
  refine tX10_allianceBeans_18 (ha := (by first | assumption | (repeat (first | assumption | exact At.set_eq2 (by first | omega | (simp only [hset, hnew]; omega) | rfl | decide) | exact At.new_eq2 _ _ (by first | omega | (simp only [hset, hnew]; omega) | rfl | decide) | refine At.set_ne ?_ (by first | omega | (simp only [hset, hnew]; omega) | rfl | decide) | refine At.new_ne ?_)))) (hv := rfl) (r := ?_)
  refine tX10_allianceBeans_21  (r := ?_)
  refine tX10_allianceBeans_22 (ha := (by first | assumption | (repeat (first | assumption | exact At.set_eq2 (by first | omega | (simp only [hset, hnew]; omega) | rfl | decide) | exact At.new_eq2 _ _ (by first | omega | (simp only [hset, hnew]; omega) | rfl | decide) | refine At.set_ne ?_ (by first | omega | (simp only [hset, hnew]; omega) | rfl | decide) | refine At.new_ne ?_)))) (hv := rfl) (r := ?_)
  refine tX10_allianceBeans_25 (ha := (by first | assumption | (repeat (first | assumption | exact At.set_eq2 (by first | omega | (simp only [hset, hnew]; omega) | rfl | decide) | exact At.new_eq2 _ _ (by first | omega | (simp only [hset, hnew]; omega) | rfl | decide) | refine At.set_ne ?_ (by first | omega | (simp only [hset, hnew]; omega) | rfl | decide) | refine At.new_ne ?_)))) (hv := rfl) (r := ?_)
  refine tX10_allianceBeans_28  (r := ?_)
  refine tX10_allianceBeans_29 (ha := (by first | assumption | (repeat (first | assumption | exact At.set_eq2 (by first | omega | (simp only [hset, hnew]; omega) | rfl | decide) | exact At.new_eq2 _ _ (by first | omega | (simp only [hset, hnew]; omega) | rfl | decide) | refine At.set_ne ?_ (by first | omega | (simp only [hset, hnew]; omega) | rfl | decide) | refine At.new_ne ?_)))) (hx := rfl) (hj := (by omega)) (hn := (by decide)) (r := ?_)
  rw [v8 _ (by omega)]
  refine tX10_allianceBeans_30 (ha := (by first | assumption | (repeat (first | assumption | exact At.set_eq2 (by first | omega | (simp only [hset, hnew]; omega) | rfl | decide) | exact At.new_eq2 _ _ (by first | omega | (simp only [hset, hnew]; omega) | rfl | decide) | refine At.set_ne ?_ (by first | omega | (simp only [hset, hnew]; omega) | rfl | decide) | refine At.new_ne ?_)))) (hx := rfl) (hj := r6) (hn := (by decide)) (r := ?_)
  rw [cp _ r6]
  refine tX10_allianceBeans_31  (hP := ?_)
  exact ck_val cl chh

set_option maxHeartbeats 4000000 in
set_option maxRecDepth 100000 in
theorem m_allianceBeans_ok (hd : 4 ≤ d) (m1 : MoR h 216 s) (t1 : ToR h 216 s.2.2.1) (hb : BDok s.2.2.1 s.2.2.2) {j0 : Nat} (q0 : j0 < bJa s.2.2.1) {j1 : Nat} (q1 : j1 < bLa s.2.2.1) : RQ G mX12_allianceBeans d 0 [some (.ref 216), some (.int (nI j0)), some (.int (nI j1))] [] h (MK h s 0 (nI ((po (rt (dF s.2.2.2)) (dB s.2.2.2 j0)) (rt (dF s.2.2.2) j1)))) := by
  obtain ⟨th, c⟩ := MoT.ofR m1 t1
  refine b_allianceBeans c (fun h2 c2 ch2 => ?_)
  obtain ⟨⟨tk, iw, er, et, dp, nm, am⟩, ⟨-, ⟨ft, at1, ct1⟩, -, -, -, -, -, -, -, ⟨ru, ac, no, a9, -⟩, -, -, ⟨fn, a48, n0, nb, nf, nl⟩, -, -, -, -⟩, ⟨⟨gs, as_, cs⟩, ⟨gw, aw, cw⟩, ⟨gl, al, cl⟩, ⟨g0, a0_, c0_⟩, ⟨g1, a1_, c1_⟩⟩⟩ := id c2
  have l1 := hb.1
  have l2 := hb.2.1
  have l3 := hb.2.2.1
  have r6 := rt_lt6 hb j1 (by omega)
  refine tX12_allianceBeans_5  (r := ?_)
  refine tX12_allianceBeans_6  (r := ?_)
  refine tX12_allianceBeans_7 (hd := (by omega)) (ha := (by first | assumption | (repeat (first | assumption | exact At.set_eq2 (by first | omega | (simp only [hset, hnew]; omega) | rfl | decide) | exact At.new_eq2 _ _ (by first | omega | (simp only [hset, hnew]; omega) | rfl | decide) | refine At.set_ne ?_ (by first | omega | (simp only [hset, hnew]; omega) | rfl | decide) | refine At.new_ne ?_)))) (call := s_isJar_ok (d := 1) (by decide) c2 hb q0) (k := ?_)
  rintro v0 h_ ⟨rfl, e0⟩
  rw [e0]
  refine tX12_allianceBeans_10  (kt := fun c_ => by exfalso; exact absurd c_ (by decide)) (kf := fun _ => ?_)
  refine tX12_allianceBeans_13  (r := ?_)
  refine tX12_allianceBeans_14  (r := ?_)
  refine tX12_allianceBeans_15 (hd := (by omega)) (ha := (by first | assumption | (repeat (first | assumption | exact At.set_eq2 (by first | omega | (simp only [hset, hnew]; omega) | rfl | decide) | exact At.new_eq2 _ _ (by first | omega | (simp only [hset, hnew]; omega) | rfl | decide) | refine At.set_ne ?_ (by first | omega | (simp only [hset, hnew]; omega) | rfl | decide) | refine At.new_ne ?_)))) (call := s_isLabel_ok (d := 1) (by decide) c2 hb q1) (k := ?_)
  rintro v1 h_ ⟨rfl, e1⟩
  rw [e1]
  refine tX12_allianceBeans_18  (kf := fun c_ => by exfalso; exact absurd c_ (by decide)) (kt := fun _ => ?_)
  refine tX12_allianceBeans_27  (r := ?_)
  refine tX12_allianceBeans_28  (r := ?_)
  refine tX12_allianceBeans_29 (hd := (by omega)) (ha := (by first | assumption | (repeat (first | assumption | exact At.set_eq2 (by first | omega | (simp only [hset, hnew]; omega) | rfl | decide) | exact At.new_eq2 _ _ (by first | omega | (simp only [hset, hnew]; omega) | rfl | decide) | refine At.set_ne ?_ (by first | omega | (simp only [hset, hnew]; omega) | rfl | decide) | refine At.new_ne ?_)))) (call := s_add (d := 3) (by decide) c2 hb q0) (k := ?_)
  intro h3 hq
  obtain ⟨c3, ⟨f, ai, hf⟩, sm3⟩ := hq
  obtain ⟨⟨tk3, iw3, er3, et3, dp3, nm3, am3⟩, -⟩ := id c3
  refine tX12_allianceBeans_32  (r := ?_)
  refine tX12_allianceBeans_33 (ha := (by first | assumption | (repeat (first | assumption | exact At.set_eq2 (by first | omega | (simp only [hset, hnew]; omega) | rfl | decide) | exact At.new_eq2 _ _ (by first | omega | (simp only [hset, hnew]; omega) | rfl | decide) | refine At.set_ne ?_ (by first | omega | (simp only [hset, hnew]; omega) | rfl | decide) | refine At.new_ne ?_)))) (hv := rfl) (r := ?_)
  refine tX12_allianceBeans_36  (r := ?_)
  refine tX12_allianceBeans_37  (r := ?_)
  refine tX12_allianceBeans_38 (hd := (by omega)) (ha := (by first | assumption | (repeat (first | assumption | exact At.set_eq2 (by first | omega | (simp only [hset, hnew]; omega) | rfl | decide) | exact At.new_eq2 _ _ (by first | omega | (simp only [hset, hnew]; omega) | rfl | decide) | refine At.set_ne ?_ (by first | omega | (simp only [hset, hnew]; omega) | rfl | decide) | refine At.new_ne ?_)))) (call := s_leader (d := 3) c3 hb q1) (k := ?_)
  rintro v h_ ⟨rfl, e9⟩
  rw [e9]
  refine tX12_allianceBeans_41 (ha := (by first | assumption | (repeat (first | assumption | exact At.set_eq2 (by first | omega | (simp only [hset, hnew]; omega) | rfl | decide) | exact At.new_eq2 _ _ (by first | omega | (simp only [hset, hnew]; omega) | rfl | decide) | refine At.set_ne ?_ (by first | omega | (simp only [hset, hnew]; omega) | rfl | decide) | refine At.new_ne ?_)))) (hx := rfl) (hj := r6) (hn := (by decide)) (r := ?_)
  rw [hf _ r6]
  refine tX12_allianceBeans_42  (hP := ?_)
  exact MK.of c3 ((ch2.trans (sm3.ch (lo2 := 216) (hi2 := 269) (ck := 0) (sk := 0) (by omega) (by omega))).sub (Nat.le_refl _) (Nat.le_refl _) (by decide) (by decide))

set_option maxHeartbeats 4000000 in
set_option maxRecDepth 100000 in
theorem s_margin_l {h3 : AH} (hd : 1 ≤ d) {th : Int32} (c3 : MoT h3 216 th s) (hb : BDok s.2.2.1 s.2.2.2) {g : Nat → Int32} (ai : At h3 (216 + 50) (.inl (0, 6, .inl g))) {q : Nat → Nat} (hg : ∀ k, k < 6 → g k = nI (q k)) (hq : ∀ k, k < 6 → q k ≤ 1200) (hz : ∀ k, bLa s.2.2.1 ≤ k → k < 6 → q k = 0) {f : Nat} (e : fiN q 6 = some f) {x1 : Option Value} : ∀ (n i : Nat), bLa s.2.2.1 ≤ i + n → i ≤ bLa s.2.2.1 → RQ G mX12_margin d 18 [some (.ref 216), x1, some (.int (nI f)), some (.int (nI (sec q (some f) i))), some (.int (nI i))] [] h3 (Ri fun v h1 => v = nI (mar q) ∧ h1 = h3) := by
  obtain ⟨⟨tk, iw, er, et, dp, nm, am⟩, ⟨-, ⟨ft, at1, ct1⟩, -, -, -, -, -, -, -, ⟨ru, ac, no, a9, -⟩, -, -, ⟨fn, a48, n0, nb, nf, nl⟩, -, -, -, -⟩, ⟨⟨gs, as_, cs⟩, ⟨gw, aw, cw⟩, ⟨gl, al, cl⟩, ⟨g0, a0_, c0_⟩, ⟨g1, a1_, c1_⟩⟩⟩ := id c3
  have l1 := hb.1
  have l2 := hb.2.1
  have l3 := hb.2.2.1
  have f6 := fi_lt _ _ _ e
  have ex : ∀ i, i = bLa s.2.2.1 → RQ G mX12_margin d 18 [some (.ref 216), x1, some (.int (nI f)), some (.int (nI (sec q (some f) i))), some (.int (nI i))] [] h3 (Ri fun v h1 => v = nI (mar q) ∧ h1 = h3) := by
    intro i hi
    rw [hi]
    refine tX12_margin_18  (r := ?_)
    refine tX12_margin_20  (r := ?_)
    refine tX12_margin_21 (ha := (by first | assumption | (repeat (first | assumption | exact At.set_eq2 (by first | omega | (simp only [hset, hnew]; omega) | rfl | decide) | exact At.new_eq2 _ _ (by first | omega | (simp only [hset, hnew]; omega) | rfl | decide) | refine At.set_ne ?_ (by first | omega | (simp only [hset, hnew]; omega) | rfl | decide) | refine At.new_ne ?_)))) (hv := rfl) (r := ?_)
    refine tX12_margin_24 (ha := (by first | assumption | (repeat (first | assumption | exact At.set_eq2 (by first | omega | (simp only [hset, hnew]; omega) | rfl | decide) | exact At.new_eq2 _ _ (by first | omega | (simp only [hset, hnew]; omega) | rfl | decide) | refine At.set_ne ?_ (by first | omega | (simp only [hset, hnew]; omega) | rfl | decide) | refine At.new_ne ?_)))) (hv := rfl) (r := ?_)
    refine tX12_margin_27  (kf := fun c_ => by exfalso; (simp (disch := first | omega | decide) only [ci_lt, ci_le, ci_eq, ci_lt0, ci_ge0, ci_gt0, ci_le0, ci_eq0, ci_m1_lt, ci_m1_le, ci_lt_m1, ci_le_m1, ci_eq_m1, ci_m1_eq, not_true, not_false_iff, Nat.not_lt, Nat.not_le] at c_ <;> omega)) (kt := fun _ => ?_)
    refine tX12_margin_54  (r := ?_)
    refine tX12_margin_55 (ha := (by first | assumption | (repeat (first | assumption | exact At.set_eq2 (by first | omega | (simp only [hset, hnew]; omega) | rfl | decide) | exact At.new_eq2 _ _ (by first | omega | (simp only [hset, hnew]; omega) | rfl | decide) | refine At.set_ne ?_ (by first | omega | (simp only [hset, hnew]; omega) | rfl | decide) | refine At.new_ne ?_)))) (hv := rfl) (r := ?_)
    refine tX12_margin_58  (r := ?_)
    refine tX12_margin_59 (ha := (by first | assumption | (repeat (first | assumption | exact At.set_eq2 (by first | omega | (simp only [hset, hnew]; omega) | rfl | decide) | exact At.new_eq2 _ _ (by first | omega | (simp only [hset, hnew]; omega) | rfl | decide) | refine At.set_ne ?_ (by first | omega | (simp only [hset, hnew]; omega) | rfl | decide) | refine At.new_ne ?_)))) (hx := rfl) (hj := f6) (hn := (by decide)) (r := ?_)
    rw [hg _ f6]
    refine tX12_margin_60  (r := ?_)
    refine tX12_margin_61  (r := ?_)
    rw [← sec_ext (p := q) (f := some f) 6 l1 hz, nI_subN (sec_le 6 (fun k hk => by have := fi_max q 6 k hk; rw [e] at this; exact this)) (by have := hq f f6; omega), ← mar_some e]
    refine tX12_margin_62  (hP := ?_)
    exact ⟨_, rfl, rfl, rfl⟩
  intro n
  induction n with
  | zero => exact fun i h1_ h2_ => ex i (by omega)
  | succ n ih =>
    intro i h1_ h2_
    by_cases hi : i = bLa s.2.2.1
    · exact ex i hi
    have hi2 : i < bLa s.2.2.1 := by omega
    refine tX12_margin_18  (r := ?_)
    refine tX12_margin_20  (r := ?_)
    refine tX12_margin_21 (ha := (by first | assumption | (repeat (first | assumption | exact At.set_eq2 (by first | omega | (simp only [hset, hnew]; omega) | rfl | decide) | exact At.new_eq2 _ _ (by first | omega | (simp only [hset, hnew]; omega) | rfl | decide) | refine At.set_ne ?_ (by first | omega | (simp only [hset, hnew]; omega) | rfl | decide) | refine At.new_ne ?_)))) (hv := rfl) (r := ?_)
    refine tX12_margin_24 (ha := (by first | assumption | (repeat (first | assumption | exact At.set_eq2 (by first | omega | (simp only [hset, hnew]; omega) | rfl | decide) | exact At.new_eq2 _ _ (by first | omega | (simp only [hset, hnew]; omega) | rfl | decide) | refine At.set_ne ?_ (by first | omega | (simp only [hset, hnew]; omega) | rfl | decide) | refine At.new_ne ?_)))) (hv := rfl) (r := ?_)
    refine tX12_margin_27  (kt := fun c_ => by exfalso; (simp (disch := first | omega | decide) only [ci_lt, ci_le, ci_eq, ci_lt0, ci_ge0, ci_gt0, ci_le0, ci_eq0, ci_m1_lt, ci_m1_le, ci_lt_m1, ci_le_m1, ci_eq_m1, ci_m1_eq, not_true, not_false_iff, Nat.not_lt, Nat.not_le] at c_ <;> omega)) (kf := fun _ => ?_)
    refine tX12_margin_30  (r := ?_)
    refine tX12_margin_32  (r := ?_)
    refine tX12_margin_33  (kt := fun c_33 => ?_) (kf := fun c_33 => ?_)
    · have e1 : sec q (some f) (i + 1) = sec q (some f) i := if_pos (by rw [(nI_eq (by omega) (by omega)).mp c_33])
      rw [← e1]
      refine tX12_margin_48  (r := ?_)
      rw [nI_add]
      refine tX12_margin_51 (r := ?_)
      exact ih (i + 1) (by omega) (by omega)
    · have e1 : sec q (some f) (i + 1) = max (sec q (some f) i) (q i) := if_neg (fun z => c_33 (by cases z; rfl))
      have w1 := sec_le (p := q) (f := some f) i (M := 1200) (fun k hk => hq k (by omega))
      have w2 := hq i (by omega)
      refine tX12_margin_36  (r := ?_)
      refine tX12_margin_37  (r := ?_)
      refine tX12_margin_38 (ha := (by first | assumption | (repeat (first | assumption | exact At.set_eq2 (by first | omega | (simp only [hset, hnew]; omega) | rfl | decide) | exact At.new_eq2 _ _ (by first | omega | (simp only [hset, hnew]; omega) | rfl | decide) | refine At.set_ne ?_ (by first | omega | (simp only [hset, hnew]; omega) | rfl | decide) | refine At.new_ne ?_)))) (hv := rfl) (r := ?_)
      refine tX12_margin_41  (r := ?_)
      refine tX12_margin_43 (ha := (by first | assumption | (repeat (first | assumption | exact At.set_eq2 (by first | omega | (simp only [hset, hnew]; omega) | rfl | decide) | exact At.new_eq2 _ _ (by first | omega | (simp only [hset, hnew]; omega) | rfl | decide) | refine At.set_ne ?_ (by first | omega | (simp only [hset, hnew]; omega) | rfl | decide) | refine At.new_ne ?_)))) (hx := rfl) (hj := (by omega)) (hn := (by decide)) (r := ?_)
      rw [hg _ (by omega)]
      refine tX12_margin_44 (hd := (by omega)) (r := ?_)
      rw [nI_maxN (by omega) (by omega), ← e1]
      refine tX12_margin_47  (r := ?_)
      refine tX12_margin_48  (r := ?_)
      rw [nI_add]
      refine tX12_margin_51 (r := ?_)
      exact ih (i + 1) (by omega) (by omega)

set_option maxHeartbeats 4000000 in
set_option maxRecDepth 100000 in
theorem s_margin (hd : 3 ≤ d) {th : Int32} (c2 : MoT h 216 th s) (hb : BDok s.2.2.1 s.2.2.2) {j0 : Nat} (q0 : j0 < bJa s.2.2.1) : RQ G mX12_margin d 0 [some (.ref 216), some (.int (nI j0)), none, none, none] [] h (Ri fun v h1 => v = nI (mar (po (rt (dF s.2.2.2)) (dB s.2.2.2 j0))) ∧ MoT h1 216 th s ∧ Sm h h1 (216 + 50) (216 + 51)) := by
  have l2 := hb.2.1
  have hs := hb.2.2.2.2.2.2.1 j0 (by omega)
  obtain ⟨⟨tk, iw, er, et, dp, nm, am⟩, -⟩ := id c2
  refine tX12_margin_0  (r := ?_)
  refine tX12_margin_1  (r := ?_)
  refine tX12_margin_2 (hd := (by omega)) (ha := (by first | assumption | (repeat (first | assumption | exact At.set_eq2 (by first | omega | (simp only [hset, hnew]; omega) | rfl | decide) | exact At.new_eq2 _ _ (by first | omega | (simp only [hset, hnew]; omega) | rfl | decide) | refine At.set_ne ?_ (by first | omega | (simp only [hset, hnew]; omega) | rfl | decide) | refine At.new_ne ?_)))) (call := s_firstHere (d := 2) (by decide) c2 hb q0) (k := ?_)
  rintro v h3 ⟨rfl, c3, ⟨g, ai, hg⟩, sm3⟩
  refine tX12_margin_5  (r := ?_)
  refine tX12_margin_6  (r := ?_)
  refine tX12_margin_7  (r := ?_)
  refine tX12_margin_8  (kt := fun c_8 => ?_) (kf := fun c_8 => ?_)
  · obtain ⟨f, e⟩ : ∃ f, fiN (po (rt (dF s.2.2.2)) (dB s.2.2.2 j0)) 6 = some f := by
      cases e1 : fiN (po (rt (dF s.2.2.2)) (dB s.2.2.2 j0)) 6 with
      | none =>
        rw [e1] at c_8
        exact absurd rfl c_8
      | some f => exact ⟨f, rfl⟩
    rw [e]
    refine tX12_margin_13  (r := ?_)
    refine tX12_margin_14  (r := ?_)
    refine tX12_margin_15  (r := ?_)
    refine tX12_margin_16  (r := ?_)
    exact (s_margin_l (by omega) c3 hb ai hg (fun k hk => po_le hs k) (fun k h1_ h2_ => po_z hb (by omega) k h1_ h2_) e (bLa s.2.2.1) 0 (by omega) (by omega)).imp (fun o9 h9 q9 => by obtain ⟨x9, z1, z2, rfl⟩ := q9; exact ⟨x9, z1, z2, c3, sm3⟩)
  · have e : fiN (po (rt (dF s.2.2.2)) (dB s.2.2.2 j0)) 6 = none := by
      cases e1 : fiN (po (rt (dF s.2.2.2)) (dB s.2.2.2 j0)) 6 with
      | none => rfl
      | some f =>
        rw [e1] at c_8
        have f6 := fi_lt _ _ _ e1
        have c9 : nI f = -1 := c_8
        rw [ci_eq_m1 (by omega)] at c9
        exact c9.elim
    refine tX12_margin_11  (r := ?_)
    refine tX12_margin_12  (hP := ?_)
    exact ⟨_, rfl, by rw [mar_none e], c3, sm3⟩

set_option maxHeartbeats 4000000 in
set_option maxRecDepth 100000 in
theorem k_marginIn_ok (hd : 7 ≤ d) (c : ClR h 0 bk dr s) (hb : BDok s.2.2.1 s.2.2.2) (hh : 216 ≤ h.1) {j0 : Nat} (q0 : j0 < bJa s.2.2.1) : RQ G mX10_marginIn d 0 [some (.ref 0), some (.int (nI j0))] [] h (CK h bk dr s "java/lang/IndexOutOfBoundsException" "" 0 (nI (mar (po (rt (dF s.2.2.2)) (dB s.2.2.2 j0))))) := by
  have c1 := c.poll
  have cb := c.book
  obtain ⟨jf, lj, fo, le, u0, u1, u2, u3, u4, u5, u6, u7, u8, u9⟩ := id c.2.2.2.2.1
  have l1 := hb.1
  have l2 := hb.2.1
  have l3 := hb.2.2.1
  refine tX10_marginIn_0  (r := ?_)
  refine tX10_marginIn_1  (r := ?_)
  refine tX10_marginIn_2 (hd := (by omega)) (ha := (by first | assumption | (repeat (first | assumption | exact At.set_eq2 (by first | omega | (simp only [hset, hnew]; omega) | rfl | decide) | exact At.new_eq2 _ _ (by first | omega | (simp only [hset, hnew]; omega) | rfl | decide) | refine At.set_ne ?_ (by first | omega | (simp only [hset, hnew]; omega) | rfl | decide) | refine At.new_ne ?_)))) (call := s_checkJar_ok (d := 6) (QX := fun _ _ => False) c hb q0) (kx := fun E_ h_ hx_ => by exact hx_.elim) (k := ?_)
  intro h_ e0
  rw [e0]
  refine tX10_marginIn_5  (r := ?_)
  refine tX10_marginIn_6 (ha := (by first | assumption | (repeat (first | assumption | exact At.set_eq2 (by first | omega | (simp only [hset, hnew]; omega) | rfl | decide) | exact At.new_eq2 _ _ (by first | omega | (simp only [hset, hnew]; omega) | rfl | decide) | refine At.set_ne ?_ (by first | omega | (simp only [hset, hnew]; omega) | rfl | decide) | refine At.new_ne ?_)))) (hv := rfl) (r := ?_)
  refine tX10_marginIn_9  (r := ?_)
  refine tX10_marginIn_10 (hd := (by omega)) (ha := (by first | assumption | (repeat (first | assumption | exact At.set_eq2 (by first | omega | (simp only [hset, hnew]; omega) | rfl | decide) | exact At.new_eq2 _ _ (by first | omega | (simp only [hset, hnew]; omega) | rfl | decide) | refine At.set_ne ?_ (by first | omega | (simp only [hset, hnew]; omega) | rfl | decide) | refine At.new_ne ?_)))) (call := (s_counted (d := 3) (by decide) c.2.2.2.2.1 hb (show j0 < 8 by omega)).imp (fun o9 h9 q9 => (⟨_, q9.1, rfl, q9.2⟩ : Rr (fun r h1 => r = 0 + 66 + 5 + 5 * j0 ∧ JaC h1 (0 + 66 + 5 + 5 * j0) (dB s.2.2.2 j0) (bSe s.2.2.1 j0) (bWy s.2.2.1 j0) (rt (dF s.2.2.2)) ∧ CuR h1 (0 + 66) s.2.2.1 s.2.2.2 ∧ Sm h h1 (0 + 66 + 5 + 5 * j0) (0 + 66 + 5 + 5 * j0 + 5)) o9 h9))) (k := ?_)
  rintro jj h1 ⟨rfl, q9⟩
  obtain ⟨jc, cu, sm⟩ := q9
  have cl := c.now cu sm (by omega) (by omega)
  have chh : Ch h h1 0 216 0 0 := sm.ch (Nat.zero_le _) (by omega)
  obtain ⟨bf, p, w, l, tu, fi, ma, ⟨b0, b1, b2, b3, b4⟩, hb2, cp, cw_, ct, cf, cm⟩ := jc
  refine tX10_marginIn_13 (ha := (by first | assumption | (repeat (first | assumption | exact At.set_eq2 (by first | omega | (simp only [hset, hnew]; omega) | rfl | decide) | exact At.new_eq2 _ _ (by first | omega | (simp only [hset, hnew]; omega) | rfl | decide) | refine At.set_ne ?_ (by first | omega | (simp only [hset, hnew]; omega) | rfl | decide) | refine At.new_ne ?_)))) (hv := rfl) (r := ?_)
  rw [cm]
  refine tX10_marginIn_16  (hP := ?_)
  exact ck_val cl chh

set_option maxHeartbeats 4000000 in
set_option maxRecDepth 100000 in
theorem m_marginIn_ok (hd : 4 ≤ d) (m1 : MoR h 216 s) (t1 : ToR h 216 s.2.2.1) (hb : BDok s.2.2.1 s.2.2.2) {j0 : Nat} (q0 : j0 < bJa s.2.2.1) : RQ G mX12_marginIn d 0 [some (.ref 216), some (.int (nI j0))] [] h (MK h s 0 (nI (mar (po (rt (dF s.2.2.2)) (dB s.2.2.2 j0))))) := by
  obtain ⟨th, c⟩ := MoT.ofR m1 t1
  refine b_marginIn c (fun h2 c2 ch2 => ?_)
  obtain ⟨⟨tk, iw, er, et, dp, nm, am⟩, ⟨-, ⟨ft, at1, ct1⟩, -, -, -, -, -, -, -, ⟨ru, ac, no, a9, -⟩, -, -, ⟨fn, a48, n0, nb, nf, nl⟩, -, -, -, -⟩, ⟨⟨gs, as_, cs⟩, ⟨gw, aw, cw⟩, ⟨gl, al, cl⟩, ⟨g0, a0_, c0_⟩, ⟨g1, a1_, c1_⟩⟩⟩ := id c2
  have l1 := hb.1
  have l2 := hb.2.1
  have l3 := hb.2.2.1
  refine tX12_marginIn_5  (r := ?_)
  refine tX12_marginIn_6  (r := ?_)
  refine tX12_marginIn_7 (hd := (by omega)) (ha := (by first | assumption | (repeat (first | assumption | exact At.set_eq2 (by first | omega | (simp only [hset, hnew]; omega) | rfl | decide) | exact At.new_eq2 _ _ (by first | omega | (simp only [hset, hnew]; omega) | rfl | decide) | refine At.set_ne ?_ (by first | omega | (simp only [hset, hnew]; omega) | rfl | decide) | refine At.new_ne ?_)))) (call := s_isJar_ok (d := 1) (by decide) c2 hb q0) (k := ?_)
  rintro v0 h_ ⟨rfl, e0⟩
  rw [e0]
  refine tX12_marginIn_10  (kt := fun c_ => by exfalso; exact absurd c_ (by decide)) (kf := fun _ => ?_)
  refine tX12_marginIn_13  (r := ?_)
  refine tX12_marginIn_14  (r := ?_)
  refine tX12_marginIn_15 (hd := (by omega)) (ha := (by first | assumption | (repeat (first | assumption | exact At.set_eq2 (by first | omega | (simp only [hset, hnew]; omega) | rfl | decide) | exact At.new_eq2 _ _ (by first | omega | (simp only [hset, hnew]; omega) | rfl | decide) | refine At.set_ne ?_ (by first | omega | (simp only [hset, hnew]; omega) | rfl | decide) | refine At.new_ne ?_)))) (call := s_margin (d := 3) (by decide) c2 hb q0) (k := ?_)
  rintro v h3 ⟨rfl, c3, sm3⟩
  refine tX12_marginIn_18 (r := ?_)
  refine tX12_marginIn_26  (hP := ?_)
  exact MK.of c3 ((ch2.trans (sm3.ch (lo2 := 216) (hi2 := 269) (ck := 0) (sk := 0) (by omega) (by omega))).sub (Nat.le_refl _) (Nat.le_refl _) (by decide) (by decide))

set_option maxHeartbeats 4000000 in
set_option maxRecDepth 100000 in
theorem k_putLid_ok (hd : 7 ≤ d) (c : ClR h 0 bk dr s) (hb : BDok s.2.2.1 s.2.2.2) (hh : 216 ≤ h.1) {j0 : Nat} (q0 : j0 < bLi s.2.2.1) {j1 : Nat} (q1 : j1 < bJa s.2.2.1) : RQ G mX10_putLid d 0 [some (.ref 0), some (.int (nI j0)), some (.int (nI j1)), none] [] h (CK h bk dr (s.1, s.2.1, s.2.2.1, (dDay s.2.2.2, dB s.2.2.2, (fun i => if i = j0 then j1 else dL s.2.2.2 i), dF s.2.2.2)) "java/lang/IndexOutOfBoundsException" "" 0 (nI (dL s.2.2.2 j0))) := by
  have c1 := c.poll
  have cb := c.book
  obtain ⟨jf, lj, fo, le, u0, u1, u2, u3, u4, u5, u6, u7, u8, u9⟩ := id c.2.2.2.2.1
  have l1 := hb.1
  have l2 := hb.2.1
  have l3 := hb.2.2.1
  refine tX10_putLid_0  (r := ?_)
  refine tX10_putLid_1  (r := ?_)
  refine tX10_putLid_2 (hd := (by omega)) (ha := (by first | assumption | (repeat (first | assumption | exact At.set_eq2 (by first | omega | (simp only [hset, hnew]; omega) | rfl | decide) | exact At.new_eq2 _ _ (by first | omega | (simp only [hset, hnew]; omega) | rfl | decide) | refine At.set_ne ?_ (by first | omega | (simp only [hset, hnew]; omega) | rfl | decide) | refine At.new_ne ?_)))) (call := s_checkLid_ok (d := 6) (QX := fun _ _ => False) c hb q0) (kx := fun E_ h_ hx_ => by exact hx_.elim) (k := ?_)
  intro h_ e0
  rw [e0]
  refine tX10_putLid_5  (r := ?_)
  refine tX10_putLid_6  (r := ?_)
  refine tX10_putLid_7 (hd := (by omega)) (ha := (by first | assumption | (repeat (first | assumption | exact At.set_eq2 (by first | omega | (simp only [hset, hnew]; omega) | rfl | decide) | exact At.new_eq2 _ _ (by first | omega | (simp only [hset, hnew]; omega) | rfl | decide) | refine At.set_ne ?_ (by first | omega | (simp only [hset, hnew]; omega) | rfl | decide) | refine At.new_ne ?_)))) (call := s_checkJar_ok (d := 6) (QX := fun _ _ => False) c hb q1) (kx := fun E_ h_ hx_ => by exact hx_.elim) (k := ?_)
  intro h_ e1
  rw [e1]
  refine tX10_putLid_10  (r := ?_)
  refine tX10_putLid_11 (ha := (by first | assumption | (repeat (first | assumption | exact At.set_eq2 (by first | omega | (simp only [hset, hnew]; omega) | rfl | decide) | exact At.new_eq2 _ _ (by first | omega | (simp only [hset, hnew]; omega) | rfl | decide) | refine At.set_ne ?_ (by first | omega | (simp only [hset, hnew]; omega) | rfl | decide) | refine At.new_ne ?_)))) (hv := rfl) (r := ?_)
  refine tX10_putLid_14 (ha := (by first | assumption | (repeat (first | assumption | exact At.set_eq2 (by first | omega | (simp only [hset, hnew]; omega) | rfl | decide) | exact At.new_eq2 _ _ (by first | omega | (simp only [hset, hnew]; omega) | rfl | decide) | refine At.set_ne ?_ (by first | omega | (simp only [hset, hnew]; omega) | rfl | decide) | refine At.new_ne ?_)))) (hv := rfl) (r := ?_)
  refine tX10_putLid_17  (r := ?_)
  refine tX10_putLid_18 (ha := (by first | assumption | (repeat (first | assumption | exact At.set_eq2 (by first | omega | (simp only [hset, hnew]; omega) | rfl | decide) | exact At.new_eq2 _ _ (by first | omega | (simp only [hset, hnew]; omega) | rfl | decide) | refine At.set_ne ?_ (by first | omega | (simp only [hset, hnew]; omega) | rfl | decide) | refine At.new_ne ?_)))) (hx := rfl) (hj := (by omega)) (hn := (by decide)) (r := ?_)
  rw [u6 _ (by omega)]
  refine tX10_putLid_19 (ho := rfl) (r := ?_)
  refine tX10_putLid_20  (r := ?_)
  refine tX10_putLid_21 (ha := (by first | assumption | (repeat (first | assumption | exact At.set_eq2 (by first | omega | (simp only [hset, hnew]; omega) | rfl | decide) | exact At.new_eq2 _ _ (by first | omega | (simp only [hset, hnew]; omega) | rfl | decide) | refine At.set_ne ?_ (by first | omega | (simp only [hset, hnew]; omega) | rfl | decide) | refine At.new_ne ?_)))) (hv := rfl) (r := ?_)
  refine tX10_putLid_24 (ha := (by first | assumption | (repeat (first | assumption | exact At.set_eq2 (by first | omega | (simp only [hset, hnew]; omega) | rfl | decide) | exact At.new_eq2 _ _ (by first | omega | (simp only [hset, hnew]; omega) | rfl | decide) | refine At.set_ne ?_ (by first | omega | (simp only [hset, hnew]; omega) | rfl | decide) | refine At.new_ne ?_)))) (hv := rfl) (r := ?_)
  refine tX10_putLid_27  (r := ?_)
  refine tX10_putLid_28  (r := ?_)
  refine tX10_putLid_29 (ha := (by first | assumption | (repeat (first | assumption | exact At.set_eq2 (by first | omega | (simp only [hset, hnew]; omega) | rfl | decide) | exact At.new_eq2 _ _ (by first | omega | (simp only [hset, hnew]; omega) | rfl | decide) | refine At.set_ne ?_ (by first | omega | (simp only [hset, hnew]; omega) | rfl | decide) | refine At.new_ne ?_)))) (hx := rfl) (hj := (by omega)) (hn := (by decide)) (r := ?_)
  refine tX10_putLid_30  (r := ?_)
  refine tX10_putLid_31  (hP := ?_)
  have sm : Sm h (hset h (0 + 66 + 2) (.inl (0, 6, .inl (upd lj j0 (nI j1))))) (0 + 66 + 2) (0 + 66 + 3) := (Sm.rf _ _ _).set (Nat.le_refl _) (by omega)
  refine ck_val (c.now (D := (dDay s.2.2.2, dB s.2.2.2, (fun i => if i = j0 then j1 else dL s.2.2.2 i), dF s.2.2.2)) ⟨jf, upd lj j0 (nI j1), fo, le, sm.at u0 (by omega), sm.at u1 (by omega), At.set_eq2 u2.1, sm.at u3 (by omega), sm.at u4 (by omega), u5, fun i hi => ?_, u7, u8, fun i hi => (u9 i hi).keep (Nat.le_refl _) (Un.set (Un.rf _ _ _) (by omega))⟩ sm (by omega) (by omega)) (sm.ch (by omega) (by omega))
  show (if i = j0 then nI j1 else lj i) = nI (if i = j0 then j1 else dL s.2.2.2 i)
  by_cases e : i = j0
  · rw [if_pos e, if_pos e]
  · rw [if_neg e, if_neg e, u6 i hi]

theorem MoT.now {th : Int32} (c : MoT h 216 th s) {f : Nat → Int32} (D : DY) (n0 : f 0 = dDay D) (nb : ∀ j k, j < bJa s.2.2.1 → k < bLa s.2.2.1 → f (1 + 6 * j + k) = nI (dB D j k)) (nf : ∀ k, k < bLa s.2.2.1 → f (49 + k) = oI (dF D k)) (nl : ∀ i, i < bLi s.2.2.1 → f (55 + i) = nI (dL D i)) : MoT (hset h (216 + 48) (.inl (0, 61, .inl f))) 216 th (s.1, s.2.1, s.2.2.1, D) := by
  obtain ⟨⟨tk, iw, er, et, dp, nm, a⟩, ⟨-, ⟨f1, a1, c1⟩, a2, a3, a4, a5, a6, a7, a8, ⟨ru, ac, no, a9⟩, ⟨b1, b2, b3, b4, b5, b6, a28⟩, a47, ⟨g, a48, hg⟩, a49, a50, a51, a52⟩, c3⟩ := c
  have e : h.1 ≤ (hset h (216 + 48) (.inl (0, 61, .inl f))).1 := Nat.le_refl _
  have u1 : Un h (hset h (216 + 48) (.inl (0, 61, .inl f))) 216 (216 + 48) := Un.set (Un.rf _ _ _) (by omega)
  have u2 : Un h (hset h (216 + 48) (.inl (0, 61, .inl f))) (216 + 49) (216 + 53) := Un.set (Un.rf _ _ _) (by omega)
  have am := a.keep e (u1 _ (by omega) (by omega))
  obtain ⟨⟨f1', a1', c1'⟩, ⟨f2, a2', c2⟩, ⟨f3, a3', c3'⟩, ⟨f4, a4', c4⟩, ⟨f5, a5', c5⟩⟩ := c3
  exact ⟨⟨tk, iw, er, et, dp, nm, am⟩, ⟨⟨th, tk, iw, er, et, dp, nm, am⟩, ⟨f1, a1.keep e (u1 _ (by omega) (by omega)), c1⟩, a2.keep e (u1 _ (by omega) (by omega)), a3.keep e (u1 _ (by omega) (by omega)), a4.keep e (u1 _ (by omega) (by omega)), a5.keep e (u1 _ (by omega) (by omega)), a6.keep e (u1 _ (by omega) (by omega)), a7.keep e (u1 _ (by omega) (by omega)), a8.keep e (u1 _ (by omega) (by omega)), ⟨ru, ac, no, a9.keep e (u1.sub (by omega) (by omega))⟩, ⟨b1, b2, b3, b4, b5, b6, a28.keep e (u1.sub (by omega) (by omega))⟩, a47.keep e (u1 _ (by omega) (by omega)), ⟨f, At.set_eq2 a48.1, n0, nb, nf, nl⟩, a49.keep e (u2 _ (by omega) (by omega)), a50.keep e (u2 _ (by omega) (by omega)), a51.keep e (u2 _ (by omega) (by omega)), a52.keep e (u2 _ (by omega) (by omega))⟩,
    ⟨f1', a1'.keep e (u1 _ (by omega) (by omega)), c1'⟩, ⟨f2, a2'.keep e (u1 _ (by omega) (by omega)), c2⟩, ⟨f3, a3'.keep e (u1 _ (by omega) (by omega)), c3'⟩, ⟨f4, a4'.keep e (u1 _ (by omega) (by omega)), c4⟩, ⟨f5, a5'.keep e (u1 _ (by omega) (by omega)), c5⟩⟩
set_option maxHeartbeats 4000000 in
set_option maxRecDepth 100000 in
theorem m_putLid_ok (hd : 4 ≤ d) (m1 : MoR h 216 s) (t1 : ToR h 216 s.2.2.1) (hb : BDok s.2.2.1 s.2.2.2) {j0 : Nat} (q0 : j0 < bLi s.2.2.1) {j1 : Nat} (q1 : j1 < bJa s.2.2.1) : RQ G mX12_putLid d 0 [some (.ref 216), some (.int (nI j0)), some (.int (nI j1)), none] [] h (MK h (s.1, s.2.1, s.2.2.1, (dDay s.2.2.2, dB s.2.2.2, (fun i => if i = j0 then j1 else dL s.2.2.2 i), dF s.2.2.2)) 0 (nI (dL s.2.2.2 j0))) := by
  obtain ⟨th, c⟩ := MoT.ofR m1 t1
  refine b_putLid c (fun h2 c2 ch2 => ?_)
  obtain ⟨⟨tk, iw, er, et, dp, nm, am⟩, ⟨-, ⟨ft, at1, ct1⟩, -, -, -, -, -, -, -, ⟨ru, ac, no, a9, -⟩, -, -, ⟨fn, a48, n0, nb, nf, nl⟩, -, -, -, -⟩, ⟨⟨gs, as_, cs⟩, ⟨gw, aw, cw⟩, ⟨gl, al, cl⟩, ⟨g0, a0_, c0_⟩, ⟨g1, a1_, c1_⟩⟩⟩ := id c2
  have l1 := hb.1
  have l2 := hb.2.1
  have l3 := hb.2.2.1
  refine tX12_putLid_5  (r := ?_)
  refine tX12_putLid_6  (r := ?_)
  refine tX12_putLid_7 (hd := (by omega)) (ha := (by first | assumption | (repeat (first | assumption | exact At.set_eq2 (by first | omega | (simp only [hset, hnew]; omega) | rfl | decide) | exact At.new_eq2 _ _ (by first | omega | (simp only [hset, hnew]; omega) | rfl | decide) | refine At.set_ne ?_ (by first | omega | (simp only [hset, hnew]; omega) | rfl | decide) | refine At.new_ne ?_)))) (call := s_isLid_ok (d := 1) (by decide) c2 hb q0) (k := ?_)
  rintro v0 h_ ⟨rfl, e0⟩
  rw [e0]
  refine tX12_putLid_10  (kt := fun c_ => by exfalso; exact absurd c_ (by decide)) (kf := fun _ => ?_)
  refine tX12_putLid_13  (r := ?_)
  refine tX12_putLid_14  (r := ?_)
  refine tX12_putLid_15 (hd := (by omega)) (ha := (by first | assumption | (repeat (first | assumption | exact At.set_eq2 (by first | omega | (simp only [hset, hnew]; omega) | rfl | decide) | exact At.new_eq2 _ _ (by first | omega | (simp only [hset, hnew]; omega) | rfl | decide) | refine At.set_ne ?_ (by first | omega | (simp only [hset, hnew]; omega) | rfl | decide) | refine At.new_ne ?_)))) (call := s_isJar_ok (d := 1) (by decide) c2 hb q1) (k := ?_)
  rintro v1 h_ ⟨rfl, e1⟩
  rw [e1]
  refine tX12_putLid_18  (kf := fun c_ => by exfalso; exact absurd c_ (by decide)) (kt := fun _ => ?_)
  refine tX12_putLid_27  (r := ?_)
  refine tX12_putLid_28 (ha := (by first | assumption | (repeat (first | assumption | exact At.set_eq2 (by first | omega | (simp only [hset, hnew]; omega) | rfl | decide) | exact At.new_eq2 _ _ (by first | omega | (simp only [hset, hnew]; omega) | rfl | decide) | refine At.set_ne ?_ (by first | omega | (simp only [hset, hnew]; omega) | rfl | decide) | refine At.new_ne ?_)))) (hv := rfl) (r := ?_)
  refine tX12_putLid_31  (r := ?_)
  refine tX12_putLid_33  (r := ?_)
  refine tX12_putLid_34  (r := ?_)
  rw [nI_add]
  refine tX12_putLid_35 (ha := (by first | assumption | (repeat (first | assumption | exact At.set_eq2 (by first | omega | (simp only [hset, hnew]; omega) | rfl | decide) | exact At.new_eq2 _ _ (by first | omega | (simp only [hset, hnew]; omega) | rfl | decide) | refine At.set_ne ?_ (by first | omega | (simp only [hset, hnew]; omega) | rfl | decide) | refine At.new_ne ?_)))) (hx := rfl) (hj := (by omega)) (hn := (by decide)) (r := ?_)
  rw [nl _ q0]
  refine tX12_putLid_36 (ho := rfl) (r := ?_)
  refine tX12_putLid_37  (r := ?_)
  refine tX12_putLid_38 (ha := (by first | assumption | (repeat (first | assumption | exact At.set_eq2 (by first | omega | (simp only [hset, hnew]; omega) | rfl | decide) | exact At.new_eq2 _ _ (by first | omega | (simp only [hset, hnew]; omega) | rfl | decide) | refine At.set_ne ?_ (by first | omega | (simp only [hset, hnew]; omega) | rfl | decide) | refine At.new_ne ?_)))) (hv := rfl) (r := ?_)
  refine tX12_putLid_41  (r := ?_)
  refine tX12_putLid_43  (r := ?_)
  refine tX12_putLid_44  (r := ?_)
  rw [nI_add]
  refine tX12_putLid_45  (r := ?_)
  refine tX12_putLid_46 (ha := (by first | assumption | (repeat (first | assumption | exact At.set_eq2 (by first | omega | (simp only [hset, hnew]; omega) | rfl | decide) | exact At.new_eq2 _ _ (by first | omega | (simp only [hset, hnew]; omega) | rfl | decide) | refine At.set_ne ?_ (by first | omega | (simp only [hset, hnew]; omega) | rfl | decide) | refine At.new_ne ?_)))) (hx := rfl) (hj := (by omega)) (hn := (by decide)) (r := ?_)
  refine tX12_putLid_47  (r := ?_)
  refine tX12_putLid_48  (hP := ?_)
  refine MK.of (c2.now (f := upd fn (55 + j0) (nI j1)) (dDay s.2.2.2, dB s.2.2.2, (fun i => if i = j0 then j1 else dL s.2.2.2 i), dF s.2.2.2) ((if_neg (by omega)).trans n0) (fun j k hj hk => (if_neg (by omega)).trans (nb j k hj hk)) (fun k hk => (if_neg (by omega)).trans (nf k hk)) (fun i hi => ?_)) ((ch2.sub (Nat.le_refl _) (Nat.le_refl _) (by decide) (by decide)).set (by omega) (by omega))
  show (if 55 + i = 55 + j0 then nI j1 else fn (55 + i)) = nI (if i = j0 then j1 else dL s.2.2.2 i)
  by_cases e : i = j0
  · rw [if_pos (by omega), if_pos e]
  · rw [if_neg (by omega), if_neg e, nl i hi]

end MA
theorem O_allianceBeans {G : GT} {h : AH} {s : ST} {bk dr : Nat} {a0 a1 : Int32} (j : Jd h s bk dr) : OpC G mX10_allianceBeans mX12_allianceBeans 2046 2047 [some (.ref 0), some (.int a0), some (.int a1)] [some (.ref 216), some (.int a0), some (.int a1)] "java/lang/IndexOutOfBoundsException" "" (fun _ => True) h s := by
  have hb := j.1
  have hh := j.room
  have l1 := hb.1
  have l2 := hb.2.1
  have l3 := hb.2.2.1
  rcases ix_cases a0 (n := bJa s.2.2.1) (by omega) with ⟨j0, q0, rfl⟩ | bad
  rotate_left
  · exact ⟨1, nI 0, s, bk, dr, hb, trivial, k_allianceBeans_no1 (by decide) j.2.1 hb hh bad, fun h1 m1 t1 => m_allianceBeans_no1 (by decide) m1 t1 hb bad⟩
  rcases ix_cases a1 (n := bLa s.2.2.1) (by omega) with ⟨j1, q1, rfl⟩ | bad
  rotate_left
  · exact ⟨1, nI 0, s, bk, dr, hb, trivial, k_allianceBeans_no2 (by decide) j.2.1 hb hh q0 bad, fun h1 m1 t1 => m_allianceBeans_no2 (by decide) m1 t1 hb q0 bad⟩
  exact ⟨0, _, s, bk, dr, hb, trivial, k_allianceBeans_ok (by decide) j.2.1 hb hh q0 q1 , fun h1 m1 t1 => m_allianceBeans_ok (by decide) m1 t1 hb q0 q1 ⟩

theorem O_marginIn {G : GT} {h : AH} {s : ST} {bk dr : Nat} {a0 : Int32} (j : Jd h s bk dr) : OpC G mX10_marginIn mX12_marginIn 2046 2047 [some (.ref 0), some (.int a0)] [some (.ref 216), some (.int a0)] "java/lang/IndexOutOfBoundsException" "" (fun _ => True) h s := by
  have hb := j.1
  have hh := j.room
  have l1 := hb.1
  have l2 := hb.2.1
  have l3 := hb.2.2.1
  rcases ix_cases a0 (n := bJa s.2.2.1) (by omega) with ⟨j0, q0, rfl⟩ | bad
  rotate_left
  · exact ⟨1, nI 0, s, bk, dr, hb, trivial, k_marginIn_no1 (by decide) j.2.1 hb hh bad, fun h1 m1 t1 => m_marginIn_no1 (by decide) m1 t1 hb bad⟩
  exact ⟨0, _, s, bk, dr, hb, trivial, k_marginIn_ok (by decide) j.2.1 hb hh q0 , fun h1 m1 t1 => m_marginIn_ok (by decide) m1 t1 hb q0 ⟩

theorem O_putLid {G : GT} {h : AH} {s : ST} {bk dr : Nat} {a0 a1 : Int32} (j : Jd h s bk dr) : OpC G mX10_putLid mX12_putLid 2046 2047 [some (.ref 0), some (.int a0), some (.int a1), none] [some (.ref 216), some (.int a0), some (.int a1), none] "java/lang/IndexOutOfBoundsException" "" (fun _ => True) h s := by
  have hb := j.1
  have hh := j.room
  have l1 := hb.1
  have l2 := hb.2.1
  have l3 := hb.2.2.1
  rcases ix_cases a0 (n := bLi s.2.2.1) (by omega) with ⟨j0, q0, rfl⟩ | bad
  rotate_left
  · exact ⟨1, nI 0, s, bk, dr, hb, trivial, k_putLid_no1 (by decide) j.2.1 hb hh bad, fun h1 m1 t1 => m_putLid_no1 (by decide) m1 t1 hb bad⟩
  rcases ix_cases a1 (n := bJa s.2.2.1) (by omega) with ⟨j1, q1, rfl⟩ | bad
  rotate_left
  · exact ⟨1, nI 0, s, bk, dr, hb, trivial, k_putLid_no2 (by decide) j.2.1 hb hh q0 bad, fun h1 m1 t1 => m_putLid_no2 (by decide) m1 t1 hb q0 bad⟩
  exact ⟨0, _, (s.1, s.2.1, s.2.2.1, (dDay s.2.2.2, dB s.2.2.2, (fun i => if i = j0 then j1 else dL s.2.2.2 i), dF s.2.2.2)), bk, dr, (show BDok s.2.2.1 (dDay s.2.2.2, dB s.2.2.2, (fun i => if i = j0 then j1 else dL s.2.2.2 i), dF s.2.2.2) from ⟨hb.1, hb.2.1, hb.2.2.1, hb.2.2.2.1, hb.2.2.2.2.1, hb.2.2.2.2.2.1, hb.2.2.2.2.2.2.1, fun i hi => ⟨(hb.2.2.2.2.2.2.2.1 i hi).1, (by show (if i = j0 then j1 else dL s.2.2.2 i) < bJa s.2.2.1; split; exact q1; exact (hb.2.2.2.2.2.2.2.1 i hi).2)⟩, hb.2.2.2.2.2.2.2.2.1, hb.2.2.2.2.2.2.2.2.2⟩), trivial, k_putLid_ok (by decide) j.2.1 hb hh q0 q1 , fun h1 m1 t1 => m_putLid_ok (by decide) m1 t1 hb q0 q1 ⟩

