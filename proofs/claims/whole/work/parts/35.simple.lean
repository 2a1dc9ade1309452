/-! beansOf, alliances, areAllied, putLid, trim -/
section SJ
variable {G : GT} {d : Nat} {h : AH} {bk dr : Nat} {s : ST}

set_option maxHeartbeats 4000000 in
set_option maxRecDepth 100000 in
theorem k_beansOf_l (c : ClR h 0 bk dr s) (hb : BDok s.2.2.1 s.2.2.2) {j0 : Nat} (q0 : j0 < bLa s.2.2.1) : ∀ (n i : Nat), bJa s.2.2.1 ≤ i + n → i ≤ bJa s.2.2.1 → RQ G mX10_beansOf d 9 [some (.ref 0), some (.int (nI j0)), some (.int (nI (su (fun j => dB s.2.2.2 j j0) i))), some (.int (nI i))] [] h (CK h bk dr s "java/lang/IndexOutOfBoundsException" "" 0 (nI (su (fun j => dB s.2.2.2 j j0) (bJa s.2.2.1)))) := by
  have c1 := c.poll
  have cb := c.book
  obtain ⟨jf, lj, fo, le, u0, u1, u2, u3, u4, u5, u6, u7, u8, u9⟩ := id c.2.2.2.2.1
  have l1 := hb.1
  have l2 := hb.2.1
  have l3 := hb.2.2.1
  have ex : ∀ i, i = bJa s.2.2.1 → RQ G mX10_beansOf d 9 [some (.ref 0), some (.int (nI j0)), some (.int (nI (su (fun j => dB s.2.2.2 j j0) i))), some (.int (nI i))] [] h (CK h bk dr s "java/lang/IndexOutOfBoundsException" "" 0 (nI (su (fun j => dB s.2.2.2 j j0) (bJa s.2.2.1)))) := by
    intro i hi
    rw [hi]
    refine tX10_beansOf_9  (r := ?_)
    refine tX10_beansOf_10  (r := ?_)
    refine tX10_beansOf_11 (ha := (by first | assumption | (repeat (first | assumption | exact At.set_eq2 (by first | omega | (simp only [hset, hnew]; omega) | rfl | decide) | exact At.new_eq2 _ _ (by first | omega | (simp only [hset, hnew]; omega) | rfl | decide) | refine At.set_ne ?_ (by first | omega | (simp only [hset, hnew]; omega) | rfl | decide) | refine At.new_ne ?_)))) (hv := rfl) (r := ?_)
    refine tX10_beansOf_14 (ha := (by first | assumption | (repeat (first | assumption | exact At.set_eq2 (by first | omega | (simp only [hset, hnew]; omega) | rfl | decide) | exact At.new_eq2 _ _ (by first | omega | (simp only [hset, hnew]; omega) | rfl | decide) | refine At.set_ne ?_ (by first | omega | (simp only [hset, hnew]; omega) | rfl | decide) | refine At.new_ne ?_)))) (hv := rfl) (r := ?_)
    refine tX10_beansOf_17  (kf := fun c_ => by exfalso; (simp (disch := first | omega | decide) only [ci_lt, ci_le, ci_eq, ci_lt0, ci_ge0, ci_gt0, ci_le0, ci_eq0, ci_m1_lt, ci_m1_le, ci_lt_m1, ci_le_m1, ci_eq_m1, ci_m1_eq, not_true, not_false_iff, Nat.not_lt, Nat.not_le] at c_ <;> omega)) (kt := fun _ => ?_)
    refine tX10_beansOf_43  (r := ?_)
    refine tX10_beansOf_44  (hP := ?_)
    exact ck_val c (Ch.rf _ _ _ _ _)
  intro n
  induction n with
  | zero => exact fun i h1_ h2_ => ex i (by omega)
  | succ n ih =>
    intro i h1_ h2_
    by_cases hi : i = bJa s.2.2.1
    · exact ex i hi
    have hi2 : i < bJa s.2.2.1 := by omega
    refine tX10_beansOf_9  (r := ?_)
    refine tX10_beansOf_10  (r := ?_)
    refine tX10_beansOf_11 (ha := (by first | assumption | (repeat (first | assumption | exact At.set_eq2 (by first | omega | (simp only [hset, hnew]; omega) | rfl | decide) | exact At.new_eq2 _ _ (by first | omega | (simp only [hset, hnew]; omega) | rfl | decide) | refine At.set_ne ?_ (by first | omega | (simp only [hset, hnew]; omega) | rfl | decide) | refine At.new_ne ?_)))) (hv := rfl) (r := ?_)
    refine tX10_beansOf_14 (ha := (by first | assumption | (repeat (first | assumption | exact At.set_eq2 (by first | omega | (simp only [hset, hnew]; omega) | rfl | decide) | exact At.new_eq2 _ _ (by first | omega | (simp only [hset, hnew]; omega) | rfl | decide) | refine At.set_ne ?_ (by first | omega | (simp only [hset, hnew]; omega) | rfl | decide) | refine At.new_ne ?_)))) (hv := rfl) (r := ?_)
    refine tX10_beansOf_17  (kt := fun c_ => by exfalso; (simp (disch := first | omega | decide) only [ci_lt, ci_le, ci_eq, ci_lt0, ci_ge0, ci_gt0, ci_le0, ci_eq0, ci_m1_lt, ci_m1_le, ci_lt_m1, ci_le_m1, ci_eq_m1, ci_m1_eq, not_true, not_false_iff, Nat.not_lt, Nat.not_le] at c_ <;> omega)) (kf := fun _ => ?_)
    refine tX10_beansOf_20  (r := ?_)
    obtain ⟨bf, p, w, l, tu, fi, ma, co, ⟨b0, b1, b2, b3, b4⟩, hb2, hb3⟩ := u9 i (by omega)
    refine tX10_beansOf_21  (r := ?_)
    refine tX10_beansOf_22 (ha := (by first | assumption | (repeat (first | assumption | exact At.set_eq2 (by first | omega | (simp only [hset, hnew]; omega) | rfl | decide) | exact At.new_eq2 _ _ (by first | omega | (simp only [hset, hnew]; omega) | rfl | decide) | refine At.set_ne ?_ (by first | omega | (simp only [hset, hnew]; omega) | rfl | decide) | refine At.new_ne ?_)))) (hv := rfl) (r := ?_)
    refine tX10_beansOf_25 (ha := (by first | assumption | (repeat (first | assumption | exact At.set_eq2 (by first | omega | (simp only [hset, hnew]; omega) | rfl | decide) | exact At.new_eq2 _ _ (by first | omega | (simp only [hset, hnew]; omega) | rfl | decide) | refine At.set_ne ?_ (by first | omega | (simp only [hset, hnew]; omega) | rfl | decide) | refine At.new_ne ?_)))) (hv := rfl) (r := ?_)
    refine tX10_beansOf_28  (r := ?_)
    refine tX10_beansOf_29 (ha := (by first | assumption | (repeat (first | assumption | exact At.set_eq2 (by first | omega | (simp only [hset, hnew]; omega) | rfl | decide) | exact At.new_eq2 _ _ (by first | omega | (simp only [hset, hnew]; omega) | rfl | decide) | refine At.set_ne ?_ (by first | omega | (simp only [hset, hnew]; omega) | rfl | decide) | refine At.new_ne ?_)))) (hx := rfl) (hj := (by omega)) (hn := (by decide)) (hf := (u5 _ (by omega))) (r := ?_)
    refine tX10_beansOf_30 (ha := (by first | assumption | (repeat (first | assumption | exact At.set_eq2 (by first | omega | (simp only [hset, hnew]; omega) | rfl | decide) | exact At.new_eq2 _ _ (by first | omega | (simp only [hset, hnew]; omega) | rfl | decide) | refine At.set_ne ?_ (by first | omega | (simp only [hset, hnew]; omega) | rfl | decide) | refine At.new_ne ?_)))) (hv := rfl) (r := ?_)
    refine tX10_beansOf_33  (r := ?_)
    refine tX10_beansOf_34 (ha := (by first | assumption | (repeat (first | assumption | exact At.set_eq2 (by first | omega | (simp only [hset, hnew]; omega) | rfl | decide) | exact At.new_eq2 _ _ (by first | omega | (simp only [hset, hnew]; omega) | rfl | decide) | refine At.set_ne ?_ (by first | omega | (simp only [hset, hnew]; omega) | rfl | decide) | refine At.new_ne ?_)))) (hx := rfl) (hj := (by omega)) (hn := (by decide)) (r := ?_)
    rw [hb2 _ (by omega)]
    refine tX10_beansOf_35  (r := ?_)
    rw [nI_add]
    refine tX10_beansOf_36  (r := ?_)
    refine tX10_beansOf_37  (r := ?_)
    rw [nI_add]
    refine tX10_beansOf_40 (r := ?_)
    exact ih (i + 1) (by omega) (by omega)

set_option maxHeartbeats 4000000 in
set_option maxRecDepth 100000 in
theorem k_beansOf_ok (hd : 7 ≤ d) (c : ClR h 0 bk dr s) (hb : BDok s.2.2.1 s.2.2.2) (hh : 216 ≤ h.1) {j0 : Nat} (q0 : j0 < bLa s.2.2.1) : RQ G mX10_beansOf d 0 [some (.ref 0), some (.int (nI j0)), none, none] [] h (CK h bk dr s "java/lang/IndexOutOfBoundsException" "" 0 (nI (su (fun j => dB s.2.2.2 j j0) (bJa s.2.2.1)))) := by
  have c1 := c.poll
  have cb := c.book
  obtain ⟨jf, lj, fo, le, u0, u1, u2, u3, u4, u5, u6, u7, u8, u9⟩ := id c.2.2.2.2.1
  have l1 := hb.1
  have l2 := hb.2.1
  have l3 := hb.2.2.1
  refine tX10_beansOf_0  (r := ?_)
  refine tX10_beansOf_1  (r := ?_)
  refine tX10_beansOf_2 (hd := (by omega)) (ha := (by first | assumption | (repeat (first | assumption | exact At.set_eq2 (by first | omega | (simp only [hset, hnew]; omega) | rfl | decide) | exact At.new_eq2 _ _ (by first | omega | (simp only [hset, hnew]; omega) | rfl | decide) | refine At.set_ne ?_ (by first | omega | (simp only [hset, hnew]; omega) | rfl | decide) | refine At.new_ne ?_)))) (call := s_checkLabel_ok (d := 6) (QX := fun _ _ => False) c hb q0) (kx := fun E_ h_ hx_ => by exact hx_.elim) (k := ?_)
  intro h_ e0
  rw [e0]
  refine tX10_beansOf_5  (r := ?_)
  refine tX10_beansOf_6  (r := ?_)
  refine tX10_beansOf_7  (r := ?_)
  refine tX10_beansOf_8  (r := ?_)
  exact k_beansOf_l c hb q0 (bJa s.2.2.1) 0 (by omega) (by omega)

set_option maxHeartbeats 4000000 in
set_option maxRecDepth 100000 in
theorem s_beansInAll_l (hd : 1 ≤ d) {th : Int32} (c2 : MoT h 216 th s) (hb : BDok s.2.2.1 s.2.2.2) {j0 : Nat} (q0 : j0 < bLa s.2.2.1) : ∀ (n i : Nat), bJa s.2.2.1 ≤ i + n → i ≤ bJa s.2.2.1 → RQ G mX12_beansInAll d 4 [some (.ref 216), some (.int (nI j0)), some (.int (nI (su (fun j => dB s.2.2.2 j j0) i))), some (.int (nI i))] [] h (Ri fun v h1 => v = nI (su (fun j => dB s.2.2.2 j j0) (bJa s.2.2.1)) ∧ h1 = h) := by
  obtain ⟨⟨tk, iw, er, et, dp, nm, am⟩, ⟨-, ⟨ft, at1, ct1⟩, -, -, -, -, -, -, -, ⟨ru, ac, no, a9, -⟩, -, -, ⟨fn, a48, n0, nb, nf, nl⟩, -, -, -, -⟩, ⟨⟨gs, as_, cs⟩, ⟨gw, aw, cw⟩, ⟨gl, al, cl⟩, ⟨g0, a0_, c0_⟩, ⟨g1, a1_, c1_⟩⟩⟩ := id c2
  have l1 := hb.1
  have l2 := hb.2.1
  have l3 := hb.2.2.1
  have ex : ∀ i, i = bJa s.2.2.1 → RQ G mX12_beansInAll d 4 [some (.ref 216), some (.int (nI j0)), some (.int (nI (su (fun j => dB s.2.2.2 j j0) i))), some (.int (nI i))] [] h (Ri fun v h1 => v = nI (su (fun j => dB s.2.2.2 j j0) (bJa s.2.2.1)) ∧ h1 = h) := by
    intro i hi
    rw [hi]
    refine tX12_beansInAll_4  (r := ?_)
    refine tX12_beansInAll_5  (r := ?_)
    refine tX12_beansInAll_6 (ha := (by first | assumption | (repeat (first | assumption | exact At.set_eq2 (by first | omega | (simp only [hset, hnew]; omega) | rfl | decide) | exact At.new_eq2 _ _ (by first | omega | (simp only [hset, hnew]; omega) | rfl | decide) | refine At.set_ne ?_ (by first | omega | (simp only [hset, hnew]; omega) | rfl | decide) | refine At.new_ne ?_)))) (hv := rfl) (r := ?_)
    refine tX12_beansInAll_9 (ha := (by first | assumption | (repeat (first | assumption | exact At.set_eq2 (by first | omega | (simp only [hset, hnew]; omega) | rfl | decide) | exact At.new_eq2 _ _ (by first | omega | (simp only [hset, hnew]; omega) | rfl | decide) | refine At.set_ne ?_ (by first | omega | (simp only [hset, hnew]; omega) | rfl | decide) | refine At.new_ne ?_)))) (hv := rfl) (r := ?_)
    refine tX12_beansInAll_12  (kf := fun c_ => by exfalso; (simp (disch := first | omega | decide) only [ci_lt, ci_le, ci_eq, ci_lt0, ci_ge0, ci_gt0, ci_le0, ci_eq0, ci_m1_lt, ci_m1_le, ci_lt_m1, ci_le_m1, ci_eq_m1, ci_m1_eq, not_true, not_false_iff, Nat.not_lt, Nat.not_le] at c_ <;> omega)) (kt := fun _ => ?_)
    refine tX12_beansInAll_30  (r := ?_)
    refine tX12_beansInAll_31  (hP := ?_)
    exact ⟨_, rfl, rfl, rfl⟩
  intro n
  induction n with
  | zero => exact fun i h1_ h2_ => ex i (by omega)
  | succ n ih =>
    intro i h1_ h2_
    by_cases hi : i = bJa s.2.2.1
    · exact ex i hi
    have hi2 : i < bJa s.2.2.1 := by omega
    refine tX12_beansInAll_4  (r := ?_)
    refine tX12_beansInAll_5  (r := ?_)
    refine tX12_beansInAll_6 (ha := (by first | assumption | (repeat (first | assumption | exact At.set_eq2 (by first | omega | (simp only [hset, hnew]; omega) | rfl | decide) | exact At.new_eq2 _ _ (by first | omega | (simp only [hset, hnew]; omega) | rfl | decide) | refine At.set_ne ?_ (by first | omega | (simp only [hset, hnew]; omega) | rfl | decide) | refine At.new_ne ?_)))) (hv := rfl) (r := ?_)
    refine tX12_beansInAll_9 (ha := (by first | assumption | (repeat (first | assumption | exact At.set_eq2 (by first | omega | (simp only [hset, hnew]; omega) | rfl | decide) | exact At.new_eq2 _ _ (by first | omega | (simp only [hset, hnew]; omega) | rfl | decide) | refine At.set_ne ?_ (by first | omega | (simp only [hset, hnew]; omega) | rfl | decide) | refine At.new_ne ?_)))) (hv := rfl) (r := ?_)
    refine tX12_beansInAll_12  (kt := fun c_ => by exfalso; (simp (disch := first | omega | decide) only [ci_lt, ci_le, ci_eq, ci_lt0, ci_ge0, ci_gt0, ci_le0, ci_eq0, ci_m1_lt, ci_m1_le, ci_lt_m1, ci_le_m1, ci_eq_m1, ci_m1_eq, not_true, not_false_iff, Nat.not_lt, Nat.not_le] at c_ <;> omega)) (kf := fun _ => ?_)
    refine tX12_beansInAll_15  (r := ?_)
    refine tX12_beansInAll_16  (r := ?_)
    refine tX12_beansInAll_17  (r := ?_)
    refine tX12_beansInAll_18  (r := ?_)
    refine tX12_beansInAll_19 (hd := (by omega)) (ha := (by first | assumption | (repeat (first | assumption | exact At.set_eq2 (by first | omega | (simp only [hset, hnew]; omega) | rfl | decide) | exact At.new_eq2 _ _ (by first | omega | (simp only [hset, hnew]; omega) | rfl | decide) | refine At.set_ne ?_ (by first | omega | (simp only [hset, hnew]; omega) | rfl | decide) | refine At.new_ne ?_)))) (call := s_held (d := 0) c2 hb hi2 q0) (k := ?_)
    rintro v h_ ⟨rfl, e9⟩
    rw [e9]
    refine tX12_beansInAll_22  (r := ?_)
    rw [nI_add]
    refine tX12_beansInAll_23  (r := ?_)
    refine tX12_beansInAll_24  (r := ?_)
    rw [nI_add]
    refine tX12_beansInAll_27 (r := ?_)
    exact ih (i + 1) (by omega) (by omega)

set_option maxHeartbeats 4000000 in
set_option maxRecDepth 100000 in
theorem s_beansInAll (hd : 1 ≤ d) {th : Int32} (c2 : MoT h 216 th s) (hb : BDok s.2.2.1 s.2.2.2) {j0 : Nat} (q0 : j0 < bLa s.2.2.1) : RQ G mX12_beansInAll d 0 [some (.ref 216), some (.int (nI j0)), none, none] [] h (Ri fun v h1 => v = nI (su (fun j => dB s.2.2.2 j j0) (bJa s.2.2.1)) ∧ h1 = h) := by
  refine tX12_beansInAll_0  (r := ?_)
  refine tX12_beansInAll_1  (r := ?_)
  refine tX12_beansInAll_2  (r := ?_)
  refine tX12_beansInAll_3  (r := ?_)
  exact s_beansInAll_l hd c2 hb q0 (bJa s.2.2.1) 0 (by omega) (by omega)

set_option maxHeartbeats 4000000 in
set_option maxRecDepth 100000 in
theorem m_beansOf_ok (hd : 4 ≤ d) (m1 : MoR h 216 s) (t1 : ToR h 216 s.2.2.1) (hb : BDok s.2.2.1 s.2.2.2) {j0 : Nat} (q0 : j0 < bLa s.2.2.1) : RQ G mX12_beansOf d 0 [some (.ref 216), some (.int (nI j0))] [] h (MK h s 0 (nI (su (fun j => dB s.2.2.2 j j0) (bJa s.2.2.1)))) := by
  obtain ⟨th, c⟩ := MoT.ofR m1 t1
  refine b_beansOf c (fun h2 c2 ch2 => ?_)
  obtain ⟨⟨tk, iw, er, et, dp, nm, am⟩, ⟨-, ⟨ft, at1, ct1⟩, -, -, -, -, -, -, -, ⟨ru, ac, no, a9, -⟩, -, -, ⟨fn, a48, n0, nb, nf, nl⟩, -, -, -, -⟩, ⟨⟨gs, as_, cs⟩, ⟨gw, aw, cw⟩, ⟨gl, al, cl⟩, ⟨g0, a0_, c0_⟩, ⟨g1, a1_, c1_⟩⟩⟩ := id c2
  have l1 := hb.1
  have l2 := hb.2.1
  have l3 := hb.2.2.1
  refine tX12_beansOf_5  (r := ?_)
  refine tX12_beansOf_6  (r := ?_)
  refine tX12_beansOf_7 (hd := (by omega)) (ha := (by first | assumption | (repeat (first | assumption | exact At.set_eq2 (by first | omega | (simp only [hset, hnew]; omega) | rfl | decide) | exact At.new_eq2 _ _ (by first | omega | (simp only [hset, hnew]; omega) | rfl | decide) | refine At.set_ne ?_ (by first | omega | (simp only [hset, hnew]; omega) | rfl | decide) | refine At.new_ne ?_)))) (call := s_isLabel_ok (d := 1) (by decide) c2 hb q0) (k := ?_)
  rintro v0 h_ ⟨rfl, e0⟩
  rw [e0]
  refine tX12_beansOf_10  (kt := fun c_ => by exfalso; exact absurd c_ (by decide)) (kf := fun _ => ?_)
  refine tX12_beansOf_13  (r := ?_)
  refine tX12_beansOf_14  (r := ?_)
  refine tX12_beansOf_15 (hd := (by omega)) (ha := (by first | assumption | (repeat (first | assumption | exact At.set_eq2 (by first | omega | (simp only [hset, hnew]; omega) | rfl | decide) | exact At.new_eq2 _ _ (by first | omega | (simp only [hset, hnew]; omega) | rfl | decide) | refine At.set_ne ?_ (by first | omega | (simp only [hset, hnew]; omega) | rfl | decide) | refine At.new_ne ?_)))) (call := s_beansInAll (d := 2) (by decide) c2 hb q0) (k := ?_)
  rintro v h_ ⟨rfl, e9⟩
  rw [e9]
  refine tX12_beansOf_18 (r := ?_)
  refine tX12_beansOf_26  (hP := ?_)
  exact MK.of c2 (ch2.sub (Nat.le_refl _) (Nat.le_refl _) (by decide) (by decide))

set_option maxHeartbeats 4000000 in
set_option maxRecDepth 100000 in
theorem k_alliances_l (c : ClR h 0 bk dr s) (hb : BDok s.2.2.1 s.2.2.2) : ∀ (n i : Nat), bLa s.2.2.1 ≤ i + n → i ≤ bLa s.2.2.1 → RQ G mX10_alliances d 4 [some (.ref 0), some (.int (nI (su (fun k => if rt (dF s.2.2.2) k = k then 1 else 0) i))), some (.int (nI i))] [] h (fun o h1 => o = .inl (some (Value.int (nI (su (fun k => if rt (dF s.2.2.2) k = k then 1 else 0) (bLa s.2.2.1))))) ∧ ClR h1 0 bk dr s ∧ Ch h h1 0 216 0 0) := by
  have c1 := c.poll
  have cb := c.book
  obtain ⟨jf, lj, fo, le, u0, u1, u2, u3, u4, u5, u6, u7, u8, u9⟩ := id c.2.2.2.2.1
  have l1 := hb.1
  have l2 := hb.2.1
  have l3 := hb.2.2.1
  have rtl := fun i (hi : i < bLa s.2.2.1) => rt_lt hb 6 i hi
  have ex : ∀ i, i = bLa s.2.2.1 → RQ G mX10_alliances d 4 [some (.ref 0), some (.int (nI (su (fun k => if rt (dF s.2.2.2) k = k then 1 else 0) i))), some (.int (nI i))] [] h (fun o h1 => o = .inl (some (Value.int (nI (su (fun k => if rt (dF s.2.2.2) k = k then 1 else 0) (bLa s.2.2.1))))) ∧ ClR h1 0 bk dr s ∧ Ch h h1 0 216 0 0) := by
    intro i hi
    rw [hi]
    refine tX10_alliances_4  (r := ?_)
    refine tX10_alliances_5  (r := ?_)
    refine tX10_alliances_6 (ha := (by first | assumption | (repeat (first | assumption | exact At.set_eq2 (by first | omega | (simp only [hset, hnew]; omega) | rfl | decide) | exact At.new_eq2 _ _ (by first | omega | (simp only [hset, hnew]; omega) | rfl | decide) | refine At.set_ne ?_ (by first | omega | (simp only [hset, hnew]; omega) | rfl | decide) | refine At.new_ne ?_)))) (hv := rfl) (r := ?_)
    refine tX10_alliances_9 (ha := (by first | assumption | (repeat (first | assumption | exact At.set_eq2 (by first | omega | (simp only [hset, hnew]; omega) | rfl | decide) | exact At.new_eq2 _ _ (by first | omega | (simp only [hset, hnew]; omega) | rfl | decide) | refine At.set_ne ?_ (by first | omega | (simp only [hset, hnew]; omega) | rfl | decide) | refine At.new_ne ?_)))) (hv := rfl) (r := ?_)
    refine tX10_alliances_12  (kf := fun c_ => by exfalso; (simp (disch := first | omega | decide) only [ci_lt, ci_le, ci_eq, ci_lt0, ci_ge0, ci_gt0, ci_le0, ci_eq0, ci_m1_lt, ci_m1_le, ci_lt_m1, ci_le_m1, ci_eq_m1, ci_m1_eq, not_true, not_false_iff, Nat.not_lt, Nat.not_le] at c_ <;> omega)) (kt := fun _ => ?_)
    refine tX10_alliances_37  (r := ?_)
    refine tX10_alliances_38  (hP := ?_)
    exact ⟨rfl, c, Ch.rf _ _ _ _ _⟩
  intro n
  induction n with
  | zero => exact fun i h1_ h2_ => ex i (by omega)
  | succ n ih =>
    intro i h1_ h2_
    by_cases hi : i = bLa s.2.2.1
    · exact ex i hi
    have hi2 : i < bLa s.2.2.1 := by omega
    refine tX10_alliances_4  (r := ?_)
    refine tX10_alliances_5  (r := ?_)
    refine tX10_alliances_6 (ha := (by first | assumption | (repeat (first | assumption | exact At.set_eq2 (by first | omega | (simp only [hset, hnew]; omega) | rfl | decide) | exact At.new_eq2 _ _ (by first | omega | (simp only [hset, hnew]; omega) | rfl | decide) | refine At.set_ne ?_ (by first | omega | (simp only [hset, hnew]; omega) | rfl | decide) | refine At.new_ne ?_)))) (hv := rfl) (r := ?_)
    refine tX10_alliances_9 (ha := (by first | assumption | (repeat (first | assumption | exact At.set_eq2 (by first | omega | (simp only [hset, hnew]; omega) | rfl | decide) | exact At.new_eq2 _ _ (by first | omega | (simp only [hset, hnew]; omega) | rfl | decide) | refine At.set_ne ?_ (by first | omega | (simp only [hset, hnew]; omega) | rfl | decide) | refine At.new_ne ?_)))) (hv := rfl) (r := ?_)
    refine tX10_alliances_12  (kt := fun c_ => by exfalso; (simp (disch := first | omega | decide) only [ci_lt, ci_le, ci_eq, ci_lt0, ci_ge0, ci_gt0, ci_le0, ci_eq0, ci_m1_lt, ci_m1_le, ci_lt_m1, ci_le_m1, ci_eq_m1, ci_m1_eq, not_true, not_false_iff, Nat.not_lt, Nat.not_le] at c_ <;> omega)) (kf := fun _ => ?_)
    refine tX10_alliances_15  (r := ?_)
    refine tX10_alliances_16 (ha := (by first | assumption | (repeat (first | assumption | exact At.set_eq2 (by first | omega | (simp only [hset, hnew]; omega) | rfl | decide) | exact At.new_eq2 _ _ (by first | omega | (simp only [hset, hnew]; omega) | rfl | decide) | refine At.set_ne ?_ (by first | omega | (simp only [hset, hnew]; omega) | rfl | decide) | refine At.new_ne ?_)))) (hv := rfl) (r := ?_)
    refine tX10_alliances_19 (ha := (by first | assumption | (repeat (first | assumption | exact At.set_eq2 (by first | omega | (simp only [hset, hnew]; omega) | rfl | decide) | exact At.new_eq2 _ _ (by first | omega | (simp only [hset, hnew]; omega) | rfl | decide) | refine At.set_ne ?_ (by first | omega | (simp only [hset, hnew]; omega) | rfl | decide) | refine At.new_ne ?_)))) (hv := rfl) (r := ?_)
    refine tX10_alliances_22  (r := ?_)
    refine tX10_alliances_23 (ha := (by first | assumption | (repeat (first | assumption | exact At.set_eq2 (by first | omega | (simp only [hset, hnew]; omega) | rfl | decide) | exact At.new_eq2 _ _ (by first | omega | (simp only [hset, hnew]; omega) | rfl | decide) | refine At.set_ne ?_ (by first | omega | (simp only [hset, hnew]; omega) | rfl | decide) | refine At.new_ne ?_)))) (hx := rfl) (hj := (by omega)) (hn := (by decide)) (r := ?_)
    rw [u8 _ (by omega)]
    refine tX10_alliances_24  (r := ?_)
    refine tX10_alliances_25  (kt := fun c_25 => ?_) (kf := fun c_25 => ?_)
    · have e : su (fun k => if rt (dF s.2.2.2) k = k then 1 else 0) (i + 1) = su (fun k => if rt (dF s.2.2.2) k = k then 1 else 0) i := by
        show su (fun k => if rt (dF s.2.2.2) k = k then 1 else 0) i + (if rt (dF s.2.2.2) i = i then 1 else 0) = _
        rw [if_neg (fun q => c_25 (by rw [q]))]
        exact Nat.add_zero _
      rw [← e]
      refine tX10_alliances_31  (r := ?_)
      rw [nI_add]
      refine tX10_alliances_34 (r := ?_)
      exact ih (i + 1) (by omega) (by omega)
    · have e : su (fun k => if rt (dF s.2.2.2) k = k then 1 else 0) (i + 1) = su (fun k => if rt (dF s.2.2.2) k = k then 1 else 0) i + 1 := by
        show su (fun k => if rt (dF s.2.2.2) k = k then 1 else 0) i + (if rt (dF s.2.2.2) i = i then 1 else 0) = _
        rw [if_pos ((nI_eq (by have := rt_lt hb 6 i hi2; unfold rt; omega) (by omega)).mp c_25)]
      refine tX10_alliances_28  (r := ?_)
      rw [nI_add, ← e]
      refine tX10_alliances_31  (r := ?_)
      rw [nI_add]
      refine tX10_alliances_34 (r := ?_)
      exact ih (i + 1) (by omega) (by omega)

set_option maxHeartbeats 4000000 in
set_option maxRecDepth 100000 in
theorem k_alliances (c : ClR h 0 bk dr s) (hb : BDok s.2.2.1 s.2.2.2) : RQ G mX10_alliances d 0 [some (.ref 0), none, none] [] h (fun o h1 => o = .inl (some (Value.int (nI (su (fun k => if rt (dF s.2.2.2) k = k then 1 else 0) (bLa s.2.2.1))))) ∧ ClR h1 0 bk dr s ∧ Ch h h1 0 216 0 0) := by
  refine tX10_alliances_0  (r := ?_)
  refine tX10_alliances_1  (r := ?_)
  refine tX10_alliances_2  (r := ?_)
  refine tX10_alliances_3  (r := ?_)
  exact k_alliances_l c hb (bLa s.2.2.1) 0 (by omega) (by omega)

set_option maxHeartbeats 4000000 in
set_option maxRecDepth 100000 in
theorem s_leaders_l {th : Int32} (c2 : MoT h 216 th s) (hb : BDok s.2.2.1 s.2.2.2) : ∀ (n i : Nat), bLa s.2.2.1 ≤ i + n → i ≤ bLa s.2.2.1 → RQ G mX12_leaders d 4 [some (.ref 216), some (.int (nI (su (fun k => if dF s.2.2.2 k = none then 1 else 0) i))), some (.int (nI i))] [] h (Ri fun v h1 => v = nI (su (fun k => if dF s.2.2.2 k = none then 1 else 0) (bLa s.2.2.1)) ∧ h1 = h) := by
  obtain ⟨⟨tk, iw, er, et, dp, nm, am⟩, ⟨-, ⟨ft, at1, ct1⟩, -, -, -, -, -, -, -, ⟨ru, ac, no, a9, -⟩, -, -, ⟨fn, a48, n0, nb, nf, nl⟩, -, -, -, -⟩, ⟨⟨gs, as_, cs⟩, ⟨gw, aw, cw⟩, ⟨gl, al, cl⟩, ⟨g0, a0_, c0_⟩, ⟨g1, a1_, c1_⟩⟩⟩ := id c2
  have l1 := hb.1
  have l2 := hb.2.1
  have l3 := hb.2.2.1
  have ex : ∀ i, i = bLa s.2.2.1 → RQ G mX12_leaders d 4 [some (.ref 216), some (.int (nI (su (fun k => if dF s.2.2.2 k = none then 1 else 0) i))), some (.int (nI i))] [] h (Ri fun v h1 => v = nI (su (fun k => if dF s.2.2.2 k = none then 1 else 0) (bLa s.2.2.1)) ∧ h1 = h) := by
    intro i hi
    rw [hi]
    refine tX12_leaders_4  (r := ?_)
    refine tX12_leaders_5  (r := ?_)
    refine tX12_leaders_6 (ha := (by first | assumption | (repeat (first | assumption | exact At.set_eq2 (by first | omega | (simp only [hset, hnew]; omega) | rfl | decide) | exact At.new_eq2 _ _ (by first | omega | (simp only [hset, hnew]; omega) | rfl | decide) | refine At.set_ne ?_ (by first | omega | (simp only [hset, hnew]; omega) | rfl | decide) | refine At.new_ne ?_)))) (hv := rfl) (r := ?_)
    refine tX12_leaders_9 (ha := (by first | assumption | (repeat (first | assumption | exact At.set_eq2 (by first | omega | (simp only [hset, hnew]; omega) | rfl | decide) | exact At.new_eq2 _ _ (by first | omega | (simp only [hset, hnew]; omega) | rfl | decide) | refine At.set_ne ?_ (by first | omega | (simp only [hset, hnew]; omega) | rfl | decide) | refine At.new_ne ?_)))) (hv := rfl) (r := ?_)
    refine tX12_leaders_12  (kf := fun c_ => by exfalso; (simp (disch := first | omega | decide) only [ci_lt, ci_le, ci_eq, ci_lt0, ci_ge0, ci_gt0, ci_le0, ci_eq0, ci_m1_lt, ci_m1_le, ci_lt_m1, ci_le_m1, ci_eq_m1, ci_m1_eq, not_true, not_false_iff, Nat.not_lt, Nat.not_le] at c_ <;> omega)) (kt := fun _ => ?_)
    refine tX12_leaders_42  (r := ?_)
    refine tX12_leaders_43  (hP := ?_)
    exact ⟨_, rfl, rfl, rfl⟩
  intro n
  induction n with
  | zero => exact fun i h1_ h2_ => ex i (by omega)
  | succ n ih =>
    intro i h1_ h2_
    by_cases hi : i = bLa s.2.2.1
    · exact ex i hi
    have hi2 : i < bLa s.2.2.1 := by omega
    refine tX12_leaders_4  (r := ?_)
    refine tX12_leaders_5  (r := ?_)
    refine tX12_leaders_6 (ha := (by first | assumption | (repeat (first | assumption | exact At.set_eq2 (by first | omega | (simp only [hset, hnew]; omega) | rfl | decide) | exact At.new_eq2 _ _ (by first | omega | (simp only [hset, hnew]; omega) | rfl | decide) | refine At.set_ne ?_ (by first | omega | (simp only [hset, hnew]; omega) | rfl | decide) | refine At.new_ne ?_)))) (hv := rfl) (r := ?_)
    refine tX12_leaders_9 (ha := (by first | assumption | (repeat (first | assumption | exact At.set_eq2 (by first | omega | (simp only [hset, hnew]; omega) | rfl | decide) | exact At.new_eq2 _ _ (by first | omega | (simp only [hset, hnew]; omega) | rfl | decide) | refine At.set_ne ?_ (by first | omega | (simp only [hset, hnew]; omega) | rfl | decide) | refine At.new_ne ?_)))) (hv := rfl) (r := ?_)
    refine tX12_leaders_12  (kt := fun c_ => by exfalso; (simp (disch := first | omega | decide) only [ci_lt, ci_le, ci_eq, ci_lt0, ci_ge0, ci_gt0, ci_le0, ci_eq0, ci_m1_lt, ci_m1_le, ci_lt_m1, ci_le_m1, ci_eq_m1, ci_m1_eq, not_true, not_false_iff, Nat.not_lt, Nat.not_le] at c_ <;> omega)) (kf := fun _ => ?_)
    refine tX12_leaders_15  (r := ?_)
    refine tX12_leaders_16  (r := ?_)
    refine tX12_leaders_17 (ha := (by first | assumption | (repeat (first | assumption | exact At.set_eq2 (by first | omega | (simp only [hset, hnew]; omega) | rfl | decide) | exact At.new_eq2 _ _ (by first | omega | (simp only [hset, hnew]; omega) | rfl | decide) | refine At.set_ne ?_ (by first | omega | (simp only [hset, hnew]; omega) | rfl | decide) | refine At.new_ne ?_)))) (hv := rfl) (r := ?_)
    refine tX12_leaders_20  (r := ?_)
    refine tX12_leaders_22  (r := ?_)
    refine tX12_leaders_23  (r := ?_)
    rw [nI_add]
    refine tX12_leaders_24 (ha := (by first | assumption | (repeat (first | assumption | exact At.set_eq2 (by first | omega | (simp only [hset, hnew]; omega) | rfl | decide) | exact At.new_eq2 _ _ (by first | omega | (simp only [hset, hnew]; omega) | rfl | decide) | refine At.set_ne ?_ (by first | omega | (simp only [hset, hnew]; omega) | rfl | decide) | refine At.new_ne ?_)))) (hx := rfl) (hj := (by omega)) (hn := (by decide)) (r := ?_)
    rw [nf _ hi2]
    refine tX12_leaders_25  (r := ?_)
    refine tX12_leaders_26  (kt := fun c_26 => ?_) (kf := fun c_26 => ?_)
    · have e : su (fun k => if dF s.2.2.2 k = none then 1 else 0) (i + 1) = su (fun k => if dF s.2.2.2 k = none then 1 else 0) i + 0 := by
        show su (fun k => if dF s.2.2.2 k = none then 1 else 0) i + (if dF s.2.2.2 i = none then 1 else 0) = _
        rw [if_neg (fun q => c_26 (by rw [q]; rfl))]
      refine tX12_leaders_33  (r := ?_)
      refine tX12_leaders_34  (r := ?_)
      rw [nI_add, ← e]
      refine tX12_leaders_35  (r := ?_)
      refine tX12_leaders_36  (r := ?_)
      rw [nI_add]
      refine tX12_leaders_39 (r := ?_)
      exact ih (i + 1) (by omega) (by omega)
    · have e0 : dF s.2.2.2 i = none := by
        cases e1 : dF s.2.2.2 i with
        | none => rfl
        | some j =>
          have e2 := (hb.2.2.2.2.2.2.2.2.1 i j (by omega) e1).2
          have e3 : j < 2147483648 := by omega
          rw [e1] at c_26
          exact absurd c_26 (show ¬ nI j = -1 by simp only [ci_eq_m1 e3, not_false_iff])
      have e : su (fun k => if dF s.2.2.2 k = none then 1 else 0) (i + 1) = su (fun k => if dF s.2.2.2 k = none then 1 else 0) i + 1 := by
        show su (fun k => if dF s.2.2.2 k = none then 1 else 0) i + (if dF s.2.2.2 i = none then 1 else 0) = _
        rw [if_pos e0]
      refine tX12_leaders_29  (r := ?_)
      refine tX12_leaders_30 (r := ?_)
      refine tX12_leaders_34  (r := ?_)
      rw [nI_add, ← e]
      refine tX12_leaders_35  (r := ?_)
      refine tX12_leaders_36  (r := ?_)
      rw [nI_add]
      refine tX12_leaders_39 (r := ?_)
      exact ih (i + 1) (by omega) (by omega)

set_option maxHeartbeats 4000000 in
set_option maxRecDepth 100000 in
theorem s_leaders {th : Int32} (c2 : MoT h 216 th s) (hb : BDok s.2.2.1 s.2.2.2) : RQ G mX12_leaders d 0 [some (.ref 216), none, none] [] h (Ri fun v h1 => v = nI (su (fun k => if dF s.2.2.2 k = none then 1 else 0) (bLa s.2.2.1)) ∧ h1 = h) := by
  refine tX12_leaders_0  (r := ?_)
  refine tX12_leaders_1  (r := ?_)
  refine tX12_leaders_2  (r := ?_)
  refine tX12_leaders_3  (r := ?_)
  exact s_leaders_l c2 hb (bLa s.2.2.1) 0 (by omega) (by omega)

theorem all_same {B : BK} {D : DY} (hb : BDok B D) : su (fun k => if rt (dF D) k = k then 1 else 0) (bLa B) = su (fun k => if dF D k = none then 1 else 0) (bLa B) := su_congr (fun k hk => by
  have l1 := hb.1
  have e := hb.2.2.2.2.2.2.2.2.2.1 k (by omega)
  by_cases h1 : dF D k = none
  · rw [if_pos h1, if_pos (show rt (dF D) k = k by simp [rt, rtn, h1])]
  · rw [if_neg h1, if_neg (fun q => h1 (by rw [q] at e; exact e))])
set_option maxHeartbeats 4000000 in
set_option maxRecDepth 100000 in
theorem m_alliances (hd : 4 ≤ d) (m1 : MoR h 216 s) (t1 : ToR h 216 s.2.2.1) (hb : BDok s.2.2.1 s.2.2.2) : RQ G mX12_alliances d 0 [some (.ref 216)] [] h (fun o h2 => o = .inl (some (Value.int (nI (su (fun k => if rt (dF s.2.2.2) k = k then 1 else 0) (bLa s.2.2.1))))) ∧ MoR h2 216 s ∧ ToR h2 216 s.2.2.1 ∧ Ch h h2 216 269 16 100) := by
  obtain ⟨th, c2⟩ := MoT.ofR m1 t1
  obtain ⟨⟨tk, iw, er, et, dp, nm, am⟩, ⟨-, ⟨ft, at1, ct1⟩, -, -, -, -, -, -, -, ⟨ru, ac, no, a9, -⟩, -, -, ⟨fn, a48, n0, nb, nf, nl⟩, -, -, -, -⟩, ⟨⟨gs, as_, cs⟩, ⟨gw, aw, cw⟩, ⟨gl, al, cl⟩, ⟨g0, a0_, c0_⟩, ⟨g1, a1_, c1_⟩⟩⟩ := id c2
  have l1 := hb.1
  have l2 := hb.2.1
  have l3 := hb.2.2.1
  refine tX12_alliances_0  (r := ?_)
  refine tX12_alliances_1  (r := ?_)
  refine tX12_alliances_2 (hd := (by omega)) (ha := (by first | assumption | (repeat (first | assumption | exact At.set_eq2 (by first | omega | (simp only [hset, hnew]; omega) | rfl | decide) | exact At.new_eq2 _ _ (by first | omega | (simp only [hset, hnew]; omega) | rfl | decide) | refine At.set_ne ?_ (by first | omega | (simp only [hset, hnew]; omega) | rfl | decide) | refine At.new_ne ?_)))) (call := s_leaders (d := 0) c2 hb) (k := ?_)
  rintro v h_ ⟨rfl, e9⟩
  rw [e9, ← all_same hb]
  refine tX12_alliances_5 (hd := (by omega)) (ha := (by first | assumption | (repeat (first | assumption | exact At.set_eq2 (by first | omega | (simp only [hset, hnew]; omega) | rfl | decide) | exact At.new_eq2 _ _ (by first | omega | (simp only [hset, hnew]; omega) | rfl | decide) | refine At.set_ne ?_ (by first | omega | (simp only [hset, hnew]; omega) | rfl | decide) | refine At.new_ne ?_)))) (call := s_ok (d := 0) c2) (k := ?_)
  rintro v h3 ⟨rfl, c3, ch3⟩
  refine tX12_alliances_8  (hP := ?_)
  exact ⟨rfl, c3.2.1, c3.2.2, ch3.sub (Nat.le_refl _) (Nat.le_refl _) (by decide) (by decide)⟩

set_option maxHeartbeats 4000000 in
set_option maxRecDepth 100000 in
theorem k_areAllied_ok (hd : 7 ≤ d) (c : ClR h 0 bk dr s) (hb : BDok s.2.2.1 s.2.2.2) (hh : 216 ≤ h.1) {j0 : Nat} (q0 : j0 < bLa s.2.2.1) {j1 : Nat} (q1 : j1 < bLa s.2.2.1) : RQ G mX10_areAllied d 0 [some (.ref 0), some (.int (nI j0)), some (.int (nI j1))] [] h (CK h bk dr s "java/lang/IndexOutOfBoundsException" "" 0 ((if rt (dF s.2.2.2) j0 = rt (dF s.2.2.2) j1 then nI 1 else nI 0))) := by
  have c1 := c.poll
  have cb := c.book
  obtain ⟨jf, lj, fo, le, u0, u1, u2, u3, u4, u5, u6, u7, u8, u9⟩ := id c.2.2.2.2.1
  have l1 := hb.1
  have l2 := hb.2.1
  have l3 := hb.2.2.1
  have r0 := rt_lt hb 6 j0 q0
  have r1 := rt_lt hb 6 j1 q1
  refine tX10_areAllied_0  (r := ?_)
  refine tX10_areAllied_1  (r := ?_)
  refine tX10_areAllied_2 (hd := (by omega)) (ha := (by first | assumption | (repeat (first | assumption | exact At.set_eq2 (by first | omega | (simp only [hset, hnew]; omega) | rfl | decide) | exact At.new_eq2 _ _ (by first | omega | (simp only [hset, hnew]; omega) | rfl | decide) | refine At.set_ne ?_ (by first | omega | (simp only [hset, hnew]; omega) | rfl | decide) | refine At.new_ne ?_)))) (call := s_checkLabel_ok (d := 6) (QX := fun _ _ => False) c hb q0) (kx := fun E_ h_ hx_ => by exact hx_.elim) (k := ?_)
  intro h_ e0
  rw [e0]
  refine tX10_areAllied_5  (r := ?_)
  refine tX10_areAllied_6  (r := ?_)
  refine tX10_areAllied_7 (hd := (by omega)) (ha := (by first | assumption | (repeat (first | assumption | exact At.set_eq2 (by first | omega | (simp only [hset, hnew]; omega) | rfl | decide) | exact At.new_eq2 _ _ (by first | omega | (simp only [hset, hnew]; omega) | rfl | decide) | refine At.set_ne ?_ (by first | omega | (simp only [hset, hnew]; omega) | rfl | decide) | refine At.new_ne ?_)))) (call := s_checkLabel_ok (d := 6) (QX := fun _ _ => False) c hb q1) (kx := fun E_ h_ hx_ => by exact hx_.elim) (k := ?_)
  intro h_ e1
  rw [e1]
  refine tX10_areAllied_10  (r := ?_)
  refine tX10_areAllied_11 (ha := (by first | assumption | (repeat (first | assumption | exact At.set_eq2 (by first | omega | (simp only [hset, hnew]; omega) | rfl | decide) | exact At.new_eq2 _ _ (by first | omega | (simp only [hset, hnew]; omega) | rfl | decide) | refine At.set_ne ?_ (by first | omega | (simp only [hset, hnew]; omega) | rfl | decide) | refine At.new_ne ?_)))) (hv := rfl) (r := ?_)
  refine tX10_areAllied_14 (ha := (by first | assumption | (repeat (first | assumption | exact At.set_eq2 (by first | omega | (simp only [hset, hnew]; omega) | rfl | decide) | exact At.new_eq2 _ _ (by first | omega | (simp only [hset, hnew]; omega) | rfl | decide) | refine At.set_ne ?_ (by first | omega | (simp only [hset, hnew]; omega) | rfl | decide) | refine At.new_ne ?_)))) (hv := rfl) (r := ?_)
  refine tX10_areAllied_17  (r := ?_)
  refine tX10_areAllied_18 (ha := (by first | assumption | (repeat (first | assumption | exact At.set_eq2 (by first | omega | (simp only [hset, hnew]; omega) | rfl | decide) | exact At.new_eq2 _ _ (by first | omega | (simp only [hset, hnew]; omega) | rfl | decide) | refine At.set_ne ?_ (by first | omega | (simp only [hset, hnew]; omega) | rfl | decide) | refine At.new_ne ?_)))) (hx := rfl) (hj := (by omega)) (hn := (by decide)) (r := ?_)
  rw [u8 _ (by omega)]
  refine tX10_areAllied_19  (r := ?_)
  refine tX10_areAllied_20 (ha := (by first | assumption | (repeat (first | assumption | exact At.set_eq2 (by first | omega | (simp only [hset, hnew]; omega) | rfl | decide) | exact At.new_eq2 _ _ (by first | omega | (simp only [hset, hnew]; omega) | rfl | decide) | refine At.set_ne ?_ (by first | omega | (simp only [hset, hnew]; omega) | rfl | decide) | refine At.new_ne ?_)))) (hv := rfl) (r := ?_)
  refine tX10_areAllied_23 (ha := (by first | assumption | (repeat (first | assumption | exact At.set_eq2 (by first | omega | (simp only [hset, hnew]; omega) | rfl | decide) | exact At.new_eq2 _ _ (by first | omega | (simp only [hset, hnew]; omega) | rfl | decide) | refine At.set_ne ?_ (by first | omega | (simp only [hset, hnew]; omega) | rfl | decide) | refine At.new_ne ?_)))) (hv := rfl) (r := ?_)
  refine tX10_areAllied_26  (r := ?_)
  refine tX10_areAllied_27 (ha := (by first | assumption | (repeat (first | assumption | exact At.set_eq2 (by first | omega | (simp only [hset, hnew]; omega) | rfl | decide) | exact At.new_eq2 _ _ (by first | omega | (simp only [hset, hnew]; omega) | rfl | decide) | refine At.set_ne ?_ (by first | omega | (simp only [hset, hnew]; omega) | rfl | decide) | refine At.new_ne ?_)))) (hx := rfl) (hj := (by omega)) (hn := (by decide)) (r := ?_)
  rw [u8 _ (by omega)]
  refine tX10_areAllied_28  (kt := fun c_28 => ?_) (kf := fun c_28 => ?_)
  · have ne_ : ¬ rt (dF s.2.2.2) j0 = rt (dF s.2.2.2) j1 := fun q => c_28 (by rw [q])
    refine tX10_areAllied_35  (r := ?_)
    refine tX10_areAllied_36 (hb := (Or.inl rfl)) (hP := ?_)
    rw [if_neg ne_]
    exact ck_val c (Ch.rf _ _ _ _ _)
  · have eq_ : rt (dF s.2.2.2) j0 = rt (dF s.2.2.2) j1 := (nI_eq (show rt (dF s.2.2.2) j0 < 2147483648 by unfold rt; omega) (show rt (dF s.2.2.2) j1 < 2147483648 by unfold rt; omega)).mp c_28
    refine tX10_areAllied_31  (r := ?_)
    refine tX10_areAllied_32 (r := ?_)
    refine tX10_areAllied_36 (hb := (Or.inr rfl)) (hP := ?_)
    rw [if_pos eq_]
    exact ck_val c (Ch.rf _ _ _ _ _)

set_option maxHeartbeats 4000000 in
set_option maxRecDepth 100000 in
theorem m_areAllied_no1 (hd : 4 ≤ d) (m1 : MoR h 216 s) (t1 : ToR h 216 s.2.2.1) (hb : BDok s.2.2.1 s.2.2.2) {a0 a1 : Int32} (bad : a0 < 0 ∨ nI (bLa s.2.2.1) ≤ a0) : RQ G mX12_areAllied d 0 [some (.ref 216), some (.int a0), some (.int a1)] [] h (MK h s 1 (nI 0)) := by
  obtain ⟨th, c⟩ := MoT.ofR m1 t1
  obtain ⟨⟨tk0, iw0, er0, et0, dp0, nm0, am0⟩, -⟩ := id c
  refine tX12_areAllied_0  (r := ?_)
  refine tX12_areAllied_1  (r := ?_)
  refine tX12_areAllied_2  (r := ?_)
  refine tX12_areAllied_3 (hd := (by omega)) (ha := (by first | assumption | (repeat (first | assumption | exact At.set_eq2 (by first | omega | (simp only [hset, hnew]; omega) | rfl | decide) | exact At.new_eq2 _ _ (by first | omega | (simp only [hset, hnew]; omega) | rfl | decide) | refine At.set_ne ?_ (by first | omega | (simp only [hset, hnew]; omega) | rfl | decide) | refine At.new_ne ?_)))) (call := s_isLabel_no (d := 1) (by decide) c hb bad) (k := ?_)
  rintro v0 h_ ⟨rfl, e0⟩
  rw [e0]
  refine tX12_areAllied_6  (kf := fun c_ => by exfalso; exact c_ (by decide)) (kt := fun _ => ?_)
  refine tX12_areAllied_21  (r := ?_)
  refine tX12_areAllied_22 (ha := (by first | assumption | (repeat (first | assumption | exact At.set_eq2 (by first | omega | (simp only [hset, hnew]; omega) | rfl | decide) | exact At.new_eq2 _ _ (by first | omega | (simp only [hset, hnew]; omega) | rfl | decide) | refine At.set_ne ?_ (by first | omega | (simp only [hset, hnew]; omega) | rfl | decide) | refine At.new_ne ?_)))) (hlen := rfl) (r := ?_)
  refine (fun (h2 : AH) (c2 : MoT h2 216 (nI 1) s) (ch2 : Ch h h2 216 269 0 0) => ?_ : ∀ h2, MoT h2 216 (nI 1) s → Ch h h2 216 269 0 0 → RQ G mX12_areAllied d 25 [some (.ref 216), some (.int a0), some (.int a1)] [] h2 (MK h s 1 (nI 0))) _ (c.thr am0) ((Ch.rf _ _ _ _ _).set (by decide) (by decide))
  obtain ⟨⟨tk, iw, er, et, dp, nm, am⟩, ⟨-, ⟨ft, at1, ct1⟩, -, -, -, -, -, -, -, ⟨ru, ac, no, a9, -⟩, -, -, ⟨fn, a48, n0, nb, nf, nl⟩, -, -, -, -⟩, ⟨⟨gs, as_, cs⟩, ⟨gw, aw, cw⟩, ⟨gl, al, cl⟩, ⟨g0, a0_, c0_⟩, ⟨g1, a1_, c1_⟩⟩⟩ := id c2
  refine tX12_areAllied_25  (r := ?_)
  refine tX12_areAllied_26 (ha := (by first | assumption | (repeat (first | assumption | exact At.set_eq2 (by first | omega | (simp only [hset, hnew]; omega) | rfl | decide) | exact At.new_eq2 _ _ (by first | omega | (simp only [hset, hnew]; omega) | rfl | decide) | refine At.set_ne ?_ (by first | omega | (simp only [hset, hnew]; omega) | rfl | decide) | refine At.new_ne ?_)))) (hv := rfl) (r := ?_)
  refine tX12_areAllied_29  (kf := fun c_ => by exfalso; exact absurd c_ (by decide)) (kt := fun _ => ?_)
  refine tX12_areAllied_49  (r := ?_)
  refine tX12_areAllied_50 (hb := (Or.inl rfl)) (hP := ?_)
  exact MK.of c2 (ch2.sub (Nat.le_refl _) (Nat.le_refl _) (by decide) (by decide))

set_option maxHeartbeats 4000000 in
set_option maxRecDepth 100000 in
theorem m_areAllied_no2 (hd : 4 ≤ d) (m1 : MoR h 216 s) (t1 : ToR h 216 s.2.2.1) (hb : BDok s.2.2.1 s.2.2.2) {j0 : Nat} (q0 : j0 < bLa s.2.2.1) {a1 : Int32} (bad : a1 < 0 ∨ nI (bLa s.2.2.1) ≤ a1) : RQ G mX12_areAllied d 0 [some (.ref 216), some (.int (nI j0)), some (.int a1)] [] h (MK h s 1 (nI 0)) := by
  obtain ⟨th, c⟩ := MoT.ofR m1 t1
  obtain ⟨⟨tk0, iw0, er0, et0, dp0, nm0, am0⟩, -⟩ := id c
  refine tX12_areAllied_0  (r := ?_)
  refine tX12_areAllied_1  (r := ?_)
  refine tX12_areAllied_2  (r := ?_)
  refine tX12_areAllied_3 (hd := (by omega)) (ha := (by first | assumption | (repeat (first | assumption | exact At.set_eq2 (by first | omega | (simp only [hset, hnew]; omega) | rfl | decide) | exact At.new_eq2 _ _ (by first | omega | (simp only [hset, hnew]; omega) | rfl | decide) | refine At.set_ne ?_ (by first | omega | (simp only [hset, hnew]; omega) | rfl | decide) | refine At.new_ne ?_)))) (call := s_isLabel_ok (d := 1) (by decide) c hb q0) (k := ?_)
  rintro v0 h_ ⟨rfl, e0⟩
  rw [e0]
  refine tX12_areAllied_6  (kt := fun c_ => by exfalso; exact absurd c_ (by decide)) (kf := fun _ => ?_)
  refine tX12_areAllied_9  (r := ?_)
  refine tX12_areAllied_10  (r := ?_)
  refine tX12_areAllied_11 (hd := (by omega)) (ha := (by first | assumption | (repeat (first | assumption | exact At.set_eq2 (by first | omega | (simp only [hset, hnew]; omega) | rfl | decide) | exact At.new_eq2 _ _ (by first | omega | (simp only [hset, hnew]; omega) | rfl | decide) | refine At.set_ne ?_ (by first | omega | (simp only [hset, hnew]; omega) | rfl | decide) | refine At.new_ne ?_)))) (call := s_isLabel_no (d := 1) (by decide) c hb bad) (k := ?_)
  rintro v1 h_ ⟨rfl, e1⟩
  rw [e1]
  refine tX12_areAllied_14  (kf := fun c_ => by exfalso; exact c_ (by decide)) (kt := fun _ => ?_)
  refine tX12_areAllied_21  (r := ?_)
  refine tX12_areAllied_22 (ha := (by first | assumption | (repeat (first | assumption | exact At.set_eq2 (by first | omega | (simp only [hset, hnew]; omega) | rfl | decide) | exact At.new_eq2 _ _ (by first | omega | (simp only [hset, hnew]; omega) | rfl | decide) | refine At.set_ne ?_ (by first | omega | (simp only [hset, hnew]; omega) | rfl | decide) | refine At.new_ne ?_)))) (hlen := rfl) (r := ?_)
  refine (fun (h2 : AH) (c2 : MoT h2 216 (nI 1) s) (ch2 : Ch h h2 216 269 0 0) => ?_ : ∀ h2, MoT h2 216 (nI 1) s → Ch h h2 216 269 0 0 → RQ G mX12_areAllied d 25 [some (.ref 216), some (.int (nI j0)), some (.int a1)] [] h2 (MK h s 1 (nI 0))) _ (c.thr am0) ((Ch.rf _ _ _ _ _).set (by decide) (by decide))
  obtain ⟨⟨tk, iw, er, et, dp, nm, am⟩, ⟨-, ⟨ft, at1, ct1⟩, -, -, -, -, -, -, -, ⟨ru, ac, no, a9, -⟩, -, -, ⟨fn, a48, n0, nb, nf, nl⟩, -, -, -, -⟩, ⟨⟨gs, as_, cs⟩, ⟨gw, aw, cw⟩, ⟨gl, al, cl⟩, ⟨g0, a0_, c0_⟩, ⟨g1, a1_, c1_⟩⟩⟩ := id c2
  refine tX12_areAllied_25  (r := ?_)
  refine tX12_areAllied_26 (ha := (by first | assumption | (repeat (first | assumption | exact At.set_eq2 (by first | omega | (simp only [hset, hnew]; omega) | rfl | decide) | exact At.new_eq2 _ _ (by first | omega | (simp only [hset, hnew]; omega) | rfl | decide) | refine At.set_ne ?_ (by first | omega | (simp only [hset, hnew]; omega) | rfl | decide) | refine At.new_ne ?_)))) (hv := rfl) (r := ?_)
  refine tX12_areAllied_29  (kf := fun c_ => by exfalso; exact absurd c_ (by decide)) (kt := fun _ => ?_)
  refine tX12_areAllied_49  (r := ?_)
  refine tX12_areAllied_50 (hb := (Or.inl rfl)) (hP := ?_)
  exact MK.of c2 (ch2.sub (Nat.le_refl _) (Nat.le_refl _) (by decide) (by decide))

set_option maxHeartbeats 4000000 in
set_option maxRecDepth 100000 in
theorem m_areAllied_ok (hd : 4 ≤ d) (m1 : MoR h 216 s) (t1 : ToR h 216 s.2.2.1) (hb : BDok s.2.2.1 s.2.2.2) {j0 : Nat} (q0 : j0 < bLa s.2.2.1) {j1 : Nat} (q1 : j1 < bLa s.2.2.1) : RQ G mX12_areAllied d 0 [some (.ref 216), some (.int (nI j0)), some (.int (nI j1))] [] h (MK h s 0 ((if rt (dF s.2.2.2) j0 = rt (dF s.2.2.2) j1 then nI 1 else nI 0))) := by
  obtain ⟨th, c⟩ := MoT.ofR m1 t1
  obtain ⟨⟨tk0, iw0, er0, et0, dp0, nm0, am0⟩, -⟩ := id c
  have l1 := hb.1
  have l2 := hb.2.1
  have l3 := hb.2.2.1
  have r0 := rt_lt hb 6 j0 q0
  have r1 := rt_lt hb 6 j1 q1
  refine tX12_areAllied_0  (r := ?_)
  refine tX12_areAllied_1  (r := ?_)
  refine tX12_areAllied_2  (r := ?_)
  refine tX12_areAllied_3 (hd := (by omega)) (ha := (by first | assumption | (repeat (first | assumption | exact At.set_eq2 (by first | omega | (simp only [hset, hnew]; omega) | rfl | decide) | exact At.new_eq2 _ _ (by first | omega | (simp only [hset, hnew]; omega) | rfl | decide) | refine At.set_ne ?_ (by first | omega | (simp only [hset, hnew]; omega) | rfl | decide) | refine At.new_ne ?_)))) (call := s_isLabel_ok (d := 1) (by decide) c hb q0) (k := ?_)
  rintro v0 h_ ⟨rfl, e0⟩
  rw [e0]
  refine tX12_areAllied_6  (kt := fun c_ => by exfalso; exact absurd c_ (by decide)) (kf := fun _ => ?_)
  refine tX12_areAllied_9  (r := ?_)
  refine tX12_areAllied_10  (r := ?_)
  refine tX12_areAllied_11 (hd := (by omega)) (ha := (by first | assumption | (repeat (first | assumption | exact At.set_eq2 (by first | omega | (simp only [hset, hnew]; omega) | rfl | decide) | exact At.new_eq2 _ _ (by first | omega | (simp only [hset, hnew]; omega) | rfl | decide) | refine At.set_ne ?_ (by first | omega | (simp only [hset, hnew]; omega) | rfl | decide) | refine At.new_ne ?_)))) (call := s_isLabel_ok (d := 1) (by decide) c hb q1) (k := ?_)
  rintro v1 h_ ⟨rfl, e1⟩
  rw [e1]
  refine tX12_areAllied_14  (kt := fun c_ => by exfalso; exact absurd c_ (by decide)) (kf := fun _ => ?_)
  refine tX12_areAllied_17  (r := ?_)
  refine tX12_areAllied_18 (r := ?_)
  refine tX12_areAllied_22 (ha := (by first | assumption | (repeat (first | assumption | exact At.set_eq2 (by first | omega | (simp only [hset, hnew]; omega) | rfl | decide) | exact At.new_eq2 _ _ (by first | omega | (simp only [hset, hnew]; omega) | rfl | decide) | refine At.set_ne ?_ (by first | omega | (simp only [hset, hnew]; omega) | rfl | decide) | refine At.new_ne ?_)))) (hlen := rfl) (r := ?_)
  refine (fun (h2 : AH) (c2 : MoT h2 216 (nI 0) s) (ch2 : Ch h h2 216 269 0 0) => ?_ : ∀ h2, MoT h2 216 (nI 0) s → Ch h h2 216 269 0 0 → RQ G mX12_areAllied d 25 [some (.ref 216), some (.int (nI j0)), some (.int (nI j1))] [] h2 (MK h s 0 ((if rt (dF s.2.2.2) j0 = rt (dF s.2.2.2) j1 then nI 1 else nI 0)))) _ (c.thr am0) ((Ch.rf _ _ _ _ _).set (by decide) (by decide))
  obtain ⟨⟨tk, iw, er, et, dp, nm, am⟩, ⟨-, ⟨ft, at1, ct1⟩, -, -, -, -, -, -, -, ⟨ru, ac, no, a9, -⟩, -, -, ⟨fn, a48, n0, nb, nf, nl⟩, -, -, -, -⟩, ⟨⟨gs, as_, cs⟩, ⟨gw, aw, cw⟩, ⟨gl, al, cl⟩, ⟨g0, a0_, c0_⟩, ⟨g1, a1_, c1_⟩⟩⟩ := id c2
  refine tX12_areAllied_25  (r := ?_)
  refine tX12_areAllied_26 (ha := (by first | assumption | (repeat (first | assumption | exact At.set_eq2 (by first | omega | (simp only [hset, hnew]; omega) | rfl | decide) | exact At.new_eq2 _ _ (by first | omega | (simp only [hset, hnew]; omega) | rfl | decide) | refine At.set_ne ?_ (by first | omega | (simp only [hset, hnew]; omega) | rfl | decide) | refine At.new_ne ?_)))) (hv := rfl) (r := ?_)
  refine tX12_areAllied_29  (kt := fun c_ => by exfalso; exact c_ (by decide)) (kf := fun _ => ?_)
  refine tX12_areAllied_32  (r := ?_)
  refine tX12_areAllied_33  (r := ?_)
  refine tX12_areAllied_34 (hd := (by omega)) (ha := (by first | assumption | (repeat (first | assumption | exact At.set_eq2 (by first | omega | (simp only [hset, hnew]; omega) | rfl | decide) | exact At.new_eq2 _ _ (by first | omega | (simp only [hset, hnew]; omega) | rfl | decide) | refine At.set_ne ?_ (by first | omega | (simp only [hset, hnew]; omega) | rfl | decide) | refine At.new_ne ?_)))) (call := s_leader (d := 1) c2 hb q0) (k := ?_)
  rintro v2 h_ ⟨rfl, e2⟩
  rw [e2]
  refine tX12_areAllied_37  (r := ?_)
  refine tX12_areAllied_38  (r := ?_)
  refine tX12_areAllied_39 (hd := (by omega)) (ha := (by first | assumption | (repeat (first | assumption | exact At.set_eq2 (by first | omega | (simp only [hset, hnew]; omega) | rfl | decide) | exact At.new_eq2 _ _ (by first | omega | (simp only [hset, hnew]; omega) | rfl | decide) | refine At.set_ne ?_ (by first | omega | (simp only [hset, hnew]; omega) | rfl | decide) | refine At.new_ne ?_)))) (call := s_leader (d := 1) c2 hb q1) (k := ?_)
  rintro v3 h_ ⟨rfl, e3⟩
  rw [e3]
  refine tX12_areAllied_42  (kt := fun c_42 => ?_) (kf := fun c_42 => ?_)
  · have ne_ : ¬ rt (dF s.2.2.2) j0 = rt (dF s.2.2.2) j1 := fun q => c_42 (by rw [q])
    refine tX12_areAllied_49  (r := ?_)
    refine tX12_areAllied_50 (hb := (Or.inl rfl)) (hP := ?_)
    rw [if_neg ne_]
    exact MK.of c2 (ch2.sub (Nat.le_refl _) (Nat.le_refl _) (by decide) (by decide))
  · have eq_ : rt (dF s.2.2.2) j0 = rt (dF s.2.2.2) j1 := (nI_eq (show rt (dF s.2.2.2) j0 < 2147483648 by unfold rt; omega) (show rt (dF s.2.2.2) j1 < 2147483648 by unfold rt; omega)).mp c_42
    refine tX12_areAllied_45  (r := ?_)
    refine tX12_areAllied_46 (r := ?_)
    refine tX12_areAllied_50 (hb := (Or.inr rfl)) (hP := ?_)
    rw [if_pos eq_]
    exact MK.of c2 (ch2.sub (Nat.le_refl _) (Nat.le_refl _) (by decide) (by decide))

end SJ
theorem O_beansOf {G : GT} {h : AH} {s : ST} {bk dr : Nat} {a0 : Int32} (j : Jd h s bk dr) : OpC G mX10_beansOf mX12_beansOf 2046 2047 [some (.ref 0), some (.int a0), none, none] [some (.ref 216), some (.int a0)] "java/lang/IndexOutOfBoundsException" "" (fun _ => True) h s := by
  have hb := j.1
  have hh := j.room
  have l1 := hb.1
  have l2 := hb.2.1
  have l3 := hb.2.2.1
  rcases ix_cases a0 (n := bLa s.2.2.1) (by omega) with ⟨j0, q0, rfl⟩ | bad
  rotate_left
  · exact ⟨1, nI 0, s, bk, dr, hb, trivial, k_beansOf_no1 (by decide) j.2.1 hb hh bad, fun h1 m1 t1 => m_beansOf_no1 (by decide) m1 t1 hb bad⟩
  exact ⟨0, _, s, bk, dr, hb, trivial, k_beansOf_ok (by decide) j.2.1 hb hh q0 , fun h1 m1 t1 => m_beansOf_ok (by decide) m1 t1 hb q0 ⟩

theorem O_areAllied {G : GT} {h : AH} {s : ST} {bk dr : Nat} {a0 a1 : Int32} (j : Jd h s bk dr) : OpC G mX10_areAllied mX12_areAllied 2046 2047 [some (.ref 0), some (.int a0), some (.int a1)] [some (.ref 216), some (.int a0), some (.int a1)] "java/lang/IndexOutOfBoundsException" "" (fun b => b = nI 0 ∨ b = nI 1) h s := by
  have hb := j.1
  have hh := j.room
  have l1 := hb.1
  have l2 := hb.2.1
  have l3 := hb.2.2.1
  rcases ix_cases a0 (n := bLa s.2.2.1) (by omega) with ⟨j0, q0, rfl⟩ | bad
  rotate_left
  · exact ⟨1, nI 0, s, bk, dr, hb, (Or.inl rfl), k_areAllied_no1 (by decide) j.2.1 hb hh bad, fun h1 m1 t1 => m_areAllied_no1 (by decide) m1 t1 hb bad⟩
  rcases ix_cases a1 (n := bLa s.2.2.1) (by omega) with ⟨j1, q1, rfl⟩ | bad
  rotate_left
  · exact ⟨1, nI 0, s, bk, dr, hb, (Or.inl rfl), k_areAllied_no2 (by decide) j.2.1 hb hh q0 bad, fun h1 m1 t1 => m_areAllied_no2 (by decide) m1 t1 hb q0 bad⟩
  exact ⟨0, _, s, bk, dr, hb, (by by_cases e : rt (dF s.2.2.2) j0 = rt (dF s.2.2.2) j1 <;> first | exact Or.inr (if_pos e) | exact Or.inl (if_neg e)), k_areAllied_ok (by decide) j.2.1 hb hh q0 q1 , fun h1 m1 t1 => m_areAllied_ok (by decide) m1 t1 hb q0 q1 ⟩

theorem D_alliances {G : GT} {h : AH} {s : ST} {bk dr : Nat} (j : Jd h s bk dr) : OpD Value.int G mX10_alliances mX12_alliances 2047 [some (.ref 0), none, none] [some (.ref 216)] h s := ⟨_, s, bk, dr, j.1, k_alliances j.2.1 j.1, fun h1 m1 t1 => m_alliances (by decide) m1 t1 j.1⟩
