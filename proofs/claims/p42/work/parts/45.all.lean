/-! a cupboard's seats in all -/
section AL
variable {G : GT} {d : Nat} {c : Nat} {h0 : AH} {B : BK} {D : DY}

set_option maxHeartbeats 4000000 in
set_option maxRecDepth 100000 in
theorem s_allSeats_l (hd : 3 ≤ d) (hb : BDok B D) {k0 : Nat} (qk : k0 < 6) : ∀ (n i : Nat) (h : AH), 8 ≤ i + n → i ≤ 8 → CuR h c B D → Sm h0 h c (c + 45) → RQ G mX3_allSeats d 4 [some (.ref c), some (.int (nI k0)), some (.int (nI (su (sw B D k0) i))), some (.int (nI i))] [] h (Ri fun v h1 => v = nI (su (sw B D k0) 8) ∧ CuR h1 c B D ∧ Sm h0 h1 c (c + 45)) := by
  have ex : ∀ (i : Nat) (h : AH), i = 8 → CuR h c B D → Sm h0 h c (c + 45) → RQ G mX3_allSeats d 4 [some (.ref c), some (.int (nI k0)), some (.int (nI (su (sw B D k0) i))), some (.int (nI i))] [] h (Ri fun v h1 => v = nI (su (sw B D k0) 8) ∧ CuR h1 c B D ∧ Sm h0 h1 c (c + 45)) := by
    intro i h hi cu sm
    subst hi
    obtain ⟨jf, lj, fo, le, u0, u1, u2, u3, u4, u5, u6, u7, u8, u9⟩ := id cu
    have r6 := rt_lt6 hb k0 qk
    refine tX3_allSeats_4  (r := ?_)
    refine tX3_allSeats_5  (r := ?_)
    refine tX3_allSeats_7  (kf := fun c_ => by exfalso; exact c_ (by decide)) (kt := fun _ => ?_)
    refine tX3_allSeats_48  (r := ?_)
    refine tX3_allSeats_49  (hP := ?_)
    exact ⟨_, rfl, rfl, cu, sm⟩
  intro n
  induction n with
  | zero => exact fun i h h1_ h2_ => ex i h (by omega)
  | succ n ih =>
    intro i h h1_ h2_ cu sm
    by_cases hi : i = 8
    · exact ex i h hi cu sm
    have hi2 : i < 8 := by omega
    obtain ⟨jf, lj, fo, le, u0, u1, u2, u3, u4, u5, u6, u7, u8, u9⟩ := id cu
    have r6 := rt_lt6 hb k0 qk
    refine tX3_allSeats_4  (r := ?_)
    refine tX3_allSeats_5  (r := ?_)
    refine tX3_allSeats_7  (kt := fun c_ => by exfalso; exact absurd ((nI_leI (by decide) (by omega)).mp c_) (by omega)) (kf := fun _ => ?_)
    refine tX3_allSeats_10  (r := ?_)
    refine tX3_allSeats_11 (ha := (by first | assumption | (repeat (first | assumption | exact At.set_eq2 (by first | omega | (simp only [hset, hnew]; omega) | rfl | decide) | exact At.new_eq2 _ _ (by first | omega | (simp only [hset, hnew]; omega) | rfl | decide) | refine At.set_ne ?_ (by first | omega | (simp only [hset, hnew]; omega) | rfl | decide) | refine At.new_ne ?_)))) (hv := rfl) (r := ?_)
    obtain ⟨bf, p, w, l, tu, fi, ma, co, ⟨b0, b1, b2, b3, b4⟩, -, -⟩ := id (u9 i hi2)
    obtain ⟨z1, z2⟩ := hb.2.2.2.1 i hi2
    have z3 := hb.2.2.2.2.2.2.1 i hi2
    refine tX3_allSeats_14  (r := ?_)
    refine tX3_allSeats_15 (ha := (by first | assumption | (repeat (first | assumption | exact At.set_eq2 (by first | omega | (simp only [hset, hnew]; omega) | rfl | decide) | exact At.new_eq2 _ _ (by first | omega | (simp only [hset, hnew]; omega) | rfl | decide) | refine At.set_ne ?_ (by first | omega | (simp only [hset, hnew]; omega) | rfl | decide) | refine At.new_ne ?_)))) (hx := rfl) (hj := hi2) (hn := (by decide)) (hf := (u5 _ hi2)) (r := ?_)
    refine tX3_allSeats_16  (r := ?_)
    refine tX3_allSeats_17 (ha := (by first | assumption | (repeat (first | assumption | exact At.set_eq2 (by first | omega | (simp only [hset, hnew]; omega) | rfl | decide) | exact At.new_eq2 _ _ (by first | omega | (simp only [hset, hnew]; omega) | rfl | decide) | refine At.set_ne ?_ (by first | omega | (simp only [hset, hnew]; omega) | rfl | decide) | refine At.new_ne ?_)))) (hv := rfl) (r := ?_)
    refine tX3_allSeats_20 (hd := (by omega)) (ha := (by first | assumption | (repeat (first | assumption | exact At.set_eq2 (by first | omega | (simp only [hset, hnew]; omega) | rfl | decide) | exact At.new_eq2 _ _ (by first | omega | (simp only [hset, hnew]; omega) | rfl | decide) | refine At.set_ne ?_ (by first | omega | (simp only [hset, hnew]; omega) | rfl | decide) | refine At.new_ne ?_)))) (call := s_count (d := 2) (by decide) (u9 i hi2) u8 (rt_lt6 hb) z3 z1 z2 (by omega) u4) (k := ?_)
    intro h1 hq
    obtain ⟨jc, sm1⟩ := hq
    have cu1 := cu.set hi2 jc.R sm1
    have v0 := sm1.at u0 (by omega)
    have v1 := sm1.at u1 (by omega)
    have v4 := sm1.at u4 (by omega)
    have sm2 := sm.trans (sm1.sub (lo2 := c) (hi2 := c + 45) (by omega) (by omega))
    obtain ⟨bf2, p2, w2, l2, tu2, fi2, ma2, ⟨y0, y1, y2, y3, y4⟩, -, -, cw, -⟩ := jc
    refine tX3_allSeats_23  (r := ?_)
    refine tX3_allSeats_24  (r := ?_)
    refine tX3_allSeats_25 (ha := (by first | assumption | (repeat (first | assumption | exact At.set_eq2 (by first | omega | (simp only [hset, hnew]; omega) | rfl | decide) | exact At.new_eq2 _ _ (by first | omega | (simp only [hset, hnew]; omega) | rfl | decide) | refine At.set_ne ?_ (by first | omega | (simp only [hset, hnew]; omega) | rfl | decide) | refine At.new_ne ?_)))) (hv := rfl) (r := ?_)
    refine tX3_allSeats_28  (r := ?_)
    refine tX3_allSeats_29 (ha := (by first | assumption | (repeat (first | assumption | exact At.set_eq2 (by first | omega | (simp only [hset, hnew]; omega) | rfl | decide) | exact At.new_eq2 _ _ (by first | omega | (simp only [hset, hnew]; omega) | rfl | decide) | refine At.set_ne ?_ (by first | omega | (simp only [hset, hnew]; omega) | rfl | decide) | refine At.new_ne ?_)))) (hx := rfl) (hj := hi2) (hn := (by decide)) (hf := (u5 _ hi2)) (r := ?_)
    refine tX3_allSeats_30 (ha := (by first | assumption | (repeat (first | assumption | exact At.set_eq2 (by first | omega | (simp only [hset, hnew]; omega) | rfl | decide) | exact At.new_eq2 _ _ (by first | omega | (simp only [hset, hnew]; omega) | rfl | decide) | refine At.set_ne ?_ (by first | omega | (simp only [hset, hnew]; omega) | rfl | decide) | refine At.new_ne ?_)))) (hv := rfl) (r := ?_)
    refine tX3_allSeats_33  (r := ?_)
    refine tX3_allSeats_34 (ha := (by first | assumption | (repeat (first | assumption | exact At.set_eq2 (by first | omega | (simp only [hset, hnew]; omega) | rfl | decide) | exact At.new_eq2 _ _ (by first | omega | (simp only [hset, hnew]; omega) | rfl | decide) | refine At.set_ne ?_ (by first | omega | (simp only [hset, hnew]; omega) | rfl | decide) | refine At.new_ne ?_)))) (hv := rfl) (r := ?_)
    refine tX3_allSeats_37  (r := ?_)
    refine tX3_allSeats_38 (ha := (by first | assumption | (repeat (first | assumption | exact At.set_eq2 (by first | omega | (simp only [hset, hnew]; omega) | rfl | decide) | exact At.new_eq2 _ _ (by first | omega | (simp only [hset, hnew]; omega) | rfl | decide) | refine At.set_ne ?_ (by first | omega | (simp only [hset, hnew]; omega) | rfl | decide) | refine At.new_ne ?_)))) (hx := rfl) (hj := qk) (hn := (by decide)) (r := ?_)
    rw [u8 _ qk]
    refine tX3_allSeats_39 (ha := (by first | assumption | (repeat (first | assumption | exact At.set_eq2 (by first | omega | (simp only [hset, hnew]; omega) | rfl | decide) | exact At.new_eq2 _ _ (by first | omega | (simp only [hset, hnew]; omega) | rfl | decide) | refine At.set_ne ?_ (by first | omega | (simp only [hset, hnew]; omega) | rfl | decide) | refine At.new_ne ?_)))) (hx := rfl) (hj := r6) (hn := (by decide)) (r := ?_)
    rw [cw _ r6]
    refine tX3_allSeats_40  (r := ?_)
    rw [nI_add]
    refine tX3_allSeats_41  (r := ?_)
    refine tX3_allSeats_42  (r := ?_)
    rw [nI_add]
    refine tX3_allSeats_45 (r := ?_)
    exact ih (i + 1) _ (by omega) (by omega) cu1 sm2

set_option maxHeartbeats 4000000 in
set_option maxRecDepth 100000 in
theorem s_allSeats (hd : 3 ≤ d) (hb : BDok B D) {k0 : Nat} (qk : k0 < 6) (cu : CuR h0 c B D) : RQ G mX3_allSeats d 0 [some (.ref c), some (.int (nI k0)), none, none] [] h0 (Ri fun v h1 => v = nI (su (sw B D k0) 8) ∧ CuR h1 c B D ∧ Sm h0 h1 c (c + 45)) := by
  refine tX3_allSeats_0  (r := ?_)
  refine tX3_allSeats_1  (r := ?_)
  refine tX3_allSeats_2  (r := ?_)
  refine tX3_allSeats_3  (r := ?_)
  exact s_allSeats_l hd hb qk 8 0 h0 (by omega) (by omega) cu (Sm.rf _ _ _)

end AL
