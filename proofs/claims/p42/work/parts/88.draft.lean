/-! labels, jars, lids of the class's draft -/
section DRC
variable {G : GT} {d : Nat} {h h0 : AH} {b : Nat} {D : DRF}

set_option maxHeartbeats 4000000 in
set_option maxRecDepth 100000 in
theorem s_addLabel (bx : BoX h b D) {v0 : Nat} (hv : v0 < 1099511627776) : RQ G mX1_addLabel d 0 [some (.ref b), some (.long (nL v0)), none] [] h (Rv fun h1 => BoX h1 b (laD v0 D) ∧ Sm h h1 b (b + 58)) := by
  obtain ⟨a0, ⟨k1, a1, t1⟩, ⟨k2, a2, t2⟩, ⟨k3, a3, t3⟩, ⟨k4, a4, t4⟩, ⟨k5, a5, t5⟩, ⟨k6, a6, t6⟩, a7, a8, m1, m2, m3⟩ := id bx
  have y0 := a0.1
  have y1 := a1.1
  have y2 := a2.1
  have y3 := a3.1
  have y4 := a4.1
  have y5 := a5.1
  have y6 := a6.1
  refine tX1_addLabel_0  (r := ?_)
  refine tX1_addLabel_1 (ha := (by first | assumption | (repeat (first | assumption | exact At.set_eq2 (by first | omega | (simp only [hset, hnew]; omega) | rfl | decide) | exact At.new_eq2 _ _ (by first | omega | (simp only [hset, hnew]; omega) | rfl | decide) | refine At.set_ne ?_ (by first | omega | (simp only [hset, hnew]; omega) | rfl | decide) | refine At.new_ne ?_)))) (hv := rfl) (r := ?_)
  refine tX1_addLabel_4  (r := ?_)
  refine tX1_addLabel_6  (kt := fun c_6 => ?_) (kf := fun c_6 => ?_)
  · have e : laD v0 D = D := if_neg (fun z => by have := (nI_leI (by decide) (by omega)).mp c_6; omega)
    rw [e]
    refine tX1_addLabel_29  (hP := ?_)
    exact ⟨rfl, bx, Sm.rf _ _ _⟩
  · have lt : bLa D.1 < 6 := Nat.lt_of_not_le (fun z => c_6 ((nI_leI (by decide) (by omega)).mpr z))
    have e : laD v0 D = ((bLa D.1 + 1, bJa D.1, bLi D.1, bSe D.1, bWy D.1, bLl D.1, bRu D.1, bRs D.1, bSc D.1, bNd D.1), upN (dfL D) (bLa D.1) v0, dfJ D, dfI D, dfE D, dfO D) := if_pos lt
    rw [e]
    refine tX1_addLabel_9  (r := ?_)
    refine tX1_addLabel_10 (ha := (by first | assumption | (repeat (first | assumption | exact At.set_eq2 (by first | omega | (simp only [hset, hnew]; omega) | rfl | decide) | exact At.new_eq2 _ _ (by first | omega | (simp only [hset, hnew]; omega) | rfl | decide) | refine At.set_ne ?_ (by first | omega | (simp only [hset, hnew]; omega) | rfl | decide) | refine At.new_ne ?_)))) (hv := rfl) (r := ?_)
    refine tX1_addLabel_13  (r := ?_)
    refine tX1_addLabel_14 (ha := (by first | assumption | (repeat (first | assumption | exact At.set_eq2 (by first | omega | (simp only [hset, hnew]; omega) | rfl | decide) | exact At.new_eq2 _ _ (by first | omega | (simp only [hset, hnew]; omega) | rfl | decide) | refine At.set_ne ?_ (by first | omega | (simp only [hset, hnew]; omega) | rfl | decide) | refine At.new_ne ?_)))) (hv := rfl) (r := ?_)
    refine tX1_addLabel_17  (r := ?_)
    refine tX1_addLabel_18 (ha := (by first | assumption | (repeat (first | assumption | exact At.set_eq2 (by first | omega | (simp only [hset, hnew]; omega) | rfl | decide) | exact At.new_eq2 _ _ (by first | omega | (simp only [hset, hnew]; omega) | rfl | decide) | refine At.set_ne ?_ (by first | omega | (simp only [hset, hnew]; omega) | rfl | decide) | refine At.new_ne ?_)))) (hx := rfl) (hj := lt) (hn := (by decide)) (r := ?_)
    refine tX1_addLabel_19  (r := ?_)
    refine tX1_addLabel_20  (r := ?_)
    refine tX1_addLabel_21 (ha := (by first | assumption | (repeat (first | assumption | exact At.set_eq2 (by first | omega | (simp only [hset, hnew]; omega) | rfl | decide) | exact At.new_eq2 _ _ (by first | omega | (simp only [hset, hnew]; omega) | rfl | decide) | refine At.set_ne ?_ (by first | omega | (simp only [hset, hnew]; omega) | rfl | decide) | refine At.new_ne ?_)))) (hv := rfl) (r := ?_)
    refine tX1_addLabel_24  (r := ?_)
    refine tX1_addLabel_25  (r := ?_)
    rw [nI_add]
    refine tX1_addLabel_26 (ha := (by first | assumption | (repeat (first | assumption | exact At.set_eq2 (by first | omega | (simp only [hset, hnew]; omega) | rfl | decide) | exact At.new_eq2 _ _ (by first | omega | (simp only [hset, hnew]; omega) | rfl | decide) | refine At.set_ne ?_ (by first | omega | (simp only [hset, hnew]; omega) | rfl | decide) | refine At.new_ne ?_)))) (hlen := rfl) (r := ?_)
    refine tX1_addLabel_29  (hP := ?_)
    have sm := ((Sm.rf h b (b + 4)).set (i := b + 1) (c := .inl (2, 6, .inr (.inl (fun k => if k = bLa D.1 then nL v0 else k1 k)))) (by omega) (by omega)).set (i := b) (c := BooO b (nI (bLa D.1 + 1)) (nI (bJa D.1)) (nI (bLi D.1))) (by omega) (by omega)
    refine ⟨rfl, ⟨At.set_eq2 y0, ⟨_, At.set_ne (At.set_eq2 y1) (by omega), fun k hk => ?_⟩, ⟨k2, by (first | assumption | (repeat (first | assumption | exact At.set_eq2 (by (first | omega | (simp only [hset, hnew]; omega) | rfl | decide)) | exact At.new_eq2 _ _ (by (first | omega | (simp only [hset, hnew]; omega) | rfl | decide)) | refine At.set_ne ?_ (by (first | omega | (simp only [hset, hnew]; omega) | rfl | decide)) | refine At.new_ne ?_))), t2⟩, ⟨k3, by (first | assumption | (repeat (first | assumption | exact At.set_eq2 (by (first | omega | (simp only [hset, hnew]; omega) | rfl | decide)) | exact At.new_eq2 _ _ (by (first | omega | (simp only [hset, hnew]; omega) | rfl | decide)) | refine At.set_ne ?_ (by (first | omega | (simp only [hset, hnew]; omega) | rfl | decide)) | refine At.new_ne ?_))), t3⟩, ⟨k4, sm.at a4 (by omega), t4⟩, ⟨k5, sm.at a5 (by omega), t5⟩, ⟨k6, sm.at a6 (by omega), t6⟩, a7.sm sm (by omega), a8.sm sm (by omega), by first | exact m1 | exact lt, by first | exact m2 | exact lt, m3⟩, sm.sub (by omega) (by omega)⟩
    have hk : k < bLa D.1 + 1 := hk
    show (if k = bLa D.1 then nL v0 else k1 k) = nL (if k = bLa D.1 then v0 else dfL D k) ∧ (if k = bLa D.1 then v0 else dfL D k) < _
    by_cases z : k = bLa D.1
    · rw [if_pos z, if_pos z]
      exact ⟨rfl, hv⟩
    · rw [if_neg z, if_neg z]
      exact t1 k (by omega)

set_option maxHeartbeats 4000000 in
set_option maxRecDepth 100000 in
theorem s_addJar (bx : BoX h b D) {v0 : Nat} (hv : v0 < 1099511627776) : RQ G mX1_addJar d 0 [some (.ref b), some (.long (nL v0)), none] [] h (Rv fun h1 => BoX h1 b (jaD v0 D) ∧ Sm h h1 b (b + 58)) := by
  obtain ⟨a0, ⟨k1, a1, t1⟩, ⟨k2, a2, t2⟩, ⟨k3, a3, t3⟩, ⟨k4, a4, t4⟩, ⟨k5, a5, t5⟩, ⟨k6, a6, t6⟩, a7, a8, m1, m2, m3⟩ := id bx
  have y0 := a0.1
  have y1 := a1.1
  have y2 := a2.1
  have y3 := a3.1
  have y4 := a4.1
  have y5 := a5.1
  have y6 := a6.1
  refine tX1_addJar_0  (r := ?_)
  refine tX1_addJar_1 (ha := (by first | assumption | (repeat (first | assumption | exact At.set_eq2 (by first | omega | (simp only [hset, hnew]; omega) | rfl | decide) | exact At.new_eq2 _ _ (by first | omega | (simp only [hset, hnew]; omega) | rfl | decide) | refine At.set_ne ?_ (by first | omega | (simp only [hset, hnew]; omega) | rfl | decide) | refine At.new_ne ?_)))) (hv := rfl) (r := ?_)
  refine tX1_addJar_4  (r := ?_)
  refine tX1_addJar_6  (kt := fun c_6 => ?_) (kf := fun c_6 => ?_)
  · have e : jaD v0 D = D := if_neg (fun z => by have := (nI_leI (by decide) (by omega)).mp c_6; omega)
    rw [e]
    refine tX1_addJar_29  (hP := ?_)
    exact ⟨rfl, bx, Sm.rf _ _ _⟩
  · have lt : bJa D.1 < 8 := Nat.lt_of_not_le (fun z => c_6 ((nI_leI (by decide) (by omega)).mpr z))
    have e : jaD v0 D = ((bLa D.1, bJa D.1 + 1, bLi D.1, bSe D.1, bWy D.1, bLl D.1, bRu D.1, bRs D.1, bSc D.1, bNd D.1), dfL D, upN (dfJ D) (bJa D.1) v0, dfI D, dfE D, dfO D) := if_pos lt
    rw [e]
    refine tX1_addJar_9  (r := ?_)
    refine tX1_addJar_10 (ha := (by first | assumption | (repeat (first | assumption | exact At.set_eq2 (by first | omega | (simp only [hset, hnew]; omega) | rfl | decide) | exact At.new_eq2 _ _ (by first | omega | (simp only [hset, hnew]; omega) | rfl | decide) | refine At.set_ne ?_ (by first | omega | (simp only [hset, hnew]; omega) | rfl | decide) | refine At.new_ne ?_)))) (hv := rfl) (r := ?_)
    refine tX1_addJar_13  (r := ?_)
    refine tX1_addJar_14 (ha := (by first | assumption | (repeat (first | assumption | exact At.set_eq2 (by first | omega | (simp only [hset, hnew]; omega) | rfl | decide) | exact At.new_eq2 _ _ (by first | omega | (simp only [hset, hnew]; omega) | rfl | decide) | refine At.set_ne ?_ (by first | omega | (simp only [hset, hnew]; omega) | rfl | decide) | refine At.new_ne ?_)))) (hv := rfl) (r := ?_)
    refine tX1_addJar_17  (r := ?_)
    refine tX1_addJar_18 (ha := (by first | assumption | (repeat (first | assumption | exact At.set_eq2 (by first | omega | (simp only [hset, hnew]; omega) | rfl | decide) | exact At.new_eq2 _ _ (by first | omega | (simp only [hset, hnew]; omega) | rfl | decide) | refine At.set_ne ?_ (by first | omega | (simp only [hset, hnew]; omega) | rfl | decide) | refine At.new_ne ?_)))) (hx := rfl) (hj := lt) (hn := (by decide)) (r := ?_)
    refine tX1_addJar_19  (r := ?_)
    refine tX1_addJar_20  (r := ?_)
    refine tX1_addJar_21 (ha := (by first | assumption | (repeat (first | assumption | exact At.set_eq2 (by first | omega | (simp only [hset, hnew]; omega) | rfl | decide) | exact At.new_eq2 _ _ (by first | omega | (simp only [hset, hnew]; omega) | rfl | decide) | refine At.set_ne ?_ (by first | omega | (simp only [hset, hnew]; omega) | rfl | decide) | refine At.new_ne ?_)))) (hv := rfl) (r := ?_)
    refine tX1_addJar_24  (r := ?_)
    refine tX1_addJar_25  (r := ?_)
    rw [nI_add]
    refine tX1_addJar_26 (ha := (by first | assumption | (repeat (first | assumption | exact At.set_eq2 (by first | omega | (simp only [hset, hnew]; omega) | rfl | decide) | exact At.new_eq2 _ _ (by first | omega | (simp only [hset, hnew]; omega) | rfl | decide) | refine At.set_ne ?_ (by first | omega | (simp only [hset, hnew]; omega) | rfl | decide) | refine At.new_ne ?_)))) (hlen := rfl) (r := ?_)
    refine tX1_addJar_29  (hP := ?_)
    have sm := ((Sm.rf h b (b + 4)).set (i := b + 2) (c := .inl (2, 8, .inr (.inl (fun k => if k = bJa D.1 then nL v0 else k2 k)))) (by omega) (by omega)).set (i := b) (c := BooO b (nI (bLa D.1)) (nI (bJa D.1 + 1)) (nI (bLi D.1))) (by omega) (by omega)
    refine ⟨rfl, ⟨At.set_eq2 y0, ⟨k1, by (first | assumption | (repeat (first | assumption | exact At.set_eq2 (by (first | omega | (simp only [hset, hnew]; omega) | rfl | decide)) | exact At.new_eq2 _ _ (by (first | omega | (simp only [hset, hnew]; omega) | rfl | decide)) | refine At.set_ne ?_ (by (first | omega | (simp only [hset, hnew]; omega) | rfl | decide)) | refine At.new_ne ?_))), t1⟩, ⟨_, At.set_ne (At.set_eq2 y2) (by omega), fun k hk => ?_⟩, ⟨k3, by (first | assumption | (repeat (first | assumption | exact At.set_eq2 (by (first | omega | (simp only [hset, hnew]; omega) | rfl | decide)) | exact At.new_eq2 _ _ (by (first | omega | (simp only [hset, hnew]; omega) | rfl | decide)) | refine At.set_ne ?_ (by (first | omega | (simp only [hset, hnew]; omega) | rfl | decide)) | refine At.new_ne ?_))), t3⟩, ⟨k4, sm.at a4 (by omega), t4⟩, ⟨k5, sm.at a5 (by omega), t5⟩, ⟨k6, sm.at a6 (by omega), t6⟩, a7.sm sm (by omega), a8.sm sm (by omega), by first | exact m1 | exact lt, by first | exact m2 | exact lt, m3⟩, sm.sub (by omega) (by omega)⟩
    have hk : k < bJa D.1 + 1 := hk
    show (if k = bJa D.1 then nL v0 else k2 k) = nL (if k = bJa D.1 then v0 else dfJ D k) ∧ (if k = bJa D.1 then v0 else dfJ D k) < _
    by_cases z : k = bJa D.1
    · rw [if_pos z, if_pos z]
      exact ⟨rfl, hv⟩
    · rw [if_neg z, if_neg z]
      exact t2 k (by omega)

set_option maxHeartbeats 4000000 in
set_option maxRecDepth 100000 in
theorem s_setSeats (bx : BoX h b D) {v w0 : Nat} (hw : 24 ≤ w0 ∧ w0 < 27) : RQ G mX1_setSeats d 0 [some (.ref b), some (.int (nI v)), some (.ref (OLD + w0))] [] h (Rv fun h1 => BoX h1 b (seD v w0 D) ∧ Sm h h1 b (b + 58)) := by
  obtain ⟨a0, ⟨k1, a1, t1⟩, ⟨k2, a2, t2⟩, ⟨k3, a3, t3⟩, ⟨k4, a4, t4⟩, ⟨k5, a5, t5⟩, ⟨k6, a6, t6⟩, a7, a8, m1, m2, m3⟩ := id bx
  have y0 := a0.1
  have y1 := a1.1
  have y2 := a2.1
  have y3 := a3.1
  have y4 := a4.1
  have y5 := a5.1
  have y6 := a6.1
  obtain ⟨jf, lj, fo, le, u0, u1, u2, u3, u4, u5, u6, u7, u8⟩ := id a7
  refine tX1_setSeats_0  (r := ?_)
  refine tX1_setSeats_1 (ha := (by first | assumption | (repeat (first | assumption | exact At.set_eq2 (by first | omega | (simp only [hset, hnew]; omega) | rfl | decide) | exact At.new_eq2 _ _ (by first | omega | (simp only [hset, hnew]; omega) | rfl | decide) | refine At.set_ne ?_ (by first | omega | (simp only [hset, hnew]; omega) | rfl | decide) | refine At.new_ne ?_)))) (hv := rfl) (r := ?_)
  refine tX1_setSeats_4  (kt := fun c_4 => ?_) (kf := fun c_4 => ?_)
  · have e : seD v w0 D = D := if_neg (fun z => by simp (disch := omega) only [ci_le0] at c_4; omega)
    rw [e]
    refine tX1_setSeats_52  (hP := ?_)
    exact ⟨rfl, bx, Sm.rf _ _ _⟩
  · have p0 : 0 < bJa D.1 := by simp (disch := omega) only [ci_le0] at c_4; omega
    have e : seD v w0 D = ((bLa D.1, bJa D.1, bLi D.1, upN (bSe D.1) (bJa D.1 - 1) v, upN (bWy D.1) (bJa D.1 - 1) (w0 - 24), bLl D.1, bRu D.1, bRs D.1, bSc D.1, bNd D.1), D.2) := if_pos p0
    rw [e]
    obtain ⟨bf, p, w, l, tu, fi, ma, ⟨j0, j1, j2, j3, j4⟩, cj⟩ := (u8 (bJa D.1 - 1) (by omega)).1
    have i0 := j0.1
    have i1 := j1.1
    refine tX1_setSeats_7  (r := ?_)
    refine tX1_setSeats_8 (ha := (by first | assumption | (repeat (first | assumption | exact At.set_eq2 (by first | omega | (simp only [hset, hnew]; omega) | rfl | decide) | exact At.new_eq2 _ _ (by first | omega | (simp only [hset, hnew]; omega) | rfl | decide) | refine At.set_ne ?_ (by first | omega | (simp only [hset, hnew]; omega) | rfl | decide) | refine At.new_ne ?_)))) (hv := rfl) (r := ?_)
    refine tX1_setSeats_11  (r := ?_)
    refine tX1_setSeats_13  (kt := fun c_ => by exfalso; exact absurd ((nI_ltI (by decide) (by omega)).mp c_) (by omega)) (kf := fun _ => ?_)
    refine tX1_setSeats_16  (r := ?_)
    refine tX1_setSeats_17 (ha := (by first | assumption | (repeat (first | assumption | exact At.set_eq2 (by first | omega | (simp only [hset, hnew]; omega) | rfl | decide) | exact At.new_eq2 _ _ (by first | omega | (simp only [hset, hnew]; omega) | rfl | decide) | refine At.set_ne ?_ (by first | omega | (simp only [hset, hnew]; omega) | rfl | decide) | refine At.new_ne ?_)))) (hv := rfl) (r := ?_)
    refine tX1_setSeats_20 (ha := (by first | assumption | (repeat (first | assumption | exact At.set_eq2 (by first | omega | (simp only [hset, hnew]; omega) | rfl | decide) | exact At.new_eq2 _ _ (by first | omega | (simp only [hset, hnew]; omega) | rfl | decide) | refine At.set_ne ?_ (by first | omega | (simp only [hset, hnew]; omega) | rfl | decide) | refine At.new_ne ?_)))) (hv := rfl) (r := ?_)
    refine tX1_setSeats_23  (r := ?_)
    refine tX1_setSeats_24 (ha := (by first | assumption | (repeat (first | assumption | exact At.set_eq2 (by first | omega | (simp only [hset, hnew]; omega) | rfl | decide) | exact At.new_eq2 _ _ (by first | omega | (simp only [hset, hnew]; omega) | rfl | decide) | refine At.set_ne ?_ (by first | omega | (simp only [hset, hnew]; omega) | rfl | decide) | refine At.new_ne ?_)))) (hv := rfl) (r := ?_)
    refine tX1_setSeats_27  (r := ?_)
    refine tX1_setSeats_28  (r := ?_)
    rw [nI_subN (by omega) (by omega)]
    refine tX1_setSeats_29 (ha := (by first | assumption | (repeat (first | assumption | exact At.set_eq2 (by first | omega | (simp only [hset, hnew]; omega) | rfl | decide) | exact At.new_eq2 _ _ (by first | omega | (simp only [hset, hnew]; omega) | rfl | decide) | refine At.set_ne ?_ (by first | omega | (simp only [hset, hnew]; omega) | rfl | decide) | refine At.new_ne ?_)))) (hx := rfl) (hj := (by omega)) (hn := (by decide)) (hf := (u5 _ (by omega))) (r := ?_)
    refine tX1_setSeats_30  (r := ?_)
    refine tX1_setSeats_31 (ha := (by first | assumption | (repeat (first | assumption | exact At.set_eq2 (by first | omega | (simp only [hset, hnew]; omega) | rfl | decide) | exact At.new_eq2 _ _ (by first | omega | (simp only [hset, hnew]; omega) | rfl | decide) | refine At.set_ne ?_ (by first | omega | (simp only [hset, hnew]; omega) | rfl | decide) | refine At.new_ne ?_)))) (hlen := rfl) (r := ?_)
    refine tX1_setSeats_34  (r := ?_)
    refine tX1_setSeats_35 (ha := (by first | assumption | (repeat (first | assumption | exact At.set_eq2 (by first | omega | (simp only [hset, hnew]; omega) | rfl | decide) | exact At.new_eq2 _ _ (by first | omega | (simp only [hset, hnew]; omega) | rfl | decide) | refine At.set_ne ?_ (by first | omega | (simp only [hset, hnew]; omega) | rfl | decide) | refine At.new_ne ?_)))) (hv := rfl) (r := ?_)
    refine tX1_setSeats_38 (ha := (by first | assumption | (repeat (first | assumption | exact At.set_eq2 (by first | omega | (simp only [hset, hnew]; omega) | rfl | decide) | exact At.new_eq2 _ _ (by first | omega | (simp only [hset, hnew]; omega) | rfl | decide) | refine At.set_ne ?_ (by first | omega | (simp only [hset, hnew]; omega) | rfl | decide) | refine At.new_ne ?_)))) (hv := rfl) (r := ?_)
    refine tX1_setSeats_41  (r := ?_)
    refine tX1_setSeats_42 (ha := (by first | assumption | (repeat (first | assumption | exact At.set_eq2 (by first | omega | (simp only [hset, hnew]; omega) | rfl | decide) | exact At.new_eq2 _ _ (by first | omega | (simp only [hset, hnew]; omega) | rfl | decide) | refine At.set_ne ?_ (by first | omega | (simp only [hset, hnew]; omega) | rfl | decide) | refine At.new_ne ?_)))) (hv := rfl) (r := ?_)
    refine tX1_setSeats_45  (r := ?_)
    refine tX1_setSeats_46  (r := ?_)
    rw [nI_subN (by omega) (by omega)]
    refine tX1_setSeats_47 (ha := (by first | assumption | (repeat (first | assumption | exact At.set_eq2 (by first | omega | (simp only [hset, hnew]; omega) | rfl | decide) | exact At.new_eq2 _ _ (by first | omega | (simp only [hset, hnew]; omega) | rfl | decide) | refine At.set_ne ?_ (by first | omega | (simp only [hset, hnew]; omega) | rfl | decide) | refine At.new_ne ?_)))) (hx := rfl) (hj := (by omega)) (hn := (by decide)) (hf := (u5 _ (by omega))) (r := ?_)
    refine tX1_setSeats_48  (r := ?_)
    refine tX1_setSeats_49 (ha := (by first | assumption | (repeat (first | assumption | exact At.set_eq2 (by first | omega | (simp only [hset, hnew]; omega) | rfl | decide) | exact At.new_eq2 _ _ (by first | omega | (simp only [hset, hnew]; omega) | rfl | decide) | refine At.set_ne ?_ (by first | omega | (simp only [hset, hnew]; omega) | rfl | decide) | refine At.new_ne ?_)))) (hlen := rfl) (r := ?_)
    refine tX1_setSeats_52  (hP := ?_)
    have sm := ((Sm.rf h (b + 7 + 5 + 5 * (bJa D.1 - 1)) (b + 7 + 5 + 5 * (bJa D.1 - 1) + 5)).set (i := b + 7 + 5 + 5 * (bJa D.1 - 1)) (c := .inr (3, [.ref (b + 7 + 5 + 5 * (bJa D.1 - 1) + 1), .ref (b + 7 + 5 + 5 * (bJa D.1 - 1) + 2), .ref (b + 7 + 5 + 5 * (bJa D.1 - 1) + 3), .ref (b + 7 + 5 + 5 * (bJa D.1 - 1) + 4), .int (nI v), .ref (OLD + (24 + bWy D.1 (bJa D.1 - 1))), .int tu, .int fi, .int ma, .int (nI 0)])) (by omega) (by omega)).set (i := b + 7 + 5 + 5 * (bJa D.1 - 1)) (c := .inr (3, [.ref (b + 7 + 5 + 5 * (bJa D.1 - 1) + 1), .ref (b + 7 + 5 + 5 * (bJa D.1 - 1) + 2), .ref (b + 7 + 5 + 5 * (bJa D.1 - 1) + 3), .ref (b + 7 + 5 + 5 * (bJa D.1 - 1) + 4), .int (nI v), .ref (OLD + w0), .int tu, .int fi, .int ma, .int (nI 0)])) (by omega) (by omega)
    refine ⟨rfl, ⟨sm.at a0 (by omega), ⟨k1, sm.at a1 (by omega), t1⟩, ⟨k2, sm.at a2 (by omega), t2⟩, ⟨k3, sm.at a3 (by omega), t3⟩, ⟨k4, sm.at a4 (by omega), t4⟩, ⟨k5, sm.at a5 (by omega), t5⟩, ⟨k6, sm.at a6 (by omega), t6⟩, ⟨jf, lj, fo, le, sm.at u0 (by omega), sm.at u1 (by omega), sm.at u2 (by omega), sm.at u3 (by omega), sm.at u4 (by omega), u5, u6, u7, fun i hi => ?_⟩, a8.sm sm (by omega), m1, m2, m3⟩, sm.sub (by omega) (by omega)⟩
    by_cases z : i = bJa D.1 - 1
    · subst z
      have es : upN (bSe D.1) (bJa D.1 - 1) v (bJa D.1 - 1) = v := if_pos rfl
      have ew : upN (bWy D.1) (bJa D.1 - 1) (w0 - 24) (bJa D.1 - 1) = w0 - 24 := if_pos rfl
      show JaN _ _ _ (upN (bSe D.1) (bJa D.1 - 1) v (bJa D.1 - 1)) (upN (bWy D.1) (bJa D.1 - 1) (w0 - 24) (bJa D.1 - 1)) ∧ upN (bWy D.1) (bJa D.1 - 1) (w0 - 24) (bJa D.1 - 1) < 3
      rw [es, ew]
      refine ⟨⟨bf, p, w, l, tu, fi, ma, ⟨?_, by (first | assumption | (repeat (first | assumption | exact At.set_eq2 (by (first | omega | (simp only [hset, hnew]; omega) | rfl | decide)) | exact At.new_eq2 _ _ (by (first | omega | (simp only [hset, hnew]; omega) | rfl | decide)) | refine At.set_ne ?_ (by (first | omega | (simp only [hset, hnew]; omega) | rfl | decide)) | refine At.new_ne ?_))), by (first | assumption | (repeat (first | assumption | exact At.set_eq2 (by (first | omega | (simp only [hset, hnew]; omega) | rfl | decide)) | exact At.new_eq2 _ _ (by (first | omega | (simp only [hset, hnew]; omega) | rfl | decide)) | refine At.set_ne ?_ (by (first | omega | (simp only [hset, hnew]; omega) | rfl | decide)) | refine At.new_ne ?_))), by (first | assumption | (repeat (first | assumption | exact At.set_eq2 (by (first | omega | (simp only [hset, hnew]; omega) | rfl | decide)) | exact At.new_eq2 _ _ (by (first | omega | (simp only [hset, hnew]; omega) | rfl | decide)) | refine At.set_ne ?_ (by (first | omega | (simp only [hset, hnew]; omega) | rfl | decide)) | refine At.new_ne ?_))), by (first | assumption | (repeat (first | assumption | exact At.set_eq2 (by (first | omega | (simp only [hset, hnew]; omega) | rfl | decide)) | exact At.new_eq2 _ _ (by (first | omega | (simp only [hset, hnew]; omega) | rfl | decide)) | refine At.set_ne ?_ (by (first | omega | (simp only [hset, hnew]; omega) | rfl | decide)) | refine At.new_ne ?_)))⟩, cj⟩, by omega⟩
      rw [show 24 + (w0 - 24) = w0 by omega]
      exact At.set_eq2 i0
    · have es : upN (bSe D.1) (bJa D.1 - 1) v i = bSe D.1 i := if_neg z
      have ew : upN (bWy D.1) (bJa D.1 - 1) (w0 - 24) i = bWy D.1 i := if_neg z
      show JaN _ _ _ (upN (bSe D.1) (bJa D.1 - 1) v i) (upN (bWy D.1) (bJa D.1 - 1) (w0 - 24) i) ∧ upN (bWy D.1) (bJa D.1 - 1) (w0 - 24) i < 3
      rw [es, ew]
      exact ⟨(u8 i hi).1.sm sm (by omega), (u8 i hi).2⟩

set_option maxHeartbeats 4000000 in
set_option maxRecDepth 100000 in
theorem s_setBeans (bx : BoX h b D) {l v : Nat} (hl : l < 500) : RQ G mX1_setBeans d 0 [some (.ref b), some (.int (nI l)), some (.int (nI v))] [] h (Rv fun h1 => BoX h1 b (beD l v D) ∧ Sm h h1 b (b + 58)) := by
  obtain ⟨a0, ⟨k1, a1, t1⟩, ⟨k2, a2, t2⟩, ⟨k3, a3, t3⟩, ⟨k4, a4, t4⟩, ⟨k5, a5, t5⟩, ⟨k6, a6, t6⟩, a7, a8, m1, m2, m3⟩ := id bx
  have y0 := a0.1
  have y1 := a1.1
  have y2 := a2.1
  have y3 := a3.1
  have y4 := a4.1
  have y5 := a5.1
  have y6 := a6.1
  obtain ⟨jf, lj, fo, le, u0, u1, u2, u3, u4, u5, u6, u7, u8⟩ := id a7
  refine tX1_setBeans_0  (r := ?_)
  refine tX1_setBeans_1 (ha := (by first | assumption | (repeat (first | assumption | exact At.set_eq2 (by first | omega | (simp only [hset, hnew]; omega) | rfl | decide) | exact At.new_eq2 _ _ (by first | omega | (simp only [hset, hnew]; omega) | rfl | decide) | refine At.set_ne ?_ (by first | omega | (simp only [hset, hnew]; omega) | rfl | decide) | refine At.new_ne ?_)))) (hv := rfl) (r := ?_)
  refine tX1_setBeans_4  (kt := fun c_4 => ?_) (kf := fun c_4 => ?_)
  · have e : beD l v D = D := if_neg (fun z => by simp (disch := omega) only [ci_le0] at c_4; omega)
    rw [e]
    refine tX1_setBeans_46  (hP := ?_)
    exact ⟨rfl, bx, Sm.rf _ _ _⟩
  · have p0 : 0 < bJa D.1 := by simp (disch := omega) only [ci_le0] at c_4; omega
    obtain ⟨bf, p, w, l_, tu, fi, ma, ⟨j0, j1, j2, j3, j4⟩, cj⟩ := (u8 (bJa D.1 - 1) (by omega)).1
    have i0 := j0.1
    have i1 := j1.1
    refine tX1_setBeans_7  (r := ?_)
    refine tX1_setBeans_8 (ha := (by first | assumption | (repeat (first | assumption | exact At.set_eq2 (by first | omega | (simp only [hset, hnew]; omega) | rfl | decide) | exact At.new_eq2 _ _ (by first | omega | (simp only [hset, hnew]; omega) | rfl | decide) | refine At.set_ne ?_ (by first | omega | (simp only [hset, hnew]; omega) | rfl | decide) | refine At.new_ne ?_)))) (hv := rfl) (r := ?_)
    refine tX1_setBeans_11  (r := ?_)
    refine tX1_setBeans_13  (kt := fun c_ => by exfalso; exact absurd ((nI_ltI (by decide) (by omega)).mp c_) (by omega)) (kf := fun _ => ?_)
    refine tX1_setBeans_16  (r := ?_)
    refine tX1_setBeans_17  (kt := fun c_ => by exfalso; exact absurd c_ (nI_pos (by omega))) (kf := fun _ => ?_)
    refine tX1_setBeans_20  (r := ?_)
    refine tX1_setBeans_21  (r := ?_)
    refine tX1_setBeans_23  (kt := fun c_23 => ?_) (kf := fun c_23 => ?_)
    · have e : beD l v D = D := if_neg (fun z => by have := (nI_leI (by decide) (by omega)).mp c_23; omega)
      rw [e]
      refine tX1_setBeans_46  (hP := ?_)
      exact ⟨rfl, bx, Sm.rf _ _ _⟩
    · have lt : l < 6 := Nat.lt_of_not_le (fun z => c_23 ((nI_leI (by decide) (by omega)).mpr z))
      have e : beD l v D = (D.1, dfL D, dfJ D, dfI D, upN (dfE D) (bJa D.1 - 1) (upN (dfE D (bJa D.1 - 1)) l v), dfO D) := if_pos ⟨p0, lt⟩
      rw [e]
      refine tX1_setBeans_26  (r := ?_)
      refine tX1_setBeans_27 (ha := (by first | assumption | (repeat (first | assumption | exact At.set_eq2 (by first | omega | (simp only [hset, hnew]; omega) | rfl | decide) | exact At.new_eq2 _ _ (by first | omega | (simp only [hset, hnew]; omega) | rfl | decide) | refine At.set_ne ?_ (by first | omega | (simp only [hset, hnew]; omega) | rfl | decide) | refine At.new_ne ?_)))) (hv := rfl) (r := ?_)
      refine tX1_setBeans_30 (ha := (by first | assumption | (repeat (first | assumption | exact At.set_eq2 (by first | omega | (simp only [hset, hnew]; omega) | rfl | decide) | exact At.new_eq2 _ _ (by first | omega | (simp only [hset, hnew]; omega) | rfl | decide) | refine At.set_ne ?_ (by first | omega | (simp only [hset, hnew]; omega) | rfl | decide) | refine At.new_ne ?_)))) (hv := rfl) (r := ?_)
      refine tX1_setBeans_33  (r := ?_)
      refine tX1_setBeans_34 (ha := (by first | assumption | (repeat (first | assumption | exact At.set_eq2 (by first | omega | (simp only [hset, hnew]; omega) | rfl | decide) | exact At.new_eq2 _ _ (by first | omega | (simp only [hset, hnew]; omega) | rfl | decide) | refine At.set_ne ?_ (by first | omega | (simp only [hset, hnew]; omega) | rfl | decide) | refine At.new_ne ?_)))) (hv := rfl) (r := ?_)
      refine tX1_setBeans_37  (r := ?_)
      refine tX1_setBeans_38  (r := ?_)
      rw [nI_subN (by omega) (by omega)]
      refine tX1_setBeans_39 (ha := (by first | assumption | (repeat (first | assumption | exact At.set_eq2 (by first | omega | (simp only [hset, hnew]; omega) | rfl | decide) | exact At.new_eq2 _ _ (by first | omega | (simp only [hset, hnew]; omega) | rfl | decide) | refine At.set_ne ?_ (by first | omega | (simp only [hset, hnew]; omega) | rfl | decide) | refine At.new_ne ?_)))) (hx := rfl) (hj := (by omega)) (hn := (by decide)) (hf := (u5 _ (by omega))) (r := ?_)
      refine tX1_setBeans_40 (ha := (by first | assumption | (repeat (first | assumption | exact At.set_eq2 (by first | omega | (simp only [hset, hnew]; omega) | rfl | decide) | exact At.new_eq2 _ _ (by first | omega | (simp only [hset, hnew]; omega) | rfl | decide) | refine At.set_ne ?_ (by first | omega | (simp only [hset, hnew]; omega) | rfl | decide) | refine At.new_ne ?_)))) (hv := rfl) (r := ?_)
      refine tX1_setBeans_43  (r := ?_)
      refine tX1_setBeans_44  (r := ?_)
      refine tX1_setBeans_45 (ha := (by first | assumption | (repeat (first | assumption | exact At.set_eq2 (by first | omega | (simp only [hset, hnew]; omega) | rfl | decide) | exact At.new_eq2 _ _ (by first | omega | (simp only [hset, hnew]; omega) | rfl | decide) | refine At.set_ne ?_ (by first | omega | (simp only [hset, hnew]; omega) | rfl | decide) | refine At.new_ne ?_)))) (hx := rfl) (hj := lt) (hn := (by decide)) (r := ?_)
      refine tX1_setBeans_46  (hP := ?_)
      have sm := (Sm.rf h (b + 7 + 5 + 5 * (bJa D.1 - 1)) (b + 7 + 5 + 5 * (bJa D.1 - 1) + 5)).set (i := b + 7 + 5 + 5 * (bJa D.1 - 1) + 1) (c := .inl (0, 6, .inl (fun k => if k = l then nI v else bf k))) (by omega) (by omega)
      refine ⟨rfl, ⟨sm.at a0 (by omega), ⟨k1, sm.at a1 (by omega), t1⟩, ⟨k2, sm.at a2 (by omega), t2⟩, ⟨k3, sm.at a3 (by omega), t3⟩, ⟨k4, sm.at a4 (by omega), t4⟩, ⟨k5, sm.at a5 (by omega), t5⟩, ⟨k6, sm.at a6 (by omega), t6⟩, ⟨jf, lj, fo, le, sm.at u0 (by omega), sm.at u1 (by omega), sm.at u2 (by omega), sm.at u3 (by omega), sm.at u4 (by omega), u5, u6, u7, fun i hi => ?_⟩, a8.sm sm (by omega), m1, m2, m3⟩, sm.sub (by omega) (by omega)⟩
      by_cases z : i = bJa D.1 - 1
      · subst z
        have es : upN (dfE D) (bJa D.1 - 1) (upN (dfE D (bJa D.1 - 1)) l v) (bJa D.1 - 1) = upN (dfE D (bJa D.1 - 1)) l v := if_pos rfl
        show JaN _ _ (upN (dfE D) (bJa D.1 - 1) (upN (dfE D (bJa D.1 - 1)) l v) (bJa D.1 - 1)) _ _ ∧ _
        rw [es]
        refine ⟨⟨_, p, w, l_, tu, fi, ma, ⟨by (first | assumption | (repeat (first | assumption | exact At.set_eq2 (by (first | omega | (simp only [hset, hnew]; omega) | rfl | decide)) | exact At.new_eq2 _ _ (by (first | omega | (simp only [hset, hnew]; omega) | rfl | decide)) | refine At.set_ne ?_ (by (first | omega | (simp only [hset, hnew]; omega) | rfl | decide)) | refine At.new_ne ?_))), At.set_eq2 i1, by (first | assumption | (repeat (first | assumption | exact At.set_eq2 (by (first | omega | (simp only [hset, hnew]; omega) | rfl | decide)) | exact At.new_eq2 _ _ (by (first | omega | (simp only [hset, hnew]; omega) | rfl | decide)) | refine At.set_ne ?_ (by (first | omega | (simp only [hset, hnew]; omega) | rfl | decide)) | refine At.new_ne ?_))), by (first | assumption | (repeat (first | assumption | exact At.set_eq2 (by (first | omega | (simp only [hset, hnew]; omega) | rfl | decide)) | exact At.new_eq2 _ _ (by (first | omega | (simp only [hset, hnew]; omega) | rfl | decide)) | refine At.set_ne ?_ (by (first | omega | (simp only [hset, hnew]; omega) | rfl | decide)) | refine At.new_ne ?_))), by (first | assumption | (repeat (first | assumption | exact At.set_eq2 (by (first | omega | (simp only [hset, hnew]; omega) | rfl | decide)) | exact At.new_eq2 _ _ (by (first | omega | (simp only [hset, hnew]; omega) | rfl | decide)) | refine At.set_ne ?_ (by (first | omega | (simp only [hset, hnew]; omega) | rfl | decide)) | refine At.new_ne ?_)))⟩, fun k hk => ?_⟩, (u8 _ (by omega)).2⟩
        show (if k = l then nI v else bf k) = nI (if k = l then v else dfE D (bJa D.1 - 1) k)
        split
        · rfl
        · exact cj k hk
      · have es : upN (dfE D) (bJa D.1 - 1) (upN (dfE D (bJa D.1 - 1)) l v) i = dfE D i := if_neg z
        show JaN _ _ (upN (dfE D) (bJa D.1 - 1) (upN (dfE D (bJa D.1 - 1)) l v) i) _ _ ∧ _
        rw [es]
        exact ⟨(u8 i hi).1.sm sm (by omega), (u8 i hi).2⟩

set_option maxHeartbeats 4000000 in
set_option maxRecDepth 100000 in
theorem s_addLid (bx : BoX h b D) {v0 j l : Nat} (hv : v0 < 1099511627776) (hj : j < 8) : RQ G mX1_addLid d 0 [some (.ref b), some (.long (nL v0)), none, some (.int (nI j)), some (.int (nI l))] [] h (Rv fun h1 => BoX h1 b (liD v0 j l D) ∧ Sm h h1 b (b + 58)) := by
  obtain ⟨a0, ⟨k1, a1, t1⟩, ⟨k2, a2, t2⟩, ⟨k3, a3, t3⟩, ⟨k4, a4, t4⟩, ⟨k5, a5, t5⟩, ⟨k6, a6, t6⟩, a7, a8, m1, m2, m3⟩ := id bx
  have y0 := a0.1
  have y1 := a1.1
  have y2 := a2.1
  have y3 := a3.1
  have y4 := a4.1
  have y5 := a5.1
  have y6 := a6.1
  obtain ⟨jf, lj, fo, le, u0, u1, u2, u3, u4, u5, u6, u7, u8⟩ := id a7
  obtain ⟨s0, -, -, -, -, -, l1, l2, l3⟩ := id a8
  have y9 := u2.1
  refine tX1_addLid_0  (r := ?_)
  refine tX1_addLid_1 (ha := (by first | assumption | (repeat (first | assumption | exact At.set_eq2 (by first | omega | (simp only [hset, hnew]; omega) | rfl | decide) | exact At.new_eq2 _ _ (by first | omega | (simp only [hset, hnew]; omega) | rfl | decide) | refine At.set_ne ?_ (by first | omega | (simp only [hset, hnew]; omega) | rfl | decide) | refine At.new_ne ?_)))) (hv := rfl) (r := ?_)
  refine tX1_addLid_4  (r := ?_)
  refine tX1_addLid_6  (kt := fun c_6 => ?_) (kf := fun c_6 => ?_)
  · have e : liD v0 j l D = D := if_neg (fun z => by have := (nI_leI (by decide) (by omega)).mp c_6; omega)
    rw [e]
    refine tX1_addLid_85  (hP := ?_)
    exact ⟨rfl, bx, Sm.rf _ _ _⟩
  · have lt : bLi D.1 < 6 := Nat.lt_of_not_le (fun z => c_6 ((nI_leI (by decide) (by omega)).mpr z))
    have e : liD v0 j l D = ((bLa D.1, bJa D.1, bLi D.1 + 1, bSe D.1, bWy D.1, upN (bLl D.1) (bLi D.1) l, upN (bRu D.1) (bLi D.1) (bRs D.1, bRs D.1), bRs D.1, bSc D.1, bNd D.1), dfL D, dfJ D, upN (dfI D) (bLi D.1) v0, dfE D, upN (dfO D) (bLi D.1) j) := if_pos lt
    rw [e]
    refine tX1_addLid_9  (r := ?_)
    refine tX1_addLid_10 (ha := (by first | assumption | (repeat (first | assumption | exact At.set_eq2 (by first | omega | (simp only [hset, hnew]; omega) | rfl | decide) | exact At.new_eq2 _ _ (by first | omega | (simp only [hset, hnew]; omega) | rfl | decide) | refine At.set_ne ?_ (by first | omega | (simp only [hset, hnew]; omega) | rfl | decide) | refine At.new_ne ?_)))) (hv := rfl) (r := ?_)
    refine tX1_addLid_13  (r := ?_)
    refine tX1_addLid_14 (ha := (by first | assumption | (repeat (first | assumption | exact At.set_eq2 (by first | omega | (simp only [hset, hnew]; omega) | rfl | decide) | exact At.new_eq2 _ _ (by first | omega | (simp only [hset, hnew]; omega) | rfl | decide) | refine At.set_ne ?_ (by first | omega | (simp only [hset, hnew]; omega) | rfl | decide) | refine At.new_ne ?_)))) (hv := rfl) (r := ?_)
    refine tX1_addLid_17  (r := ?_)
    refine tX1_addLid_18 (ha := (by first | assumption | (repeat (first | assumption | exact At.set_eq2 (by first | omega | (simp only [hset, hnew]; omega) | rfl | decide) | exact At.new_eq2 _ _ (by first | omega | (simp only [hset, hnew]; omega) | rfl | decide) | refine At.set_ne ?_ (by first | omega | (simp only [hset, hnew]; omega) | rfl | decide) | refine At.new_ne ?_)))) (hx := rfl) (hj := lt) (hn := (by decide)) (r := ?_)
    refine tX1_addLid_19  (r := ?_)
    refine tX1_addLid_20 (ha := (by first | assumption | (repeat (first | assumption | exact At.set_eq2 (by first | omega | (simp only [hset, hnew]; omega) | rfl | decide) | exact At.new_eq2 _ _ (by first | omega | (simp only [hset, hnew]; omega) | rfl | decide) | refine At.set_ne ?_ (by first | omega | (simp only [hset, hnew]; omega) | rfl | decide) | refine At.new_ne ?_)))) (hv := rfl) (r := ?_)
    refine tX1_addLid_23 (ha := (by first | assumption | (repeat (first | assumption | exact At.set_eq2 (by first | omega | (simp only [hset, hnew]; omega) | rfl | decide) | exact At.new_eq2 _ _ (by first | omega | (simp only [hset, hnew]; omega) | rfl | decide) | refine At.set_ne ?_ (by first | omega | (simp only [hset, hnew]; omega) | rfl | decide) | refine At.new_ne ?_)))) (hv := rfl) (r := ?_)
    refine tX1_addLid_26  (r := ?_)
    refine tX1_addLid_27 (ha := (by first | assumption | (repeat (first | assumption | exact At.set_eq2 (by first | omega | (simp only [hset, hnew]; omega) | rfl | decide) | exact At.new_eq2 _ _ (by first | omega | (simp only [hset, hnew]; omega) | rfl | decide) | refine At.set_ne ?_ (by first | omega | (simp only [hset, hnew]; omega) | rfl | decide) | refine At.new_ne ?_)))) (hv := rfl) (r := ?_)
    refine tX1_addLid_30  (r := ?_)
    refine tX1_addLid_31 (ha := (by first | assumption | (repeat (first | assumption | exact At.set_eq2 (by first | omega | (simp only [hset, hnew]; omega) | rfl | decide) | exact At.new_eq2 _ _ (by first | omega | (simp only [hset, hnew]; omega) | rfl | decide) | refine At.set_ne ?_ (by first | omega | (simp only [hset, hnew]; omega) | rfl | decide) | refine At.new_ne ?_)))) (hx := rfl) (hj := lt) (hn := (by decide)) (r := ?_)
    refine tX1_addLid_32  (r := ?_)
    refine tX1_addLid_33 (ha := (by first | assumption | (repeat (first | assumption | exact At.set_eq2 (by first | omega | (simp only [hset, hnew]; omega) | rfl | decide) | exact At.new_eq2 _ _ (by first | omega | (simp only [hset, hnew]; omega) | rfl | decide) | refine At.set_ne ?_ (by first | omega | (simp only [hset, hnew]; omega) | rfl | decide) | refine At.new_ne ?_)))) (hv := rfl) (r := ?_)
    refine tX1_addLid_36  (r := ?_)
    refine tX1_addLid_37 (ha := (by first | assumption | (repeat (first | assumption | exact At.set_eq2 (by first | omega | (simp only [hset, hnew]; omega) | rfl | decide) | exact At.new_eq2 _ _ (by first | omega | (simp only [hset, hnew]; omega) | rfl | decide) | refine At.set_ne ?_ (by first | omega | (simp only [hset, hnew]; omega) | rfl | decide) | refine At.new_ne ?_)))) (hv := rfl) (r := ?_)
    refine tX1_addLid_40  (r := ?_)
    refine tX1_addLid_42 (ha := (by first | assumption | (repeat (first | assumption | exact At.set_eq2 (by first | omega | (simp only [hset, hnew]; omega) | rfl | decide) | exact At.new_eq2 _ _ (by first | omega | (simp only [hset, hnew]; omega) | rfl | decide) | refine At.set_ne ?_ (by first | omega | (simp only [hset, hnew]; omega) | rfl | decide) | refine At.new_ne ?_)))) (hx := rfl) (hj := lt) (hn := (by decide)) (r := ?_)
    refine tX1_addLid_43  (r := ?_)
    refine tX1_addLid_44 (ha := (by first | assumption | (repeat (first | assumption | exact At.set_eq2 (by first | omega | (simp only [hset, hnew]; omega) | rfl | decide) | exact At.new_eq2 _ _ (by first | omega | (simp only [hset, hnew]; omega) | rfl | decide) | refine At.set_ne ?_ (by first | omega | (simp only [hset, hnew]; omega) | rfl | decide) | refine At.new_ne ?_)))) (hv := rfl) (r := ?_)
    refine tX1_addLid_47  (r := ?_)
    refine tX1_addLid_48 (ha := (by first | assumption | (repeat (first | assumption | exact At.set_eq2 (by first | omega | (simp only [hset, hnew]; omega) | rfl | decide) | exact At.new_eq2 _ _ (by first | omega | (simp only [hset, hnew]; omega) | rfl | decide) | refine At.set_ne ?_ (by first | omega | (simp only [hset, hnew]; omega) | rfl | decide) | refine At.new_ne ?_)))) (hv := rfl) (r := ?_)
    refine tX1_addLid_51  (r := ?_)
    refine tX1_addLid_52 (ha := (by first | assumption | (repeat (first | assumption | exact At.set_eq2 (by first | omega | (simp only [hset, hnew]; omega) | rfl | decide) | exact At.new_eq2 _ _ (by first | omega | (simp only [hset, hnew]; omega) | rfl | decide) | refine At.set_ne ?_ (by first | omega | (simp only [hset, hnew]; omega) | rfl | decide) | refine At.new_ne ?_)))) (hv := rfl) (r := ?_)
    refine tX1_addLid_55 (ha := (by first | assumption | (repeat (first | assumption | exact At.set_eq2 (by first | omega | (simp only [hset, hnew]; omega) | rfl | decide) | exact At.new_eq2 _ _ (by first | omega | (simp only [hset, hnew]; omega) | rfl | decide) | refine At.set_ne ?_ (by first | omega | (simp only [hset, hnew]; omega) | rfl | decide) | refine At.new_ne ?_)))) (hv := rfl) (r := ?_)
    refine tX1_addLid_58 (ha := (by first | assumption | (repeat (first | assumption | exact At.set_eq2 (by first | omega | (simp only [hset, hnew]; omega) | rfl | decide) | exact At.new_eq2 _ _ (by first | omega | (simp only [hset, hnew]; omega) | rfl | decide) | refine At.set_ne ?_ (by first | omega | (simp only [hset, hnew]; omega) | rfl | decide) | refine At.new_ne ?_)))) (hx := rfl) (hj := lt) (hn := (by decide)) (r := ?_)
    refine tX1_addLid_59  (r := ?_)
    refine tX1_addLid_60 (ha := (by first | assumption | (repeat (first | assumption | exact At.set_eq2 (by first | omega | (simp only [hset, hnew]; omega) | rfl | decide) | exact At.new_eq2 _ _ (by first | omega | (simp only [hset, hnew]; omega) | rfl | decide) | refine At.set_ne ?_ (by first | omega | (simp only [hset, hnew]; omega) | rfl | decide) | refine At.new_ne ?_)))) (hv := rfl) (r := ?_)
    refine tX1_addLid_63  (r := ?_)
    refine tX1_addLid_64 (ha := (by first | assumption | (repeat (first | assumption | exact At.set_eq2 (by first | omega | (simp only [hset, hnew]; omega) | rfl | decide) | exact At.new_eq2 _ _ (by first | omega | (simp only [hset, hnew]; omega) | rfl | decide) | refine At.set_ne ?_ (by first | omega | (simp only [hset, hnew]; omega) | rfl | decide) | refine At.new_ne ?_)))) (hv := rfl) (r := ?_)
    refine tX1_addLid_67  (r := ?_)
    refine tX1_addLid_68 (ha := (by first | assumption | (repeat (first | assumption | exact At.set_eq2 (by first | omega | (simp only [hset, hnew]; omega) | rfl | decide) | exact At.new_eq2 _ _ (by first | omega | (simp only [hset, hnew]; omega) | rfl | decide) | refine At.set_ne ?_ (by first | omega | (simp only [hset, hnew]; omega) | rfl | decide) | refine At.new_ne ?_)))) (hv := rfl) (r := ?_)
    refine tX1_addLid_71 (ha := (by first | assumption | (repeat (first | assumption | exact At.set_eq2 (by first | omega | (simp only [hset, hnew]; omega) | rfl | decide) | exact At.new_eq2 _ _ (by first | omega | (simp only [hset, hnew]; omega) | rfl | decide) | refine At.set_ne ?_ (by first | omega | (simp only [hset, hnew]; omega) | rfl | decide) | refine At.new_ne ?_)))) (hv := rfl) (r := ?_)
    refine tX1_addLid_74 (ha := (by first | assumption | (repeat (first | assumption | exact At.set_eq2 (by first | omega | (simp only [hset, hnew]; omega) | rfl | decide) | exact At.new_eq2 _ _ (by first | omega | (simp only [hset, hnew]; omega) | rfl | decide) | refine At.set_ne ?_ (by first | omega | (simp only [hset, hnew]; omega) | rfl | decide) | refine At.new_ne ?_)))) (hx := rfl) (hj := lt) (hn := (by decide)) (r := ?_)
    refine tX1_addLid_75  (r := ?_)
    refine tX1_addLid_76  (r := ?_)
    refine tX1_addLid_77 (ha := (by first | assumption | (repeat (first | assumption | exact At.set_eq2 (by first | omega | (simp only [hset, hnew]; omega) | rfl | decide) | exact At.new_eq2 _ _ (by first | omega | (simp only [hset, hnew]; omega) | rfl | decide) | refine At.set_ne ?_ (by first | omega | (simp only [hset, hnew]; omega) | rfl | decide) | refine At.new_ne ?_)))) (hv := rfl) (r := ?_)
    refine tX1_addLid_80  (r := ?_)
    refine tX1_addLid_81  (r := ?_)
    rw [nI_add]
    refine tX1_addLid_82 (ha := (by first | assumption | (repeat (first | assumption | exact At.set_eq2 (by first | omega | (simp only [hset, hnew]; omega) | rfl | decide) | exact At.new_eq2 _ _ (by first | omega | (simp only [hset, hnew]; omega) | rfl | decide) | refine At.set_ne ?_ (by first | omega | (simp only [hset, hnew]; omega) | rfl | decide) | refine At.new_ne ?_)))) (hlen := rfl) (r := ?_)
    refine tX1_addLid_85  (hP := ?_)
    have sm := ((((((Sm.rf h b (b + 10)).set (i := b + 3) (c := .inl (2, 6, .inr (.inl (fun k => if k = bLi D.1 then nL v0 else k3 k)))) (by omega) (by omega)).set (i := b + 7 + 2) (c := .inl (0, 6, .inl (fun k => if k = bLi D.1 then nI j else lj k))) (by omega) (by omega)).set (i := b + 4) (c := .inl (0, 6, .inl (fun k => if k = bLi D.1 then nI l else k4 k))) (by omega) (by omega)).set (i := b + 5) (c := .inl (0, 6, .inl (fun k => if k = bLi D.1 then nI (bRs D.1) else k5 k))) (by omega) (by omega)).set (i := b + 6) (c := .inl (0, 6, .inl (fun k => if k = bLi D.1 then nI (bRs D.1) else k6 k))) (by omega) (by omega)).set (i := b) (c := BooO b (nI (bLa D.1)) (nI (bJa D.1)) (nI (bLi D.1 + 1))) (by omega) (by omega)
    refine ⟨rfl, ⟨At.set_eq2 y0, ⟨k1, by (first | assumption | (repeat (first | assumption | exact At.set_eq2 (by (first | omega | (simp only [hset, hnew]; omega) | rfl | decide)) | exact At.new_eq2 _ _ (by (first | omega | (simp only [hset, hnew]; omega) | rfl | decide)) | refine At.set_ne ?_ (by (first | omega | (simp only [hset, hnew]; omega) | rfl | decide)) | refine At.new_ne ?_))), t1⟩, ⟨k2, by (first | assumption | (repeat (first | assumption | exact At.set_eq2 (by (first | omega | (simp only [hset, hnew]; omega) | rfl | decide)) | exact At.new_eq2 _ _ (by (first | omega | (simp only [hset, hnew]; omega) | rfl | decide)) | refine At.set_ne ?_ (by (first | omega | (simp only [hset, hnew]; omega) | rfl | decide)) | refine At.new_ne ?_))), t2⟩, ⟨_, by (first | assumption | (repeat (first | assumption | exact At.set_eq2 (by (first | omega | (simp only [hset, hnew]; omega) | rfl | decide)) | exact At.new_eq2 _ _ (by (first | omega | (simp only [hset, hnew]; omega) | rfl | decide)) | refine At.set_ne ?_ (by (first | omega | (simp only [hset, hnew]; omega) | rfl | decide)) | refine At.new_ne ?_))), fun k hk => ?_⟩, ⟨_, by (first | assumption | (repeat (first | assumption | exact At.set_eq2 (by (first | omega | (simp only [hset, hnew]; omega) | rfl | decide)) | exact At.new_eq2 _ _ (by (first | omega | (simp only [hset, hnew]; omega) | rfl | decide)) | refine At.set_ne ?_ (by (first | omega | (simp only [hset, hnew]; omega) | rfl | decide)) | refine At.new_ne ?_))), fun k hk => ?_⟩, ⟨_, by (first | assumption | (repeat (first | assumption | exact At.set_eq2 (by (first | omega | (simp only [hset, hnew]; omega) | rfl | decide)) | exact At.new_eq2 _ _ (by (first | omega | (simp only [hset, hnew]; omega) | rfl | decide)) | refine At.set_ne ?_ (by (first | omega | (simp only [hset, hnew]; omega) | rfl | decide)) | refine At.new_ne ?_))), fun k hk => ?_⟩, ⟨_, by (first | assumption | (repeat (first | assumption | exact At.set_eq2 (by (first | omega | (simp only [hset, hnew]; omega) | rfl | decide)) | exact At.new_eq2 _ _ (by (first | omega | (simp only [hset, hnew]; omega) | rfl | decide)) | refine At.set_ne ?_ (by (first | omega | (simp only [hset, hnew]; omega) | rfl | decide)) | refine At.new_ne ?_))), fun k hk => ?_⟩, ⟨jf, _, fo, le, by (first | assumption | (repeat (first | assumption | exact At.set_eq2 (by (first | omega | (simp only [hset, hnew]; omega) | rfl | decide)) | exact At.new_eq2 _ _ (by (first | omega | (simp only [hset, hnew]; omega) | rfl | decide)) | refine At.set_ne ?_ (by (first | omega | (simp only [hset, hnew]; omega) | rfl | decide)) | refine At.new_ne ?_))), by (first | assumption | (repeat (first | assumption | exact At.set_eq2 (by (first | omega | (simp only [hset, hnew]; omega) | rfl | decide)) | exact At.new_eq2 _ _ (by (first | omega | (simp only [hset, hnew]; omega) | rfl | decide)) | refine At.set_ne ?_ (by (first | omega | (simp only [hset, hnew]; omega) | rfl | decide)) | refine At.new_ne ?_))), by (first | assumption | (repeat (first | assumption | exact At.set_eq2 (by (first | omega | (simp only [hset, hnew]; omega) | rfl | decide)) | exact At.new_eq2 _ _ (by (first | omega | (simp only [hset, hnew]; omega) | rfl | decide)) | refine At.set_ne ?_ (by (first | omega | (simp only [hset, hnew]; omega) | rfl | decide)) | refine At.new_ne ?_))), by (first | assumption | (repeat (first | assumption | exact At.set_eq2 (by (first | omega | (simp only [hset, hnew]; omega) | rfl | decide)) | exact At.new_eq2 _ _ (by (first | omega | (simp only [hset, hnew]; omega) | rfl | decide)) | refine At.set_ne ?_ (by (first | omega | (simp only [hset, hnew]; omega) | rfl | decide)) | refine At.new_ne ?_))), by (first | assumption | (repeat (first | assumption | exact At.set_eq2 (by (first | omega | (simp only [hset, hnew]; omega) | rfl | decide)) | exact At.new_eq2 _ _ (by (first | omega | (simp only [hset, hnew]; omega) | rfl | decide)) | refine At.set_ne ?_ (by (first | omega | (simp only [hset, hnew]; omega) | rfl | decide)) | refine At.new_ne ?_))), u5, fun k hk => ?_, u7, fun i hi => ⟨(u8 i hi).1.sm sm (by omega), (u8 i hi).2⟩⟩, a8.sm sm (by omega), m1, m2, lt⟩, sm.sub (by omega) (by omega)⟩
    · have hk : k < bLi D.1 + 1 := hk
      show (if k = bLi D.1 then nL v0 else k3 k) = nL (if k = bLi D.1 then v0 else dfI D k) ∧ (if k = bLi D.1 then v0 else dfI D k) < _
      by_cases z : k = bLi D.1
      · rw [if_pos z, if_pos z]
        exact ⟨rfl, hv⟩
      · rw [if_neg z, if_neg z]
        exact t3 k (by omega)
    · have hk : k < bLi D.1 + 1 := hk
      show (if k = bLi D.1 then nI l else k4 k) = nI (if k = bLi D.1 then l else bLl D.1 k)
      split
      · rfl
      · exact t4 k (by omega)
    · have hk : k < bLi D.1 + 1 := hk
      show (if k = bLi D.1 then nI (bRs D.1) else k5 k) = nI (if k = bLi D.1 then (bRs D.1, bRs D.1) else bRu D.1 k).1
      split
      · rfl
      · exact t5 k (by omega)
    · have hk : k < bLi D.1 + 1 := hk
      show (if k = bLi D.1 then nI (bRs D.1) else k6 k) = nI (if k = bLi D.1 then (bRs D.1, bRs D.1) else bRu D.1 k).2
      split
      · rfl
      · exact t6 k (by omega)
    · show (if k = bLi D.1 then nI j else lj k) = nI (if k = bLi D.1 then j else dfO D k) ∧ (if k = bLi D.1 then j else dfO D k) < 8
      by_cases z : k = bLi D.1
      · rw [if_pos z, if_pos z]
        exact ⟨rfl, hj⟩
      · rw [if_neg z, if_neg z]
        exact u6 k hk

/-- a jar whose way is known -/
def JaW (h : AH) (j wy : Nat) : Prop := ∃ b p w l se tu fi ma co, JarC h j b p w l se (24 + wy) tu fi ma co
theorem JaW.sm {h h1 : AH} {j wy lo hi : Nat} (q : JaW h j wy) (sm : Sm h h1 lo hi) (e : j + 5 ≤ lo ∨ hi ≤ j) : JaW h1 j wy := by
  obtain ⟨b, p, w, l, se, tu, fi, ma, co, a0, a1, a2, a3, a4⟩ := q
  exact ⟨b, p, w, l, se, tu, fi, ma, co, sm.at a0 (by omega), sm.at a1 (by omega), sm.at a2 (by omega), sm.at a3 (by omega), sm.at a4 (by omega)⟩
set_option maxHeartbeats 4000000 in
set_option maxRecDepth 100000 in
theorem s_jempty_l {j wy : Nat} {p wn l : Nat → Int32} {se0 : Int32} {tu fi ma co : Int32} : ∀ (n i : Nat) (h : AH) (g : Nat → Int32), 6 ≤ i + n → i ≤ 6 → JarC h j g p wn l se0 (24 + wy) tu fi ma co → (∀ k, k < i → g k = nI 0) → Sm h0 h j (j + 5) → RQ G mX4_empty d 2 [some (.ref j), some (.int (nI i))] [] h (Rv fun h1 => JaN h1 j (fun _ => 0) 0 wy ∧ Sm h0 h1 j (j + 5)) := by
  have ex : ∀ (i : Nat) (h : AH) (g : Nat → Int32), i = 6 → JarC h j g p wn l se0 (24 + wy) tu fi ma co → (∀ k, k < i → g k = nI 0) → Sm h0 h j (j + 5) → RQ G mX4_empty d 2 [some (.ref j), some (.int (nI i))] [] h (Rv fun h1 => JaN h1 j (fun _ => 0) 0 wy ∧ Sm h0 h1 j (j + 5)) := by
    intro i h g hi jc hg sm
    subst hi
    obtain ⟨a0, a1, a2, a3, a4⟩ := id jc
    have l0_ := a0.1
    have l1_ := a1.1
    have l2_ := a2.1
    have l3_ := a3.1
    have l4_ := a4.1
    refine tX4_empty_2  (r := ?_)
    refine tX4_empty_3  (r := ?_)
    refine tX4_empty_5  (kf := fun c_ => by exfalso; exact c_ (by decide)) (kt := fun _ => ?_)
    refine tX4_empty_21  (r := ?_)
    refine tX4_empty_22  (r := ?_)
    refine tX4_empty_23 (ha := (by first | assumption | (repeat (first | assumption | exact At.set_eq2 (by first | omega | (simp only [hset, hnew]; omega) | rfl | decide) | exact At.new_eq2 _ _ (by first | omega | (simp only [hset, hnew]; omega) | rfl | decide) | refine At.set_ne ?_ (by first | omega | (simp only [hset, hnew]; omega) | rfl | decide) | refine At.new_ne ?_)))) (hlen := rfl) (r := ?_)
    refine tX4_empty_26  (r := ?_)
    refine tX4_empty_27  (r := ?_)
    refine tX4_empty_28 (ha := (by first | assumption | (repeat (first | assumption | exact At.set_eq2 (by first | omega | (simp only [hset, hnew]; omega) | rfl | decide) | exact At.new_eq2 _ _ (by first | omega | (simp only [hset, hnew]; omega) | rfl | decide) | refine At.set_ne ?_ (by first | omega | (simp only [hset, hnew]; omega) | rfl | decide) | refine At.new_ne ?_)))) (hlen := rfl) (hb := (by first | exact Or.inl rfl | exact Or.inr rfl | assumption)) (r := ?_)
    refine tX4_empty_31  (hP := ?_)
    refine ⟨rfl, ⟨g, p, wn, l, tu, fi, ma, ⟨by (first | assumption | (repeat (first | assumption | exact At.set_eq2 (by (first | omega | (simp only [hset, hnew]; omega) | rfl | decide)) | exact At.new_eq2 _ _ (by (first | omega | (simp only [hset, hnew]; omega) | rfl | decide)) | refine At.set_ne ?_ (by (first | omega | (simp only [hset, hnew]; omega) | rfl | decide)) | refine At.new_ne ?_))), by (first | assumption | (repeat (first | assumption | exact At.set_eq2 (by (first | omega | (simp only [hset, hnew]; omega) | rfl | decide)) | exact At.new_eq2 _ _ (by (first | omega | (simp only [hset, hnew]; omega) | rfl | decide)) | refine At.set_ne ?_ (by (first | omega | (simp only [hset, hnew]; omega) | rfl | decide)) | refine At.new_ne ?_))), by (first | assumption | (repeat (first | assumption | exact At.set_eq2 (by (first | omega | (simp only [hset, hnew]; omega) | rfl | decide)) | exact At.new_eq2 _ _ (by (first | omega | (simp only [hset, hnew]; omega) | rfl | decide)) | refine At.set_ne ?_ (by (first | omega | (simp only [hset, hnew]; omega) | rfl | decide)) | refine At.new_ne ?_))), by (first | assumption | (repeat (first | assumption | exact At.set_eq2 (by (first | omega | (simp only [hset, hnew]; omega) | rfl | decide)) | exact At.new_eq2 _ _ (by (first | omega | (simp only [hset, hnew]; omega) | rfl | decide)) | refine At.set_ne ?_ (by (first | omega | (simp only [hset, hnew]; omega) | rfl | decide)) | refine At.new_ne ?_))), by (first | assumption | (repeat (first | assumption | exact At.set_eq2 (by (first | omega | (simp only [hset, hnew]; omega) | rfl | decide)) | exact At.new_eq2 _ _ (by (first | omega | (simp only [hset, hnew]; omega) | rfl | decide)) | refine At.set_ne ?_ (by (first | omega | (simp only [hset, hnew]; omega) | rfl | decide)) | refine At.new_ne ?_)))⟩, hg⟩, (sm.set (by omega) (by omega)).set (by omega) (by omega)⟩
  intro n
  induction n with
  | zero => exact fun i h g h1_ h2_ => ex i h g (by omega)
  | succ n ih =>
    intro i h g h1_ h2_ jc hg sm
    by_cases hi : i = 6
    · exact ex i h g hi jc hg sm
    have hi2 : i < 6 := by omega
    obtain ⟨a0, a1, a2, a3, a4⟩ := id jc
    have l0_ := a0.1
    have l1_ := a1.1
    have l2_ := a2.1
    have l3_ := a3.1
    have l4_ := a4.1
    refine tX4_empty_2  (r := ?_)
    refine tX4_empty_3  (r := ?_)
    refine tX4_empty_5  (kt := fun c_ => by exfalso; exact absurd ((nI_leI (by decide) (by omega)).mp c_) (by omega)) (kf := fun _ => ?_)
    refine tX4_empty_8  (r := ?_)
    refine tX4_empty_9 (ha := (by first | assumption | (repeat (first | assumption | exact At.set_eq2 (by first | omega | (simp only [hset, hnew]; omega) | rfl | decide) | exact At.new_eq2 _ _ (by first | omega | (simp only [hset, hnew]; omega) | rfl | decide) | refine At.set_ne ?_ (by first | omega | (simp only [hset, hnew]; omega) | rfl | decide) | refine At.new_ne ?_)))) (hv := rfl) (r := ?_)
    refine tX4_empty_12  (r := ?_)
    refine tX4_empty_13  (r := ?_)
    refine tX4_empty_14 (ha := (by first | assumption | (repeat (first | assumption | exact At.set_eq2 (by first | omega | (simp only [hset, hnew]; omega) | rfl | decide) | exact At.new_eq2 _ _ (by first | omega | (simp only [hset, hnew]; omega) | rfl | decide) | refine At.set_ne ?_ (by first | omega | (simp only [hset, hnew]; omega) | rfl | decide) | refine At.new_ne ?_)))) (hx := rfl) (hj := hi2) (hn := (by decide)) (r := ?_)
    refine tX4_empty_15  (r := ?_)
    rw [nI_add]
    refine tX4_empty_18 (r := ?_)
    refine ih (i + 1) _ _ (by omega) (by omega) ⟨by (first | assumption | (repeat (first | assumption | exact At.set_eq2 (by (first | omega | (simp only [hset, hnew]; omega) | rfl | decide)) | exact At.new_eq2 _ _ (by (first | omega | (simp only [hset, hnew]; omega) | rfl | decide)) | refine At.set_ne ?_ (by (first | omega | (simp only [hset, hnew]; omega) | rfl | decide)) | refine At.new_ne ?_))), At.set_eq2 l1_, by (first | assumption | (repeat (first | assumption | exact At.set_eq2 (by (first | omega | (simp only [hset, hnew]; omega) | rfl | decide)) | exact At.new_eq2 _ _ (by (first | omega | (simp only [hset, hnew]; omega) | rfl | decide)) | refine At.set_ne ?_ (by (first | omega | (simp only [hset, hnew]; omega) | rfl | decide)) | refine At.new_ne ?_))), by (first | assumption | (repeat (first | assumption | exact At.set_eq2 (by (first | omega | (simp only [hset, hnew]; omega) | rfl | decide)) | exact At.new_eq2 _ _ (by (first | omega | (simp only [hset, hnew]; omega) | rfl | decide)) | refine At.set_ne ?_ (by (first | omega | (simp only [hset, hnew]; omega) | rfl | decide)) | refine At.new_ne ?_))), by (first | assumption | (repeat (first | assumption | exact At.set_eq2 (by (first | omega | (simp only [hset, hnew]; omega) | rfl | decide)) | exact At.new_eq2 _ _ (by (first | omega | (simp only [hset, hnew]; omega) | rfl | decide)) | refine At.set_ne ?_ (by (first | omega | (simp only [hset, hnew]; omega) | rfl | decide)) | refine At.new_ne ?_)))⟩ (fun k hk => ?_) (sm.set (by omega) (by omega))
    show (if k = i then nI 0 else g k) = nI 0
    by_cases e : k = i
    · rw [if_pos e]
    · rw [if_neg e]
      exact hg k (by omega)

theorem s_jempty {j wy : Nat} (q : JaW h0 j wy) : RQ G mX4_empty d 0 [some (.ref j), none] [] h0 (Rv fun h1 => JaN h1 j (fun _ => 0) 0 wy ∧ Sm h0 h1 j (j + 5)) := by
  obtain ⟨g, p, wn, l, se0, tu, fi, ma, co, jc⟩ := q
  refine tX4_empty_0 (r := ?_)
  refine tX4_empty_1 (r := ?_)
  exact s_jempty_l 6 0 h0 g (by omega) (by omega) jc (fun k hk => absurd hk (Nat.not_lt_zero k)) (Sm.rf _ _ _)

set_option maxHeartbeats 4000000 in
set_option maxRecDepth 100000 in
theorem s_cempty_l (hd : 1 ≤ d) {c : Nat} {wf : Nat → Nat} {jf2 : Nat → Option Nat} {dy : Int32} (v5 : ∀ i, i < 8 → jf2 i = some (c + 5 + 5 * i)) (w0 : At h0 c (CupO c dy)) (w1 : At h0 (c + 1) (.inl (3, 8, .inr (.inr (.inr (.inr jf2)))))) : ∀ (n i : Nat) (h : AH), 8 ≤ i + n → i ≤ 8 → (∀ j, j < 8 → (j < i → JaN h (c + 5 + 5 * j) (fun _ => 0) 0 (wf j)) ∧ JaW h (c + 5 + 5 * j) (wf j)) → Sm h0 h (c + 5) (c + 45) → RQ G mX3_empty d 2 [some (.ref c), some (.int (nI i))] [] h (Rv fun h1 => (∀ j, j < 8 → JaN h1 (c + 5 + 5 * j) (fun _ => 0) 0 (wf j)) ∧ Sm h0 h1 (c + 5) (c + 45)) := by
  have ex : ∀ (i : Nat) (h : AH), i = 8 → (∀ j, j < 8 → (j < i → JaN h (c + 5 + 5 * j) (fun _ => 0) 0 (wf j)) ∧ JaW h (c + 5 + 5 * j) (wf j)) → Sm h0 h (c + 5) (c + 45) → RQ G mX3_empty d 2 [some (.ref c), some (.int (nI i))] [] h (Rv fun h1 => (∀ j, j < 8 → JaN h1 (c + 5 + 5 * j) (fun _ => 0) 0 (wf j)) ∧ Sm h0 h1 (c + 5) (c + 45)) := by
    intro i h hi hj sm
    subst hi
    have v0 := sm.at w0 (by omega)
    have v1 := sm.at w1 (by omega)
    refine tX3_empty_2  (r := ?_)
    refine tX3_empty_3  (r := ?_)
    refine tX3_empty_5  (kf := fun c_ => by exfalso; exact c_ (by decide)) (kt := fun _ => ?_)
    refine tX3_empty_23  (hP := ?_)
    exact ⟨rfl, fun j hj8 => (hj j hj8).1 hj8, sm⟩
  intro n
  induction n with
  | zero => exact fun i h h1_ h2_ => ex i h (by omega)
  | succ n ih =>
    intro i h h1_ h2_ hj sm
    by_cases hi : i = 8
    · exact ex i h hi hj sm
    have hi2 : i < 8 := by omega
    have v0 := sm.at w0 (by omega)
    have v1 := sm.at w1 (by omega)
    refine tX3_empty_2  (r := ?_)
    refine tX3_empty_3  (r := ?_)
    refine tX3_empty_5  (kt := fun c_ => by exfalso; exact absurd ((nI_leI (by decide) (by omega)).mp c_) (by omega)) (kf := fun _ => ?_)
    refine tX3_empty_8  (r := ?_)
    refine tX3_empty_9 (ha := v0) (hv := rfl) (r := ?_)
    refine tX3_empty_12  (r := ?_)
    refine tX3_empty_13 (ha := v1) (hx := rfl) (hj := hi2) (hn := (by decide)) (hf := (v5 _ hi2)) (r := ?_)
    obtain ⟨bz, pz, wz, lz, sez, tuz, fiz, maz, coz, ⟨z0, -⟩⟩ := id (hj i hi2).2
    refine tX3_empty_14 (hd := (by omega)) (ha := z0) (call := s_jempty (d := 0) (hj i hi2).2) (k := ?_)
    intro h1 hq
    obtain ⟨jr, sm1⟩ := hq
    refine tX3_empty_17  (r := ?_)
    rw [nI_add]
    refine tX3_empty_20 (r := ?_)
    refine ih (i + 1) _ (by omega) (by omega) (fun j hj8 => ?_) (sm.trans (sm1.sub (by omega) (by omega)))
    by_cases e : j = i
    · subst e
      obtain ⟨bf, p, w, l, tu, fi, ma, jc, -⟩ := id jr
      exact ⟨fun _ => jr, ⟨bf, p, w, l, _, tu, fi, ma, _, jc⟩⟩
    · exact ⟨fun hl => ((hj j hj8).1 (by omega)).sm sm1 (by omega), (hj j hj8).2.sm sm1 (by omega)⟩

end DRC
