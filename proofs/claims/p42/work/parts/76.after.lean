/-! seats after so many days: both sides -/
section SA
variable {G : GT} {d : Nat} {h0 h : AH} {bk dr : Nat} {s : ST}
theorem Sd.ch2 {h1 : AH} (sd : Sd h h1 111 156) : Ch h h1 0 216 0 0 := ⟨Nat.le_of_eq sd.1.symm, by rw [sd.1]; omega, by rw [sd.2.1]; omega, sd.2.2.1.sub (Nat.le_refl _) (by omega), sd.2.2.2.2.sub (by omega) (Nat.le_refl _)⟩
theorem ClR.lat2 {h1 : AH} (c : ClR h 0 bk dr s) (hh : 216 ≤ h.1) {dy : Int32} (ce : CupE h1 111 dy) {ac : Int32} (cw : CamW h1 156 ac) (sd : Sd h h1 111 156) : ClR h1 0 bk dr s := by
  obtain ⟨a1, a2, a3, ⟨a, b, c, a4⟩, a5, ⟨dy, a6⟩, a7, a8, a9⟩ := c
  have hb : (bk = 158 ∧ dr = 8) ∨ (bk = 8 ∧ dr = 158) := by omega
  have e : h.1 ≤ h1.1 := Nat.le_of_eq sd.1.symm
  have u : ∀ x y, y ≤ 111 ∨ 158 ≤ x → y ≤ h.1 → Un h h1 x y := fun x y q1 q2 => by
    rcases q1 with q1 | q1
    · exact sd.2.2.1.sub (Nat.zero_le _) q1
    · exact sd.2.2.2.2.sub q1 q2
  exact ⟨a1.keep e (u 0 1 (by omega) (by omega) _ (by omega) (by omega)), a2.keep e (u _ _ (by omega) (by omega)), a3.keep e (u _ _ (by omega) (by omega)), ⟨a, b, c, a4.keep e (u _ _ (by omega) (by omega))⟩, a5.keep e (u _ _ (by omega) (by omega)), ⟨_, ce⟩, cw.e, a8.keep e (u _ _ (by omega) (by omega)), a9⟩

set_option maxHeartbeats 4000000 in
set_option maxRecDepth 100000 in
theorem k_sa_l (hd : 9 ≤ d) (hh : 216 ≤ h0.1) {u : Nat} (hn : u ≤ 60) {j0 : Nat} (q0 : j0 < bLa s.2.2.1) : ∀ (n i : Nat) (h : AH), u ≤ i + n → i ≤ u → ClR h 0 bk dr s → CuR h 111 s.2.2.1 (psN s.2.2.1 s.2.2.2 i).1 → BDok s.2.2.1 (psN s.2.2.1 s.2.2.2 i).1 → Ch h0 h 0 216 0 0 → RQ G mX10_seatsAfter d 23 [some (.ref 0), some (.int (nI j0)), some (.int (nI u)), some (.int (nI i))] [] h (CK h0 bk dr s "java/lang/IndexOutOfBoundsException" "java/lang/IllegalArgumentException" 0 (nI (su (sw s.2.2.1 (psN s.2.2.1 s.2.2.2 u).1 j0) 8))) := by
  have ex : ∀ (i : Nat) (h : AH), i = u → ClR h 0 bk dr s → CuR h 111 s.2.2.1 (psN s.2.2.1 s.2.2.2 i).1 → BDok s.2.2.1 (psN s.2.2.1 s.2.2.2 i).1 → Ch h0 h 0 216 0 0 → RQ G mX10_seatsAfter d 23 [some (.ref 0), some (.int (nI j0)), some (.int (nI u)), some (.int (nI i))] [] h (CK h0 bk dr s "java/lang/IndexOutOfBoundsException" "java/lang/IllegalArgumentException" 0 (nI (su (sw s.2.2.1 (psN s.2.2.1 s.2.2.2 u).1 j0) 8))) := by
    intro i h hi c cu2 hb ch
    subst hi
    have c1 := c.poll
    have cb := c.book
    have l1 := hb.1
    obtain ⟨n0, cw⟩ := c.cam
    obtain ⟨he_, cf_, ca0, ca1⟩ := id cw
    have hh1 : 216 ≤ h.1 := by have := ch.1; omega
    obtain ⟨jf, lj, fo, le, u0, u1, u2, u3, u4, u5, u6, u7, u8, u9⟩ := id cu2
    refine tX10_seatsAfter_23  (r := ?_)
    refine tX10_seatsAfter_24  (r := ?_)
    refine tX10_seatsAfter_25  (kf := fun c_ => by exfalso; exact c_ ((nI_leI (by omega) (by omega)).mpr (Nat.le_refl _))) (kt := fun _ => ?_)
    refine tX10_seatsAfter_50  (r := ?_)
    refine tX10_seatsAfter_51 (ha := (by first | assumption | (repeat (first | assumption | exact At.set_eq2 (by first | omega | (simp only [hset, hnew]; omega) | rfl | decide) | exact At.new_eq2 _ _ (by first | omega | (simp only [hset, hnew]; omega) | rfl | decide) | refine At.set_ne ?_ (by first | omega | (simp only [hset, hnew]; omega) | rfl | decide) | refine At.new_ne ?_)))) (hv := rfl) (r := ?_)
    refine tX10_seatsAfter_54  (r := ?_)
    refine tX10_seatsAfter_55 (hd := (by omega)) (ha := (by first | assumption | (repeat (first | assumption | exact At.set_eq2 (by first | omega | (simp only [hset, hnew]; omega) | rfl | decide) | exact At.new_eq2 _ _ (by first | omega | (simp only [hset, hnew]; omega) | rfl | decide) | refine At.set_ne ?_ (by first | omega | (simp only [hset, hnew]; omega) | rfl | decide) | refine At.new_ne ?_)))) (call := s_allSeats (d := 8) (by decide) hb (show j0 < 6 by omega) cu2) (k := ?_)
    rintro v h1 ⟨rfl, cu3, sm3⟩
    refine tX10_seatsAfter_58  (hP := ?_)
    exact ck_val (c.later (x := 0) (cu3.E hb) sm3 (by omega) (by omega) rfl) ((ch.trans (sm3.ch (lo2 := 0) (hi2 := 216) (ck := 0) (sk := 0) (by omega) (by omega))).sub (Nat.le_refl _) (Nat.le_refl _) (by decide) (by decide))
  intro n
  induction n with
  | zero => exact fun i h h1_ h2_ => ex i h (by omega)
  | succ n ih =>
    intro i h h1_ h2_ c cu2 hb ch
    by_cases hi : i = u
    · exact ex i h hi c cu2 hb ch
    have hi2 : i < u := by omega
    have c1 := c.poll
    have cb := c.book
    have l1 := hb.1
    obtain ⟨n0, cw⟩ := c.cam
    obtain ⟨he_, cf_, ca0, ca1⟩ := id cw
    have hh1 : 216 ≤ h.1 := by have := ch.1; omega
    obtain ⟨jf, lj, fo, le, u0, u1, u2, u3, u4, u5, u6, u7, u8, u9⟩ := id cu2
    refine tX10_seatsAfter_23  (r := ?_)
    refine tX10_seatsAfter_24  (r := ?_)
    refine tX10_seatsAfter_25  (kt := fun c_ => by exfalso; exact absurd ((nI_leI (by omega) (by omega)).mp c_) (by omega)) (kf := fun _ => ?_)
    refine tX10_seatsAfter_28  (r := ?_)
    refine tX10_seatsAfter_29 (ha := (by first | assumption | (repeat (first | assumption | exact At.set_eq2 (by first | omega | (simp only [hset, hnew]; omega) | rfl | decide) | exact At.new_eq2 _ _ (by first | omega | (simp only [hset, hnew]; omega) | rfl | decide) | refine At.set_ne ?_ (by first | omega | (simp only [hset, hnew]; omega) | rfl | decide) | refine At.new_ne ?_)))) (hv := rfl) (r := ?_)
    refine tX10_seatsAfter_32  (r := ?_)
    refine tX10_seatsAfter_33 (ha := (by first | assumption | (repeat (first | assumption | exact At.set_eq2 (by first | omega | (simp only [hset, hnew]; omega) | rfl | decide) | exact At.new_eq2 _ _ (by first | omega | (simp only [hset, hnew]; omega) | rfl | decide) | refine At.set_ne ?_ (by first | omega | (simp only [hset, hnew]; omega) | rfl | decide) | refine At.new_ne ?_)))) (hv := rfl) (r := ?_)
    refine tX10_seatsAfter_36  (r := ?_)
    refine tX10_seatsAfter_37 (ha := (by first | assumption | (repeat (first | assumption | exact At.set_eq2 (by first | omega | (simp only [hset, hnew]; omega) | rfl | decide) | exact At.new_eq2 _ _ (by first | omega | (simp only [hset, hnew]; omega) | rfl | decide) | refine At.set_ne ?_ (by first | omega | (simp only [hset, hnew]; omega) | rfl | decide) | refine At.new_ne ?_)))) (hv := rfl) (r := ?_)
    refine tX10_seatsAfter_40 (hd := (by omega)) (ha := (by first | assumption | (repeat (first | assumption | exact At.set_eq2 (by first | omega | (simp only [hset, hnew]; omega) | rfl | decide) | exact At.new_eq2 _ _ (by first | omega | (simp only [hset, hnew]; omega) | rfl | decide) | refine At.set_ne ?_ (by first | omega | (simp only [hset, hnew]; omega) | rfl | decide) | refine At.new_ne ?_)))) (call := s_day (d := 8) (c := 111) (b := 156) (B := s.2.2.1) (D := (psN s.2.2.1 s.2.2.2 i).1) (by decide) (by decide) (by have := c.bkd; omega) hb c.2.2.2.2.2.2.2.1 cu2 cw) (k := ?_)
    rintro v h1 ⟨ev_, bo1, cu3, hb1, ⟨n1, cw1⟩, sd1⟩
    have c' := c.lat2 hh1 (cu3.E hb1) cw1 sd1
    have p1 := c'.poll
    refine tX10_seatsAfter_43  (r := ?_)
    refine tX10_seatsAfter_44  (r := ?_)
    rw [nI_add]
    refine tX10_seatsAfter_47 (r := ?_)
    exact ih (i + 1) h1 (by omega) (by omega) c' cu3 hb1 (ch.trans sd1.ch2)

set_option maxHeartbeats 4000000 in
set_option maxRecDepth 100000 in
theorem k_seatsAfter_ok (hd : 9 ≤ d) (c : ClR h 0 bk dr s) (hb : BDok s.2.2.1 s.2.2.2) (hh : 216 ≤ h.1) {j0 : Nat} (q0 : j0 < bLa s.2.2.1) {u : Nat} (hn : u ≤ 60) (g : ¬ (nI u < nI 1 ∨ nI 60 < nI u)) : RQ G mX10_seatsAfter d 0 [some (.ref 0), some (.int (nI j0)), some (.int (nI u)), none] [] h (CK h bk dr s "java/lang/IndexOutOfBoundsException" "java/lang/IllegalArgumentException" 0 (nI (su (sw s.2.2.1 (psN s.2.2.1 s.2.2.2 u).1 j0) 8))) := by
  have c1 := c.poll
  have cb := c.book
  obtain ⟨jf, lj, fo, le, u0, u1, u2, u3, u4, u5, u6, u7, u8, u9⟩ := id c.2.2.2.2.1
  obtain ⟨dy0, ce0⟩ := id c.2.2.2.2.2.1
  obtain ⟨xjf, xlj, xfo, xle, y0, -⟩ := id ce0
  have l1 := hb.1
  have l2 := hb.2.1
  have l3 := hb.2.2.1
  refine tX10_seatsAfter_0  (r := ?_)
  refine tX10_seatsAfter_1  (r := ?_)
  refine tX10_seatsAfter_2 (hd := (by omega)) (ha := (by first | assumption | (repeat (first | assumption | exact At.set_eq2 (by first | omega | (simp only [hset, hnew]; omega) | rfl | decide) | exact At.new_eq2 _ _ (by first | omega | (simp only [hset, hnew]; omega) | rfl | decide) | refine At.set_ne ?_ (by first | omega | (simp only [hset, hnew]; omega) | rfl | decide) | refine At.new_ne ?_)))) (call := s_checkLabel_ok (d := 6) (QX := fun _ _ => False) c hb q0) (kx := fun E_ h_ hx_ => by exact hx_.elim) (k := ?_)
  intro h_ e0
  rw [e0]
  refine tX10_seatsAfter_5  (r := ?_)
  refine tX10_seatsAfter_6  (r := ?_)
  refine tX10_seatsAfter_7 (hd := (by omega)) (ha := (by first | assumption | (repeat (first | assumption | exact At.set_eq2 (by first | omega | (simp only [hset, hnew]; omega) | rfl | decide) | exact At.new_eq2 _ _ (by first | omega | (simp only [hset, hnew]; omega) | rfl | decide) | refine At.set_ne ?_ (by first | omega | (simp only [hset, hnew]; omega) | rfl | decide) | refine At.new_ne ?_)))) (call := s_ckDays_ok (d := 6) (QX := fun _ _ => False) g) (kx := fun E_ h_ hx_ => by exact hx_.elim) (k := ?_)
  intro h_ e_
  rw [e_]
  refine tX10_seatsAfter_10  (r := ?_)
  refine tX10_seatsAfter_11 (ha := (by first | assumption | (repeat (first | assumption | exact At.set_eq2 (by first | omega | (simp only [hset, hnew]; omega) | rfl | decide) | exact At.new_eq2 _ _ (by first | omega | (simp only [hset, hnew]; omega) | rfl | decide) | refine At.set_ne ?_ (by first | omega | (simp only [hset, hnew]; omega) | rfl | decide) | refine At.new_ne ?_)))) (hv := rfl) (r := ?_)
  refine tX10_seatsAfter_14  (r := ?_)
  refine tX10_seatsAfter_15 (ha := (by first | assumption | (repeat (first | assumption | exact At.set_eq2 (by first | omega | (simp only [hset, hnew]; omega) | rfl | decide) | exact At.new_eq2 _ _ (by first | omega | (simp only [hset, hnew]; omega) | rfl | decide) | refine At.set_ne ?_ (by first | omega | (simp only [hset, hnew]; omega) | rfl | decide) | refine At.new_ne ?_)))) (hv := rfl) (r := ?_)
  refine tX10_seatsAfter_18 (hd := (by omega)) (ha := (by first | assumption | (repeat (first | assumption | exact At.set_eq2 (by first | omega | (simp only [hset, hnew]; omega) | rfl | decide) | exact At.new_eq2 _ _ (by first | omega | (simp only [hset, hnew]; omega) | rfl | decide) | refine At.set_ne ?_ (by first | omega | (simp only [hset, hnew]; omega) | rfl | decide) | refine At.new_ne ?_)))) (call := s_like (d := 6) (by decide) ce0 c.2.2.2.2.1 hb (Or.inr (by decide))) (k := ?_)
  intro h1 hq
  obtain ⟨cu2, sm⟩ := hq
  refine tX10_seatsAfter_21  (r := ?_)
  refine tX10_seatsAfter_22  (r := ?_)
  exact k_sa_l hd hh hn q0 u 0 h1 (by omega) (by omega) (c.later (x := 0) (cu2.E hb) sm (by omega) (by omega) rfl) cu2 hb (sm.ch (lo2 := 0) (hi2 := 216) (ck := 0) (sk := 0) (by omega) (by omega))

set_option maxHeartbeats 4000000 in
set_option maxRecDepth 100000 in
theorem k_seatsAfter_no2 (hd : 9 ≤ d) (c : ClR h 0 bk dr s) (hb : BDok s.2.2.1 s.2.2.2) (hh : 216 ≤ h.1) {j0 : Nat} (q0 : j0 < bLa s.2.2.1) {a0 : Int32} {V : Int32} (g : a0 < nI 1 ∨ nI 60 < a0) : RQ G mX10_seatsAfter d 0 [some (.ref 0), some (.int (nI j0)), some (.int a0), none] [] h (CK h bk dr s "java/lang/IndexOutOfBoundsException" "java/lang/IllegalArgumentException" 2 V) := by
  have c1 := c.poll
  have cb := c.book
  obtain ⟨jf, lj, fo, le, u0, u1, u2, u3, u4, u5, u6, u7, u8, u9⟩ := id c.2.2.2.2.1
  obtain ⟨dy0, ce0⟩ := id c.2.2.2.2.2.1
  obtain ⟨xjf, xlj, xfo, xle, y0, -⟩ := id ce0
  have l1 := hb.1
  have l2 := hb.2.1
  have l3 := hb.2.2.1
  refine tX10_seatsAfter_0  (r := ?_)
  refine tX10_seatsAfter_1  (r := ?_)
  refine tX10_seatsAfter_2 (hd := (by omega)) (ha := (by first | assumption | (repeat (first | assumption | exact At.set_eq2 (by first | omega | (simp only [hset, hnew]; omega) | rfl | decide) | exact At.new_eq2 _ _ (by first | omega | (simp only [hset, hnew]; omega) | rfl | decide) | refine At.set_ne ?_ (by first | omega | (simp only [hset, hnew]; omega) | rfl | decide) | refine At.new_ne ?_)))) (call := s_checkLabel_ok (d := 6) (QX := fun _ _ => False) c hb q0) (kx := fun E_ h_ hx_ => by exact hx_.elim) (k := ?_)
  intro h_ e0
  rw [e0]
  refine tX10_seatsAfter_5  (r := ?_)
  refine tX10_seatsAfter_6  (r := ?_)
  refine tX10_seatsAfter_7 (hd := (by omega)) (ha := (by first | assumption | (repeat (first | assumption | exact At.set_eq2 (by first | omega | (simp only [hset, hnew]; omega) | rfl | decide) | exact At.new_eq2 _ _ (by first | omega | (simp only [hset, hnew]; omega) | rfl | decide) | refine At.set_ne ?_ (by first | omega | (simp only [hset, hnew]; omega) | rfl | decide) | refine At.new_ne ?_)))) (call := s_ckDays_no (d := 6) (by decide) g) (kx := fun E_ h_ hx_ => by obtain ⟨rfl, rfl⟩ := hx_; exact ck_throw c hh (Or.inr ⟨rfl, by decide, rfl⟩)) (k := ?_)
  intro h_ e_
  exact e_.elim

end SA