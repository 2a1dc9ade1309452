/-! seats after so many days: both sides -/
section SA
variable {G : GT} {d : Nat} {h0 h : AH} {bk dr : Nat} {s : ST}
theorem Sd.ch2 {h1 : AH} (sd : Sd h h1 111 156) : Ch h h1 0 216 0 0 := ⟨Nat.le_of_eq sd.1.symm, by rw [sd.1]; omega, by rw [sd.2.1]; omega, sd.2.2.1.sub (Nat.le_refl _) (by omega), sd.2.2.2.2.sub (by omega) (Nat.le_refl _)⟩
theorem ClR.lat2 {h1 : AH} (c : ClR h 0 bk dr s) (hh : 216 ≤ h.1) {dy : Int32} (ce : CupE h1 111 dy) {ac : Int32} (cw : CamW h1 156 ac) (sd : Sd h h1 111 156) : ClR h1 0 bk dr s := by
  obtain ⟨a1, a2, a3, ⟨a, b, c, a4⟩, a5, ⟨dy, a6⟩, a7, a8, a9⟩ := c
  have hb : (bk = 158 ∧ dr = 8) ∨ (bk = 8 ∧ dr = 158) := by omega
  have e : h.1 ≤ h1.1 := Nat.le_of_eq sd.1.symm
  have u : ∀ x y, y ≤ 111 ∨ 158 ≤ x → y ≤ h.1 → Un h h1 x y := fun x y q1 q2 => by
    rcases q1 with q1 | q1
    · exact sd.2.2.1.sub (Nat.zero_le _) q1
    · exact sd.2.2.2.2.sub q1 q2
  exact ⟨a1.keep e (u 0 1 (by omega) (by omega) _ (by omega) (by omega)), a2.keep e (u _ _ (by omega) (by omega)), a3.keep e (u _ _ (by omega) (by omega)), ⟨a, b, c, a4.keep e (u _ _ (by omega) (by omega))⟩, a5.keep e (u _ _ (by omega) (by omega)), ⟨_, ce⟩, cw.e, a8.keep e (u _ _ (by omega) (by omega)), a9⟩

set_option maxHeartbeats 4000000 in
set_option maxRecDepth 100000 in
theorem k_sa_l (hd : 9 ≤ d) (hh : 216 ≤ h0.1) {u : Nat} (hn : u ≤ 60) {j0 : Nat} (q0 : j0 < bLa s.2.2.1) : ∀ (n i : Nat) (h : AH), u ≤ i + n → i ≤ u → ClR h 0 bk dr s → CuR h 111 s.2.2.1 (psN s.2.2.1 s.2.2.2 i).1 → BDok s.2.2.1 (psN s.2.2.1 s.2.2.2 i).1 → Ch h0 h 0 216 0 0 → RQ G mX10_seatsAfter d 23 [some (.ref 0), some (.int (nI j0)), some (.int (nI u)), some (.int (nI i))] [] h (CK h0 bk dr s "java/lang/IndexOutOfBoundsException" "java/lang/IllegalArgumentException" 0 (nI (su (sw s.2.2.1 (psN s.2.2.1 s.2.2.2 u).1 j0) 8))) := by
  have ex : ∀ (i : Nat) (h : AH), i = u → ClR h 0 bk dr s → CuR h 111 s.2.2.1 (psN s.2.2.1 s.2.2.2 i).1 → BDok s.2.2.1 (psN s.2.2.1 s.2.2.2 i).1 → Ch h0 h 0 216 0 0 → RQ G mX10_seatsAfter d 23 [some (.ref 0), some (.int (nI j0)), some (.int (nI u)), some (.int (nI i))] [] h (CK h0 bk dr s "java/lang/IndexOutOfBoundsException" "java/lang/IllegalArgumentException" 0 (nI (su (sw s.2.2.1 (psN s.2.2.1 s.2.2.2 u).1 j0) 8))) := by
    intro i h hi c cu2 hb ch
    subst hi
    have c1 := c.poll
    have cb := c.book
    have l1 := hb.1
    obtain ⟨n0, cw⟩ := c.cam
    obtain ⟨he_, cf_, ca0, ca1⟩ := id cw
    have hh1 : 216 ≤ h.1 := by have := ch.1; omega
    obtain ⟨jf, lj, fo, le, u0, u1, u2, u3, u4, u5, u6, u7, u8, u9⟩ := id cu2
    refine tX10_seatsAfter_23  (r := ?_)
    refine tX10_seatsAfter_24  (r := ?_)
    refine tX10_seatsAfter_25  (kf := fun c_ => by exfalso; exact c_ ((nI_leI (by omega) (by omega)).mpr (Nat.le_refl _))) (kt := fun _ => ?_)
    refine tX10_seatsAfter_50  (r := ?_)
    refine tX10_seatsAfter_51 (ha := (by first | assumption | (repeat (first | assumption | exact At.set_eq2 (by first | omega | (simp only [hset, hnew]; omega) | rfl | decide) | exact At.new_eq2 _ _ (by first | omega | (simp only [hset, hnew]; omega) | rfl | decide) | refine At.set_ne ?_ (by first | omega | (simp only [hset, hnew]; omega) | rfl | decide) | refine At.new_ne ?_)))) (hv := rfl) (r := ?_)
    refine tX10_seatsAfter_54  (r := ?_)
    refine tX10_seatsAfter_55 (hd := (by omega)) (ha := (by first | assumption | (repeat (first | assumption | exact At.set_eq2 (by first | omega | (simp only [hset, hnew]; omega) | rfl | decide) | exact At.new_eq2 _ _ (by first | omega | (simp only [hset, hnew]; omega) | rfl | decide) | refine At.set_ne ?_ (by first | omega | (simp only [hset, hnew]; omega) | rfl | decide) | refine At.new_ne ?_)))) (call := s_allSeats (d := 8) (by decide) hb (show j0 < 6 by omega) cu2) (k := ?_)
    rintro v h1 ⟨rfl, cu3, sm3⟩
    refine tX10_seatsAfter_58  (hP := ?_)
    exact ck_val (c.later (x := 0) (cu3.E hb) sm3 (by omega) (by omega) rfl) ((ch.trans (sm3.ch (lo2 := 0) (hi2 := 216) (ck := 0) (sk := 0) (by omega) (by omega))).sub (Nat.le_refl _) (Nat.le_refl _) (by decide) (by decide))
  intro n
  induction n with
  | zero => exact fun i h h1_ h2_ => ex i h (by omega)
  | succ n ih =>
    intro i h h1_ h2_ c cu2 hb ch
    by_cases hi : i = u
    · exact ex i h hi c cu2 hb ch
    have hi2 : i < u := by omega
    have c1 := c.poll
    have cb := c.book
    have l1 := hb.1
    obtain ⟨n0, cw⟩ := c.cam
    obtain ⟨he_, cf_, ca0, ca1⟩ := id cw
    have hh1 : 216 ≤ h.1 := by have := ch.1; omega
    obtain ⟨jf, lj, fo, le, u0, u1, u2, u3, u4, u5, u6, u7, u8, u9⟩ := id cu2
    refine tX10_seatsAfter_23  (r := ?_)
    refine tX10_seatsAfter_24  (r := ?_)
    refine tX10_seatsAfter_25  (kt := fun c_ => by exfalso; exact absurd ((nI_leI (by omega) (by omega)).mp c_) (by omega)) (kf := fun _ => ?_)
    refine tX10_seatsAfter_28  (r := ?_)
    refine tX10_seatsAfter_29 (ha := (by first | assumption | (repeat (first | assumption | exact At.set_eq2 (by first | omega | (simp only [hset, hnew]; omega) | rfl | decide) | exact At.new_eq2 _ _ (by first | omega | (simp only [hset, hnew]; omega) | rfl | decide) | refine At.set_ne ?_ (by first | omega | (simp only [hset, hnew]; omega) | rfl | decide) | refine At.new_ne ?_)))) (hv := rfl) (r := ?_)
    refine tX10_seatsAfter_32  (r := ?_)
    refine tX10_seatsAfter_33 (ha := (by first | assumption | (repeat (first | assumption | exact At.set_eq2 (by first | omega | (simp only [hset, hnew]; omega) | rfl | decide) | exact At.new_eq2 _ _ (by first | omega | (simp only [hset, hnew]; omega) | rfl | decide) | refine At.set_ne ?_ (by first | omega | (simp only [hset, hnew]; omega) | rfl | decide) | refine At.new_ne ?_)))) (hv := rfl) (r := ?_)
    refine tX10_seatsAfter_36  (r := ?_)
    refine tX10_seatsAfter_37 (ha := (by first | assumption | (repeat (first | assumption | exact At.set_eq2 (by first | omega | (simp only [hset, hnew]; omega) | rfl | decide) | exact At.new_eq2 _ _ (by first | omega | (simp only [hset, hnew]; omega) | rfl | decide) | refine At.set_ne ?_ (by first | omega | (simp only [hset, hnew]; omega) | rfl | decide) | refine At.new_ne ?_)))) (hv := rfl) (r := ?_)
    refine tX10_seatsAfter_40 (hd := (by omega)) (ha := (by first | assumption | (repeat (first | assumption | exact At.set_eq2 (by first | omega | (simp only [hset, hnew]; omega) | rfl | decide) | exact At.new_eq2 _ _ (by first | omega | (simp only [hset, hnew]; omega) | rfl | decide) | refine At.set_ne ?_ (by first | omega | (simp only [hset, hnew]; omega) | rfl | decide) | refine At.new_ne ?_)))) (call := s_day (d := 8) (c := 111) (b := 156) (B := s.2.2.1) (D := (psN s.2.2.1 s.2.2.2 i).1) (by decide) (by decide) (by have := c.bkd; omega) hb c.2.2.2.2.2.2.2.1 cu2 cw) (k := ?_)
    rintro v h1 ⟨ev_, bo1, cu3, hb1, ⟨n1, cw1⟩, sd1⟩
    have c' := c.lat2 hh1 (cu3.E hb1) cw1 sd1
    have p1 := c'.poll
    refine tX10_seatsAfter_43  (r := ?_)
    refine tX10_seatsAfter_44  (r := ?_)
    rw [nI_add]
    refine tX10_seatsAfter_47 (r := ?_)
    exact ih (i + 1) h1 (by omega) (by omega) c' cu3 hb1 (ch.trans sd1.ch2)

set_option maxHeartbeats 4000000 in
set_option maxRecDepth 100000 in
theorem k_seatsAfter_ok (hd : 9 ≤ d) (c : ClR h 0 bk dr s) (hb : BDok s.2.2.1 s.2.2.2) (hh : 216 ≤ h.1) {j0 : Nat} (q0 : j0 < bLa s.2.2.1) {u : Nat} (hn : u ≤ 60) (g : ¬ (nI u < nI 1 ∨ nI 60 < nI u)) : RQ G mX10_seatsAfter d 0 [some (.ref 0), some (.int (nI j0)), some (.int (nI u)), none] [] h (CK h bk dr s "java/lang/IndexOutOfBoundsException" "java/lang/IllegalArgumentException" 0 (nI (su (sw s.2.2.1 (psN s.2.2.1 s.2.2.2 u).1 j0) 8))) := by
  have c1 := c.poll
  have cb := c.book
  obtain ⟨jf, lj, fo, le, u0, u1, u2, u3, u4, u5, u6, u7, u8, u9⟩ := id c.2.2.2.2.1
  obtain ⟨dy0, ce0⟩ := id c.2.2.2.2.2.1
  obtain ⟨xjf, xlj, xfo, xle, y0, -⟩ := id ce0
  have l1 := hb.1
  have l2 := hb.2.1
  have l3 := hb.2.2.1
  refine tX10_seatsAfter_0  (r := ?_)
  refine tX10_seatsAfter_1  (r := ?_)
  refine tX10_seatsAfter_2 (hd := (by omega)) (ha := (by first | assumption | (repeat (first | assumption | exact At.set_eq2 (by first | omega | (simp only [hset, hnew]; omega) | rfl | decide) | exact At.new_eq2 _ _ (by first | omega | (simp only [hset, hnew]; omega) | rfl | decide) | refine At.set_ne ?_ (by first | omega | (simp only [hset, hnew]; omega) | rfl | decide) | refine At.new_ne ?_)))) (call := s_checkLabel_ok (d := 6) (QX := fun _ _ => False) c hb q0) (kx := fun E_ h_ hx_ => by exact hx_.elim) (k := ?_)
  intro h_ e0
  rw [e0]
  refine tX10_seatsAfter_5  (r := ?_)
  refine tX10_seatsAfter_6  (r := ?_)
  refine tX10_seatsAfter_7 (hd := (by omega)) (ha := (by first | assumption | (repeat (first | assumption | exact At.set_eq2 (by first | omega | (simp only [hset, hnew]; omega) | rfl | decide) | exact At.new_eq2 _ _ (by first | omega | (simp only [hset, hnew]; omega) | rfl | decide) | refine At.set_ne ?_ (by first | omega | (simp only [hset, hnew]; omega) | rfl | decide) | refine At.new_ne ?_)))) (call := s_ckDays_ok (d := 6) (QX := fun _ _ => False) g) (kx := fun E_ h_ hx_ => by exact hx_.elim) (k := ?_)
  intro h_ e_
  rw [e_]
  refine tX10_seatsAfter_10  (r := ?_)
  refine tX10_seatsAfter_11 (ha := (by first | assumption | (repeat (first | assumption | exact At.set_eq2 (by first | omega | (simp only [hset, hnew]; omega) | rfl | decide) | exact At.new_eq2 _ _ (by first | omega | (simp only [hset, hnew]; omega) | rfl | decide) | refine At.set_ne ?_ (by first | omega | (simp only [hset, hnew]; omega) | rfl | decide) | refine At.new_ne ?_)))) (hv := rfl) (r := ?_)
  refine tX10_seatsAfter_14  (r := ?_)
  refine tX10_seatsAfter_15 (ha := (by first | assumption | (repeat (first | assumption | exact At.set_eq2 (by first | omega | (simp only [hset, hnew]; omega) | rfl | decide) | exact At.new_eq2 _ _ (by first | omega | (simp only [hset, hnew]; omega) | rfl | decide) | refine At.set_ne ?_ (by first | omega | (simp only [hset, hnew]; omega) | rfl | decide) | refine At.new_ne ?_)))) (hv := rfl) (r := ?_)
  refine tX10_seatsAfter_18 (hd := (by omega)) (ha := (by first | assumption | (repeat (first | assumption | exact At.set_eq2 (by first | omega | (simp only [hset, hnew]; omega) | rfl | decide) | exact At.new_eq2 _ _ (by first | omega | (simp only [hset, hnew]; omega) | rfl | decide) | refine At.set_ne ?_ (by first | omega | (simp only [hset, hnew]; omega) | rfl | decide) | refine At.new_ne ?_)))) (call := s_like (d := 6) (by decide) ce0 c.2.2.2.2.1 hb (Or.inr (by decide))) (k := ?_)
  intro h1 hq
  obtain ⟨cu2, sm⟩ := hq
  refine tX10_seatsAfter_21  (r := ?_)
  refine tX10_seatsAfter_22  (r := ?_)
  exact k_sa_l hd hh hn q0 u 0 h1 (by omega) (by omega) (c.later (x := 0) (cu2.E hb) sm (by omega) (by omega) rfl) cu2 hb (sm.ch (lo2 := 0) (hi2 := 216) (ck := 0) (sk := 0) (by omega) (by omega))

set_option maxHeartbeats 4000000 in
set_option maxRecDepth 100000 in
theorem k_seatsAfter_no2 (hd : 9 ≤ d) (c : ClR h 0 bk dr s) (hb : BDok s.2.2.1 s.2.2.2) (hh : 216 ≤ h.1) {j0 : Nat} (q0 : j0 < bLa s.2.2.1) {a0 : Int32} {V : Int32} (g : a0 < nI 1 ∨ nI 60 < a0) : RQ G mX10_seatsAfter d 0 [some (.ref 0), some (.int (nI j0)), some (.int a0), none] [] h (CK h bk dr s "java/lang/IndexOutOfBoundsException" "java/lang/IllegalArgumentException" 2 V) := by
  have c1 := c.poll
  have cb := c.book
  obtain ⟨jf, lj, fo, le, u0, u1, u2, u3, u4, u5, u6, u7, u8, u9⟩ := id c.2.2.2.2.1
  obtain ⟨dy0, ce0⟩ := id c.2.2.2.2.2.1
  obtain ⟨xjf, xlj, xfo, xle, y0, -⟩ := id ce0
  have l1 := hb.1
  have l2 := hb.2.1
  have l3 := hb.2.2.1
  refine tX10_seatsAfter_0  (r := ?_)
  refine tX10_seatsAfter_1  (r := ?_)
  refine tX10_seatsAfter_2 (hd := (by omega)) (ha := (by first | assumption | (repeat (first | assumption | exact At.set_eq2 (by first | omega | (simp only [hset, hnew]; omega) | rfl | decide) | exact At.new_eq2 _ _ (by first | omega | (simp only [hset, hnew]; omega) | rfl | decide) | refine At.set_ne ?_ (by first | omega | (simp only [hset, hnew]; omega) | rfl | decide) | refine At.new_ne ?_)))) (call := s_checkLabel_ok (d := 6) (QX := fun _ _ => False) c hb q0) (kx := fun E_ h_ hx_ => by exact hx_.elim) (k := ?_)
  intro h_ e0
  rw [e0]
  refine tX10_seatsAfter_5  (r := ?_)
  refine tX10_seatsAfter_6  (r := ?_)
  refine tX10_seatsAfter_7 (hd := (by omega)) (ha := (by first | assumption | (repeat (first | assumption | exact At.set_eq2 (by first | omega | (simp only [hset, hnew]; omega) | rfl | decide) | exact At.new_eq2 _ _ (by first | omega | (simp only [hset, hnew]; omega) | rfl | decide) | refine At.set_ne ?_ (by first | omega | (simp only [hset, hnew]; omega) | rfl | decide) | refine At.new_ne ?_)))) (call := s_ckDays_no (d := 6) (by decide) g) (kx := fun E_ h_ hx_ => by obtain ⟨rfl, rfl⟩ := hx_; exact ck_throw c hh (Or.inr ⟨rfl, by decide, rfl⟩)) (k := ?_)
  intro h_ e_
  exact e_.elim

set_option maxHeartbeats 4000000 in
set_option maxRecDepth 100000 in
theorem m_sa_l (hd : 10 ≤ d) {u : Nat} (hn : u ≤ 60) {j0 : Nat} (q0 : j0 < bLa s.2.2.1) : ∀ (n i : Nat) (h : AH), u ≤ i + n → i ≤ u → MoT h 216 (nI 0) (s.1, s.2.1, s.2.2.1, (psN s.2.2.1 s.2.2.2 i).1) → BDok s.2.2.1 (psN s.2.2.1 s.2.2.2 i).1 → KpR h s.2.2.1 s.2.2.2 → Ch h0 h 216 269 0 0 → RQ G mX12_seatsAfter d 41 [some (.ref 216), some (.int (nI j0)), some (.int (nI u)), some (.int (nI i))] [] h (MK h0 s 0 (nI (su (sw s.2.2.1 (psN s.2.2.1 s.2.2.2 u).1 j0) 8))) := by
  have ex : ∀ (i : Nat) (h : AH), i = u → MoT h 216 (nI 0) (s.1, s.2.1, s.2.2.1, (psN s.2.2.1 s.2.2.2 i).1) → BDok s.2.2.1 (psN s.2.2.1 s.2.2.2 i).1 → KpR h s.2.2.1 s.2.2.2 → Ch h0 h 216 269 0 0 → RQ G mX12_seatsAfter d 41 [some (.ref 216), some (.int (nI j0)), some (.int (nI u)), some (.int (nI i))] [] h (MK h0 s 0 (nI (su (sw s.2.2.1 (psN s.2.2.1 s.2.2.2 u).1 j0) 8))) := by
    intro i h hi c2 hb kp ch2
    subst hi
    obtain ⟨⟨tk, iw, er, et, dp, nm, am⟩, -⟩ := id c2
    have hroom := c2.room
    refine tX12_seatsAfter_41  (r := ?_)
    refine tX12_seatsAfter_42  (r := ?_)
    refine tX12_seatsAfter_43  (kf := fun c_ => by exfalso; exact c_ ((nI_leI (by omega) (by omega)).mpr (Nat.le_refl _))) (kt := fun _ => ?_)
    refine tX12_seatsAfter_57  (r := ?_)
    refine tX12_seatsAfter_58  (r := ?_)
    refine tX12_seatsAfter_59 (hd := (by omega)) (ha := (by first | assumption | (repeat (first | assumption | exact At.set_eq2 (by first | omega | (simp only [hset, hnew]; omega) | rfl | decide) | exact At.new_eq2 _ _ (by first | omega | (simp only [hset, hnew]; omega) | rfl | decide) | refine At.set_ne ?_ (by first | omega | (simp only [hset, hnew]; omega) | rfl | decide) | refine At.new_ne ?_)))) (call := s_refinall (d := 9) (by decide) c2 hb q0) (k := ?_)
    rintro v h3 ⟨rfl, c3, sm3⟩
    have kp3 := kp.keep (Nat.le_of_eq sm3.1.symm) (sm3.un (by omega) (by omega))
    obtain ⟨⟨tk3, iw3, er3, et3, dp3, nm3, am3⟩, -⟩ := id c3
    refine tX12_seatsAfter_62  (r := ?_)
    refine tX12_seatsAfter_63  (r := ?_)
    refine tX12_seatsAfter_64 (hd := (by omega)) (ha := (by first | assumption | (repeat (first | assumption | exact At.set_eq2 (by first | omega | (simp only [hset, hnew]; omega) | rfl | decide) | exact At.new_eq2 _ _ (by first | omega | (simp only [hset, hnew]; omega) | rfl | decide) | refine At.set_ne ?_ (by first | omega | (simp only [hset, hnew]; omega) | rfl | decide) | refine At.new_ne ?_)))) (call := s_back (d := 9) (D := s.2.2.2) (by decide) c3 hb kp3) (k := ?_)
    intro h4 hq
    obtain ⟨c4, sm4⟩ := hq
    refine tX12_seatsAfter_67  (r := ?_)
    refine tX12_seatsAfter_68  (hP := ?_)
    exact MK.of c4 (((ch2.trans (sm3.ch (lo2 := 216) (hi2 := 269) (ck := 0) (sk := 0) (by omega) (by omega))).trans (sm4.ch (lo2 := 216) (hi2 := 269) (ck := 0) (sk := 0) (by omega) (by omega))).sub (Nat.le_refl _) (Nat.le_refl _) (by decide) (by decide))
  intro n
  induction n with
  | zero => exact fun i h h1_ h2_ => ex i h (by omega)
  | succ n ih =>
    intro i h h1_ h2_ c2 hb kp ch2
    by_cases hi : i = u
    · exact ex i h hi c2 hb kp ch2
    have hi2 : i < u := by omega
    obtain ⟨⟨tk, iw, er, et, dp, nm, am⟩, -⟩ := id c2
    have hroom := c2.room
    refine tX12_seatsAfter_41  (r := ?_)
    refine tX12_seatsAfter_42  (r := ?_)
    refine tX12_seatsAfter_43  (kt := fun c_ => by exfalso; exact absurd ((nI_leI (by omega) (by omega)).mp c_) (by omega)) (kf := fun _ => ?_)
    refine tX12_seatsAfter_46  (r := ?_)
    refine tX12_seatsAfter_47 (hd := (by omega)) (ha := (by first | assumption | (repeat (first | assumption | exact At.set_eq2 (by first | omega | (simp only [hset, hnew]; omega) | rfl | decide) | exact At.new_eq2 _ _ (by first | omega | (simp only [hset, hnew]; omega) | rfl | decide) | refine At.set_ne ?_ (by first | omega | (simp only [hset, hnew]; omega) | rfl | decide) | refine At.new_ne ?_)))) (call := s_dayOn (d := 9) (s := (s.1, s.2.1, s.2.2.1, (psN s.2.2.1 s.2.2.2 i).1)) (by decide) c2 hb) (k := ?_)
    rintro v h1 ⟨ev_, c3, hb3, sv3⟩
    refine tX12_seatsAfter_50  (r := ?_)
    refine tX12_seatsAfter_51  (r := ?_)
    rw [nI_add]
    refine tX12_seatsAfter_54 (r := ?_)
    exact ih (i + 1) h1 (by omega) (by omega) c3 hb3 (kp.keep (Nat.le_of_eq sv3.1.1.symm) sv3.2) (ch2.trans sv3.ch)

set_option maxHeartbeats 4000000 in
set_option maxRecDepth 100000 in
theorem m_seatsAfter_ok (hd : 10 ≤ d) (m1 : MoR h 216 s) (t1 : ToR h 216 s.2.2.1) (hb : BDok s.2.2.1 s.2.2.2) {j0 : Nat} (q0 : j0 < bLa s.2.2.1) {u : Nat} (hn : u ≤ 60) (g : ¬ (nI u < nI 1 ∨ nI 60 < nI u)) : RQ G mX12_seatsAfter d 0 [some (.ref 216), some (.int (nI j0)), some (.int (nI u)), none] [] h (MK h s 0 (nI (su (sw s.2.2.1 (psN s.2.2.1 s.2.2.2 u).1 j0) 8))) := by
  obtain ⟨th, c⟩ := MoT.ofR m1 t1
  refine b_seatsAfter c (fun h2 c2 ch2 => ?_)
  obtain ⟨⟨tk, iw, er, et, dp, nm, am⟩, -⟩ := id c2
  refine tX12_seatsAfter_5  (r := ?_)
  refine tX12_seatsAfter_6  (r := ?_)
  refine tX12_seatsAfter_7 (hd := (by omega)) (ha := (by first | assumption | (repeat (first | assumption | exact At.set_eq2 (by first | omega | (simp only [hset, hnew]; omega) | rfl | decide) | exact At.new_eq2 _ _ (by first | omega | (simp only [hset, hnew]; omega) | rfl | decide) | refine At.set_ne ?_ (by first | omega | (simp only [hset, hnew]; omega) | rfl | decide) | refine At.new_ne ?_)))) (call := s_isLabel_ok (d := 1) (by decide) c2 hb q0) (k := ?_)
  rintro v0 h_ ⟨rfl, e0⟩
  rw [e0]
  refine tX12_seatsAfter_10  (kf := fun c_ => by exfalso; exact absurd c_ (by decide)) (kt := fun _ => ?_)
  refine tX12_seatsAfter_19  (r := ?_)
  refine tX12_seatsAfter_20  (r := ?_)
  refine tX12_seatsAfter_21  (r := ?_)
  refine tX12_seatsAfter_23 (hd := (by omega)) (call := s_isIn (d := 2)) (k := ?_)
  rintro v_ h_ ⟨rfl, e_⟩
  rw [e_, if_pos ⟨Int32.not_lt.mp (fun z => g (Or.inl z)), Int32.not_lt.mp (fun z => g (Or.inr z))⟩]
  refine tX12_seatsAfter_26  (kf := fun c_ => by exfalso; exact absurd c_ (by decide)) (kt := fun _ => ?_)
  refine tX12_seatsAfter_35  (r := ?_)
  refine tX12_seatsAfter_36 (hd := (by omega)) (ha := (by first | assumption | (repeat (first | assumption | exact At.set_eq2 (by first | omega | (simp only [hset, hnew]; omega) | rfl | decide) | exact At.new_eq2 _ _ (by first | omega | (simp only [hset, hnew]; omega) | rfl | decide) | refine At.set_ne ?_ (by first | omega | (simp only [hset, hnew]; omega) | rfl | decide) | refine At.new_ne ?_)))) (call := s_keep (d := 3) (by decide) c2 hb) (k := ?_)
  intro h3 hq
  obtain ⟨c3, kp3, sm3⟩ := hq
  refine tX12_seatsAfter_39  (r := ?_)
  refine tX12_seatsAfter_40  (r := ?_)
  exact m_sa_l hd hn q0 u 0 h3 (by omega) (by omega) c3 hb kp3 (ch2.trans (sm3.ch (lo2 := 216) (hi2 := 269) (ck := 0) (sk := 0) (by omega) (by omega)))

set_option maxHeartbeats 4000000 in
set_option maxRecDepth 100000 in
theorem m_seatsAfter_no2 (hd : 4 ≤ d) (m1 : MoR h 216 s) (t1 : ToR h 216 s.2.2.1) (hb : BDok s.2.2.1 s.2.2.2) {j0 : Nat} (q0 : j0 < bLa s.2.2.1) {a0 : Int32} (g : a0 < nI 1 ∨ nI 60 < a0) : RQ G mX12_seatsAfter d 0 [some (.ref 216), some (.int (nI j0)), some (.int a0), none] [] h (MK h s 2 (nI 0)) := by
  obtain ⟨th, c⟩ := MoT.ofR m1 t1
  refine b_seatsAfter c (fun h2 c2 ch2 => ?_)
  obtain ⟨⟨tk, iw, er, et, dp, nm, am⟩, -⟩ := id c2
  refine tX12_seatsAfter_5  (r := ?_)
  refine tX12_seatsAfter_6  (r := ?_)
  refine tX12_seatsAfter_7 (hd := (by omega)) (ha := (by first | assumption | (repeat (first | assumption | exact At.set_eq2 (by first | omega | (simp only [hset, hnew]; omega) | rfl | decide) | exact At.new_eq2 _ _ (by first | omega | (simp only [hset, hnew]; omega) | rfl | decide) | refine At.set_ne ?_ (by first | omega | (simp only [hset, hnew]; omega) | rfl | decide) | refine At.new_ne ?_)))) (call := s_isLabel_ok (d := 1) (by decide) c2 hb q0) (k := ?_)
  rintro v0 h_ ⟨rfl, e0⟩
  rw [e0]
  refine tX12_seatsAfter_10  (kf := fun c_ => by exfalso; exact absurd c_ (by decide)) (kt := fun _ => ?_)
  refine tX12_seatsAfter_19  (r := ?_)
  refine tX12_seatsAfter_20  (r := ?_)
  refine tX12_seatsAfter_21  (r := ?_)
  refine tX12_seatsAfter_23 (hd := (by omega)) (call := s_isIn (d := 2)) (k := ?_)
  rintro v_ h_ ⟨rfl, e_⟩
  rw [e_, if_neg (fun z => g.elim (fun x => Int32.not_le.mpr x z.1) (fun x => Int32.not_le.mpr x z.2))]
  refine tX12_seatsAfter_26  (kt := fun c_ => by exfalso; exact c_ (by decide)) (kf := fun _ => ?_)
  refine tX12_seatsAfter_29  (r := ?_)
  refine tX12_seatsAfter_30  (r := ?_)
  refine tX12_seatsAfter_31 (hd := (by omega)) (ha := (by first | assumption | (repeat (first | assumption | exact At.set_eq2 (by first | omega | (simp only [hset, hnew]; omega) | rfl | decide) | exact At.new_eq2 _ _ (by first | omega | (simp only [hset, hnew]; omega) | rfl | decide) | refine At.set_ne ?_ (by first | omega | (simp only [hset, hnew]; omega) | rfl | decide) | refine At.new_ne ?_)))) (call := s_no (d := 2) c2) (k := ?_)
  rintro vv h3 ⟨rfl, c3, ch3⟩
  refine tX12_seatsAfter_34  (hP := ?_)
  exact MK.of c3 ((ch2.trans ch3).sub (Nat.le_refl _) (Nat.le_refl _) (by decide) (by decide))

end SA
theorem O_seatsAfter {G : GT} {h : AH} {s : ST} {bk dr : Nat} {a0 a1 : Int32} (j : Jd h s bk dr) : OpC G mX10_seatsAfter mX12_seatsAfter 2046 2047 [some (.ref 0), some (.int a0), some (.int a1), none] [some (.ref 216), some (.int a0), some (.int a1), none] "java/lang/IndexOutOfBoundsException" "java/lang/IllegalArgumentException" (fun _ => True) h s := by
  have hb := j.1
  have hh := j.room
  have l1 := hb.1
  rcases ix_cases a0 (n := bLa s.2.2.1) (by omega) with ⟨j0, q0, rfl⟩ | bad
  rotate_left
  · exact ⟨1, nI 0, s, bk, dr, hb, trivial, k_seatsAfter_no1 (by decide) j.2.1 hb hh bad, fun h1 m1 t1 => m_seatsAfter_no1 (by decide) m1 t1 hb bad⟩
  by_cases g : a1 < nI 1 ∨ nI 60 < a1
  · exact ⟨2, nI 0, s, bk, dr, hb, trivial, k_seatsAfter_no2 (by decide) j.2.1 hb hh q0 g, fun h1 m1 t1 => m_seatsAfter_no2 (by decide) m1 t1 hb q0 g⟩
  · obtain ⟨n, hn, rfl⟩ := days_cases g
    exact ⟨0, _, s, bk, dr, hb, trivial, k_seatsAfter_ok (by decide) j.2.1 hb hh q0 hn g, fun h1 m1 t1 => m_seatsAfter_ok (by decide) m1 t1 hb q0 hn g⟩

