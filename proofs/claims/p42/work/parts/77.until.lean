/-! days until a majority: both sides -/
/-- from day i on, m days more -/
def duV (B : BK) (D : DY) (k : Nat) : Nat → Nat → Int32
  | 0, i => if gov B (psN B D i).1 k = 0 then -1 else nI i
  | m + 1, i => if gov B (psN B D i).1 k = 0 then duV B D k m (i + 1) else nI i
theorem duV_is {B : BK} {D : DY} {k i : Nat} (hi : i ≤ 100) (g : ¬ gov B (psN B D i).1 k = 0) : duV B D k (100 - i) i = nI i := by
  cases z : 100 - i with
  | zero => exact if_neg g
  | succ m => exact if_neg g
theorem duV_go {B : BK} {D : DY} {k i : Nat} (hi : i < 100) (g : gov B (psN B D i).1 k = 0) : duV B D k (100 - i) i = duV B D k (100 - (i + 1)) (i + 1) := by
  rw [show 100 - i = (100 - (i + 1)) + 1 by omega]
  exact if_pos g
theorem duV_no {B : BK} {D : DY} {k i : Nat} (hi : i = 100) (g : gov B (psN B D i).1 k = 0) : duV B D k (100 - i) i = -1 := by
  rw [show 100 - i = 0 by omega]
  exact if_pos g
section DU
variable {G : GT} {d : Nat} {h0 h : AH} {bk dr : Nat} {s : ST}

set_option maxHeartbeats 4000000 in
set_option maxRecDepth 100000 in
theorem k_du_l (hd : 9 ≤ d) (hh : 216 ≤ h0.1) {j0 : Nat} (q0 : j0 < bLa s.2.2.1) : ∀ (n i : Nat) (h : AH), 100 ≤ i + n → i ≤ 100 → ClR h 0 bk dr s → CuR h 111 s.2.2.1 (psN s.2.2.1 s.2.2.2 i).1 → BDok s.2.2.1 (psN s.2.2.1 s.2.2.2 i).1 → Ch h0 h 0 216 0 0 → duV s.2.2.1 s.2.2.2 j0 100 0 = duV s.2.2.1 s.2.2.2 j0 (100 - i) i → RQ G mX10_daysUntilMajority d 18 [some (.ref 0), some (.int (nI j0)), some (.int (nI i))] [] h (CK h0 bk dr s "java/lang/IndexOutOfBoundsException" "" 0 (duV s.2.2.1 s.2.2.2 j0 100 0)) := by
  have ex : ∀ (i : Nat) (h : AH), i = 100 → ClR h 0 bk dr s → CuR h 111 s.2.2.1 (psN s.2.2.1 s.2.2.2 i).1 → BDok s.2.2.1 (psN s.2.2.1 s.2.2.2 i).1 → Ch h0 h 0 216 0 0 → duV s.2.2.1 s.2.2.2 j0 100 0 = duV s.2.2.1 s.2.2.2 j0 (100 - i) i → RQ G mX10_daysUntilMajority d 18 [some (.ref 0), some (.int (nI j0)), some (.int (nI i))] [] h (CK h0 bk dr s "java/lang/IndexOutOfBoundsException" "" 0 (duV s.2.2.1 s.2.2.2 j0 100 0)) := by
    intro i h hi c cu2 hb ch e
    subst hi
    have c1 := c.poll
    have cb := c.book
    have l1 := hb.1
    obtain ⟨n0, cw⟩ := c.cam
    obtain ⟨he_, cf_, ca0, ca1⟩ := id cw
    have hh1 : 216 ≤ h.1 := by have := ch.1; omega
    obtain ⟨jf, lj, fo, le, u0, u1, u2, u3, u4, u5, u6, u7, u8, u9⟩ := id cu2
    refine tX10_daysUntilMajority_18  (r := ?_)
    refine tX10_daysUntilMajority_19  (r := ?_)
    refine tX10_daysUntilMajority_21  (kf := fun c_ => by exfalso; exact c_ (by decide)) (kt := fun _ => ?_)
    refine tX10_daysUntilMajority_59  (r := ?_)
    refine tX10_daysUntilMajority_60 (ha := (by first | assumption | (repeat (first | assumption | exact At.set_eq2 (by first | omega | (simp only [hset, hnew]; omega) | rfl | decide) | exact At.new_eq2 _ _ (by first | omega | (simp only [hset, hnew]; omega) | rfl | decide) | refine At.set_ne ?_ (by first | omega | (simp only [hset, hnew]; omega) | rfl | decide) | refine At.new_ne ?_)))) (hv := rfl) (r := ?_)
    refine tX10_daysUntilMajority_63  (r := ?_)
    refine tX10_daysUntilMajority_64 (hd := (by omega)) (ha := (by first | assumption | (repeat (first | assumption | exact At.set_eq2 (by first | omega | (simp only [hset, hnew]; omega) | rfl | decide) | exact At.new_eq2 _ _ (by first | omega | (simp only [hset, hnew]; omega) | rfl | decide) | refine At.set_ne ?_ (by first | omega | (simp only [hset, hnew]; omega) | rfl | decide) | refine At.new_ne ?_)))) (call := s_governs (d := 8) (by decide) hb (show j0 < 6 by omega) cu2) (k := ?_)
    rintro v h1 ⟨rfl, cu3, sm3⟩
    have fin := (ch.trans (sm3.ch (lo2 := 0) (hi2 := 216) (ck := 0) (sk := 0) (by omega) (by omega))).sub (ck2 := 0) (sk2 := 0) (Nat.le_refl _) (Nat.le_refl _) (by decide) (by decide)
    refine tX10_daysUntilMajority_67  (kt := fun c_67 => ?_) (kf := fun c_67 => ?_)
    · have ev := e.trans (duV_no rfl c_67)
      refine tX10_daysUntilMajority_75  (r := ?_)
      refine tX10_daysUntilMajority_76  (hP := ?_)
      rw [ev]
      exact ck_val (c.later (x := 0) (cu3.E hb) sm3 (by omega) (by omega) rfl) fin
    · have ev := e.trans (duV_is (Nat.le_refl _) c_67)
      refine tX10_daysUntilMajority_70  (r := ?_)
      refine tX10_daysUntilMajority_72 (r := ?_)
      refine tX10_daysUntilMajority_76  (hP := ?_)
      rw [ev]
      exact ck_val (c.later (x := 0) (cu3.E hb) sm3 (by omega) (by omega) rfl) fin
  intro n
  induction n with
  | zero => exact fun i h h1_ h2_ => ex i h (by omega)
  | succ n ih =>
    intro i h h1_ h2_ c cu2 hb ch e
    by_cases hi : i = 100
    · exact ex i h hi c cu2 hb ch e
    have hi2 : i < 100 := by omega
    have c1 := c.poll
    have cb := c.book
    have l1 := hb.1
    obtain ⟨n0, cw⟩ := c.cam
    obtain ⟨he_, cf_, ca0, ca1⟩ := id cw
    have hh1 : 216 ≤ h.1 := by have := ch.1; omega
    obtain ⟨jf, lj, fo, le, u0, u1, u2, u3, u4, u5, u6, u7, u8, u9⟩ := id cu2
    refine tX10_daysUntilMajority_18  (r := ?_)
    refine tX10_daysUntilMajority_19  (r := ?_)
    refine tX10_daysUntilMajority_21  (kt := fun c_ => by exfalso; exact absurd ((nI_leI (by decide) (by omega)).mp c_) (by omega)) (kf := fun _ => ?_)
    refine tX10_daysUntilMajority_24  (r := ?_)
    refine tX10_daysUntilMajority_25 (ha := (by first | assumption | (repeat (first | assumption | exact At.set_eq2 (by first | omega | (simp only [hset, hnew]; omega) | rfl | decide) | exact At.new_eq2 _ _ (by first | omega | (simp only [hset, hnew]; omega) | rfl | decide) | refine At.set_ne ?_ (by first | omega | (simp only [hset, hnew]; omega) | rfl | decide) | refine At.new_ne ?_)))) (hv := rfl) (r := ?_)
    refine tX10_daysUntilMajority_28  (r := ?_)
    refine tX10_daysUntilMajority_29 (hd := (by omega)) (ha := (by first | assumption | (repeat (first | assumption | exact At.set_eq2 (by first | omega | (simp only [hset, hnew]; omega) | rfl | decide) | exact At.new_eq2 _ _ (by first | omega | (simp only [hset, hnew]; omega) | rfl | decide) | refine At.set_ne ?_ (by first | omega | (simp only [hset, hnew]; omega) | rfl | decide) | refine At.new_ne ?_)))) (call := s_governs (d := 8) (by decide) hb (show j0 < 6 by omega) cu2) (k := ?_)
    rintro v h1 ⟨rfl, cu3, sm3⟩
    have c3 := c.later (x := 0) (cu3.E hb) sm3 (by omega) (by omega) rfl
    have p3 := c3.poll
    obtain ⟨n3, cw3⟩ := c3.cam
    obtain ⟨he3, cf3, ca3, cb3⟩ := id cw3
    have hh3 : 216 ≤ h1.1 := by rw [sm3.1]; exact hh1
    have ch3 := ch.trans (sm3.ch (lo2 := 0) (hi2 := 216) (ck := 0) (sk := 0) (by omega) (by omega))
    refine tX10_daysUntilMajority_32  (kt := fun c_32 => ?_) (kf := fun c_32 => ?_)
    · have ev := e.trans (duV_go hi2 c_32)
      refine tX10_daysUntilMajority_37  (r := ?_)
      refine tX10_daysUntilMajority_38 (ha := (by first | assumption | (repeat (first | assumption | exact At.set_eq2 (by first | omega | (simp only [hset, hnew]; omega) | rfl | decide) | exact At.new_eq2 _ _ (by first | omega | (simp only [hset, hnew]; omega) | rfl | decide) | refine At.set_ne ?_ (by first | omega | (simp only [hset, hnew]; omega) | rfl | decide) | refine At.new_ne ?_)))) (hv := rfl) (r := ?_)
      refine tX10_daysUntilMajority_41  (r := ?_)
      refine tX10_daysUntilMajority_42 (ha := (by first | assumption | (repeat (first | assumption | exact At.set_eq2 (by first | omega | (simp only [hset, hnew]; omega) | rfl | decide) | exact At.new_eq2 _ _ (by first | omega | (simp only [hset, hnew]; omega) | rfl | decide) | refine At.set_ne ?_ (by first | omega | (simp only [hset, hnew]; omega) | rfl | decide) | refine At.new_ne ?_)))) (hv := rfl) (r := ?_)
      refine tX10_daysUntilMajority_45  (r := ?_)
      refine tX10_daysUntilMajority_46 (ha := (by first | assumption | (repeat (first | assumption | exact At.set_eq2 (by first | omega | (simp only [hset, hnew]; omega) | rfl | decide) | exact At.new_eq2 _ _ (by first | omega | (simp only [hset, hnew]; omega) | rfl | decide) | refine At.set_ne ?_ (by first | omega | (simp only [hset, hnew]; omega) | rfl | decide) | refine At.new_ne ?_)))) (hv := rfl) (r := ?_)
      refine tX10_daysUntilMajority_49 (hd := (by omega)) (ha := (by first | assumption | (repeat (first | assumption | exact At.set_eq2 (by first | omega | (simp only [hset, hnew]; omega) | rfl | decide) | exact At.new_eq2 _ _ (by first | omega | (simp only [hset, hnew]; omega) | rfl | decide) | refine At.set_ne ?_ (by first | omega | (simp only [hset, hnew]; omega) | rfl | decide) | refine At.new_ne ?_)))) (call := s_day (d := 8) (c := 111) (b := 156) (B := s.2.2.1) (D := (psN s.2.2.1 s.2.2.2 i).1) (by decide) (by decide) (by have := c3.bkd; omega) hb c3.2.2.2.2.2.2.2.1 cu3 cw3) (k := ?_)
      rintro v h2 ⟨ev_, bo1, cu4, hb1, ⟨n1, cw1⟩, sd1⟩
      have c4 := c3.lat2 hh3 (cu4.E hb1) cw1 sd1
      refine tX10_daysUntilMajority_52  (r := ?_)
      refine tX10_daysUntilMajority_53  (r := ?_)
      rw [nI_add]
      refine tX10_daysUntilMajority_56 (r := ?_)
      exact ih (i + 1) h2 (by omega) (by omega) c4 cu4 hb1 (ch3.trans sd1.ch2) ev
    · have ev := e.trans (duV_is (by omega) c_32)
      refine tX10_daysUntilMajority_35  (r := ?_)
      refine tX10_daysUntilMajority_36  (hP := ?_)
      rw [ev]
      exact ck_val c3 (ch3.sub (Nat.le_refl _) (Nat.le_refl _) (by decide) (by decide))

set_option maxHeartbeats 4000000 in
set_option maxRecDepth 100000 in
theorem k_daysUntilMajority_ok (hd : 9 ≤ d) (c : ClR h 0 bk dr s) (hb : BDok s.2.2.1 s.2.2.2) (hh : 216 ≤ h.1) {j0 : Nat} (q0 : j0 < bLa s.2.2.1) : RQ G mX10_daysUntilMajority d 0 [some (.ref 0), some (.int (nI j0)), none] [] h (CK h bk dr s "java/lang/IndexOutOfBoundsException" "" 0 (duV s.2.2.1 s.2.2.2 j0 100 0)) := by
  have c1 := c.poll
  have cb := c.book
  obtain ⟨jf, lj, fo, le, u0, u1, u2, u3, u4, u5, u6, u7, u8, u9⟩ := id c.2.2.2.2.1
  obtain ⟨dy0, ce0⟩ := id c.2.2.2.2.2.1
  obtain ⟨xjf, xlj, xfo, xle, y0, -⟩ := id ce0
  have l1 := hb.1
  have l2 := hb.2.1
  have l3 := hb.2.2.1
  refine tX10_daysUntilMajority_0  (r := ?_)
  refine tX10_daysUntilMajority_1  (r := ?_)
  refine tX10_daysUntilMajority_2 (hd := (by omega)) (ha := (by first | assumption | (repeat (first | assumption | exact At.set_eq2 (by first | omega | (simp only [hset, hnew]; omega) | rfl | decide) | exact At.new_eq2 _ _ (by first | omega | (simp only [hset, hnew]; omega) | rfl | decide) | refine At.set_ne ?_ (by first | omega | (simp only [hset, hnew]; omega) | rfl | decide) | refine At.new_ne ?_)))) (call := s_checkLabel_ok (d := 6) (QX := fun _ _ => False) c hb q0) (kx := fun E_ h_ hx_ => by exact hx_.elim) (k := ?_)
  intro h_ e0
  rw [e0]
  refine tX10_daysUntilMajority_5  (r := ?_)
  refine tX10_daysUntilMajority_6 (ha := (by first | assumption | (repeat (first | assumption | exact At.set_eq2 (by first | omega | (simp only [hset, hnew]; omega) | rfl | decide) | exact At.new_eq2 _ _ (by first | omega | (simp only [hset, hnew]; omega) | rfl | decide) | refine At.set_ne ?_ (by first | omega | (simp only [hset, hnew]; omega) | rfl | decide) | refine At.new_ne ?_)))) (hv := rfl) (r := ?_)
  refine tX10_daysUntilMajority_9  (r := ?_)
  refine tX10_daysUntilMajority_10 (ha := (by first | assumption | (repeat (first | assumption | exact At.set_eq2 (by first | omega | (simp only [hset, hnew]; omega) | rfl | decide) | exact At.new_eq2 _ _ (by first | omega | (simp only [hset, hnew]; omega) | rfl | decide) | refine At.set_ne ?_ (by first | omega | (simp only [hset, hnew]; omega) | rfl | decide) | refine At.new_ne ?_)))) (hv := rfl) (r := ?_)
  refine tX10_daysUntilMajority_13 (hd := (by omega)) (ha := (by first | assumption | (repeat (first | assumption | exact At.set_eq2 (by first | omega | (simp only [hset, hnew]; omega) | rfl | decide) | exact At.new_eq2 _ _ (by first | omega | (simp only [hset, hnew]; omega) | rfl | decide) | refine At.set_ne ?_ (by first | omega | (simp only [hset, hnew]; omega) | rfl | decide) | refine At.new_ne ?_)))) (call := s_like (d := 6) (by decide) ce0 c.2.2.2.2.1 hb (Or.inr (by decide))) (k := ?_)
  intro h1 hq
  obtain ⟨cu2, sm⟩ := hq
  refine tX10_daysUntilMajority_16  (r := ?_)
  refine tX10_daysUntilMajority_17  (r := ?_)
  exact k_du_l hd hh q0 100 0 h1 (by omega) (by omega) (c.later (x := 0) (cu2.E hb) sm (by omega) (by omega) rfl) cu2 hb (sm.ch (lo2 := 0) (hi2 := 216) (ck := 0) (sk := 0) (by omega) (by omega)) rfl

end DU