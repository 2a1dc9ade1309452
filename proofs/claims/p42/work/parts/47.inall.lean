/-! seatsInAll, hasMajority: the class's answers -/
section SG
variable {G : GT} {d : Nat} {h : AH} {bk dr : Nat} {s : ST}

set_option maxHeartbeats 4000000 in
set_option maxRecDepth 100000 in
theorem k_seatsInAll_ok (hd : 7 ≤ d) (c : ClR h 0 bk dr s) (hb : BDok s.2.2.1 s.2.2.2) (hh : 216 ≤ h.1) {j0 : Nat} (q0 : j0 < bLa s.2.2.1) : RQ G mX10_seatsInAll d 0 [some (.ref 0), some (.int (nI j0))] [] h (CK h bk dr s "java/lang/IndexOutOfBoundsException" "" 0 (nI (su (sw s.2.2.1 s.2.2.2 j0) 8))) := by
  have c1 := c.poll
  have cb := c.book
  obtain ⟨jf, lj, fo, le, u0, u1, u2, u3, u4, u5, u6, u7, u8, u9⟩ := id c.2.2.2.2.1
  have l1 := hb.1
  have l2 := hb.2.1
  have l3 := hb.2.2.1
  refine tX10_seatsInAll_0  (r := ?_)
  refine tX10_seatsInAll_1  (r := ?_)
  refine tX10_seatsInAll_2 (hd := (by omega)) (ha := (by first | assumption | (repeat (first | assumption | exact At.set_eq2 (by first | omega | (simp only [hset, hnew]; omega) | rfl | decide) | exact At.new_eq2 _ _ (by first | omega | (simp only [hset, hnew]; omega) | rfl | decide) | refine At.set_ne ?_ (by first | omega | (simp only [hset, hnew]; omega) | rfl | decide) | refine At.new_ne ?_)))) (call := s_checkLabel_ok (d := 6) (QX := fun _ _ => False) c hb q0) (kx := fun E_ h_ hx_ => by exact hx_.elim) (k := ?_)
  intro h_ e0
  rw [e0]
  refine tX10_seatsInAll_5  (r := ?_)
  refine tX10_seatsInAll_6 (ha := (by first | assumption | (repeat (first | assumption | exact At.set_eq2 (by first | omega | (simp only [hset, hnew]; omega) | rfl | decide) | exact At.new_eq2 _ _ (by first | omega | (simp only [hset, hnew]; omega) | rfl | decide) | refine At.set_ne ?_ (by first | omega | (simp only [hset, hnew]; omega) | rfl | decide) | refine At.new_ne ?_)))) (hv := rfl) (r := ?_)
  refine tX10_seatsInAll_9  (r := ?_)
  refine tX10_seatsInAll_10 (hd := (by omega)) (ha := (by first | assumption | (repeat (first | assumption | exact At.set_eq2 (by first | omega | (simp only [hset, hnew]; omega) | rfl | decide) | exact At.new_eq2 _ _ (by first | omega | (simp only [hset, hnew]; omega) | rfl | decide) | refine At.set_ne ?_ (by first | omega | (simp only [hset, hnew]; omega) | rfl | decide) | refine At.new_ne ?_)))) (call := s_allSeats (d := 5) (by decide) hb (show j0 < 6 by omega) c.2.2.2.2.1) (k := ?_)
  rintro v h1 ⟨rfl, cu, sm⟩
  have cl := c.now cu sm (by omega) (by omega)
  have chh : Ch h h1 0 216 0 0 := sm.ch (Nat.zero_le _) (by omega)
  refine tX10_seatsInAll_13  (hP := ?_)
  exact ck_val cl chh

set_option maxHeartbeats 4000000 in
set_option maxRecDepth 100000 in
theorem k_hasMajority_ok (hd : 7 ≤ d) (c : ClR h 0 bk dr s) (hb : BDok s.2.2.1 s.2.2.2) (hh : 216 ≤ h.1) {j0 : Nat} (q0 : j0 < bLa s.2.2.1) : RQ G mX10_hasMajority d 0 [some (.ref 0), some (.int (nI j0))] [] h (CK h bk dr s "java/lang/IndexOutOfBoundsException" "" 0 (gov s.2.2.1 s.2.2.2 j0)) := by
  have c1 := c.poll
  have cb := c.book
  obtain ⟨jf, lj, fo, le, u0, u1, u2, u3, u4, u5, u6, u7, u8, u9⟩ := id c.2.2.2.2.1
  have l1 := hb.1
  have l2 := hb.2.1
  have l3 := hb.2.2.1
  refine tX10_hasMajority_0  (r := ?_)
  refine tX10_hasMajority_1  (r := ?_)
  refine tX10_hasMajority_2 (hd := (by omega)) (ha := (by first | assumption | (repeat (first | assumption | exact At.set_eq2 (by first | omega | (simp only [hset, hnew]; omega) | rfl | decide) | exact At.new_eq2 _ _ (by first | omega | (simp only [hset, hnew]; omega) | rfl | decide) | refine At.set_ne ?_ (by first | omega | (simp only [hset, hnew]; omega) | rfl | decide) | refine At.new_ne ?_)))) (call := s_checkLabel_ok (d := 6) (QX := fun _ _ => False) c hb q0) (kx := fun E_ h_ hx_ => by exact hx_.elim) (k := ?_)
  intro h_ e0
  rw [e0]
  refine tX10_hasMajority_5  (r := ?_)
  refine tX10_hasMajority_6 (ha := (by first | assumption | (repeat (first | assumption | exact At.set_eq2 (by first | omega | (simp only [hset, hnew]; omega) | rfl | decide) | exact At.new_eq2 _ _ (by first | omega | (simp only [hset, hnew]; omega) | rfl | decide) | refine At.set_ne ?_ (by first | omega | (simp only [hset, hnew]; omega) | rfl | decide) | refine At.new_ne ?_)))) (hv := rfl) (r := ?_)
  refine tX10_hasMajority_9  (r := ?_)
  refine tX10_hasMajority_10 (hd := (by omega)) (ha := (by first | assumption | (repeat (first | assumption | exact At.set_eq2 (by first | omega | (simp only [hset, hnew]; omega) | rfl | decide) | exact At.new_eq2 _ _ (by first | omega | (simp only [hset, hnew]; omega) | rfl | decide) | refine At.set_ne ?_ (by first | omega | (simp only [hset, hnew]; omega) | rfl | decide) | refine At.new_ne ?_)))) (call := s_governs (d := 5) (by decide) hb (show j0 < 6 by omega) c.2.2.2.2.1) (k := ?_)
  rintro v h1 ⟨rfl, cu, sm⟩
  have cl := c.now cu sm (by omega) (by omega)
  have chh : Ch h h1 0 216 0 0 := sm.ch (Nat.zero_le _) (by omega)
  refine tX10_hasMajority_13 (hb := (by unfold gov; split; exact Or.inr rfl; exact Or.inl rfl)) (hP := ?_)
  exact ck_val cl chh

end SG
