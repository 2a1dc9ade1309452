/-! calls that throw for an index out of range: the class's, the reference's -/
section NO
variable {G : GT} {d : Nat} {h : AH} {bk dr : Nat} {s : ST}
theorem ck_throw {k t : Nat} {E E1 E2 : String} {V : Int32} (c : ClR h 0 bk dr s) (hh : 216 ≤ h.1) (e : (t = 1 ∧ E = E1) ∨ (t = 2 ∧ E2 ≠ "" ∧ E = E2)) : CK h bk dr s E1 E2 t V (.inr E) (hnew h 6 (.inr (k, []))) := by
  have ht : 1 ≤ t := by rcases e with ⟨e1, -⟩ | ⟨e1, -, -⟩ <;> omega
  refine ⟨?_, c.keep (Nat.le_succ _) (Un.new (Un.rf _ _ _) (by omega)), ((Ch.rf h 0 216 0 0).new (Nat.zero_le _)).sub (Nat.le_refl _) (Nat.le_refl _) (by omega) (by omega)⟩
  rcases e with ⟨e1, e2⟩ | ⟨e1, e3, e2⟩
  · exact Or.inr (Or.inl ⟨e1, e2 ▸ rfl⟩)
  · exact Or.inr (Or.inr ⟨e1, e3, e2 ▸ rfl⟩)
theorem ck_val {E1 E2 : String} {V : Int32} {h1 : AH} {s' : ST} {bk' dr' : Nat} (c : ClR h1 0 bk' dr' s') (ch : Ch h h1 0 216 0 0) : CK h bk' dr' s' E1 E2 0 V (.inl (some (.int V))) h1 := ⟨Or.inl ⟨rfl, rfl⟩, c, ch⟩

set_option maxHeartbeats 4000000 in
set_option maxRecDepth 100000 in
theorem k_beansIn_no1 (hd : 7 ≤ d) (c : ClR h 0 bk dr s) (hb : BDok s.2.2.1 s.2.2.2) (hh : 216 ≤ h.1) {a0 a1 : Int32} {V : Int32} (bad : a0 < 0 ∨ nI (bJa s.2.2.1) ≤ a0) : RQ G mX10_beansIn d 0 [some (.ref 0), some (.int (a0)), some (.int (a1))] [] h (CK h bk dr s "java/lang/IndexOutOfBoundsException" "" 1 V) := by
  have c1 := c.poll
  refine tX10_beansIn_0  (r := ?_)
  refine tX10_beansIn_1  (r := ?_)
  refine tX10_beansIn_2 (hd := (by omega)) (ha := (by first | assumption | (repeat (first | assumption | exact At.set_eq2 (by first | omega | (simp only [hset, hnew]; omega) | rfl | decide) | exact At.new_eq2 _ _ (by first | omega | (simp only [hset, hnew]; omega) | rfl | decide) | refine At.set_ne ?_ (by first | omega | (simp only [hset, hnew]; omega) | rfl | decide) | refine At.new_ne ?_)))) (call := s_checkJar_no (d := 6) (by decide) c bad) (kx := fun E_ h_ hx_ => by obtain ⟨rfl, rfl⟩ := hx_; exact ck_throw c hh (Or.inl ⟨rfl, rfl⟩)) (k := ?_)
  intro h_ e_
  exact e_.elim

set_option maxHeartbeats 4000000 in
set_option maxRecDepth 100000 in
theorem k_beansIn_no2 (hd : 7 ≤ d) (c : ClR h 0 bk dr s) (hb : BDok s.2.2.1 s.2.2.2) (hh : 216 ≤ h.1) {j0 : Nat} (q0 : j0 < bJa s.2.2.1) {a1 : Int32} {V : Int32} (bad : a1 < 0 ∨ nI (bLa s.2.2.1) ≤ a1) : RQ G mX10_beansIn d 0 [some (.ref 0), some (.int (nI j0)), some (.int (a1))] [] h (CK h bk dr s "java/lang/IndexOutOfBoundsException" "" 1 V) := by
  have c1 := c.poll
  refine tX10_beansIn_0  (r := ?_)
  refine tX10_beansIn_1  (r := ?_)
  refine tX10_beansIn_2 (hd := (by omega)) (ha := (by first | assumption | (repeat (first | assumption | exact At.set_eq2 (by first | omega | (simp only [hset, hnew]; omega) | rfl | decide) | exact At.new_eq2 _ _ (by first | omega | (simp only [hset, hnew]; omega) | rfl | decide) | refine At.set_ne ?_ (by first | omega | (simp only [hset, hnew]; omega) | rfl | decide) | refine At.new_ne ?_)))) (call := s_checkJar_ok (d := 6) (QX := fun _ _ => False) c hb q0) (kx := fun E_ h_ hx_ => by exact hx_.elim) (k := ?_)
  intro h_ e0
  rw [e0]
  refine tX10_beansIn_5  (r := ?_)
  refine tX10_beansIn_6  (r := ?_)
  refine tX10_beansIn_7 (hd := (by omega)) (ha := (by first | assumption | (repeat (first | assumption | exact At.set_eq2 (by first | omega | (simp only [hset, hnew]; omega) | rfl | decide) | exact At.new_eq2 _ _ (by first | omega | (simp only [hset, hnew]; omega) | rfl | decide) | refine At.set_ne ?_ (by first | omega | (simp only [hset, hnew]; omega) | rfl | decide) | refine At.new_ne ?_)))) (call := s_checkLabel_no (d := 6) (by decide) c bad) (kx := fun E_ h_ hx_ => by obtain ⟨rfl, rfl⟩ := hx_; exact ck_throw c hh (Or.inl ⟨rfl, rfl⟩)) (k := ?_)
  intro h_ e_
  exact e_.elim

set_option maxHeartbeats 4000000 in
set_option maxRecDepth 100000 in
theorem m_beansIn_no1 (hd : 2 ≤ d) (m1 : MoR h 216 s) (t1 : ToR h 216 s.2.2.1) (hb : BDok s.2.2.1 s.2.2.2) {a0 a1 : Int32} (bad : a0 < 0 ∨ nI (bJa s.2.2.1) ≤ a0) : RQ G mX12_beansIn d 0 [some (.ref 216), some (.int (a0)), some (.int (a1))] [] h (MK h s 1 (nI 0)) := by
  obtain ⟨th, c⟩ := MoT.ofR m1 t1
  refine b_beansIn c (fun h2 c2 ch2 => ?_)
  obtain ⟨⟨tk, iw, er, et, dp, nm, am⟩, -⟩ := id c2
  refine tX12_beansIn_5  (r := ?_)
  refine tX12_beansIn_6  (r := ?_)
  refine tX12_beansIn_7 (hd := (by omega)) (ha := (by first | assumption | (repeat (first | assumption | exact At.set_eq2 (by first | omega | (simp only [hset, hnew]; omega) | rfl | decide) | exact At.new_eq2 _ _ (by first | omega | (simp only [hset, hnew]; omega) | rfl | decide) | refine At.set_ne ?_ (by first | omega | (simp only [hset, hnew]; omega) | rfl | decide) | refine At.new_ne ?_)))) (call := s_isJar_no (d := 1) (by decide) c2 hb bad) (k := ?_)
  rintro v0 h_ ⟨rfl, e0⟩
  rw [e0]
  refine tX12_beansIn_10  (kf := fun c_ => by exfalso; exact c_ (by decide)) (kt := fun _ => ?_)
  refine tX12_beansIn_30  (r := ?_)
  refine tX12_beansIn_31  (r := ?_)
  refine tX12_beansIn_32 (hd := (by omega)) (ha := (by first | assumption | (repeat (first | assumption | exact At.set_eq2 (by first | omega | (simp only [hset, hnew]; omega) | rfl | decide) | exact At.new_eq2 _ _ (by first | omega | (simp only [hset, hnew]; omega) | rfl | decide) | refine At.set_ne ?_ (by first | omega | (simp only [hset, hnew]; omega) | rfl | decide) | refine At.new_ne ?_)))) (call := s_no (d := 1) c2) (k := ?_)
  rintro vv h3 ⟨rfl, c3, ch3⟩
  refine tX12_beansIn_35  (hP := ?_)
  exact MK.of c3 ((ch2.trans ch3).sub (Nat.le_refl _) (Nat.le_refl _) (by decide) (by decide))

set_option maxHeartbeats 4000000 in
set_option maxRecDepth 100000 in
theorem m_beansIn_no2 (hd : 2 ≤ d) (m1 : MoR h 216 s) (t1 : ToR h 216 s.2.2.1) (hb : BDok s.2.2.1 s.2.2.2) {j0 : Nat} (q0 : j0 < bJa s.2.2.1) {a1 : Int32} (bad : a1 < 0 ∨ nI (bLa s.2.2.1) ≤ a1) : RQ G mX12_beansIn d 0 [some (.ref 216), some (.int (nI j0)), some (.int (a1))] [] h (MK h s 1 (nI 0)) := by
  obtain ⟨th, c⟩ := MoT.ofR m1 t1
  refine b_beansIn c (fun h2 c2 ch2 => ?_)
  obtain ⟨⟨tk, iw, er, et, dp, nm, am⟩, -⟩ := id c2
  refine tX12_beansIn_5  (r := ?_)
  refine tX12_beansIn_6  (r := ?_)
  refine tX12_beansIn_7 (hd := (by omega)) (ha := (by first | assumption | (repeat (first | assumption | exact At.set_eq2 (by first | omega | (simp only [hset, hnew]; omega) | rfl | decide) | exact At.new_eq2 _ _ (by first | omega | (simp only [hset, hnew]; omega) | rfl | decide) | refine At.set_ne ?_ (by first | omega | (simp only [hset, hnew]; omega) | rfl | decide) | refine At.new_ne ?_)))) (call := s_isJar_ok (d := 1) (by decide) c2 hb q0) (k := ?_)
  rintro v0 h_ ⟨rfl, e0⟩
  rw [e0]
  refine tX12_beansIn_10  (kt := fun c_ => by exfalso; exact absurd c_ (by decide)) (kf := fun _ => ?_)
  refine tX12_beansIn_13  (r := ?_)
  refine tX12_beansIn_14  (r := ?_)
  refine tX12_beansIn_15 (hd := (by omega)) (ha := (by first | assumption | (repeat (first | assumption | exact At.set_eq2 (by first | omega | (simp only [hset, hnew]; omega) | rfl | decide) | exact At.new_eq2 _ _ (by first | omega | (simp only [hset, hnew]; omega) | rfl | decide) | refine At.set_ne ?_ (by first | omega | (simp only [hset, hnew]; omega) | rfl | decide) | refine At.new_ne ?_)))) (call := s_isLabel_no (d := 1) (by decide) c2 hb bad) (k := ?_)
  rintro v1 h_ ⟨rfl, e1⟩
  rw [e1]
  refine tX12_beansIn_18  (kf := fun c_ => by exfalso; exact c_ (by decide)) (kt := fun _ => ?_)
  refine tX12_beansIn_30  (r := ?_)
  refine tX12_beansIn_31  (r := ?_)
  refine tX12_beansIn_32 (hd := (by omega)) (ha := (by first | assumption | (repeat (first | assumption | exact At.set_eq2 (by first | omega | (simp only [hset, hnew]; omega) | rfl | decide) | exact At.new_eq2 _ _ (by first | omega | (simp only [hset, hnew]; omega) | rfl | decide) | refine At.set_ne ?_ (by first | omega | (simp only [hset, hnew]; omega) | rfl | decide) | refine At.new_ne ?_)))) (call := s_no (d := 1) c2) (k := ?_)
  rintro vv h3 ⟨rfl, c3, ch3⟩
  refine tX12_beansIn_35  (hP := ?_)
  exact MK.of c3 ((ch2.trans ch3).sub (Nat.le_refl _) (Nat.le_refl _) (by decide) (by decide))

set_option maxHeartbeats 4000000 in
set_option maxRecDepth 100000 in
theorem k_beansOf_no1 (hd : 7 ≤ d) (c : ClR h 0 bk dr s) (hb : BDok s.2.2.1 s.2.2.2) (hh : 216 ≤ h.1) {a0 : Int32} {V : Int32} (bad : a0 < 0 ∨ nI (bLa s.2.2.1) ≤ a0) : RQ G mX10_beansOf d 0 [some (.ref 0), some (.int (a0)), none, none] [] h (CK h bk dr s "java/lang/IndexOutOfBoundsException" "" 1 V) := by
  have c1 := c.poll
  refine tX10_beansOf_0  (r := ?_)
  refine tX10_beansOf_1  (r := ?_)
  refine tX10_beansOf_2 (hd := (by omega)) (ha := (by first | assumption | (repeat (first | assumption | exact At.set_eq2 (by first | omega | (simp only [hset, hnew]; omega) | rfl | decide) | exact At.new_eq2 _ _ (by first | omega | (simp only [hset, hnew]; omega) | rfl | decide) | refine At.set_ne ?_ (by first | omega | (simp only [hset, hnew]; omega) | rfl | decide) | refine At.new_ne ?_)))) (call := s_checkLabel_no (d := 6) (by decide) c bad) (kx := fun E_ h_ hx_ => by obtain ⟨rfl, rfl⟩ := hx_; exact ck_throw c hh (Or.inl ⟨rfl, rfl⟩)) (k := ?_)
  intro h_ e_
  exact e_.elim

set_option maxHeartbeats 4000000 in
set_option maxRecDepth 100000 in
theorem m_beansOf_no1 (hd : 2 ≤ d) (m1 : MoR h 216 s) (t1 : ToR h 216 s.2.2.1) (hb : BDok s.2.2.1 s.2.2.2) {a0 : Int32} (bad : a0 < 0 ∨ nI (bLa s.2.2.1) ≤ a0) : RQ G mX12_beansOf d 0 [some (.ref 216), some (.int (a0))] [] h (MK h s 1 (nI 0)) := by
  obtain ⟨th, c⟩ := MoT.ofR m1 t1
  refine b_beansOf c (fun h2 c2 ch2 => ?_)
  obtain ⟨⟨tk, iw, er, et, dp, nm, am⟩, -⟩ := id c2
  refine tX12_beansOf_5  (r := ?_)
  refine tX12_beansOf_6  (r := ?_)
  refine tX12_beansOf_7 (hd := (by omega)) (ha := (by first | assumption | (repeat (first | assumption | exact At.set_eq2 (by first | omega | (simp only [hset, hnew]; omega) | rfl | decide) | exact At.new_eq2 _ _ (by first | omega | (simp only [hset, hnew]; omega) | rfl | decide) | refine At.set_ne ?_ (by first | omega | (simp only [hset, hnew]; omega) | rfl | decide) | refine At.new_ne ?_)))) (call := s_isLabel_no (d := 1) (by decide) c2 hb bad) (k := ?_)
  rintro v0 h_ ⟨rfl, e0⟩
  rw [e0]
  refine tX12_beansOf_10  (kf := fun c_ => by exfalso; exact c_ (by decide)) (kt := fun _ => ?_)
  refine tX12_beansOf_21  (r := ?_)
  refine tX12_beansOf_22  (r := ?_)
  refine tX12_beansOf_23 (hd := (by omega)) (ha := (by first | assumption | (repeat (first | assumption | exact At.set_eq2 (by first | omega | (simp only [hset, hnew]; omega) | rfl | decide) | exact At.new_eq2 _ _ (by first | omega | (simp only [hset, hnew]; omega) | rfl | decide) | refine At.set_ne ?_ (by first | omega | (simp only [hset, hnew]; omega) | rfl | decide) | refine At.new_ne ?_)))) (call := s_no (d := 1) c2) (k := ?_)
  rintro vv h3 ⟨rfl, c3, ch3⟩
  refine tX12_beansOf_26  (hP := ?_)
  exact MK.of c3 ((ch2.trans ch3).sub (Nat.le_refl _) (Nat.le_refl _) (by decide) (by decide))

set_option maxHeartbeats 4000000 in
set_option maxRecDepth 100000 in
theorem k_turnout_no1 (hd : 7 ≤ d) (c : ClR h 0 bk dr s) (hb : BDok s.2.2.1 s.2.2.2) (hh : 216 ≤ h.1) {a0 : Int32} {V : Int32} (bad : a0 < 0 ∨ nI (bJa s.2.2.1) ≤ a0) : RQ G mX10_turnout d 0 [some (.ref 0), some (.int (a0))] [] h (CK h bk dr s "java/lang/IndexOutOfBoundsException" "" 1 V) := by
  have c1 := c.poll
  refine tX10_turnout_0  (r := ?_)
  refine tX10_turnout_1  (r := ?_)
  refine tX10_turnout_2 (hd := (by omega)) (ha := (by first | assumption | (repeat (first | assumption | exact At.set_eq2 (by first | omega | (simp only [hset, hnew]; omega) | rfl | decide) | exact At.new_eq2 _ _ (by first | omega | (simp only [hset, hnew]; omega) | rfl | decide) | refine At.set_ne ?_ (by first | omega | (simp only [hset, hnew]; omega) | rfl | decide) | refine At.new_ne ?_)))) (call := s_checkJar_no (d := 6) (by decide) c bad) (kx := fun E_ h_ hx_ => by obtain ⟨rfl, rfl⟩ := hx_; exact ck_throw c hh (Or.inl ⟨rfl, rfl⟩)) (k := ?_)
  intro h_ e_
  exact e_.elim

set_option maxHeartbeats 4000000 in
set_option maxRecDepth 100000 in
theorem m_turnout_no1 (hd : 2 ≤ d) (m1 : MoR h 216 s) (t1 : ToR h 216 s.2.2.1) (hb : BDok s.2.2.1 s.2.2.2) {a0 : Int32} (bad : a0 < 0 ∨ nI (bJa s.2.2.1) ≤ a0) : RQ G mX12_turnout d 0 [some (.ref 216), some (.int (a0))] [] h (MK h s 1 (nI 0)) := by
  obtain ⟨th, c⟩ := MoT.ofR m1 t1
  refine b_turnout c (fun h2 c2 ch2 => ?_)
  obtain ⟨⟨tk, iw, er, et, dp, nm, am⟩, -⟩ := id c2
  refine tX12_turnout_5  (r := ?_)
  refine tX12_turnout_6  (r := ?_)
  refine tX12_turnout_7 (hd := (by omega)) (ha := (by first | assumption | (repeat (first | assumption | exact At.set_eq2 (by first | omega | (simp only [hset, hnew]; omega) | rfl | decide) | exact At.new_eq2 _ _ (by first | omega | (simp only [hset, hnew]; omega) | rfl | decide) | refine At.set_ne ?_ (by first | omega | (simp only [hset, hnew]; omega) | rfl | decide) | refine At.new_ne ?_)))) (call := s_isJar_no (d := 1) (by decide) c2 hb bad) (k := ?_)
  rintro v0 h_ ⟨rfl, e0⟩
  rw [e0]
  refine tX12_turnout_10  (kf := fun c_ => by exfalso; exact c_ (by decide)) (kt := fun _ => ?_)
  refine tX12_turnout_21  (r := ?_)
  refine tX12_turnout_22  (r := ?_)
  refine tX12_turnout_23 (hd := (by omega)) (ha := (by first | assumption | (repeat (first | assumption | exact At.set_eq2 (by first | omega | (simp only [hset, hnew]; omega) | rfl | decide) | exact At.new_eq2 _ _ (by first | omega | (simp only [hset, hnew]; omega) | rfl | decide) | refine At.set_ne ?_ (by first | omega | (simp only [hset, hnew]; omega) | rfl | decide) | refine At.new_ne ?_)))) (call := s_no (d := 1) c2) (k := ?_)
  rintro vv h3 ⟨rfl, c3, ch3⟩
  refine tX12_turnout_26  (hP := ?_)
  exact MK.of c3 ((ch2.trans ch3).sub (Nat.le_refl _) (Nat.le_refl _) (by decide) (by decide))

set_option maxHeartbeats 4000000 in
set_option maxRecDepth 100000 in
theorem k_seatsOf_no1 (hd : 7 ≤ d) (c : ClR h 0 bk dr s) (hb : BDok s.2.2.1 s.2.2.2) (hh : 216 ≤ h.1) {a0 : Int32} {V : Int32} (bad : a0 < 0 ∨ nI (bJa s.2.2.1) ≤ a0) : RQ G mX10_seatsOf d 0 [some (.ref 0), some (.int (a0))] [] h (CK h bk dr s "java/lang/IndexOutOfBoundsException" "" 1 V) := by
  have c1 := c.poll
  refine tX10_seatsOf_0  (r := ?_)
  refine tX10_seatsOf_1  (r := ?_)
  refine tX10_seatsOf_2 (hd := (by omega)) (ha := (by first | assumption | (repeat (first | assumption | exact At.set_eq2 (by first | omega | (simp only [hset, hnew]; omega) | rfl | decide) | exact At.new_eq2 _ _ (by first | omega | (simp only [hset, hnew]; omega) | rfl | decide) | refine At.set_ne ?_ (by first | omega | (simp only [hset, hnew]; omega) | rfl | decide) | refine At.new_ne ?_)))) (call := s_checkJar_no (d := 6) (by decide) c bad) (kx := fun E_ h_ hx_ => by obtain ⟨rfl, rfl⟩ := hx_; exact ck_throw c hh (Or.inl ⟨rfl, rfl⟩)) (k := ?_)
  intro h_ e_
  exact e_.elim

set_option maxHeartbeats 4000000 in
set_option maxRecDepth 100000 in
theorem m_seatsOf_no1 (hd : 2 ≤ d) (m1 : MoR h 216 s) (t1 : ToR h 216 s.2.2.1) (hb : BDok s.2.2.1 s.2.2.2) {a0 : Int32} (bad : a0 < 0 ∨ nI (bJa s.2.2.1) ≤ a0) : RQ G mX12_seatsOf d 0 [some (.ref 216), some (.int (a0))] [] h (MK h s 1 (nI 0)) := by
  obtain ⟨th, c⟩ := MoT.ofR m1 t1
  refine b_seatsOf c (fun h2 c2 ch2 => ?_)
  obtain ⟨⟨tk, iw, er, et, dp, nm, am⟩, -⟩ := id c2
  refine tX12_seatsOf_5  (r := ?_)
  refine tX12_seatsOf_6  (r := ?_)
  refine tX12_seatsOf_7 (hd := (by omega)) (ha := (by first | assumption | (repeat (first | assumption | exact At.set_eq2 (by first | omega | (simp only [hset, hnew]; omega) | rfl | decide) | exact At.new_eq2 _ _ (by first | omega | (simp only [hset, hnew]; omega) | rfl | decide) | refine At.set_ne ?_ (by first | omega | (simp only [hset, hnew]; omega) | rfl | decide) | refine At.new_ne ?_)))) (call := s_isJar_no (d := 1) (by decide) c2 hb bad) (k := ?_)
  rintro v0 h_ ⟨rfl, e0⟩
  rw [e0]
  refine tX12_seatsOf_10  (kf := fun c_ => by exfalso; exact c_ (by decide)) (kt := fun _ => ?_)
  refine tX12_seatsOf_25  (r := ?_)
  refine tX12_seatsOf_26  (r := ?_)
  refine tX12_seatsOf_27 (hd := (by omega)) (ha := (by first | assumption | (repeat (first | assumption | exact At.set_eq2 (by first | omega | (simp only [hset, hnew]; omega) | rfl | decide) | exact At.new_eq2 _ _ (by first | omega | (simp only [hset, hnew]; omega) | rfl | decide) | refine At.set_ne ?_ (by first | omega | (simp only [hset, hnew]; omega) | rfl | decide) | refine At.new_ne ?_)))) (call := s_no (d := 1) c2) (k := ?_)
  rintro vv h3 ⟨rfl, c3, ch3⟩
  refine tX12_seatsOf_30  (hP := ?_)
  exact MK.of c3 ((ch2.trans ch3).sub (Nat.le_refl _) (Nat.le_refl _) (by decide) (by decide))

set_option maxHeartbeats 4000000 in
set_option maxRecDepth 100000 in
theorem k_leaderOf_no1 (hd : 7 ≤ d) (c : ClR h 0 bk dr s) (hb : BDok s.2.2.1 s.2.2.2) (hh : 216 ≤ h.1) {a0 : Int32} {V : Int32} (bad : a0 < 0 ∨ nI (bLa s.2.2.1) ≤ a0) : RQ G mX10_leaderOf d 0 [some (.ref 0), some (.int (a0))] [] h (CK h bk dr s "java/lang/IndexOutOfBoundsException" "" 1 V) := by
  have c1 := c.poll
  refine tX10_leaderOf_0  (r := ?_)
  refine tX10_leaderOf_1  (r := ?_)
  refine tX10_leaderOf_2 (hd := (by omega)) (ha := (by first | assumption | (repeat (first | assumption | exact At.set_eq2 (by first | omega | (simp only [hset, hnew]; omega) | rfl | decide) | exact At.new_eq2 _ _ (by first | omega | (simp only [hset, hnew]; omega) | rfl | decide) | refine At.set_ne ?_ (by first | omega | (simp only [hset, hnew]; omega) | rfl | decide) | refine At.new_ne ?_)))) (call := s_checkLabel_no (d := 6) (by decide) c bad) (kx := fun E_ h_ hx_ => by obtain ⟨rfl, rfl⟩ := hx_; exact ck_throw c hh (Or.inl ⟨rfl, rfl⟩)) (k := ?_)
  intro h_ e_
  exact e_.elim

set_option maxHeartbeats 4000000 in
set_option maxRecDepth 100000 in
theorem m_leaderOf_no1 (hd : 2 ≤ d) (m1 : MoR h 216 s) (t1 : ToR h 216 s.2.2.1) (hb : BDok s.2.2.1 s.2.2.2) {a0 : Int32} (bad : a0 < 0 ∨ nI (bLa s.2.2.1) ≤ a0) : RQ G mX12_leaderOf d 0 [some (.ref 216), some (.int (a0))] [] h (MK h s 1 (nI 0)) := by
  obtain ⟨th, c⟩ := MoT.ofR m1 t1
  refine b_leaderOf c (fun h2 c2 ch2 => ?_)
  obtain ⟨⟨tk, iw, er, et, dp, nm, am⟩, -⟩ := id c2
  refine tX12_leaderOf_5  (r := ?_)
  refine tX12_leaderOf_6  (r := ?_)
  refine tX12_leaderOf_7 (hd := (by omega)) (ha := (by first | assumption | (repeat (first | assumption | exact At.set_eq2 (by first | omega | (simp only [hset, hnew]; omega) | rfl | decide) | exact At.new_eq2 _ _ (by first | omega | (simp only [hset, hnew]; omega) | rfl | decide) | refine At.set_ne ?_ (by first | omega | (simp only [hset, hnew]; omega) | rfl | decide) | refine At.new_ne ?_)))) (call := s_isLabel_no (d := 1) (by decide) c2 hb bad) (k := ?_)
  rintro v0 h_ ⟨rfl, e0⟩
  rw [e0]
  refine tX12_leaderOf_10  (kf := fun c_ => by exfalso; exact c_ (by decide)) (kt := fun _ => ?_)
  refine tX12_leaderOf_21  (r := ?_)
  refine tX12_leaderOf_22  (r := ?_)
  refine tX12_leaderOf_23 (hd := (by omega)) (ha := (by first | assumption | (repeat (first | assumption | exact At.set_eq2 (by first | omega | (simp only [hset, hnew]; omega) | rfl | decide) | exact At.new_eq2 _ _ (by first | omega | (simp only [hset, hnew]; omega) | rfl | decide) | refine At.set_ne ?_ (by first | omega | (simp only [hset, hnew]; omega) | rfl | decide) | refine At.new_ne ?_)))) (call := s_no (d := 1) c2) (k := ?_)
  rintro vv h3 ⟨rfl, c3, ch3⟩
  refine tX12_leaderOf_26  (hP := ?_)
  exact MK.of c3 ((ch2.trans ch3).sub (Nat.le_refl _) (Nat.le_refl _) (by decide) (by decide))

set_option maxHeartbeats 4000000 in
set_option maxRecDepth 100000 in
theorem k_areAllied_no1 (hd : 7 ≤ d) (c : ClR h 0 bk dr s) (hb : BDok s.2.2.1 s.2.2.2) (hh : 216 ≤ h.1) {a0 a1 : Int32} {V : Int32} (bad : a0 < 0 ∨ nI (bLa s.2.2.1) ≤ a0) : RQ G mX10_areAllied d 0 [some (.ref 0), some (.int (a0)), some (.int (a1))] [] h (CK h bk dr s "java/lang/IndexOutOfBoundsException" "" 1 V) := by
  have c1 := c.poll
  refine tX10_areAllied_0  (r := ?_)
  refine tX10_areAllied_1  (r := ?_)
  refine tX10_areAllied_2 (hd := (by omega)) (ha := (by first | assumption | (repeat (first | assumption | exact At.set_eq2 (by first | omega | (simp only [hset, hnew]; omega) | rfl | decide) | exact At.new_eq2 _ _ (by first | omega | (simp only [hset, hnew]; omega) | rfl | decide) | refine At.set_ne ?_ (by first | omega | (simp only [hset, hnew]; omega) | rfl | decide) | refine At.new_ne ?_)))) (call := s_checkLabel_no (d := 6) (by decide) c bad) (kx := fun E_ h_ hx_ => by obtain ⟨rfl, rfl⟩ := hx_; exact ck_throw c hh (Or.inl ⟨rfl, rfl⟩)) (k := ?_)
  intro h_ e_
  exact e_.elim

set_option maxHeartbeats 4000000 in
set_option maxRecDepth 100000 in
theorem k_areAllied_no2 (hd : 7 ≤ d) (c : ClR h 0 bk dr s) (hb : BDok s.2.2.1 s.2.2.2) (hh : 216 ≤ h.1) {j0 : Nat} (q0 : j0 < bLa s.2.2.1) {a1 : Int32} {V : Int32} (bad : a1 < 0 ∨ nI (bLa s.2.2.1) ≤ a1) : RQ G mX10_areAllied d 0 [some (.ref 0), some (.int (nI j0)), some (.int (a1))] [] h (CK h bk dr s "java/lang/IndexOutOfBoundsException" "" 1 V) := by
  have c1 := c.poll
  refine tX10_areAllied_0  (r := ?_)
  refine tX10_areAllied_1  (r := ?_)
  refine tX10_areAllied_2 (hd := (by omega)) (ha := (by first | assumption | (repeat (first | assumption | exact At.set_eq2 (by first | omega | (simp only [hset, hnew]; omega) | rfl | decide) | exact At.new_eq2 _ _ (by first | omega | (simp only [hset, hnew]; omega) | rfl | decide) | refine At.set_ne ?_ (by first | omega | (simp only [hset, hnew]; omega) | rfl | decide) | refine At.new_ne ?_)))) (call := s_checkLabel_ok (d := 6) (QX := fun _ _ => False) c hb q0) (kx := fun E_ h_ hx_ => by exact hx_.elim) (k := ?_)
  intro h_ e0
  rw [e0]
  refine tX10_areAllied_5  (r := ?_)
  refine tX10_areAllied_6  (r := ?_)
  refine tX10_areAllied_7 (hd := (by omega)) (ha := (by first | assumption | (repeat (first | assumption | exact At.set_eq2 (by first | omega | (simp only [hset, hnew]; omega) | rfl | decide) | exact At.new_eq2 _ _ (by first | omega | (simp only [hset, hnew]; omega) | rfl | decide) | refine At.set_ne ?_ (by first | omega | (simp only [hset, hnew]; omega) | rfl | decide) | refine At.new_ne ?_)))) (call := s_checkLabel_no (d := 6) (by decide) c bad) (kx := fun E_ h_ hx_ => by obtain ⟨rfl, rfl⟩ := hx_; exact ck_throw c hh (Or.inl ⟨rfl, rfl⟩)) (k := ?_)
  intro h_ e_
  exact e_.elim

set_option maxHeartbeats 4000000 in
set_option maxRecDepth 100000 in
theorem k_firstIn_no1 (hd : 7 ≤ d) (c : ClR h 0 bk dr s) (hb : BDok s.2.2.1 s.2.2.2) (hh : 216 ≤ h.1) {a0 : Int32} {V : Int32} (bad : a0 < 0 ∨ nI (bJa s.2.2.1) ≤ a0) : RQ G mX10_firstIn d 0 [some (.ref 0), some (.int (a0))] [] h (CK h bk dr s "java/lang/IndexOutOfBoundsException" "" 1 V) := by
  have c1 := c.poll
  refine tX10_firstIn_0  (r := ?_)
  refine tX10_firstIn_1  (r := ?_)
  refine tX10_firstIn_2 (hd := (by omega)) (ha := (by first | assumption | (repeat (first | assumption | exact At.set_eq2 (by first | omega | (simp only [hset, hnew]; omega) | rfl | decide) | exact At.new_eq2 _ _ (by first | omega | (simp only [hset, hnew]; omega) | rfl | decide) | refine At.set_ne ?_ (by first | omega | (simp only [hset, hnew]; omega) | rfl | decide) | refine At.new_ne ?_)))) (call := s_checkJar_no (d := 6) (by decide) c bad) (kx := fun E_ h_ hx_ => by obtain ⟨rfl, rfl⟩ := hx_; exact ck_throw c hh (Or.inl ⟨rfl, rfl⟩)) (k := ?_)
  intro h_ e_
  exact e_.elim

set_option maxHeartbeats 4000000 in
set_option maxRecDepth 100000 in
theorem m_firstIn_no1 (hd : 2 ≤ d) (m1 : MoR h 216 s) (t1 : ToR h 216 s.2.2.1) (hb : BDok s.2.2.1 s.2.2.2) {a0 : Int32} (bad : a0 < 0 ∨ nI (bJa s.2.2.1) ≤ a0) : RQ G mX12_firstIn d 0 [some (.ref 216), some (.int (a0))] [] h (MK h s 1 (nI 0)) := by
  obtain ⟨th, c⟩ := MoT.ofR m1 t1
  refine b_firstIn c (fun h2 c2 ch2 => ?_)
  obtain ⟨⟨tk, iw, er, et, dp, nm, am⟩, -⟩ := id c2
  refine tX12_firstIn_5  (r := ?_)
  refine tX12_firstIn_6  (r := ?_)
  refine tX12_firstIn_7 (hd := (by omega)) (ha := (by first | assumption | (repeat (first | assumption | exact At.set_eq2 (by first | omega | (simp only [hset, hnew]; omega) | rfl | decide) | exact At.new_eq2 _ _ (by first | omega | (simp only [hset, hnew]; omega) | rfl | decide) | refine At.set_ne ?_ (by first | omega | (simp only [hset, hnew]; omega) | rfl | decide) | refine At.new_ne ?_)))) (call := s_isJar_no (d := 1) (by decide) c2 hb bad) (k := ?_)
  rintro v0 h_ ⟨rfl, e0⟩
  rw [e0]
  refine tX12_firstIn_10  (kf := fun c_ => by exfalso; exact c_ (by decide)) (kt := fun _ => ?_)
  refine tX12_firstIn_21  (r := ?_)
  refine tX12_firstIn_22  (r := ?_)
  refine tX12_firstIn_23 (hd := (by omega)) (ha := (by first | assumption | (repeat (first | assumption | exact At.set_eq2 (by first | omega | (simp only [hset, hnew]; omega) | rfl | decide) | exact At.new_eq2 _ _ (by first | omega | (simp only [hset, hnew]; omega) | rfl | decide) | refine At.set_ne ?_ (by first | omega | (simp only [hset, hnew]; omega) | rfl | decide) | refine At.new_ne ?_)))) (call := s_no (d := 1) c2) (k := ?_)
  rintro vv h3 ⟨rfl, c3, ch3⟩
  refine tX12_firstIn_26  (hP := ?_)
  exact MK.of c3 ((ch2.trans ch3).sub (Nat.le_refl _) (Nat.le_refl _) (by decide) (by decide))

set_option maxHeartbeats 4000000 in
set_option maxRecDepth 100000 in
theorem k_marginIn_no1 (hd : 7 ≤ d) (c : ClR h 0 bk dr s) (hb : BDok s.2.2.1 s.2.2.2) (hh : 216 ≤ h.1) {a0 : Int32} {V : Int32} (bad : a0 < 0 ∨ nI (bJa s.2.2.1) ≤ a0) : RQ G mX10_marginIn d 0 [some (.ref 0), some (.int (a0))] [] h (CK h bk dr s "java/lang/IndexOutOfBoundsException" "" 1 V) := by
  have c1 := c.poll
  refine tX10_marginIn_0  (r := ?_)
  refine tX10_marginIn_1  (r := ?_)
  refine tX10_marginIn_2 (hd := (by omega)) (ha := (by first | assumption | (repeat (first | assumption | exact At.set_eq2 (by first | omega | (simp only [hset, hnew]; omega) | rfl | decide) | exact At.new_eq2 _ _ (by first | omega | (simp only [hset, hnew]; omega) | rfl | decide) | refine At.set_ne ?_ (by first | omega | (simp only [hset, hnew]; omega) | rfl | decide) | refine At.new_ne ?_)))) (call := s_checkJar_no (d := 6) (by decide) c bad) (kx := fun E_ h_ hx_ => by obtain ⟨rfl, rfl⟩ := hx_; exact ck_throw c hh (Or.inl ⟨rfl, rfl⟩)) (k := ?_)
  intro h_ e_
  exact e_.elim

set_option maxHeartbeats 4000000 in
set_option maxRecDepth 100000 in
theorem m_marginIn_no1 (hd : 2 ≤ d) (m1 : MoR h 216 s) (t1 : ToR h 216 s.2.2.1) (hb : BDok s.2.2.1 s.2.2.2) {a0 : Int32} (bad : a0 < 0 ∨ nI (bJa s.2.2.1) ≤ a0) : RQ G mX12_marginIn d 0 [some (.ref 216), some (.int (a0))] [] h (MK h s 1 (nI 0)) := by
  obtain ⟨th, c⟩ := MoT.ofR m1 t1
  refine b_marginIn c (fun h2 c2 ch2 => ?_)
  obtain ⟨⟨tk, iw, er, et, dp, nm, am⟩, -⟩ := id c2
  refine tX12_marginIn_5  (r := ?_)
  refine tX12_marginIn_6  (r := ?_)
  refine tX12_marginIn_7 (hd := (by omega)) (ha := (by first | assumption | (repeat (first | assumption | exact At.set_eq2 (by first | omega | (simp only [hset, hnew]; omega) | rfl | decide) | exact At.new_eq2 _ _ (by first | omega | (simp only [hset, hnew]; omega) | rfl | decide) | refine At.set_ne ?_ (by first | omega | (simp only [hset, hnew]; omega) | rfl | decide) | refine At.new_ne ?_)))) (call := s_isJar_no (d := 1) (by decide) c2 hb bad) (k := ?_)
  rintro v0 h_ ⟨rfl, e0⟩
  rw [e0]
  refine tX12_marginIn_10  (kf := fun c_ => by exfalso; exact c_ (by decide)) (kt := fun _ => ?_)
  refine tX12_marginIn_21  (r := ?_)
  refine tX12_marginIn_22  (r := ?_)
  refine tX12_marginIn_23 (hd := (by omega)) (ha := (by first | assumption | (repeat (first | assumption | exact At.set_eq2 (by first | omega | (simp only [hset, hnew]; omega) | rfl | decide) | exact At.new_eq2 _ _ (by first | omega | (simp only [hset, hnew]; omega) | rfl | decide) | refine At.set_ne ?_ (by first | omega | (simp only [hset, hnew]; omega) | rfl | decide) | refine At.new_ne ?_)))) (call := s_no (d := 1) c2) (k := ?_)
  rintro vv h3 ⟨rfl, c3, ch3⟩
  refine tX12_marginIn_26  (hP := ?_)
  exact MK.of c3 ((ch2.trans ch3).sub (Nat.le_refl _) (Nat.le_refl _) (by decide) (by decide))

set_option maxHeartbeats 4000000 in
set_option maxRecDepth 100000 in
theorem k_allianceBeans_no1 (hd : 7 ≤ d) (c : ClR h 0 bk dr s) (hb : BDok s.2.2.1 s.2.2.2) (hh : 216 ≤ h.1) {a0 a1 : Int32} {V : Int32} (bad : a0 < 0 ∨ nI (bJa s.2.2.1) ≤ a0) : RQ G mX10_allianceBeans d 0 [some (.ref 0), some (.int (a0)), some (.int (a1))] [] h (CK h bk dr s "java/lang/IndexOutOfBoundsException" "" 1 V) := by
  have c1 := c.poll
  refine tX10_allianceBeans_0  (r := ?_)
  refine tX10_allianceBeans_1  (r := ?_)
  refine tX10_allianceBeans_2 (hd := (by omega)) (ha := (by first | assumption | (repeat (first | assumption | exact At.set_eq2 (by first | omega | (simp only [hset, hnew]; omega) | rfl | decide) | exact At.new_eq2 _ _ (by first | omega | (simp only [hset, hnew]; omega) | rfl | decide) | refine At.set_ne ?_ (by first | omega | (simp only [hset, hnew]; omega) | rfl | decide) | refine At.new_ne ?_)))) (call := s_checkJar_no (d := 6) (by decide) c bad) (kx := fun E_ h_ hx_ => by obtain ⟨rfl, rfl⟩ := hx_; exact ck_throw c hh (Or.inl ⟨rfl, rfl⟩)) (k := ?_)
  intro h_ e_
  exact e_.elim

set_option maxHeartbeats 4000000 in
set_option maxRecDepth 100000 in
theorem k_allianceBeans_no2 (hd : 7 ≤ d) (c : ClR h 0 bk dr s) (hb : BDok s.2.2.1 s.2.2.2) (hh : 216 ≤ h.1) {j0 : Nat} (q0 : j0 < bJa s.2.2.1) {a1 : Int32} {V : Int32} (bad : a1 < 0 ∨ nI (bLa s.2.2.1) ≤ a1) : RQ G mX10_allianceBeans d 0 [some (.ref 0), some (.int (nI j0)), some (.int (a1))] [] h (CK h bk dr s "java/lang/IndexOutOfBoundsException" "" 1 V) := by
  have c1 := c.poll
  refine tX10_allianceBeans_0  (r := ?_)
  refine tX10_allianceBeans_1  (r := ?_)
  refine tX10_allianceBeans_2 (hd := (by omega)) (ha := (by first | assumption | (repeat (first | assumption | exact At.set_eq2 (by first | omega | (simp only [hset, hnew]; omega) | rfl | decide) | exact At.new_eq2 _ _ (by first | omega | (simp only [hset, hnew]; omega) | rfl | decide) | refine At.set_ne ?_ (by first | omega | (simp only [hset, hnew]; omega) | rfl | decide) | refine At.new_ne ?_)))) (call := s_checkJar_ok (d := 6) (QX := fun _ _ => False) c hb q0) (kx := fun E_ h_ hx_ => by exact hx_.elim) (k := ?_)
  intro h_ e0
  rw [e0]
  refine tX10_allianceBeans_5  (r := ?_)
  refine tX10_allianceBeans_6  (r := ?_)
  refine tX10_allianceBeans_7 (hd := (by omega)) (ha := (by first | assumption | (repeat (first | assumption | exact At.set_eq2 (by first | omega | (simp only [hset, hnew]; omega) | rfl | decide) | exact At.new_eq2 _ _ (by first | omega | (simp only [hset, hnew]; omega) | rfl | decide) | refine At.set_ne ?_ (by first | omega | (simp only [hset, hnew]; omega) | rfl | decide) | refine At.new_ne ?_)))) (call := s_checkLabel_no (d := 6) (by decide) c bad) (kx := fun E_ h_ hx_ => by obtain ⟨rfl, rfl⟩ := hx_; exact ck_throw c hh (Or.inl ⟨rfl, rfl⟩)) (k := ?_)
  intro h_ e_
  exact e_.elim

set_option maxHeartbeats 4000000 in
set_option maxRecDepth 100000 in
theorem m_allianceBeans_no1 (hd : 2 ≤ d) (m1 : MoR h 216 s) (t1 : ToR h 216 s.2.2.1) (hb : BDok s.2.2.1 s.2.2.2) {a0 a1 : Int32} (bad : a0 < 0 ∨ nI (bJa s.2.2.1) ≤ a0) : RQ G mX12_allianceBeans d 0 [some (.ref 216), some (.int (a0)), some (.int (a1))] [] h (MK h s 1 (nI 0)) := by
  obtain ⟨th, c⟩ := MoT.ofR m1 t1
  refine b_allianceBeans c (fun h2 c2 ch2 => ?_)
  obtain ⟨⟨tk, iw, er, et, dp, nm, am⟩, -⟩ := id c2
  refine tX12_allianceBeans_5  (r := ?_)
  refine tX12_allianceBeans_6  (r := ?_)
  refine tX12_allianceBeans_7 (hd := (by omega)) (ha := (by first | assumption | (repeat (first | assumption | exact At.set_eq2 (by first | omega | (simp only [hset, hnew]; omega) | rfl | decide) | exact At.new_eq2 _ _ (by first | omega | (simp only [hset, hnew]; omega) | rfl | decide) | refine At.set_ne ?_ (by first | omega | (simp only [hset, hnew]; omega) | rfl | decide) | refine At.new_ne ?_)))) (call := s_isJar_no (d := 1) (by decide) c2 hb bad) (k := ?_)
  rintro v0 h_ ⟨rfl, e0⟩
  rw [e0]
  refine tX12_allianceBeans_10  (kf := fun c_ => by exfalso; exact c_ (by decide)) (kt := fun _ => ?_)
  refine tX12_allianceBeans_21  (r := ?_)
  refine tX12_allianceBeans_22  (r := ?_)
  refine tX12_allianceBeans_23 (hd := (by omega)) (ha := (by first | assumption | (repeat (first | assumption | exact At.set_eq2 (by first | omega | (simp only [hset, hnew]; omega) | rfl | decide) | exact At.new_eq2 _ _ (by first | omega | (simp only [hset, hnew]; omega) | rfl | decide) | refine At.set_ne ?_ (by first | omega | (simp only [hset, hnew]; omega) | rfl | decide) | refine At.new_ne ?_)))) (call := s_no (d := 1) c2) (k := ?_)
  rintro vv h3 ⟨rfl, c3, ch3⟩
  refine tX12_allianceBeans_26  (hP := ?_)
  exact MK.of c3 ((ch2.trans ch3).sub (Nat.le_refl _) (Nat.le_refl _) (by decide) (by decide))

set_option maxHeartbeats 4000000 in
set_option maxRecDepth 100000 in
theorem m_allianceBeans_no2 (hd : 2 ≤ d) (m1 : MoR h 216 s) (t1 : ToR h 216 s.2.2.1) (hb : BDok s.2.2.1 s.2.2.2) {j0 : Nat} (q0 : j0 < bJa s.2.2.1) {a1 : Int32} (bad : a1 < 0 ∨ nI (bLa s.2.2.1) ≤ a1) : RQ G mX12_allianceBeans d 0 [some (.ref 216), some (.int (nI j0)), some (.int (a1))] [] h (MK h s 1 (nI 0)) := by
  obtain ⟨th, c⟩ := MoT.ofR m1 t1
  refine b_allianceBeans c (fun h2 c2 ch2 => ?_)
  obtain ⟨⟨tk, iw, er, et, dp, nm, am⟩, -⟩ := id c2
  refine tX12_allianceBeans_5  (r := ?_)
  refine tX12_allianceBeans_6  (r := ?_)
  refine tX12_allianceBeans_7 (hd := (by omega)) (ha := (by first | assumption | (repeat (first | assumption | exact At.set_eq2 (by first | omega | (simp only [hset, hnew]; omega) | rfl | decide) | exact At.new_eq2 _ _ (by first | omega | (simp only [hset, hnew]; omega) | rfl | decide) | refine At.set_ne ?_ (by first | omega | (simp only [hset, hnew]; omega) | rfl | decide) | refine At.new_ne ?_)))) (call := s_isJar_ok (d := 1) (by decide) c2 hb q0) (k := ?_)
  rintro v0 h_ ⟨rfl, e0⟩
  rw [e0]
  refine tX12_allianceBeans_10  (kt := fun c_ => by exfalso; exact absurd c_ (by decide)) (kf := fun _ => ?_)
  refine tX12_allianceBeans_13  (r := ?_)
  refine tX12_allianceBeans_14  (r := ?_)
  refine tX12_allianceBeans_15 (hd := (by omega)) (ha := (by first | assumption | (repeat (first | assumption | exact At.set_eq2 (by first | omega | (simp only [hset, hnew]; omega) | rfl | decide) | exact At.new_eq2 _ _ (by first | omega | (simp only [hset, hnew]; omega) | rfl | decide) | refine At.set_ne ?_ (by first | omega | (simp only [hset, hnew]; omega) | rfl | decide) | refine At.new_ne ?_)))) (call := s_isLabel_no (d := 1) (by decide) c2 hb bad) (k := ?_)
  rintro v1 h_ ⟨rfl, e1⟩
  rw [e1]
  refine tX12_allianceBeans_18  (kt := fun c_ => by exfalso; exact c_ (by decide)) (kf := fun _ => ?_)
  refine tX12_allianceBeans_21  (r := ?_)
  refine tX12_allianceBeans_22  (r := ?_)
  refine tX12_allianceBeans_23 (hd := (by omega)) (ha := (by first | assumption | (repeat (first | assumption | exact At.set_eq2 (by first | omega | (simp only [hset, hnew]; omega) | rfl | decide) | exact At.new_eq2 _ _ (by first | omega | (simp only [hset, hnew]; omega) | rfl | decide) | refine At.set_ne ?_ (by first | omega | (simp only [hset, hnew]; omega) | rfl | decide) | refine At.new_ne ?_)))) (call := s_no (d := 1) c2) (k := ?_)
  rintro vv h3 ⟨rfl, c3, ch3⟩
  refine tX12_allianceBeans_26  (hP := ?_)
  exact MK.of c3 ((ch2.trans ch3).sub (Nat.le_refl _) (Nat.le_refl _) (by decide) (by decide))

set_option maxHeartbeats 4000000 in
set_option maxRecDepth 100000 in
theorem k_seatsWon_no1 (hd : 7 ≤ d) (c : ClR h 0 bk dr s) (hb : BDok s.2.2.1 s.2.2.2) (hh : 216 ≤ h.1) {a0 a1 : Int32} {V : Int32} (bad : a0 < 0 ∨ nI (bJa s.2.2.1) ≤ a0) : RQ G mX10_seatsWon d 0 [some (.ref 0), some (.int (a0)), some (.int (a1))] [] h (CK h bk dr s "java/lang/IndexOutOfBoundsException" "" 1 V) := by
  have c1 := c.poll
  refine tX10_seatsWon_0  (r := ?_)
  refine tX10_seatsWon_1  (r := ?_)
  refine tX10_seatsWon_2 (hd := (by omega)) (ha := (by first | assumption | (repeat (first | assumption | exact At.set_eq2 (by first | omega | (simp only [hset, hnew]; omega) | rfl | decide) | exact At.new_eq2 _ _ (by first | omega | (simp only [hset, hnew]; omega) | rfl | decide) | refine At.set_ne ?_ (by first | omega | (simp only [hset, hnew]; omega) | rfl | decide) | refine At.new_ne ?_)))) (call := s_checkJar_no (d := 6) (by decide) c bad) (kx := fun E_ h_ hx_ => by obtain ⟨rfl, rfl⟩ := hx_; exact ck_throw c hh (Or.inl ⟨rfl, rfl⟩)) (k := ?_)
  intro h_ e_
  exact e_.elim

set_option maxHeartbeats 4000000 in
set_option maxRecDepth 100000 in
theorem k_seatsWon_no2 (hd : 7 ≤ d) (c : ClR h 0 bk dr s) (hb : BDok s.2.2.1 s.2.2.2) (hh : 216 ≤ h.1) {j0 : Nat} (q0 : j0 < bJa s.2.2.1) {a1 : Int32} {V : Int32} (bad : a1 < 0 ∨ nI (bLa s.2.2.1) ≤ a1) : RQ G mX10_seatsWon d 0 [some (.ref 0), some (.int (nI j0)), some (.int (a1))] [] h (CK h bk dr s "java/lang/IndexOutOfBoundsException" "" 1 V) := by
  have c1 := c.poll
  refine tX10_seatsWon_0  (r := ?_)
  refine tX10_seatsWon_1  (r := ?_)
  refine tX10_seatsWon_2 (hd := (by omega)) (ha := (by first | assumption | (repeat (first | assumption | exact At.set_eq2 (by first | omega | (simp only [hset, hnew]; omega) | rfl | decide) | exact At.new_eq2 _ _ (by first | omega | (simp only [hset, hnew]; omega) | rfl | decide) | refine At.set_ne ?_ (by first | omega | (simp only [hset, hnew]; omega) | rfl | decide) | refine At.new_ne ?_)))) (call := s_checkJar_ok (d := 6) (QX := fun _ _ => False) c hb q0) (kx := fun E_ h_ hx_ => by exact hx_.elim) (k := ?_)
  intro h_ e0
  rw [e0]
  refine tX10_seatsWon_5  (r := ?_)
  refine tX10_seatsWon_6  (r := ?_)
  refine tX10_seatsWon_7 (hd := (by omega)) (ha := (by first | assumption | (repeat (first | assumption | exact At.set_eq2 (by first | omega | (simp only [hset, hnew]; omega) | rfl | decide) | exact At.new_eq2 _ _ (by first | omega | (simp only [hset, hnew]; omega) | rfl | decide) | refine At.set_ne ?_ (by first | omega | (simp only [hset, hnew]; omega) | rfl | decide) | refine At.new_ne ?_)))) (call := s_checkLabel_no (d := 6) (by decide) c bad) (kx := fun E_ h_ hx_ => by obtain ⟨rfl, rfl⟩ := hx_; exact ck_throw c hh (Or.inl ⟨rfl, rfl⟩)) (k := ?_)
  intro h_ e_
  exact e_.elim

set_option maxHeartbeats 4000000 in
set_option maxRecDepth 100000 in
theorem m_seatsWon_no1 (hd : 2 ≤ d) (m1 : MoR h 216 s) (t1 : ToR h 216 s.2.2.1) (hb : BDok s.2.2.1 s.2.2.2) {a0 a1 : Int32} (bad : a0 < 0 ∨ nI (bJa s.2.2.1) ≤ a0) : RQ G mX12_seatsWon d 0 [some (.ref 216), some (.int (a0)), some (.int (a1))] [] h (MK h s 1 (nI 0)) := by
  obtain ⟨th, c⟩ := MoT.ofR m1 t1
  refine b_seatsWon c (fun h2 c2 ch2 => ?_)
  obtain ⟨⟨tk, iw, er, et, dp, nm, am⟩, -⟩ := id c2
  refine tX12_seatsWon_5  (r := ?_)
  refine tX12_seatsWon_6  (r := ?_)
  refine tX12_seatsWon_7 (hd := (by omega)) (ha := (by first | assumption | (repeat (first | assumption | exact At.set_eq2 (by first | omega | (simp only [hset, hnew]; omega) | rfl | decide) | exact At.new_eq2 _ _ (by first | omega | (simp only [hset, hnew]; omega) | rfl | decide) | refine At.set_ne ?_ (by first | omega | (simp only [hset, hnew]; omega) | rfl | decide) | refine At.new_ne ?_)))) (call := s_isJar_no (d := 1) (by decide) c2 hb bad) (k := ?_)
  rintro v0 h_ ⟨rfl, e0⟩
  rw [e0]
  refine tX12_seatsWon_10  (kf := fun c_ => by exfalso; exact c_ (by decide)) (kt := fun _ => ?_)
  refine tX12_seatsWon_30  (r := ?_)
  refine tX12_seatsWon_31  (r := ?_)
  refine tX12_seatsWon_32 (hd := (by omega)) (ha := (by first | assumption | (repeat (first | assumption | exact At.set_eq2 (by first | omega | (simp only [hset, hnew]; omega) | rfl | decide) | exact At.new_eq2 _ _ (by first | omega | (simp only [hset, hnew]; omega) | rfl | decide) | refine At.set_ne ?_ (by first | omega | (simp only [hset, hnew]; omega) | rfl | decide) | refine At.new_ne ?_)))) (call := s_no (d := 1) c2) (k := ?_)
  rintro vv h3 ⟨rfl, c3, ch3⟩
  refine tX12_seatsWon_35  (hP := ?_)
  exact MK.of c3 ((ch2.trans ch3).sub (Nat.le_refl _) (Nat.le_refl _) (by decide) (by decide))

set_option maxHeartbeats 4000000 in
set_option maxRecDepth 100000 in
theorem m_seatsWon_no2 (hd : 2 ≤ d) (m1 : MoR h 216 s) (t1 : ToR h 216 s.2.2.1) (hb : BDok s.2.2.1 s.2.2.2) {j0 : Nat} (q0 : j0 < bJa s.2.2.1) {a1 : Int32} (bad : a1 < 0 ∨ nI (bLa s.2.2.1) ≤ a1) : RQ G mX12_seatsWon d 0 [some (.ref 216), some (.int (nI j0)), some (.int (a1))] [] h (MK h s 1 (nI 0)) := by
  obtain ⟨th, c⟩ := MoT.ofR m1 t1
  refine b_seatsWon c (fun h2 c2 ch2 => ?_)
  obtain ⟨⟨tk, iw, er, et, dp, nm, am⟩, -⟩ := id c2
  refine tX12_seatsWon_5  (r := ?_)
  refine tX12_seatsWon_6  (r := ?_)
  refine tX12_seatsWon_7 (hd := (by omega)) (ha := (by first | assumption | (repeat (first | assumption | exact At.set_eq2 (by first | omega | (simp only [hset, hnew]; omega) | rfl | decide) | exact At.new_eq2 _ _ (by first | omega | (simp only [hset, hnew]; omega) | rfl | decide) | refine At.set_ne ?_ (by first | omega | (simp only [hset, hnew]; omega) | rfl | decide) | refine At.new_ne ?_)))) (call := s_isJar_ok (d := 1) (by decide) c2 hb q0) (k := ?_)
  rintro v0 h_ ⟨rfl, e0⟩
  rw [e0]
  refine tX12_seatsWon_10  (kt := fun c_ => by exfalso; exact absurd c_ (by decide)) (kf := fun _ => ?_)
  refine tX12_seatsWon_13  (r := ?_)
  refine tX12_seatsWon_14  (r := ?_)
  refine tX12_seatsWon_15 (hd := (by omega)) (ha := (by first | assumption | (repeat (first | assumption | exact At.set_eq2 (by first | omega | (simp only [hset, hnew]; omega) | rfl | decide) | exact At.new_eq2 _ _ (by first | omega | (simp only [hset, hnew]; omega) | rfl | decide) | refine At.set_ne ?_ (by first | omega | (simp only [hset, hnew]; omega) | rfl | decide) | refine At.new_ne ?_)))) (call := s_isLabel_no (d := 1) (by decide) c2 hb bad) (k := ?_)
  rintro v1 h_ ⟨rfl, e1⟩
  rw [e1]
  refine tX12_seatsWon_18  (kf := fun c_ => by exfalso; exact c_ (by decide)) (kt := fun _ => ?_)
  refine tX12_seatsWon_30  (r := ?_)
  refine tX12_seatsWon_31  (r := ?_)
  refine tX12_seatsWon_32 (hd := (by omega)) (ha := (by first | assumption | (repeat (first | assumption | exact At.set_eq2 (by first | omega | (simp only [hset, hnew]; omega) | rfl | decide) | exact At.new_eq2 _ _ (by first | omega | (simp only [hset, hnew]; omega) | rfl | decide) | refine At.set_ne ?_ (by first | omega | (simp only [hset, hnew]; omega) | rfl | decide) | refine At.new_ne ?_)))) (call := s_no (d := 1) c2) (k := ?_)
  rintro vv h3 ⟨rfl, c3, ch3⟩
  refine tX12_seatsWon_35  (hP := ?_)
  exact MK.of c3 ((ch2.trans ch3).sub (Nat.le_refl _) (Nat.le_refl _) (by decide) (by decide))

set_option maxHeartbeats 4000000 in
set_option maxRecDepth 100000 in
theorem k_emptySeats_no1 (hd : 7 ≤ d) (c : ClR h 0 bk dr s) (hb : BDok s.2.2.1 s.2.2.2) (hh : 216 ≤ h.1) {a0 : Int32} {V : Int32} (bad : a0 < 0 ∨ nI (bJa s.2.2.1) ≤ a0) : RQ G mX10_emptySeats d 0 [some (.ref 0), some (.int (a0))] [] h (CK h bk dr s "java/lang/IndexOutOfBoundsException" "" 1 V) := by
  have c1 := c.poll
  refine tX10_emptySeats_0  (r := ?_)
  refine tX10_emptySeats_1  (r := ?_)
  refine tX10_emptySeats_2 (hd := (by omega)) (ha := (by first | assumption | (repeat (first | assumption | exact At.set_eq2 (by first | omega | (simp only [hset, hnew]; omega) | rfl | decide) | exact At.new_eq2 _ _ (by first | omega | (simp only [hset, hnew]; omega) | rfl | decide) | refine At.set_ne ?_ (by first | omega | (simp only [hset, hnew]; omega) | rfl | decide) | refine At.new_ne ?_)))) (call := s_checkJar_no (d := 6) (by decide) c bad) (kx := fun E_ h_ hx_ => by obtain ⟨rfl, rfl⟩ := hx_; exact ck_throw c hh (Or.inl ⟨rfl, rfl⟩)) (k := ?_)
  intro h_ e_
  exact e_.elim

set_option maxHeartbeats 4000000 in
set_option maxRecDepth 100000 in
theorem m_emptySeats_no1 (hd : 2 ≤ d) (m1 : MoR h 216 s) (t1 : ToR h 216 s.2.2.1) (hb : BDok s.2.2.1 s.2.2.2) {a0 : Int32} (bad : a0 < 0 ∨ nI (bJa s.2.2.1) ≤ a0) : RQ G mX12_emptySeats d 0 [some (.ref 216), some (.int (a0))] [] h (MK h s 1 (nI 0)) := by
  obtain ⟨th, c⟩ := MoT.ofR m1 t1
  refine b_emptySeats c (fun h2 c2 ch2 => ?_)
  obtain ⟨⟨tk, iw, er, et, dp, nm, am⟩, -⟩ := id c2
  refine tX12_emptySeats_5  (r := ?_)
  refine tX12_emptySeats_6  (r := ?_)
  refine tX12_emptySeats_7 (hd := (by omega)) (ha := (by first | assumption | (repeat (first | assumption | exact At.set_eq2 (by first | omega | (simp only [hset, hnew]; omega) | rfl | decide) | exact At.new_eq2 _ _ (by first | omega | (simp only [hset, hnew]; omega) | rfl | decide) | refine At.set_ne ?_ (by first | omega | (simp only [hset, hnew]; omega) | rfl | decide) | refine At.new_ne ?_)))) (call := s_isJar_no (d := 1) (by decide) c2 hb bad) (k := ?_)
  rintro v0 h_ ⟨rfl, e0⟩
  rw [e0]
  refine tX12_emptySeats_10  (kf := fun c_ => by exfalso; exact c_ (by decide)) (kt := fun _ => ?_)
  refine tX12_emptySeats_21  (r := ?_)
  refine tX12_emptySeats_22  (r := ?_)
  refine tX12_emptySeats_23 (hd := (by omega)) (ha := (by first | assumption | (repeat (first | assumption | exact At.set_eq2 (by first | omega | (simp only [hset, hnew]; omega) | rfl | decide) | exact At.new_eq2 _ _ (by first | omega | (simp only [hset, hnew]; omega) | rfl | decide) | refine At.set_ne ?_ (by first | omega | (simp only [hset, hnew]; omega) | rfl | decide) | refine At.new_ne ?_)))) (call := s_no (d := 1) c2) (k := ?_)
  rintro vv h3 ⟨rfl, c3, ch3⟩
  refine tX12_emptySeats_26  (hP := ?_)
  exact MK.of c3 ((ch2.trans ch3).sub (Nat.le_refl _) (Nat.le_refl _) (by decide) (by decide))

set_option maxHeartbeats 4000000 in
set_option maxRecDepth 100000 in
theorem k_seatsInAll_no1 (hd : 7 ≤ d) (c : ClR h 0 bk dr s) (hb : BDok s.2.2.1 s.2.2.2) (hh : 216 ≤ h.1) {a0 : Int32} {V : Int32} (bad : a0 < 0 ∨ nI (bLa s.2.2.1) ≤ a0) : RQ G mX10_seatsInAll d 0 [some (.ref 0), some (.int (a0))] [] h (CK h bk dr s "java/lang/IndexOutOfBoundsException" "" 1 V) := by
  have c1 := c.poll
  refine tX10_seatsInAll_0  (r := ?_)
  refine tX10_seatsInAll_1  (r := ?_)
  refine tX10_seatsInAll_2 (hd := (by omega)) (ha := (by first | assumption | (repeat (first | assumption | exact At.set_eq2 (by first | omega | (simp only [hset, hnew]; omega) | rfl | decide) | exact At.new_eq2 _ _ (by first | omega | (simp only [hset, hnew]; omega) | rfl | decide) | refine At.set_ne ?_ (by first | omega | (simp only [hset, hnew]; omega) | rfl | decide) | refine At.new_ne ?_)))) (call := s_checkLabel_no (d := 6) (by decide) c bad) (kx := fun E_ h_ hx_ => by obtain ⟨rfl, rfl⟩ := hx_; exact ck_throw c hh (Or.inl ⟨rfl, rfl⟩)) (k := ?_)
  intro h_ e_
  exact e_.elim

set_option maxHeartbeats 4000000 in
set_option maxRecDepth 100000 in
theorem m_seatsInAll_no1 (hd : 2 ≤ d) (m1 : MoR h 216 s) (t1 : ToR h 216 s.2.2.1) (hb : BDok s.2.2.1 s.2.2.2) {a0 : Int32} (bad : a0 < 0 ∨ nI (bLa s.2.2.1) ≤ a0) : RQ G mX12_seatsInAll d 0 [some (.ref 216), some (.int (a0))] [] h (MK h s 1 (nI 0)) := by
  obtain ⟨th, c⟩ := MoT.ofR m1 t1
  refine b_seatsInAll c (fun h2 c2 ch2 => ?_)
  obtain ⟨⟨tk, iw, er, et, dp, nm, am⟩, -⟩ := id c2
  refine tX12_seatsInAll_5  (r := ?_)
  refine tX12_seatsInAll_6  (r := ?_)
  refine tX12_seatsInAll_7 (hd := (by omega)) (ha := (by first | assumption | (repeat (first | assumption | exact At.set_eq2 (by first | omega | (simp only [hset, hnew]; omega) | rfl | decide) | exact At.new_eq2 _ _ (by first | omega | (simp only [hset, hnew]; omega) | rfl | decide) | refine At.set_ne ?_ (by first | omega | (simp only [hset, hnew]; omega) | rfl | decide) | refine At.new_ne ?_)))) (call := s_isLabel_no (d := 1) (by decide) c2 hb bad) (k := ?_)
  rintro v0 h_ ⟨rfl, e0⟩
  rw [e0]
  refine tX12_seatsInAll_10  (kf := fun c_ => by exfalso; exact c_ (by decide)) (kt := fun _ => ?_)
  refine tX12_seatsInAll_21  (r := ?_)
  refine tX12_seatsInAll_22  (r := ?_)
  refine tX12_seatsInAll_23 (hd := (by omega)) (ha := (by first | assumption | (repeat (first | assumption | exact At.set_eq2 (by first | omega | (simp only [hset, hnew]; omega) | rfl | decide) | exact At.new_eq2 _ _ (by first | omega | (simp only [hset, hnew]; omega) | rfl | decide) | refine At.set_ne ?_ (by first | omega | (simp only [hset, hnew]; omega) | rfl | decide) | refine At.new_ne ?_)))) (call := s_no (d := 1) c2) (k := ?_)
  rintro vv h3 ⟨rfl, c3, ch3⟩
  refine tX12_seatsInAll_26  (hP := ?_)
  exact MK.of c3 ((ch2.trans ch3).sub (Nat.le_refl _) (Nat.le_refl _) (by decide) (by decide))

set_option maxHeartbeats 4000000 in
set_option maxRecDepth 100000 in
theorem k_hasMajority_no1 (hd : 7 ≤ d) (c : ClR h 0 bk dr s) (hb : BDok s.2.2.1 s.2.2.2) (hh : 216 ≤ h.1) {a0 : Int32} {V : Int32} (bad : a0 < 0 ∨ nI (bLa s.2.2.1) ≤ a0) : RQ G mX10_hasMajority d 0 [some (.ref 0), some (.int (a0))] [] h (CK h bk dr s "java/lang/IndexOutOfBoundsException" "" 1 V) := by
  have c1 := c.poll
  refine tX10_hasMajority_0  (r := ?_)
  refine tX10_hasMajority_1  (r := ?_)
  refine tX10_hasMajority_2 (hd := (by omega)) (ha := (by first | assumption | (repeat (first | assumption | exact At.set_eq2 (by first | omega | (simp only [hset, hnew]; omega) | rfl | decide) | exact At.new_eq2 _ _ (by first | omega | (simp only [hset, hnew]; omega) | rfl | decide) | refine At.set_ne ?_ (by first | omega | (simp only [hset, hnew]; omega) | rfl | decide) | refine At.new_ne ?_)))) (call := s_checkLabel_no (d := 6) (by decide) c bad) (kx := fun E_ h_ hx_ => by obtain ⟨rfl, rfl⟩ := hx_; exact ck_throw c hh (Or.inl ⟨rfl, rfl⟩)) (k := ?_)
  intro h_ e_
  exact e_.elim

set_option maxHeartbeats 4000000 in
set_option maxRecDepth 100000 in
theorem k_jarOfLid_no1 (hd : 7 ≤ d) (c : ClR h 0 bk dr s) (hb : BDok s.2.2.1 s.2.2.2) (hh : 216 ≤ h.1) {a0 : Int32} {V : Int32} (bad : a0 < 0 ∨ nI (bLi s.2.2.1) ≤ a0) : RQ G mX10_jarOfLid d 0 [some (.ref 0), some (.int (a0))] [] h (CK h bk dr s "java/lang/IndexOutOfBoundsException" "" 1 V) := by
  have c1 := c.poll
  refine tX10_jarOfLid_0  (r := ?_)
  refine tX10_jarOfLid_1  (r := ?_)
  refine tX10_jarOfLid_2 (hd := (by omega)) (ha := (by first | assumption | (repeat (first | assumption | exact At.set_eq2 (by first | omega | (simp only [hset, hnew]; omega) | rfl | decide) | exact At.new_eq2 _ _ (by first | omega | (simp only [hset, hnew]; omega) | rfl | decide) | refine At.set_ne ?_ (by first | omega | (simp only [hset, hnew]; omega) | rfl | decide) | refine At.new_ne ?_)))) (call := s_checkLid_no (d := 6) (by decide) c bad) (kx := fun E_ h_ hx_ => by obtain ⟨rfl, rfl⟩ := hx_; exact ck_throw c hh (Or.inl ⟨rfl, rfl⟩)) (k := ?_)
  intro h_ e_
  exact e_.elim

set_option maxHeartbeats 4000000 in
set_option maxRecDepth 100000 in
theorem m_jarOfLid_no1 (hd : 2 ≤ d) (m1 : MoR h 216 s) (t1 : ToR h 216 s.2.2.1) (hb : BDok s.2.2.1 s.2.2.2) {a0 : Int32} (bad : a0 < 0 ∨ nI (bLi s.2.2.1) ≤ a0) : RQ G mX12_jarOfLid d 0 [some (.ref 216), some (.int (a0))] [] h (MK h s 1 (nI 0)) := by
  obtain ⟨th, c⟩ := MoT.ofR m1 t1
  refine b_jarOfLid c (fun h2 c2 ch2 => ?_)
  obtain ⟨⟨tk, iw, er, et, dp, nm, am⟩, -⟩ := id c2
  refine tX12_jarOfLid_5  (r := ?_)
  refine tX12_jarOfLid_6  (r := ?_)
  refine tX12_jarOfLid_7 (hd := (by omega)) (ha := (by first | assumption | (repeat (first | assumption | exact At.set_eq2 (by first | omega | (simp only [hset, hnew]; omega) | rfl | decide) | exact At.new_eq2 _ _ (by first | omega | (simp only [hset, hnew]; omega) | rfl | decide) | refine At.set_ne ?_ (by first | omega | (simp only [hset, hnew]; omega) | rfl | decide) | refine At.new_ne ?_)))) (call := s_isLid_no (d := 1) (by decide) c2 hb bad) (k := ?_)
  rintro v0 h_ ⟨rfl, e0⟩
  rw [e0]
  refine tX12_jarOfLid_10  (kf := fun c_ => by exfalso; exact c_ (by decide)) (kt := fun _ => ?_)
  refine tX12_jarOfLid_25  (r := ?_)
  refine tX12_jarOfLid_26  (r := ?_)
  refine tX12_jarOfLid_27 (hd := (by omega)) (ha := (by first | assumption | (repeat (first | assumption | exact At.set_eq2 (by first | omega | (simp only [hset, hnew]; omega) | rfl | decide) | exact At.new_eq2 _ _ (by first | omega | (simp only [hset, hnew]; omega) | rfl | decide) | refine At.set_ne ?_ (by first | omega | (simp only [hset, hnew]; omega) | rfl | decide) | refine At.new_ne ?_)))) (call := s_no (d := 1) c2) (k := ?_)
  rintro vv h3 ⟨rfl, c3, ch3⟩
  refine tX12_jarOfLid_30  (hP := ?_)
  exact MK.of c3 ((ch2.trans ch3).sub (Nat.le_refl _) (Nat.le_refl _) (by decide) (by decide))

set_option maxHeartbeats 4000000 in
set_option maxRecDepth 100000 in
theorem k_labelOfLid_no1 (hd : 7 ≤ d) (c : ClR h 0 bk dr s) (hb : BDok s.2.2.1 s.2.2.2) (hh : 216 ≤ h.1) {a0 : Int32} {V : Int32} (bad : a0 < 0 ∨ nI (bLi s.2.2.1) ≤ a0) : RQ G mX10_labelOfLid d 0 [some (.ref 0), some (.int (a0))] [] h (CK h bk dr s "java/lang/IndexOutOfBoundsException" "" 1 V) := by
  have c1 := c.poll
  refine tX10_labelOfLid_0  (r := ?_)
  refine tX10_labelOfLid_1  (r := ?_)
  refine tX10_labelOfLid_2 (hd := (by omega)) (ha := (by first | assumption | (repeat (first | assumption | exact At.set_eq2 (by first | omega | (simp only [hset, hnew]; omega) | rfl | decide) | exact At.new_eq2 _ _ (by first | omega | (simp only [hset, hnew]; omega) | rfl | decide) | refine At.set_ne ?_ (by first | omega | (simp only [hset, hnew]; omega) | rfl | decide) | refine At.new_ne ?_)))) (call := s_checkLid_no (d := 6) (by decide) c bad) (kx := fun E_ h_ hx_ => by obtain ⟨rfl, rfl⟩ := hx_; exact ck_throw c hh (Or.inl ⟨rfl, rfl⟩)) (k := ?_)
  intro h_ e_
  exact e_.elim

set_option maxHeartbeats 4000000 in
set_option maxRecDepth 100000 in
theorem m_labelOfLid_no1 (hd : 2 ≤ d) (m1 : MoR h 216 s) (t1 : ToR h 216 s.2.2.1) (hb : BDok s.2.2.1 s.2.2.2) {a0 : Int32} (bad : a0 < 0 ∨ nI (bLi s.2.2.1) ≤ a0) : RQ G mX12_labelOfLid d 0 [some (.ref 216), some (.int (a0))] [] h (MK h s 1 (nI 0)) := by
  obtain ⟨th, c⟩ := MoT.ofR m1 t1
  refine b_labelOfLid c (fun h2 c2 ch2 => ?_)
  obtain ⟨⟨tk, iw, er, et, dp, nm, am⟩, -⟩ := id c2
  refine tX12_labelOfLid_5  (r := ?_)
  refine tX12_labelOfLid_6  (r := ?_)
  refine tX12_labelOfLid_7 (hd := (by omega)) (ha := (by first | assumption | (repeat (first | assumption | exact At.set_eq2 (by first | omega | (simp only [hset, hnew]; omega) | rfl | decide) | exact At.new_eq2 _ _ (by first | omega | (simp only [hset, hnew]; omega) | rfl | decide) | refine At.set_ne ?_ (by first | omega | (simp only [hset, hnew]; omega) | rfl | decide) | refine At.new_ne ?_)))) (call := s_isLid_no (d := 1) (by decide) c2 hb bad) (k := ?_)
  rintro v0 h_ ⟨rfl, e0⟩
  rw [e0]
  refine tX12_labelOfLid_10  (kf := fun c_ => by exfalso; exact c_ (by decide)) (kt := fun _ => ?_)
  refine tX12_labelOfLid_25  (r := ?_)
  refine tX12_labelOfLid_26  (r := ?_)
  refine tX12_labelOfLid_27 (hd := (by omega)) (ha := (by first | assumption | (repeat (first | assumption | exact At.set_eq2 (by first | omega | (simp only [hset, hnew]; omega) | rfl | decide) | exact At.new_eq2 _ _ (by first | omega | (simp only [hset, hnew]; omega) | rfl | decide) | refine At.set_ne ?_ (by first | omega | (simp only [hset, hnew]; omega) | rfl | decide) | refine At.new_ne ?_)))) (call := s_no (d := 1) c2) (k := ?_)
  rintro vv h3 ⟨rfl, c3, ch3⟩
  refine tX12_labelOfLid_30  (hP := ?_)
  exact MK.of c3 ((ch2.trans ch3).sub (Nat.le_refl _) (Nat.le_refl _) (by decide) (by decide))

set_option maxHeartbeats 4000000 in
set_option maxRecDepth 100000 in
theorem k_ruleOfLid_no1 (hd : 7 ≤ d) (c : ClR h 0 bk dr s) (hb : BDok s.2.2.1 s.2.2.2) (hh : 216 ≤ h.1) {a0 : Int32} {V : Int32} (bad : a0 < 0 ∨ nI (bLi s.2.2.1) ≤ a0) : RQ G mX10_ruleOfLid d 0 [some (.ref 0), some (.int (a0)), none] [] h (CK h bk dr s "java/lang/IndexOutOfBoundsException" "" 1 V) := by
  have c1 := c.poll
  refine tX10_ruleOfLid_0  (r := ?_)
  refine tX10_ruleOfLid_1  (r := ?_)
  refine tX10_ruleOfLid_2 (hd := (by omega)) (ha := (by first | assumption | (repeat (first | assumption | exact At.set_eq2 (by first | omega | (simp only [hset, hnew]; omega) | rfl | decide) | exact At.new_eq2 _ _ (by first | omega | (simp only [hset, hnew]; omega) | rfl | decide) | refine At.set_ne ?_ (by first | omega | (simp only [hset, hnew]; omega) | rfl | decide) | refine At.new_ne ?_)))) (call := s_checkLid_no (d := 6) (by decide) c bad) (kx := fun E_ h_ hx_ => by obtain ⟨rfl, rfl⟩ := hx_; exact ck_throw c hh (Or.inl ⟨rfl, rfl⟩)) (k := ?_)
  intro h_ e_
  exact e_.elim

set_option maxHeartbeats 4000000 in
set_option maxRecDepth 100000 in
theorem m_ruleOfLid_no1 (hd : 2 ≤ d) (m1 : MoR h 216 s) (t1 : ToR h 216 s.2.2.1) (hb : BDok s.2.2.1 s.2.2.2) {a0 : Int32} (bad : a0 < 0 ∨ nI (bLi s.2.2.1) ≤ a0) : RQ G mX12_ruleOfLid d 0 [some (.ref 216), some (.int (a0))] [] h (MK h s 1 (nI 0)) := by
  obtain ⟨th, c⟩ := MoT.ofR m1 t1
  refine b_ruleOfLid c (fun h2 c2 ch2 => ?_)
  obtain ⟨⟨tk, iw, er, et, dp, nm, am⟩, -⟩ := id c2
  refine tX12_ruleOfLid_5  (r := ?_)
  refine tX12_ruleOfLid_6  (r := ?_)
  refine tX12_ruleOfLid_7 (hd := (by omega)) (ha := (by first | assumption | (repeat (first | assumption | exact At.set_eq2 (by first | omega | (simp only [hset, hnew]; omega) | rfl | decide) | exact At.new_eq2 _ _ (by first | omega | (simp only [hset, hnew]; omega) | rfl | decide) | refine At.set_ne ?_ (by first | omega | (simp only [hset, hnew]; omega) | rfl | decide) | refine At.new_ne ?_)))) (call := s_isLid_no (d := 1) (by decide) c2 hb bad) (k := ?_)
  rintro v0 h_ ⟨rfl, e0⟩
  rw [e0]
  refine tX12_ruleOfLid_10  (kf := fun c_ => by exfalso; exact c_ (by decide)) (kt := fun _ => ?_)
  refine tX12_ruleOfLid_21  (r := ?_)
  refine tX12_ruleOfLid_22  (r := ?_)
  refine tX12_ruleOfLid_23 (hd := (by omega)) (ha := (by first | assumption | (repeat (first | assumption | exact At.set_eq2 (by first | omega | (simp only [hset, hnew]; omega) | rfl | decide) | exact At.new_eq2 _ _ (by first | omega | (simp only [hset, hnew]; omega) | rfl | decide) | refine At.set_ne ?_ (by first | omega | (simp only [hset, hnew]; omega) | rfl | decide) | refine At.new_ne ?_)))) (call := s_no (d := 1) c2) (k := ?_)
  rintro vv h3 ⟨rfl, c3, ch3⟩
  refine tX12_ruleOfLid_26  (hP := ?_)
  exact MK.of c3 ((ch2.trans ch3).sub (Nat.le_refl _) (Nat.le_refl _) (by decide) (by decide))

set_option maxHeartbeats 4000000 in
set_option maxRecDepth 100000 in
theorem k_pour_no1 (hd : 7 ≤ d) (c : ClR h 0 bk dr s) (hb : BDok s.2.2.1 s.2.2.2) (hh : 216 ≤ h.1) {a0 a1 a2 a3 : Int32} {V : Int32} (bad : a0 < 0 ∨ nI (bJa s.2.2.1) ≤ a0) : RQ G mX10_pour d 0 [some (.ref 0), some (.int (a0)), some (.int (a1)), some (.int (a2)), some (.int (a3))] [] h (CK h bk dr s "java/lang/IndexOutOfBoundsException" "java/lang/IllegalArgumentException" 1 V) := by
  have c1 := c.poll
  refine tX10_pour_0  (r := ?_)
  refine tX10_pour_1  (r := ?_)
  refine tX10_pour_2 (hd := (by omega)) (ha := (by first | assumption | (repeat (first | assumption | exact At.set_eq2 (by first | omega | (simp only [hset, hnew]; omega) | rfl | decide) | exact At.new_eq2 _ _ (by first | omega | (simp only [hset, hnew]; omega) | rfl | decide) | refine At.set_ne ?_ (by first | omega | (simp only [hset, hnew]; omega) | rfl | decide) | refine At.new_ne ?_)))) (call := s_checkJar_no (d := 6) (by decide) c bad) (kx := fun E_ h_ hx_ => by obtain ⟨rfl, rfl⟩ := hx_; exact ck_throw c hh (Or.inl ⟨rfl, rfl⟩)) (k := ?_)
  intro h_ e_
  exact e_.elim

set_option maxHeartbeats 4000000 in
set_option maxRecDepth 100000 in
theorem k_pour_no2 (hd : 7 ≤ d) (c : ClR h 0 bk dr s) (hb : BDok s.2.2.1 s.2.2.2) (hh : 216 ≤ h.1) {j0 : Nat} (q0 : j0 < bJa s.2.2.1) {a1 a2 a3 : Int32} {V : Int32} (bad : a1 < 0 ∨ nI (bLa s.2.2.1) ≤ a1) : RQ G mX10_pour d 0 [some (.ref 0), some (.int (nI j0)), some (.int (a1)), some (.int (a2)), some (.int (a3))] [] h (CK h bk dr s "java/lang/IndexOutOfBoundsException" "java/lang/IllegalArgumentException" 1 V) := by
  have c1 := c.poll
  refine tX10_pour_0  (r := ?_)
  refine tX10_pour_1  (r := ?_)
  refine tX10_pour_2 (hd := (by omega)) (ha := (by first | assumption | (repeat (first | assumption | exact At.set_eq2 (by first | omega | (simp only [hset, hnew]; omega) | rfl | decide) | exact At.new_eq2 _ _ (by first | omega | (simp only [hset, hnew]; omega) | rfl | decide) | refine At.set_ne ?_ (by first | omega | (simp only [hset, hnew]; omega) | rfl | decide) | refine At.new_ne ?_)))) (call := s_checkJar_ok (d := 6) (QX := fun _ _ => False) c hb q0) (kx := fun E_ h_ hx_ => by exact hx_.elim) (k := ?_)
  intro h_ e0
  rw [e0]
  refine tX10_pour_5  (r := ?_)
  refine tX10_pour_6  (r := ?_)
  refine tX10_pour_7 (hd := (by omega)) (ha := (by first | assumption | (repeat (first | assumption | exact At.set_eq2 (by first | omega | (simp only [hset, hnew]; omega) | rfl | decide) | exact At.new_eq2 _ _ (by first | omega | (simp only [hset, hnew]; omega) | rfl | decide) | refine At.set_ne ?_ (by first | omega | (simp only [hset, hnew]; omega) | rfl | decide) | refine At.new_ne ?_)))) (call := s_checkLabel_no (d := 6) (by decide) c bad) (kx := fun E_ h_ hx_ => by obtain ⟨rfl, rfl⟩ := hx_; exact ck_throw c hh (Or.inl ⟨rfl, rfl⟩)) (k := ?_)
  intro h_ e_
  exact e_.elim

set_option maxHeartbeats 4000000 in
set_option maxRecDepth 100000 in
theorem k_pour_no3 (hd : 7 ≤ d) (c : ClR h 0 bk dr s) (hb : BDok s.2.2.1 s.2.2.2) (hh : 216 ≤ h.1) {j0 : Nat} (q0 : j0 < bJa s.2.2.1) {j1 : Nat} (q1 : j1 < bLa s.2.2.1) {a2 a3 : Int32} {V : Int32} (bad : a2 < 0 ∨ nI (bLa s.2.2.1) ≤ a2) : RQ G mX10_pour d 0 [some (.ref 0), some (.int (nI j0)), some (.int (nI j1)), some (.int (a2)), some (.int (a3))] [] h (CK h bk dr s "java/lang/IndexOutOfBoundsException" "java/lang/IllegalArgumentException" 1 V) := by
  have c1 := c.poll
  refine tX10_pour_0  (r := ?_)
  refine tX10_pour_1  (r := ?_)
  refine tX10_pour_2 (hd := (by omega)) (ha := (by first | assumption | (repeat (first | assumption | exact At.set_eq2 (by first | omega | (simp only [hset, hnew]; omega) | rfl | decide) | exact At.new_eq2 _ _ (by first | omega | (simp only [hset, hnew]; omega) | rfl | decide) | refine At.set_ne ?_ (by first | omega | (simp only [hset, hnew]; omega) | rfl | decide) | refine At.new_ne ?_)))) (call := s_checkJar_ok (d := 6) (QX := fun _ _ => False) c hb q0) (kx := fun E_ h_ hx_ => by exact hx_.elim) (k := ?_)
  intro h_ e0
  rw [e0]
  refine tX10_pour_5  (r := ?_)
  refine tX10_pour_6  (r := ?_)
  refine tX10_pour_7 (hd := (by omega)) (ha := (by first | assumption | (repeat (first | assumption | exact At.set_eq2 (by first | omega | (simp only [hset, hnew]; omega) | rfl | decide) | exact At.new_eq2 _ _ (by first | omega | (simp only [hset, hnew]; omega) | rfl | decide) | refine At.set_ne ?_ (by first | omega | (simp only [hset, hnew]; omega) | rfl | decide) | refine At.new_ne ?_)))) (call := s_checkLabel_ok (d := 6) (QX := fun _ _ => False) c hb q1) (kx := fun E_ h_ hx_ => by exact hx_.elim) (k := ?_)
  intro h_ e1
  rw [e1]
  refine tX10_pour_10  (r := ?_)
  refine tX10_pour_11  (r := ?_)
  refine tX10_pour_12 (hd := (by omega)) (ha := (by first | assumption | (repeat (first | assumption | exact At.set_eq2 (by first | omega | (simp only [hset, hnew]; omega) | rfl | decide) | exact At.new_eq2 _ _ (by first | omega | (simp only [hset, hnew]; omega) | rfl | decide) | refine At.set_ne ?_ (by first | omega | (simp only [hset, hnew]; omega) | rfl | decide) | refine At.new_ne ?_)))) (call := s_checkLabel_no (d := 6) (by decide) c bad) (kx := fun E_ h_ hx_ => by obtain ⟨rfl, rfl⟩ := hx_; exact ck_throw c hh (Or.inl ⟨rfl, rfl⟩)) (k := ?_)
  intro h_ e_
  exact e_.elim

set_option maxHeartbeats 4000000 in
set_option maxRecDepth 100000 in
theorem m_pour_no1 (hd : 2 ≤ d) (m1 : MoR h 216 s) (t1 : ToR h 216 s.2.2.1) (hb : BDok s.2.2.1 s.2.2.2) {a0 a1 a2 a3 : Int32} (bad : a0 < 0 ∨ nI (bJa s.2.2.1) ≤ a0) : RQ G mX12_pour d 0 [some (.ref 216), some (.int (a0)), some (.int (a1)), some (.int (a2)), some (.int (a3))] [] h (MK h s 1 (nI 0)) := by
  obtain ⟨th, c⟩ := MoT.ofR m1 t1
  refine b_pour c (fun h2 c2 ch2 => ?_)
  obtain ⟨⟨tk, iw, er, et, dp, nm, am⟩, -⟩ := id c2
  refine tX12_pour_5  (r := ?_)
  refine tX12_pour_6  (r := ?_)
  refine tX12_pour_7 (hd := (by omega)) (ha := (by first | assumption | (repeat (first | assumption | exact At.set_eq2 (by first | omega | (simp only [hset, hnew]; omega) | rfl | decide) | exact At.new_eq2 _ _ (by first | omega | (simp only [hset, hnew]; omega) | rfl | decide) | refine At.set_ne ?_ (by first | omega | (simp only [hset, hnew]; omega) | rfl | decide) | refine At.new_ne ?_)))) (call := s_isJar_no (d := 1) (by decide) c2 hb bad) (k := ?_)
  rintro v0 h_ ⟨rfl, e0⟩
  rw [e0]
  refine tX12_pour_10  (kf := fun c_ => by exfalso; exact c_ (by decide)) (kt := fun _ => ?_)
  refine tX12_pour_29  (r := ?_)
  refine tX12_pour_30  (r := ?_)
  refine tX12_pour_31 (hd := (by omega)) (ha := (by first | assumption | (repeat (first | assumption | exact At.set_eq2 (by first | omega | (simp only [hset, hnew]; omega) | rfl | decide) | exact At.new_eq2 _ _ (by first | omega | (simp only [hset, hnew]; omega) | rfl | decide) | refine At.set_ne ?_ (by first | omega | (simp only [hset, hnew]; omega) | rfl | decide) | refine At.new_ne ?_)))) (call := s_no (d := 1) c2) (k := ?_)
  rintro vv h3 ⟨rfl, c3, ch3⟩
  refine tX12_pour_34  (hP := ?_)
  exact MK.of c3 ((ch2.trans ch3).sub (Nat.le_refl _) (Nat.le_refl _) (by decide) (by decide))

set_option maxHeartbeats 4000000 in
set_option maxRecDepth 100000 in
theorem m_pour_no2 (hd : 2 ≤ d) (m1 : MoR h 216 s) (t1 : ToR h 216 s.2.2.1) (hb : BDok s.2.2.1 s.2.2.2) {j0 : Nat} (q0 : j0 < bJa s.2.2.1) {a1 a2 a3 : Int32} (bad : a1 < 0 ∨ nI (bLa s.2.2.1) ≤ a1) : RQ G mX12_pour d 0 [some (.ref 216), some (.int (nI j0)), some (.int (a1)), some (.int (a2)), some (.int (a3))] [] h (MK h s 1 (nI 0)) := by
  obtain ⟨th, c⟩ := MoT.ofR m1 t1
  refine b_pour c (fun h2 c2 ch2 => ?_)
  obtain ⟨⟨tk, iw, er, et, dp, nm, am⟩, -⟩ := id c2
  refine tX12_pour_5  (r := ?_)
  refine tX12_pour_6  (r := ?_)
  refine tX12_pour_7 (hd := (by omega)) (ha := (by first | assumption | (repeat (first | assumption | exact At.set_eq2 (by first | omega | (simp only [hset, hnew]; omega) | rfl | decide) | exact At.new_eq2 _ _ (by first | omega | (simp only [hset, hnew]; omega) | rfl | decide) | refine At.set_ne ?_ (by first | omega | (simp only [hset, hnew]; omega) | rfl | decide) | refine At.new_ne ?_)))) (call := s_isJar_ok (d := 1) (by decide) c2 hb q0) (k := ?_)
  rintro v0 h_ ⟨rfl, e0⟩
  rw [e0]
  refine tX12_pour_10  (kt := fun c_ => by exfalso; exact absurd c_ (by decide)) (kf := fun _ => ?_)
  refine tX12_pour_13  (r := ?_)
  refine tX12_pour_14  (r := ?_)
  refine tX12_pour_15 (hd := (by omega)) (ha := (by first | assumption | (repeat (first | assumption | exact At.set_eq2 (by first | omega | (simp only [hset, hnew]; omega) | rfl | decide) | exact At.new_eq2 _ _ (by first | omega | (simp only [hset, hnew]; omega) | rfl | decide) | refine At.set_ne ?_ (by first | omega | (simp only [hset, hnew]; omega) | rfl | decide) | refine At.new_ne ?_)))) (call := s_isLabel_no (d := 1) (by decide) c2 hb bad) (k := ?_)
  rintro v1 h_ ⟨rfl, e1⟩
  rw [e1]
  refine tX12_pour_18  (kf := fun c_ => by exfalso; exact c_ (by decide)) (kt := fun _ => ?_)
  refine tX12_pour_29  (r := ?_)
  refine tX12_pour_30  (r := ?_)
  refine tX12_pour_31 (hd := (by omega)) (ha := (by first | assumption | (repeat (first | assumption | exact At.set_eq2 (by first | omega | (simp only [hset, hnew]; omega) | rfl | decide) | exact At.new_eq2 _ _ (by first | omega | (simp only [hset, hnew]; omega) | rfl | decide) | refine At.set_ne ?_ (by first | omega | (simp only [hset, hnew]; omega) | rfl | decide) | refine At.new_ne ?_)))) (call := s_no (d := 1) c2) (k := ?_)
  rintro vv h3 ⟨rfl, c3, ch3⟩
  refine tX12_pour_34  (hP := ?_)
  exact MK.of c3 ((ch2.trans ch3).sub (Nat.le_refl _) (Nat.le_refl _) (by decide) (by decide))

set_option maxHeartbeats 4000000 in
set_option maxRecDepth 100000 in
theorem m_pour_no3 (hd : 2 ≤ d) (m1 : MoR h 216 s) (t1 : ToR h 216 s.2.2.1) (hb : BDok s.2.2.1 s.2.2.2) {j0 : Nat} (q0 : j0 < bJa s.2.2.1) {j1 : Nat} (q1 : j1 < bLa s.2.2.1) {a2 a3 : Int32} (bad : a2 < 0 ∨ nI (bLa s.2.2.1) ≤ a2) : RQ G mX12_pour d 0 [some (.ref 216), some (.int (nI j0)), some (.int (nI j1)), some (.int (a2)), some (.int (a3))] [] h (MK h s 1 (nI 0)) := by
  obtain ⟨th, c⟩ := MoT.ofR m1 t1
  refine b_pour c (fun h2 c2 ch2 => ?_)
  obtain ⟨⟨tk, iw, er, et, dp, nm, am⟩, -⟩ := id c2
  refine tX12_pour_5  (r := ?_)
  refine tX12_pour_6  (r := ?_)
  refine tX12_pour_7 (hd := (by omega)) (ha := (by first | assumption | (repeat (first | assumption | exact At.set_eq2 (by first | omega | (simp only [hset, hnew]; omega) | rfl | decide) | exact At.new_eq2 _ _ (by first | omega | (simp only [hset, hnew]; omega) | rfl | decide) | refine At.set_ne ?_ (by first | omega | (simp only [hset, hnew]; omega) | rfl | decide) | refine At.new_ne ?_)))) (call := s_isJar_ok (d := 1) (by decide) c2 hb q0) (k := ?_)
  rintro v0 h_ ⟨rfl, e0⟩
  rw [e0]
  refine tX12_pour_10  (kt := fun c_ => by exfalso; exact absurd c_ (by decide)) (kf := fun _ => ?_)
  refine tX12_pour_13  (r := ?_)
  refine tX12_pour_14  (r := ?_)
  refine tX12_pour_15 (hd := (by omega)) (ha := (by first | assumption | (repeat (first | assumption | exact At.set_eq2 (by first | omega | (simp only [hset, hnew]; omega) | rfl | decide) | exact At.new_eq2 _ _ (by first | omega | (simp only [hset, hnew]; omega) | rfl | decide) | refine At.set_ne ?_ (by first | omega | (simp only [hset, hnew]; omega) | rfl | decide) | refine At.new_ne ?_)))) (call := s_isLabel_ok (d := 1) (by decide) c2 hb q1) (k := ?_)
  rintro v1 h_ ⟨rfl, e1⟩
  rw [e1]
  refine tX12_pour_18  (kt := fun c_ => by exfalso; exact absurd c_ (by decide)) (kf := fun _ => ?_)
  refine tX12_pour_21  (r := ?_)
  refine tX12_pour_22  (r := ?_)
  refine tX12_pour_23 (hd := (by omega)) (ha := (by first | assumption | (repeat (first | assumption | exact At.set_eq2 (by first | omega | (simp only [hset, hnew]; omega) | rfl | decide) | exact At.new_eq2 _ _ (by first | omega | (simp only [hset, hnew]; omega) | rfl | decide) | refine At.set_ne ?_ (by first | omega | (simp only [hset, hnew]; omega) | rfl | decide) | refine At.new_ne ?_)))) (call := s_isLabel_no (d := 1) (by decide) c2 hb bad) (k := ?_)
  rintro v2 h_ ⟨rfl, e2⟩
  rw [e2]
  refine tX12_pour_26  (kt := fun c_ => by exfalso; exact c_ (by decide)) (kf := fun _ => ?_)
  refine tX12_pour_29  (r := ?_)
  refine tX12_pour_30  (r := ?_)
  refine tX12_pour_31 (hd := (by omega)) (ha := (by first | assumption | (repeat (first | assumption | exact At.set_eq2 (by first | omega | (simp only [hset, hnew]; omega) | rfl | decide) | exact At.new_eq2 _ _ (by first | omega | (simp only [hset, hnew]; omega) | rfl | decide) | refine At.set_ne ?_ (by first | omega | (simp only [hset, hnew]; omega) | rfl | decide) | refine At.new_ne ?_)))) (call := s_no (d := 1) c2) (k := ?_)
  rintro vv h3 ⟨rfl, c3, ch3⟩
  refine tX12_pour_34  (hP := ?_)
  exact MK.of c3 ((ch2.trans ch3).sub (Nat.le_refl _) (Nat.le_refl _) (by decide) (by decide))

set_option maxHeartbeats 4000000 in
set_option maxRecDepth 100000 in
theorem k_shake_no1 (hd : 7 ≤ d) (c : ClR h 0 bk dr s) (hb : BDok s.2.2.1 s.2.2.2) (hh : 216 ≤ h.1) {a0 : Int32} {V : Int32} (bad : a0 < 0 ∨ nI (bJa s.2.2.1) ≤ a0) : RQ G mX10_shake d 0 [some (.ref 0), some (.int (a0))] [] h (CK h bk dr s "java/lang/IndexOutOfBoundsException" "" 1 V) := by
  have c1 := c.poll
  refine tX10_shake_0  (r := ?_)
  refine tX10_shake_1  (r := ?_)
  refine tX10_shake_2 (hd := (by omega)) (ha := (by first | assumption | (repeat (first | assumption | exact At.set_eq2 (by first | omega | (simp only [hset, hnew]; omega) | rfl | decide) | exact At.new_eq2 _ _ (by first | omega | (simp only [hset, hnew]; omega) | rfl | decide) | refine At.set_ne ?_ (by first | omega | (simp only [hset, hnew]; omega) | rfl | decide) | refine At.new_ne ?_)))) (call := s_checkJar_no (d := 6) (by decide) c bad) (kx := fun E_ h_ hx_ => by obtain ⟨rfl, rfl⟩ := hx_; exact ck_throw c hh (Or.inl ⟨rfl, rfl⟩)) (k := ?_)
  intro h_ e_
  exact e_.elim

set_option maxHeartbeats 4000000 in
set_option maxRecDepth 100000 in
theorem m_shake_no1 (hd : 2 ≤ d) (m1 : MoR h 216 s) (t1 : ToR h 216 s.2.2.1) (hb : BDok s.2.2.1 s.2.2.2) {a0 : Int32} (bad : a0 < 0 ∨ nI (bJa s.2.2.1) ≤ a0) : RQ G mX12_shake d 0 [some (.ref 216), some (.int (a0))] [] h (MK h s 1 (nI 0)) := by
  obtain ⟨th, c⟩ := MoT.ofR m1 t1
  refine b_shake c (fun h2 c2 ch2 => ?_)
  obtain ⟨⟨tk, iw, er, et, dp, nm, am⟩, -⟩ := id c2
  refine tX12_shake_5  (r := ?_)
  refine tX12_shake_6  (r := ?_)
  refine tX12_shake_7 (hd := (by omega)) (ha := (by first | assumption | (repeat (first | assumption | exact At.set_eq2 (by first | omega | (simp only [hset, hnew]; omega) | rfl | decide) | exact At.new_eq2 _ _ (by first | omega | (simp only [hset, hnew]; omega) | rfl | decide) | refine At.set_ne ?_ (by first | omega | (simp only [hset, hnew]; omega) | rfl | decide) | refine At.new_ne ?_)))) (call := s_isJar_no (d := 1) (by decide) c2 hb bad) (k := ?_)
  rintro v0 h_ ⟨rfl, e0⟩
  rw [e0]
  refine tX12_shake_10  (kt := fun c_ => by exfalso; exact c_ (by decide)) (kf := fun _ => ?_)
  refine tX12_shake_13  (r := ?_)
  refine tX12_shake_14  (r := ?_)
  refine tX12_shake_15 (hd := (by omega)) (ha := (by first | assumption | (repeat (first | assumption | exact At.set_eq2 (by first | omega | (simp only [hset, hnew]; omega) | rfl | decide) | exact At.new_eq2 _ _ (by first | omega | (simp only [hset, hnew]; omega) | rfl | decide) | refine At.set_ne ?_ (by first | omega | (simp only [hset, hnew]; omega) | rfl | decide) | refine At.new_ne ?_)))) (call := s_no (d := 1) c2) (k := ?_)
  rintro vv h3 ⟨rfl, c3, ch3⟩
  refine tX12_shake_18  (hP := ?_)
  exact MK.of c3 ((ch2.trans ch3).sub (Nat.le_refl _) (Nat.le_refl _) (by decide) (by decide))

set_option maxHeartbeats 4000000 in
set_option maxRecDepth 100000 in
theorem k_putLid_no1 (hd : 7 ≤ d) (c : ClR h 0 bk dr s) (hb : BDok s.2.2.1 s.2.2.2) (hh : 216 ≤ h.1) {a0 a1 : Int32} {V : Int32} (bad : a0 < 0 ∨ nI (bLi s.2.2.1) ≤ a0) : RQ G mX10_putLid d 0 [some (.ref 0), some (.int (a0)), some (.int (a1)), none] [] h (CK h bk dr s "java/lang/IndexOutOfBoundsException" "" 1 V) := by
  have c1 := c.poll
  refine tX10_putLid_0  (r := ?_)
  refine tX10_putLid_1  (r := ?_)
  refine tX10_putLid_2 (hd := (by omega)) (ha := (by first | assumption | (repeat (first | assumption | exact At.set_eq2 (by first | omega | (simp only [hset, hnew]; omega) | rfl | decide) | exact At.new_eq2 _ _ (by first | omega | (simp only [hset, hnew]; omega) | rfl | decide) | refine At.set_ne ?_ (by first | omega | (simp only [hset, hnew]; omega) | rfl | decide) | refine At.new_ne ?_)))) (call := s_checkLid_no (d := 6) (by decide) c bad) (kx := fun E_ h_ hx_ => by obtain ⟨rfl, rfl⟩ := hx_; exact ck_throw c hh (Or.inl ⟨rfl, rfl⟩)) (k := ?_)
  intro h_ e_
  exact e_.elim

set_option maxHeartbeats 4000000 in
set_option maxRecDepth 100000 in
theorem k_putLid_no2 (hd : 7 ≤ d) (c : ClR h 0 bk dr s) (hb : BDok s.2.2.1 s.2.2.2) (hh : 216 ≤ h.1) {j0 : Nat} (q0 : j0 < bLi s.2.2.1) {a1 : Int32} {V : Int32} (bad : a1 < 0 ∨ nI (bJa s.2.2.1) ≤ a1) : RQ G mX10_putLid d 0 [some (.ref 0), some (.int (nI j0)), some (.int (a1)), none] [] h (CK h bk dr s "java/lang/IndexOutOfBoundsException" "" 1 V) := by
  have c1 := c.poll
  refine tX10_putLid_0  (r := ?_)
  refine tX10_putLid_1  (r := ?_)
  refine tX10_putLid_2 (hd := (by omega)) (ha := (by first | assumption | (repeat (first | assumption | exact At.set_eq2 (by first | omega | (simp only [hset, hnew]; omega) | rfl | decide) | exact At.new_eq2 _ _ (by first | omega | (simp only [hset, hnew]; omega) | rfl | decide) | refine At.set_ne ?_ (by first | omega | (simp only [hset, hnew]; omega) | rfl | decide) | refine At.new_ne ?_)))) (call := s_checkLid_ok (d := 6) (QX := fun _ _ => False) c hb q0) (kx := fun E_ h_ hx_ => by exact hx_.elim) (k := ?_)
  intro h_ e0
  rw [e0]
  refine tX10_putLid_5  (r := ?_)
  refine tX10_putLid_6  (r := ?_)
  refine tX10_putLid_7 (hd := (by omega)) (ha := (by first | assumption | (repeat (first | assumption | exact At.set_eq2 (by first | omega | (simp only [hset, hnew]; omega) | rfl | decide) | exact At.new_eq2 _ _ (by first | omega | (simp only [hset, hnew]; omega) | rfl | decide) | refine At.set_ne ?_ (by first | omega | (simp only [hset, hnew]; omega) | rfl | decide) | refine At.new_ne ?_)))) (call := s_checkJar_no (d := 6) (by decide) c bad) (kx := fun E_ h_ hx_ => by obtain ⟨rfl, rfl⟩ := hx_; exact ck_throw c hh (Or.inl ⟨rfl, rfl⟩)) (k := ?_)
  intro h_ e_
  exact e_.elim

set_option maxHeartbeats 4000000 in
set_option maxRecDepth 100000 in
theorem m_putLid_no1 (hd : 2 ≤ d) (m1 : MoR h 216 s) (t1 : ToR h 216 s.2.2.1) (hb : BDok s.2.2.1 s.2.2.2) {a0 a1 : Int32} (bad : a0 < 0 ∨ nI (bLi s.2.2.1) ≤ a0) : RQ G mX12_putLid d 0 [some (.ref 216), some (.int (a0)), some (.int (a1)), none] [] h (MK h s 1 (nI 0)) := by
  obtain ⟨th, c⟩ := MoT.ofR m1 t1
  refine b_putLid c (fun h2 c2 ch2 => ?_)
  obtain ⟨⟨tk, iw, er, et, dp, nm, am⟩, -⟩ := id c2
  refine tX12_putLid_5  (r := ?_)
  refine tX12_putLid_6  (r := ?_)
  refine tX12_putLid_7 (hd := (by omega)) (ha := (by first | assumption | (repeat (first | assumption | exact At.set_eq2 (by first | omega | (simp only [hset, hnew]; omega) | rfl | decide) | exact At.new_eq2 _ _ (by first | omega | (simp only [hset, hnew]; omega) | rfl | decide) | refine At.set_ne ?_ (by first | omega | (simp only [hset, hnew]; omega) | rfl | decide) | refine At.new_ne ?_)))) (call := s_isLid_no (d := 1) (by decide) c2 hb bad) (k := ?_)
  rintro v0 h_ ⟨rfl, e0⟩
  rw [e0]
  refine tX12_putLid_10  (kf := fun c_ => by exfalso; exact c_ (by decide)) (kt := fun _ => ?_)
  refine tX12_putLid_21  (r := ?_)
  refine tX12_putLid_22  (r := ?_)
  refine tX12_putLid_23 (hd := (by omega)) (ha := (by first | assumption | (repeat (first | assumption | exact At.set_eq2 (by first | omega | (simp only [hset, hnew]; omega) | rfl | decide) | exact At.new_eq2 _ _ (by first | omega | (simp only [hset, hnew]; omega) | rfl | decide) | refine At.set_ne ?_ (by first | omega | (simp only [hset, hnew]; omega) | rfl | decide) | refine At.new_ne ?_)))) (call := s_no (d := 1) c2) (k := ?_)
  rintro vv h3 ⟨rfl, c3, ch3⟩
  refine tX12_putLid_26  (hP := ?_)
  exact MK.of c3 ((ch2.trans ch3).sub (Nat.le_refl _) (Nat.le_refl _) (by decide) (by decide))

set_option maxHeartbeats 4000000 in
set_option maxRecDepth 100000 in
theorem m_putLid_no2 (hd : 2 ≤ d) (m1 : MoR h 216 s) (t1 : ToR h 216 s.2.2.1) (hb : BDok s.2.2.1 s.2.2.2) {j0 : Nat} (q0 : j0 < bLi s.2.2.1) {a1 : Int32} (bad : a1 < 0 ∨ nI (bJa s.2.2.1) ≤ a1) : RQ G mX12_putLid d 0 [some (.ref 216), some (.int (nI j0)), some (.int (a1)), none] [] h (MK h s 1 (nI 0)) := by
  obtain ⟨th, c⟩ := MoT.ofR m1 t1
  refine b_putLid c (fun h2 c2 ch2 => ?_)
  obtain ⟨⟨tk, iw, er, et, dp, nm, am⟩, -⟩ := id c2
  refine tX12_putLid_5  (r := ?_)
  refine tX12_putLid_6  (r := ?_)
  refine tX12_putLid_7 (hd := (by omega)) (ha := (by first | assumption | (repeat (first | assumption | exact At.set_eq2 (by first | omega | (simp only [hset, hnew]; omega) | rfl | decide) | exact At.new_eq2 _ _ (by first | omega | (simp only [hset, hnew]; omega) | rfl | decide) | refine At.set_ne ?_ (by first | omega | (simp only [hset, hnew]; omega) | rfl | decide) | refine At.new_ne ?_)))) (call := s_isLid_ok (d := 1) (by decide) c2 hb q0) (k := ?_)
  rintro v0 h_ ⟨rfl, e0⟩
  rw [e0]
  refine tX12_putLid_10  (kt := fun c_ => by exfalso; exact absurd c_ (by decide)) (kf := fun _ => ?_)
  refine tX12_putLid_13  (r := ?_)
  refine tX12_putLid_14  (r := ?_)
  refine tX12_putLid_15 (hd := (by omega)) (ha := (by first | assumption | (repeat (first | assumption | exact At.set_eq2 (by first | omega | (simp only [hset, hnew]; omega) | rfl | decide) | exact At.new_eq2 _ _ (by first | omega | (simp only [hset, hnew]; omega) | rfl | decide) | refine At.set_ne ?_ (by first | omega | (simp only [hset, hnew]; omega) | rfl | decide) | refine At.new_ne ?_)))) (call := s_isJar_no (d := 1) (by decide) c2 hb bad) (k := ?_)
  rintro v1 h_ ⟨rfl, e1⟩
  rw [e1]
  refine tX12_putLid_18  (kt := fun c_ => by exfalso; exact c_ (by decide)) (kf := fun _ => ?_)
  refine tX12_putLid_21  (r := ?_)
  refine tX12_putLid_22  (r := ?_)
  refine tX12_putLid_23 (hd := (by omega)) (ha := (by first | assumption | (repeat (first | assumption | exact At.set_eq2 (by first | omega | (simp only [hset, hnew]; omega) | rfl | decide) | exact At.new_eq2 _ _ (by first | omega | (simp only [hset, hnew]; omega) | rfl | decide) | refine At.set_ne ?_ (by first | omega | (simp only [hset, hnew]; omega) | rfl | decide) | refine At.new_ne ?_)))) (call := s_no (d := 1) c2) (k := ?_)
  rintro vv h3 ⟨rfl, c3, ch3⟩
  refine tX12_putLid_26  (hP := ?_)
  exact MK.of c3 ((ch2.trans ch3).sub (Nat.le_refl _) (Nat.le_refl _) (by decide) (by decide))

set_option maxHeartbeats 4000000 in
set_option maxRecDepth 100000 in
theorem k_join_no1 (hd : 7 ≤ d) (c : ClR h 0 bk dr s) (hb : BDok s.2.2.1 s.2.2.2) (hh : 216 ≤ h.1) {a0 a1 : Int32} {V : Int32} (bad : a0 < 0 ∨ nI (bLa s.2.2.1) ≤ a0) : RQ G mX10_join d 0 [some (.ref 0), some (.int (a0)), some (.int (a1))] [] h (CK h bk dr s "java/lang/IndexOutOfBoundsException" "java/lang/IllegalStateException" 1 V) := by
  have c1 := c.poll
  refine tX10_join_0  (r := ?_)
  refine tX10_join_1  (r := ?_)
  refine tX10_join_2 (hd := (by omega)) (ha := (by first | assumption | (repeat (first | assumption | exact At.set_eq2 (by first | omega | (simp only [hset, hnew]; omega) | rfl | decide) | exact At.new_eq2 _ _ (by first | omega | (simp only [hset, hnew]; omega) | rfl | decide) | refine At.set_ne ?_ (by first | omega | (simp only [hset, hnew]; omega) | rfl | decide) | refine At.new_ne ?_)))) (call := s_checkLabel_no (d := 6) (by decide) c bad) (kx := fun E_ h_ hx_ => by obtain ⟨rfl, rfl⟩ := hx_; exact ck_throw c hh (Or.inl ⟨rfl, rfl⟩)) (k := ?_)
  intro h_ e_
  exact e_.elim

set_option maxHeartbeats 4000000 in
set_option maxRecDepth 100000 in
theorem k_join_no2 (hd : 7 ≤ d) (c : ClR h 0 bk dr s) (hb : BDok s.2.2.1 s.2.2.2) (hh : 216 ≤ h.1) {j0 : Nat} (q0 : j0 < bLa s.2.2.1) {a1 : Int32} {V : Int32} (bad : a1 < 0 ∨ nI (bLa s.2.2.1) ≤ a1) : RQ G mX10_join d 0 [some (.ref 0), some (.int (nI j0)), some (.int (a1))] [] h (CK h bk dr s "java/lang/IndexOutOfBoundsException" "java/lang/IllegalStateException" 1 V) := by
  have c1 := c.poll
  refine tX10_join_0  (r := ?_)
  refine tX10_join_1  (r := ?_)
  refine tX10_join_2 (hd := (by omega)) (ha := (by first | assumption | (repeat (first | assumption | exact At.set_eq2 (by first | omega | (simp only [hset, hnew]; omega) | rfl | decide) | exact At.new_eq2 _ _ (by first | omega | (simp only [hset, hnew]; omega) | rfl | decide) | refine At.set_ne ?_ (by first | omega | (simp only [hset, hnew]; omega) | rfl | decide) | refine At.new_ne ?_)))) (call := s_checkLabel_ok (d := 6) (QX := fun _ _ => False) c hb q0) (kx := fun E_ h_ hx_ => by exact hx_.elim) (k := ?_)
  intro h_ e0
  rw [e0]
  refine tX10_join_5  (r := ?_)
  refine tX10_join_6  (r := ?_)
  refine tX10_join_7 (hd := (by omega)) (ha := (by first | assumption | (repeat (first | assumption | exact At.set_eq2 (by first | omega | (simp only [hset, hnew]; omega) | rfl | decide) | exact At.new_eq2 _ _ (by first | omega | (simp only [hset, hnew]; omega) | rfl | decide) | refine At.set_ne ?_ (by first | omega | (simp only [hset, hnew]; omega) | rfl | decide) | refine At.new_ne ?_)))) (call := s_checkLabel_no (d := 6) (by decide) c bad) (kx := fun E_ h_ hx_ => by obtain ⟨rfl, rfl⟩ := hx_; exact ck_throw c hh (Or.inl ⟨rfl, rfl⟩)) (k := ?_)
  intro h_ e_
  exact e_.elim

set_option maxHeartbeats 4000000 in
set_option maxRecDepth 100000 in
theorem m_join_no1 (hd : 2 ≤ d) (m1 : MoR h 216 s) (t1 : ToR h 216 s.2.2.1) (hb : BDok s.2.2.1 s.2.2.2) {a0 a1 : Int32} (bad : a0 < 0 ∨ nI (bLa s.2.2.1) ≤ a0) : RQ G mX12_join d 0 [some (.ref 216), some (.int (a0)), some (.int (a1))] [] h (MK h s 1 (nI 0)) := by
  obtain ⟨th, c⟩ := MoT.ofR m1 t1
  refine b_join c (fun h2 c2 ch2 => ?_)
  obtain ⟨⟨tk, iw, er, et, dp, nm, am⟩, -⟩ := id c2
  refine tX12_join_5  (r := ?_)
  refine tX12_join_6  (r := ?_)
  refine tX12_join_7 (hd := (by omega)) (ha := (by first | assumption | (repeat (first | assumption | exact At.set_eq2 (by first | omega | (simp only [hset, hnew]; omega) | rfl | decide) | exact At.new_eq2 _ _ (by first | omega | (simp only [hset, hnew]; omega) | rfl | decide) | refine At.set_ne ?_ (by first | omega | (simp only [hset, hnew]; omega) | rfl | decide) | refine At.new_ne ?_)))) (call := s_isLabel_no (d := 1) (by decide) c2 hb bad) (k := ?_)
  rintro v0 h_ ⟨rfl, e0⟩
  rw [e0]
  refine tX12_join_10  (kf := fun c_ => by exfalso; exact c_ (by decide)) (kt := fun _ => ?_)
  refine tX12_join_21  (r := ?_)
  refine tX12_join_22  (r := ?_)
  refine tX12_join_23 (hd := (by omega)) (ha := (by first | assumption | (repeat (first | assumption | exact At.set_eq2 (by first | omega | (simp only [hset, hnew]; omega) | rfl | decide) | exact At.new_eq2 _ _ (by first | omega | (simp only [hset, hnew]; omega) | rfl | decide) | refine At.set_ne ?_ (by first | omega | (simp only [hset, hnew]; omega) | rfl | decide) | refine At.new_ne ?_)))) (call := s_no (d := 1) c2) (k := ?_)
  rintro vv h3 ⟨rfl, c3, ch3⟩
  refine tX12_join_26  (hP := ?_)
  exact MK.of c3 ((ch2.trans ch3).sub (Nat.le_refl _) (Nat.le_refl _) (by decide) (by decide))

set_option maxHeartbeats 4000000 in
set_option maxRecDepth 100000 in
theorem m_join_no2 (hd : 2 ≤ d) (m1 : MoR h 216 s) (t1 : ToR h 216 s.2.2.1) (hb : BDok s.2.2.1 s.2.2.2) {j0 : Nat} (q0 : j0 < bLa s.2.2.1) {a1 : Int32} (bad : a1 < 0 ∨ nI (bLa s.2.2.1) ≤ a1) : RQ G mX12_join d 0 [some (.ref 216), some (.int (nI j0)), some (.int (a1))] [] h (MK h s 1 (nI 0)) := by
  obtain ⟨th, c⟩ := MoT.ofR m1 t1
  refine b_join c (fun h2 c2 ch2 => ?_)
  obtain ⟨⟨tk, iw, er, et, dp, nm, am⟩, -⟩ := id c2
  refine tX12_join_5  (r := ?_)
  refine tX12_join_6  (r := ?_)
  refine tX12_join_7 (hd := (by omega)) (ha := (by first | assumption | (repeat (first | assumption | exact At.set_eq2 (by first | omega | (simp only [hset, hnew]; omega) | rfl | decide) | exact At.new_eq2 _ _ (by first | omega | (simp only [hset, hnew]; omega) | rfl | decide) | refine At.set_ne ?_ (by first | omega | (simp only [hset, hnew]; omega) | rfl | decide) | refine At.new_ne ?_)))) (call := s_isLabel_ok (d := 1) (by decide) c2 hb q0) (k := ?_)
  rintro v0 h_ ⟨rfl, e0⟩
  rw [e0]
  refine tX12_join_10  (kt := fun c_ => by exfalso; exact absurd c_ (by decide)) (kf := fun _ => ?_)
  refine tX12_join_13  (r := ?_)
  refine tX12_join_14  (r := ?_)
  refine tX12_join_15 (hd := (by omega)) (ha := (by first | assumption | (repeat (first | assumption | exact At.set_eq2 (by first | omega | (simp only [hset, hnew]; omega) | rfl | decide) | exact At.new_eq2 _ _ (by first | omega | (simp only [hset, hnew]; omega) | rfl | decide) | refine At.set_ne ?_ (by first | omega | (simp only [hset, hnew]; omega) | rfl | decide) | refine At.new_ne ?_)))) (call := s_isLabel_no (d := 1) (by decide) c2 hb bad) (k := ?_)
  rintro v1 h_ ⟨rfl, e1⟩
  rw [e1]
  refine tX12_join_18  (kt := fun c_ => by exfalso; exact c_ (by decide)) (kf := fun _ => ?_)
  refine tX12_join_21  (r := ?_)
  refine tX12_join_22  (r := ?_)
  refine tX12_join_23 (hd := (by omega)) (ha := (by first | assumption | (repeat (first | assumption | exact At.set_eq2 (by first | omega | (simp only [hset, hnew]; omega) | rfl | decide) | exact At.new_eq2 _ _ (by first | omega | (simp only [hset, hnew]; omega) | rfl | decide) | refine At.set_ne ?_ (by first | omega | (simp only [hset, hnew]; omega) | rfl | decide) | refine At.new_ne ?_)))) (call := s_no (d := 1) c2) (k := ?_)
  rintro vv h3 ⟨rfl, c3, ch3⟩
  refine tX12_join_26  (hP := ?_)
  exact MK.of c3 ((ch2.trans ch3).sub (Nat.le_refl _) (Nat.le_refl _) (by decide) (by decide))

set_option maxHeartbeats 4000000 in
set_option maxRecDepth 100000 in
theorem k_leave_no1 (hd : 7 ≤ d) (c : ClR h 0 bk dr s) (hb : BDok s.2.2.1 s.2.2.2) (hh : 216 ≤ h.1) {a0 : Int32} {V : Int32} (bad : a0 < 0 ∨ nI (bLa s.2.2.1) ≤ a0) : RQ G mX10_leave d 0 [some (.ref 0), some (.int (a0)), none] [] h (CK h bk dr s "java/lang/IndexOutOfBoundsException" "java/lang/IllegalStateException" 1 V) := by
  have c1 := c.poll
  refine tX10_leave_0  (r := ?_)
  refine tX10_leave_1  (r := ?_)
  refine tX10_leave_2 (hd := (by omega)) (ha := (by first | assumption | (repeat (first | assumption | exact At.set_eq2 (by first | omega | (simp only [hset, hnew]; omega) | rfl | decide) | exact At.new_eq2 _ _ (by first | omega | (simp only [hset, hnew]; omega) | rfl | decide) | refine At.set_ne ?_ (by first | omega | (simp only [hset, hnew]; omega) | rfl | decide) | refine At.new_ne ?_)))) (call := s_checkLabel_no (d := 6) (by decide) c bad) (kx := fun E_ h_ hx_ => by obtain ⟨rfl, rfl⟩ := hx_; exact ck_throw c hh (Or.inl ⟨rfl, rfl⟩)) (k := ?_)
  intro h_ e_
  exact e_.elim

set_option maxHeartbeats 4000000 in
set_option maxRecDepth 100000 in
theorem m_leave_no1 (hd : 2 ≤ d) (m1 : MoR h 216 s) (t1 : ToR h 216 s.2.2.1) (hb : BDok s.2.2.1 s.2.2.2) {a0 : Int32} (bad : a0 < 0 ∨ nI (bLa s.2.2.1) ≤ a0) : RQ G mX12_leave d 0 [some (.ref 216), some (.int (a0)), none] [] h (MK h s 1 (nI 0)) := by
  obtain ⟨th, c⟩ := MoT.ofR m1 t1
  refine b_leave c (fun h2 c2 ch2 => ?_)
  obtain ⟨⟨tk, iw, er, et, dp, nm, am⟩, -⟩ := id c2
  refine tX12_leave_5  (r := ?_)
  refine tX12_leave_6  (r := ?_)
  refine tX12_leave_7 (hd := (by omega)) (ha := (by first | assumption | (repeat (first | assumption | exact At.set_eq2 (by first | omega | (simp only [hset, hnew]; omega) | rfl | decide) | exact At.new_eq2 _ _ (by first | omega | (simp only [hset, hnew]; omega) | rfl | decide) | refine At.set_ne ?_ (by first | omega | (simp only [hset, hnew]; omega) | rfl | decide) | refine At.new_ne ?_)))) (call := s_isLabel_no (d := 1) (by decide) c2 hb bad) (k := ?_)
  rintro v0 h_ ⟨rfl, e0⟩
  rw [e0]
  refine tX12_leave_10  (kt := fun c_ => by exfalso; exact c_ (by decide)) (kf := fun _ => ?_)
  refine tX12_leave_13  (r := ?_)
  refine tX12_leave_14  (r := ?_)
  refine tX12_leave_15 (hd := (by omega)) (ha := (by first | assumption | (repeat (first | assumption | exact At.set_eq2 (by first | omega | (simp only [hset, hnew]; omega) | rfl | decide) | exact At.new_eq2 _ _ (by first | omega | (simp only [hset, hnew]; omega) | rfl | decide) | refine At.set_ne ?_ (by first | omega | (simp only [hset, hnew]; omega) | rfl | decide) | refine At.new_ne ?_)))) (call := s_no (d := 1) c2) (k := ?_)
  rintro vv h3 ⟨rfl, c3, ch3⟩
  refine tX12_leave_18  (hP := ?_)
  exact MK.of c3 ((ch2.trans ch3).sub (Nat.le_refl _) (Nat.le_refl _) (by decide) (by decide))

set_option maxHeartbeats 4000000 in
set_option maxRecDepth 100000 in
theorem k_seatsAfter_no1 (hd : 7 ≤ d) (c : ClR h 0 bk dr s) (hb : BDok s.2.2.1 s.2.2.2) (hh : 216 ≤ h.1) {a0 a1 : Int32} {V : Int32} (bad : a0 < 0 ∨ nI (bLa s.2.2.1) ≤ a0) : RQ G mX10_seatsAfter d 0 [some (.ref 0), some (.int (a0)), some (.int (a1)), none] [] h (CK h bk dr s "java/lang/IndexOutOfBoundsException" "java/lang/IllegalArgumentException" 1 V) := by
  have c1 := c.poll
  refine tX10_seatsAfter_0  (r := ?_)
  refine tX10_seatsAfter_1  (r := ?_)
  refine tX10_seatsAfter_2 (hd := (by omega)) (ha := (by first | assumption | (repeat (first | assumption | exact At.set_eq2 (by first | omega | (simp only [hset, hnew]; omega) | rfl | decide) | exact At.new_eq2 _ _ (by first | omega | (simp only [hset, hnew]; omega) | rfl | decide) | refine At.set_ne ?_ (by first | omega | (simp only [hset, hnew]; omega) | rfl | decide) | refine At.new_ne ?_)))) (call := s_checkLabel_no (d := 6) (by decide) c bad) (kx := fun E_ h_ hx_ => by obtain ⟨rfl, rfl⟩ := hx_; exact ck_throw c hh (Or.inl ⟨rfl, rfl⟩)) (k := ?_)
  intro h_ e_
  exact e_.elim

set_option maxHeartbeats 4000000 in
set_option maxRecDepth 100000 in
theorem m_seatsAfter_no1 (hd : 2 ≤ d) (m1 : MoR h 216 s) (t1 : ToR h 216 s.2.2.1) (hb : BDok s.2.2.1 s.2.2.2) {a0 a1 : Int32} (bad : a0 < 0 ∨ nI (bLa s.2.2.1) ≤ a0) : RQ G mX12_seatsAfter d 0 [some (.ref 216), some (.int (a0)), some (.int (a1)), none] [] h (MK h s 1 (nI 0)) := by
  obtain ⟨th, c⟩ := MoT.ofR m1 t1
  refine b_seatsAfter c (fun h2 c2 ch2 => ?_)
  obtain ⟨⟨tk, iw, er, et, dp, nm, am⟩, -⟩ := id c2
  refine tX12_seatsAfter_5  (r := ?_)
  refine tX12_seatsAfter_6  (r := ?_)
  refine tX12_seatsAfter_7 (hd := (by omega)) (ha := (by first | assumption | (repeat (first | assumption | exact At.set_eq2 (by first | omega | (simp only [hset, hnew]; omega) | rfl | decide) | exact At.new_eq2 _ _ (by first | omega | (simp only [hset, hnew]; omega) | rfl | decide) | refine At.set_ne ?_ (by first | omega | (simp only [hset, hnew]; omega) | rfl | decide) | refine At.new_ne ?_)))) (call := s_isLabel_no (d := 1) (by decide) c2 hb bad) (k := ?_)
  rintro v0 h_ ⟨rfl, e0⟩
  rw [e0]
  refine tX12_seatsAfter_10  (kt := fun c_ => by exfalso; exact c_ (by decide)) (kf := fun _ => ?_)
  refine tX12_seatsAfter_13  (r := ?_)
  refine tX12_seatsAfter_14  (r := ?_)
  refine tX12_seatsAfter_15 (hd := (by omega)) (ha := (by first | assumption | (repeat (first | assumption | exact At.set_eq2 (by first | omega | (simp only [hset, hnew]; omega) | rfl | decide) | exact At.new_eq2 _ _ (by first | omega | (simp only [hset, hnew]; omega) | rfl | decide) | refine At.set_ne ?_ (by first | omega | (simp only [hset, hnew]; omega) | rfl | decide) | refine At.new_ne ?_)))) (call := s_no (d := 1) c2) (k := ?_)
  rintro vv h3 ⟨rfl, c3, ch3⟩
  refine tX12_seatsAfter_18  (hP := ?_)
  exact MK.of c3 ((ch2.trans ch3).sub (Nat.le_refl _) (Nat.le_refl _) (by decide) (by decide))

set_option maxHeartbeats 4000000 in
set_option maxRecDepth 100000 in
theorem k_daysUntilMajority_no1 (hd : 7 ≤ d) (c : ClR h 0 bk dr s) (hb : BDok s.2.2.1 s.2.2.2) (hh : 216 ≤ h.1) {a0 : Int32} {V : Int32} (bad : a0 < 0 ∨ nI (bLa s.2.2.1) ≤ a0) : RQ G mX10_daysUntilMajority d 0 [some (.ref 0), some (.int (a0)), none] [] h (CK h bk dr s "java/lang/IndexOutOfBoundsException" "" 1 V) := by
  have c1 := c.poll
  refine tX10_daysUntilMajority_0  (r := ?_)
  refine tX10_daysUntilMajority_1  (r := ?_)
  refine tX10_daysUntilMajority_2 (hd := (by omega)) (ha := (by first | assumption | (repeat (first | assumption | exact At.set_eq2 (by first | omega | (simp only [hset, hnew]; omega) | rfl | decide) | exact At.new_eq2 _ _ (by first | omega | (simp only [hset, hnew]; omega) | rfl | decide) | refine At.set_ne ?_ (by first | omega | (simp only [hset, hnew]; omega) | rfl | decide) | refine At.new_ne ?_)))) (call := s_checkLabel_no (d := 6) (by decide) c bad) (kx := fun E_ h_ hx_ => by obtain ⟨rfl, rfl⟩ := hx_; exact ck_throw c hh (Or.inl ⟨rfl, rfl⟩)) (k := ?_)
  intro h_ e_
  exact e_.elim

set_option maxHeartbeats 4000000 in
set_option maxRecDepth 100000 in
theorem m_daysUntilMajority_no1 (hd : 2 ≤ d) (m1 : MoR h 216 s) (t1 : ToR h 216 s.2.2.1) (hb : BDok s.2.2.1 s.2.2.2) {a0 : Int32} (bad : a0 < 0 ∨ nI (bLa s.2.2.1) ≤ a0) : RQ G mX12_daysUntilMajority d 0 [some (.ref 216), some (.int (a0)), none] [] h (MK h s 1 (nI 0)) := by
  obtain ⟨th, c⟩ := MoT.ofR m1 t1
  refine b_daysUntilMajority c (fun h2 c2 ch2 => ?_)
  obtain ⟨⟨tk, iw, er, et, dp, nm, am⟩, -⟩ := id c2
  refine tX12_daysUntilMajority_5  (r := ?_)
  refine tX12_daysUntilMajority_6  (r := ?_)
  refine tX12_daysUntilMajority_7 (hd := (by omega)) (ha := (by first | assumption | (repeat (first | assumption | exact At.set_eq2 (by first | omega | (simp only [hset, hnew]; omega) | rfl | decide) | exact At.new_eq2 _ _ (by first | omega | (simp only [hset, hnew]; omega) | rfl | decide) | refine At.set_ne ?_ (by first | omega | (simp only [hset, hnew]; omega) | rfl | decide) | refine At.new_ne ?_)))) (call := s_isLabel_no (d := 1) (by decide) c2 hb bad) (k := ?_)
  rintro v0 h_ ⟨rfl, e0⟩
  rw [e0]
  refine tX12_daysUntilMajority_10  (kt := fun c_ => by exfalso; exact c_ (by decide)) (kf := fun _ => ?_)
  refine tX12_daysUntilMajority_13  (r := ?_)
  refine tX12_daysUntilMajority_14  (r := ?_)
  refine tX12_daysUntilMajority_15 (hd := (by omega)) (ha := (by first | assumption | (repeat (first | assumption | exact At.set_eq2 (by first | omega | (simp only [hset, hnew]; omega) | rfl | decide) | exact At.new_eq2 _ _ (by first | omega | (simp only [hset, hnew]; omega) | rfl | decide) | refine At.set_ne ?_ (by first | omega | (simp only [hset, hnew]; omega) | rfl | decide) | refine At.new_ne ?_)))) (call := s_no (d := 1) c2) (k := ?_)
  rintro vv h3 ⟨rfl, c3, ch3⟩
  refine tX12_daysUntilMajority_18  (hP := ?_)
  exact MK.of c3 ((ch2.trans ch3).sub (Nat.le_refl _) (Nat.le_refl _) (by decide) (by decide))

set_option maxHeartbeats 4000000 in
set_option maxRecDepth 100000 in
theorem k_beansToWin_no1 (hd : 7 ≤ d) (c : ClR h 0 bk dr s) (hb : BDok s.2.2.1 s.2.2.2) (hh : 216 ≤ h.1) {a0 a1 : Int32} {V : Int32} (bad : a0 < 0 ∨ nI (bJa s.2.2.1) ≤ a0) : RQ G mX10_beansToWin d 0 [some (.ref 0), some (.int (a0)), some (.int (a1))] [] h (CK h bk dr s "java/lang/IndexOutOfBoundsException" "" 1 V) := by
  have c1 := c.poll
  refine tX10_beansToWin_0  (r := ?_)
  refine tX10_beansToWin_1  (r := ?_)
  refine tX10_beansToWin_2 (hd := (by omega)) (ha := (by first | assumption | (repeat (first | assumption | exact At.set_eq2 (by first | omega | (simp only [hset, hnew]; omega) | rfl | decide) | exact At.new_eq2 _ _ (by first | omega | (simp only [hset, hnew]; omega) | rfl | decide) | refine At.set_ne ?_ (by first | omega | (simp only [hset, hnew]; omega) | rfl | decide) | refine At.new_ne ?_)))) (call := s_checkJar_no (d := 6) (by decide) c bad) (kx := fun E_ h_ hx_ => by obtain ⟨rfl, rfl⟩ := hx_; exact ck_throw c hh (Or.inl ⟨rfl, rfl⟩)) (k := ?_)
  intro h_ e_
  exact e_.elim

set_option maxHeartbeats 4000000 in
set_option maxRecDepth 100000 in
theorem k_beansToWin_no2 (hd : 7 ≤ d) (c : ClR h 0 bk dr s) (hb : BDok s.2.2.1 s.2.2.2) (hh : 216 ≤ h.1) {j0 : Nat} (q0 : j0 < bJa s.2.2.1) {a1 : Int32} {V : Int32} (bad : a1 < 0 ∨ nI (bLa s.2.2.1) ≤ a1) : RQ G mX10_beansToWin d 0 [some (.ref 0), some (.int (nI j0)), some (.int (a1))] [] h (CK h bk dr s "java/lang/IndexOutOfBoundsException" "" 1 V) := by
  have c1 := c.poll
  refine tX10_beansToWin_0  (r := ?_)
  refine tX10_beansToWin_1  (r := ?_)
  refine tX10_beansToWin_2 (hd := (by omega)) (ha := (by first | assumption | (repeat (first | assumption | exact At.set_eq2 (by first | omega | (simp only [hset, hnew]; omega) | rfl | decide) | exact At.new_eq2 _ _ (by first | omega | (simp only [hset, hnew]; omega) | rfl | decide) | refine At.set_ne ?_ (by first | omega | (simp only [hset, hnew]; omega) | rfl | decide) | refine At.new_ne ?_)))) (call := s_checkJar_ok (d := 6) (QX := fun _ _ => False) c hb q0) (kx := fun E_ h_ hx_ => by exact hx_.elim) (k := ?_)
  intro h_ e0
  rw [e0]
  refine tX10_beansToWin_5  (r := ?_)
  refine tX10_beansToWin_6  (r := ?_)
  refine tX10_beansToWin_7 (hd := (by omega)) (ha := (by first | assumption | (repeat (first | assumption | exact At.set_eq2 (by first | omega | (simp only [hset, hnew]; omega) | rfl | decide) | exact At.new_eq2 _ _ (by first | omega | (simp only [hset, hnew]; omega) | rfl | decide) | refine At.set_ne ?_ (by first | omega | (simp only [hset, hnew]; omega) | rfl | decide) | refine At.new_ne ?_)))) (call := s_checkLabel_no (d := 6) (by decide) c bad) (kx := fun E_ h_ hx_ => by obtain ⟨rfl, rfl⟩ := hx_; exact ck_throw c hh (Or.inl ⟨rfl, rfl⟩)) (k := ?_)
  intro h_ e_
  exact e_.elim

set_option maxHeartbeats 4000000 in
set_option maxRecDepth 100000 in
theorem m_beansToWin_no1 (hd : 2 ≤ d) (m1 : MoR h 216 s) (t1 : ToR h 216 s.2.2.1) (hb : BDok s.2.2.1 s.2.2.2) {a0 a1 : Int32} (bad : a0 < 0 ∨ nI (bJa s.2.2.1) ≤ a0) : RQ G mX12_beansToWin d 0 [some (.ref 216), some (.int (a0)), some (.int (a1))] [] h (MK h s 1 (nI 0)) := by
  obtain ⟨th, c⟩ := MoT.ofR m1 t1
  refine b_beansToWin c (fun h2 c2 ch2 => ?_)
  obtain ⟨⟨tk, iw, er, et, dp, nm, am⟩, -⟩ := id c2
  refine tX12_beansToWin_5  (r := ?_)
  refine tX12_beansToWin_6  (r := ?_)
  refine tX12_beansToWin_7 (hd := (by omega)) (ha := (by first | assumption | (repeat (first | assumption | exact At.set_eq2 (by first | omega | (simp only [hset, hnew]; omega) | rfl | decide) | exact At.new_eq2 _ _ (by first | omega | (simp only [hset, hnew]; omega) | rfl | decide) | refine At.set_ne ?_ (by first | omega | (simp only [hset, hnew]; omega) | rfl | decide) | refine At.new_ne ?_)))) (call := s_isJar_no (d := 1) (by decide) c2 hb bad) (k := ?_)
  rintro v0 h_ ⟨rfl, e0⟩
  rw [e0]
  refine tX12_beansToWin_10  (kf := fun c_ => by exfalso; exact c_ (by decide)) (kt := fun _ => ?_)
  refine tX12_beansToWin_30  (r := ?_)
  refine tX12_beansToWin_31  (r := ?_)
  refine tX12_beansToWin_32 (hd := (by omega)) (ha := (by first | assumption | (repeat (first | assumption | exact At.set_eq2 (by first | omega | (simp only [hset, hnew]; omega) | rfl | decide) | exact At.new_eq2 _ _ (by first | omega | (simp only [hset, hnew]; omega) | rfl | decide) | refine At.set_ne ?_ (by first | omega | (simp only [hset, hnew]; omega) | rfl | decide) | refine At.new_ne ?_)))) (call := s_no (d := 1) c2) (k := ?_)
  rintro vv h3 ⟨rfl, c3, ch3⟩
  refine tX12_beansToWin_35  (hP := ?_)
  exact MK.of c3 ((ch2.trans ch3).sub (Nat.le_refl _) (Nat.le_refl _) (by decide) (by decide))

set_option maxHeartbeats 4000000 in
set_option maxRecDepth 100000 in
theorem m_beansToWin_no2 (hd : 2 ≤ d) (m1 : MoR h 216 s) (t1 : ToR h 216 s.2.2.1) (hb : BDok s.2.2.1 s.2.2.2) {j0 : Nat} (q0 : j0 < bJa s.2.2.1) {a1 : Int32} (bad : a1 < 0 ∨ nI (bLa s.2.2.1) ≤ a1) : RQ G mX12_beansToWin d 0 [some (.ref 216), some (.int (nI j0)), some (.int (a1))] [] h (MK h s 1 (nI 0)) := by
  obtain ⟨th, c⟩ := MoT.ofR m1 t1
  refine b_beansToWin c (fun h2 c2 ch2 => ?_)
  obtain ⟨⟨tk, iw, er, et, dp, nm, am⟩, -⟩ := id c2
  refine tX12_beansToWin_5  (r := ?_)
  refine tX12_beansToWin_6  (r := ?_)
  refine tX12_beansToWin_7 (hd := (by omega)) (ha := (by first | assumption | (repeat (first | assumption | exact At.set_eq2 (by first | omega | (simp only [hset, hnew]; omega) | rfl | decide) | exact At.new_eq2 _ _ (by first | omega | (simp only [hset, hnew]; omega) | rfl | decide) | refine At.set_ne ?_ (by first | omega | (simp only [hset, hnew]; omega) | rfl | decide) | refine At.new_ne ?_)))) (call := s_isJar_ok (d := 1) (by decide) c2 hb q0) (k := ?_)
  rintro v0 h_ ⟨rfl, e0⟩
  rw [e0]
  refine tX12_beansToWin_10  (kt := fun c_ => by exfalso; exact absurd c_ (by decide)) (kf := fun _ => ?_)
  refine tX12_beansToWin_13  (r := ?_)
  refine tX12_beansToWin_14  (r := ?_)
  refine tX12_beansToWin_15 (hd := (by omega)) (ha := (by first | assumption | (repeat (first | assumption | exact At.set_eq2 (by first | omega | (simp only [hset, hnew]; omega) | rfl | decide) | exact At.new_eq2 _ _ (by first | omega | (simp only [hset, hnew]; omega) | rfl | decide) | refine At.set_ne ?_ (by first | omega | (simp only [hset, hnew]; omega) | rfl | decide) | refine At.new_ne ?_)))) (call := s_isLabel_no (d := 1) (by decide) c2 hb bad) (k := ?_)
  rintro v1 h_ ⟨rfl, e1⟩
  rw [e1]
  refine tX12_beansToWin_18  (kf := fun c_ => by exfalso; exact c_ (by decide)) (kt := fun _ => ?_)
  refine tX12_beansToWin_30  (r := ?_)
  refine tX12_beansToWin_31  (r := ?_)
  refine tX12_beansToWin_32 (hd := (by omega)) (ha := (by first | assumption | (repeat (first | assumption | exact At.set_eq2 (by first | omega | (simp only [hset, hnew]; omega) | rfl | decide) | exact At.new_eq2 _ _ (by first | omega | (simp only [hset, hnew]; omega) | rfl | decide) | refine At.set_ne ?_ (by first | omega | (simp only [hset, hnew]; omega) | rfl | decide) | refine At.new_ne ?_)))) (call := s_no (d := 1) c2) (k := ?_)
  rintro vv h3 ⟨rfl, c3, ch3⟩
  refine tX12_beansToWin_35  (hP := ?_)
  exact MK.of c3 ((ch2.trans ch3).sub (Nat.le_refl _) (Nat.le_refl _) (by decide) (by decide))

set_option maxHeartbeats 4000000 in
set_option maxRecDepth 100000 in
theorem k_bestJarFor_no1 (hd : 7 ≤ d) (c : ClR h 0 bk dr s) (hb : BDok s.2.2.1 s.2.2.2) (hh : 216 ≤ h.1) {a0 : Int32} {V : Int32} (bad : a0 < 0 ∨ nI (bLa s.2.2.1) ≤ a0) : RQ G mX10_bestJarFor d 0 [some (.ref 0), some (.int (a0)), none, none, none, none] [] h (CK h bk dr s "java/lang/IndexOutOfBoundsException" "" 1 V) := by
  have c1 := c.poll
  refine tX10_bestJarFor_0  (r := ?_)
  refine tX10_bestJarFor_1  (r := ?_)
  refine tX10_bestJarFor_2 (hd := (by omega)) (ha := (by first | assumption | (repeat (first | assumption | exact At.set_eq2 (by first | omega | (simp only [hset, hnew]; omega) | rfl | decide) | exact At.new_eq2 _ _ (by first | omega | (simp only [hset, hnew]; omega) | rfl | decide) | refine At.set_ne ?_ (by first | omega | (simp only [hset, hnew]; omega) | rfl | decide) | refine At.new_ne ?_)))) (call := s_checkLabel_no (d := 6) (by decide) c bad) (kx := fun E_ h_ hx_ => by obtain ⟨rfl, rfl⟩ := hx_; exact ck_throw c hh (Or.inl ⟨rfl, rfl⟩)) (k := ?_)
  intro h_ e_
  exact e_.elim

set_option maxHeartbeats 4000000 in
set_option maxRecDepth 100000 in
theorem m_bestJarFor_no1 (hd : 2 ≤ d) (m1 : MoR h 216 s) (t1 : ToR h 216 s.2.2.1) (hb : BDok s.2.2.1 s.2.2.2) {a0 : Int32} (bad : a0 < 0 ∨ nI (bLa s.2.2.1) ≤ a0) : RQ G mX12_bestJarFor d 0 [some (.ref 216), some (.int (a0))] [] h (MK h s 1 (nI 0)) := by
  obtain ⟨th, c⟩ := MoT.ofR m1 t1
  refine b_bestJarFor c (fun h2 c2 ch2 => ?_)
  obtain ⟨⟨tk, iw, er, et, dp, nm, am⟩, -⟩ := id c2
  refine tX12_bestJarFor_5  (r := ?_)
  refine tX12_bestJarFor_6  (r := ?_)
  refine tX12_bestJarFor_7 (hd := (by omega)) (ha := (by first | assumption | (repeat (first | assumption | exact At.set_eq2 (by first | omega | (simp only [hset, hnew]; omega) | rfl | decide) | exact At.new_eq2 _ _ (by first | omega | (simp only [hset, hnew]; omega) | rfl | decide) | refine At.set_ne ?_ (by first | omega | (simp only [hset, hnew]; omega) | rfl | decide) | refine At.new_ne ?_)))) (call := s_isLabel_no (d := 1) (by decide) c2 hb bad) (k := ?_)
  rintro v0 h_ ⟨rfl, e0⟩
  rw [e0]
  refine tX12_bestJarFor_10  (kf := fun c_ => by exfalso; exact c_ (by decide)) (kt := fun _ => ?_)
  refine tX12_bestJarFor_21  (r := ?_)
  refine tX12_bestJarFor_22  (r := ?_)
  refine tX12_bestJarFor_23 (hd := (by omega)) (ha := (by first | assumption | (repeat (first | assumption | exact At.set_eq2 (by first | omega | (simp only [hset, hnew]; omega) | rfl | decide) | exact At.new_eq2 _ _ (by first | omega | (simp only [hset, hnew]; omega) | rfl | decide) | refine At.set_ne ?_ (by first | omega | (simp only [hset, hnew]; omega) | rfl | decide) | refine At.new_ne ?_)))) (call := s_no (d := 1) c2) (k := ?_)
  rintro vv h3 ⟨rfl, c3, ch3⟩
  refine tX12_bestJarFor_26  (hP := ?_)
  exact MK.of c3 ((ch2.trans ch3).sub (Nat.le_refl _) (Nat.le_refl _) (by decide) (by decide))

set_option maxHeartbeats 4000000 in
set_option maxRecDepth 100000 in
theorem k_firstShaken_no1 (hd : 7 ≤ d) (c : ClR h 0 bk dr s) (hb : BDok s.2.2.1 s.2.2.2) (hh : 216 ≤ h.1) {a0 : Int32} {V : Int32} (bad : a0 < 0 ∨ nI (bJa s.2.2.1) ≤ a0) : RQ G mX10_firstShaken d 0 [some (.ref 0), some (.int (a0))] [] h (CK h bk dr s "java/lang/IndexOutOfBoundsException" "" 1 V) := by
  have c1 := c.poll
  refine tX10_firstShaken_0  (r := ?_)
  refine tX10_firstShaken_1  (r := ?_)
  refine tX10_firstShaken_2 (hd := (by omega)) (ha := (by first | assumption | (repeat (first | assumption | exact At.set_eq2 (by first | omega | (simp only [hset, hnew]; omega) | rfl | decide) | exact At.new_eq2 _ _ (by first | omega | (simp only [hset, hnew]; omega) | rfl | decide) | refine At.set_ne ?_ (by first | omega | (simp only [hset, hnew]; omega) | rfl | decide) | refine At.new_ne ?_)))) (call := s_checkJar_no (d := 6) (by decide) c bad) (kx := fun E_ h_ hx_ => by obtain ⟨rfl, rfl⟩ := hx_; exact ck_throw c hh (Or.inl ⟨rfl, rfl⟩)) (k := ?_)
  intro h_ e_
  exact e_.elim

set_option maxHeartbeats 4000000 in
set_option maxRecDepth 100000 in
theorem m_firstShaken_no1 (hd : 2 ≤ d) (m1 : MoR h 216 s) (t1 : ToR h 216 s.2.2.1) (hb : BDok s.2.2.1 s.2.2.2) {a0 : Int32} (bad : a0 < 0 ∨ nI (bJa s.2.2.1) ≤ a0) : RQ G mX12_firstShaken d 0 [some (.ref 216), some (.int (a0))] [] h (MK h s 1 (nI 0)) := by
  obtain ⟨th, c⟩ := MoT.ofR m1 t1
  refine b_firstShaken c (fun h2 c2 ch2 => ?_)
  obtain ⟨⟨tk, iw, er, et, dp, nm, am⟩, -⟩ := id c2
  refine tX12_firstShaken_5  (r := ?_)
  refine tX12_firstShaken_6  (r := ?_)
  refine tX12_firstShaken_7 (hd := (by omega)) (ha := (by first | assumption | (repeat (first | assumption | exact At.set_eq2 (by first | omega | (simp only [hset, hnew]; omega) | rfl | decide) | exact At.new_eq2 _ _ (by first | omega | (simp only [hset, hnew]; omega) | rfl | decide) | refine At.set_ne ?_ (by first | omega | (simp only [hset, hnew]; omega) | rfl | decide) | refine At.new_ne ?_)))) (call := s_isJar_no (d := 1) (by decide) c2 hb bad) (k := ?_)
  rintro v0 h_ ⟨rfl, e0⟩
  rw [e0]
  refine tX12_firstShaken_10  (kf := fun c_ => by exfalso; exact c_ (by decide)) (kt := fun _ => ?_)
  refine tX12_firstShaken_21  (r := ?_)
  refine tX12_firstShaken_22  (r := ?_)
  refine tX12_firstShaken_23 (hd := (by omega)) (ha := (by first | assumption | (repeat (first | assumption | exact At.set_eq2 (by first | omega | (simp only [hset, hnew]; omega) | rfl | decide) | exact At.new_eq2 _ _ (by first | omega | (simp only [hset, hnew]; omega) | rfl | decide) | refine At.set_ne ?_ (by first | omega | (simp only [hset, hnew]; omega) | rfl | decide) | refine At.new_ne ?_)))) (call := s_no (d := 1) c2) (k := ?_)
  rintro vv h3 ⟨rfl, c3, ch3⟩
  refine tX12_firstShaken_26  (hP := ?_)
  exact MK.of c3 ((ch2.trans ch3).sub (Nat.le_refl _) (Nat.le_refl _) (by decide) (by decide))

end NO
