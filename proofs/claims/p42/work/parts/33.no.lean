/-! calls that throw for an index out of range: the class's, the reference's -/
section NO
variable {G : GT} {d : Nat} {h : AH} {bk dr : Nat} {s : ST}
theorem ck_throw {k t : Nat} {E E1 E2 : String} {V : Int32} (c : ClR h 0 bk dr s) (hh : 216 ≤ h.1) (e : (t = 1 ∧ E = E1) ∨ (t = 2 ∧ E2 ≠ "" ∧ E = E2)) : CK h bk dr s E1 E2 t V (.inr E) (hnew h 6 (.inr (k, []))) := by
  have ht : 1 ≤ t := by rcases e with ⟨e1, -⟩ | ⟨e1, -, -⟩ <;> omega
  refine ⟨?_, c.keep (Nat.le_succ _) (Un.new (Un.rf _ _ _) (by omega)), ((Ch.rf h 0 216 0 0).new (Nat.zero_le _)).sub (Nat.le_refl _) (Nat.le_refl _) (by omega) (by omega)⟩
  rcases e with ⟨e1, e2⟩ | ⟨e1, e3, e2⟩
  · exact Or.inr (Or.inl ⟨e1, e2 ▸ rfl⟩)
  · exact Or.inr (Or.inr ⟨e1, e3, e2 ▸ rfl⟩)
theorem ck_val {E1 E2 : String} {V : Int32} {h1 : AH} {s' : ST} {bk' dr' : Nat} (c : ClR h1 0 bk' dr' s') (ch : Ch h h1 0 216 0 0) : CK h bk' dr' s' E1 E2 0 V (.inl (some (.int V))) h1 := ⟨Or.inl ⟨rfl, rfl⟩, c, ch⟩

set_option maxHeartbeats 4000000 in
set_option maxRecDepth 100000 in
theorem k_beansIn_no1 (hd : 7 ≤ d) (c : ClR h 0 bk dr s) (hb : BDok s.2.2.1 s.2.2.2) (hh : 216 ≤ h.1) {a0 a1 : Int32} {V : Int32} (bad : a0 < 0 ∨ nI (bJa s.2.2.1) ≤ a0) : RQ G mX10_beansIn d 0 [some (.ref 0), some (.int (a0)), some (.int (a1))] [] h (CK h bk dr s "java/lang/IndexOutOfBoundsException" "" 1 V) := by
  have c1 := c.poll
  refine tX10_beansIn_0  (r := ?_)
  refine tX10_beansIn_1  (r := ?_)
  refine tX10_beansIn_2 (hd := (by omega)) (ha := (by first | assumption | (repeat (first | assumption | exact At.set_eq2 (by first | omega | (simp only [hset, hnew]; omega) | rfl | decide) | exact At.new_eq2 _ _ (by first | omega | (simp only [hset, hnew]; omega) | rfl | decide) | refine At.set_ne ?_ (by first | omega | (simp only [hset, hnew]; omega) | rfl | decide) | refine At.new_ne ?_)))) (call := s_checkJar_no (d := 6) (by decide) c bad) (kx := fun E_ h_ hx_ => by obtain ⟨rfl, rfl⟩ := hx_; exact ck_throw c hh (Or.inl ⟨rfl, rfl⟩)) (k := ?_)
  intro h_ e_
  exact e_.elim

set_option maxHeartbeats 4000000 in
set_option maxRecDepth 100000 in
theorem k_beansIn_no2 (hd : 7 ≤ d) (c : ClR h 0 bk dr s) (hb : BDok s.2.2.1 s.2.2.2) (hh : 216 ≤ h.1) {j0 : Nat} (q0 : j0 < bJa s.2.2.1) {a1 : Int32} {V : Int32} (bad : a1 < 0 ∨ nI (bLa s.2.2.1) ≤ a1) : RQ G mX10_beansIn d 0 [some (.ref 0), some (.int (nI j0)), some (.int (a1))] [] h (CK h bk dr s "java/lang/IndexOutOfBoundsException" "" 1 V) := by
  have c1 := c.poll
  refine tX10_beansIn_0  (r := ?_)
  refine tX10_beansIn_1  (r := ?_)
  refine tX10_beansIn_2 (hd := (by omega)) (ha := (by first | assumption | (repeat (first | assumption | exact At.set_eq2 (by first | omega | (simp only [hset, hnew]; omega) | rfl | decide) | exact At.new_eq2 _ _ (by first | omega | (simp only [hset, hnew]; omega) | rfl | decide) | refine At.set_ne ?_ (by first | omega | (simp only [hset, hnew]; omega) | rfl | decide) | refine At.new_ne ?_)))) (call := s_checkJar_ok (d := 6) (QX := fun _ _ => False) c hb q0) (kx := fun E_ h_ hx_ => by exact hx_.elim) (k := ?_)
  intro h_ e0
  rw [e0]
  refine tX10_beansIn_5  (r := ?_)
  refine tX10_beansIn_6  (r := ?_)
  refine tX10_beansIn_7 (hd := (by omega)) (ha := (by first | assumption | (repeat (first | assumption | exact At.set_eq2 (by first | omega | (simp only [hset, hnew]; omega) | rfl | decide) | exact At.new_eq2 _ _ (by first | omega | (simp only [hset, hnew]; omega) | rfl | decide) | refine At.set_ne ?_ (by first | omega | (simp only [hset, hnew]; omega) | rfl | decide) | refine At.new_ne ?_)))) (call := s_checkLabel_no (d := 6) (by decide) c bad) (kx := fun E_ h_ hx_ => by obtain ⟨rfl, rfl⟩ := hx_; exact ck_throw c hh (Or.inl ⟨rfl, rfl⟩)) (k := ?_)
  intro h_ e_
  exact e_.elim

set_option maxHeartbeats 4000000 in
set_option maxRecDepth 100000 in
theorem k_beansOf_no1 (hd : 7 ≤ d) (c : ClR h 0 bk dr s) (hb : BDok s.2.2.1 s.2.2.2) (hh : 216 ≤ h.1) {a0 : Int32} {V : Int32} (bad : a0 < 0 ∨ nI (bLa s.2.2.1) ≤ a0) : RQ G mX10_beansOf d 0 [some (.ref 0), some (.int (a0)), none, none] [] h (CK h bk dr s "java/lang/IndexOutOfBoundsException" "" 1 V) := by
  have c1 := c.poll
  refine tX10_beansOf_0  (r := ?_)
  refine tX10_beansOf_1  (r := ?_)
  refine tX10_beansOf_2 (hd := (by omega)) (ha := (by first | assumption | (repeat (first | assumption | exact At.set_eq2 (by first | omega | (simp only [hset, hnew]; omega) | rfl | decide) | exact At.new_eq2 _ _ (by first | omega | (simp only [hset, hnew]; omega) | rfl | decide) | refine At.set_ne ?_ (by first | omega | (simp only [hset, hnew]; omega) | rfl | decide) | refine At.new_ne ?_)))) (call := s_checkLabel_no (d := 6) (by decide) c bad) (kx := fun E_ h_ hx_ => by obtain ⟨rfl, rfl⟩ := hx_; exact ck_throw c hh (Or.inl ⟨rfl, rfl⟩)) (k := ?_)
  intro h_ e_
  exact e_.elim

set_option maxHeartbeats 4000000 in
set_option maxRecDepth 100000 in
theorem k_turnout_no1 (hd : 7 ≤ d) (c : ClR h 0 bk dr s) (hb : BDok s.2.2.1 s.2.2.2) (hh : 216 ≤ h.1) {a0 : Int32} {V : Int32} (bad : a0 < 0 ∨ nI (bJa s.2.2.1) ≤ a0) : RQ G mX10_turnout d 0 [some (.ref 0), some (.int (a0))] [] h (CK h bk dr s "java/lang/IndexOutOfBoundsException" "" 1 V) := by
  have c1 := c.poll
  refine tX10_turnout_0  (r := ?_)
  refine tX10_turnout_1  (r := ?_)
  refine tX10_turnout_2 (hd := (by omega)) (ha := (by first | assumption | (repeat (first | assumption | exact At.set_eq2 (by first | omega | (simp only [hset, hnew]; omega) | rfl | decide) | exact At.new_eq2 _ _ (by first | omega | (simp only [hset, hnew]; omega) | rfl | decide) | refine At.set_ne ?_ (by first | omega | (simp only [hset, hnew]; omega) | rfl | decide) | refine At.new_ne ?_)))) (call := s_checkJar_no (d := 6) (by decide) c bad) (kx := fun E_ h_ hx_ => by obtain ⟨rfl, rfl⟩ := hx_; exact ck_throw c hh (Or.inl ⟨rfl, rfl⟩)) (k := ?_)
  intro h_ e_
  exact e_.elim

set_option maxHeartbeats 4000000 in
set_option maxRecDepth 100000 in
theorem k_seatsOf_no1 (hd : 7 ≤ d) (c : ClR h 0 bk dr s) (hb : BDok s.2.2.1 s.2.2.2) (hh : 216 ≤ h.1) {a0 : Int32} {V : Int32} (bad : a0 < 0 ∨ nI (bJa s.2.2.1) ≤ a0) : RQ G mX10_seatsOf d 0 [some (.ref 0), some (.int (a0))] [] h (CK h bk dr s "java/lang/IndexOutOfBoundsException" "" 1 V) := by
  have c1 := c.poll
  refine tX10_seatsOf_0  (r := ?_)
  refine tX10_seatsOf_1  (r := ?_)
  refine tX10_seatsOf_2 (hd := (by omega)) (ha := (by first | assumption | (repeat (first | assumption | exact At.set_eq2 (by first | omega | (simp only [hset, hnew]; omega) | rfl | decide) | exact At.new_eq2 _ _ (by first | omega | (simp only [hset, hnew]; omega) | rfl | decide) | refine At.set_ne ?_ (by first | omega | (simp only [hset, hnew]; omega) | rfl | decide) | refine At.new_ne ?_)))) (call := s_checkJar_no (d := 6) (by decide) c bad) (kx := fun E_ h_ hx_ => by obtain ⟨rfl, rfl⟩ := hx_; exact ck_throw c hh (Or.inl ⟨rfl, rfl⟩)) (k := ?_)
  intro h_ e_
  exact e_.elim

set_option maxHeartbeats 4000000 in
set_option maxRecDepth 100000 in
theorem k_leaderOf_no1 (hd : 7 ≤ d) (c : ClR h 0 bk dr s) (hb : BDok s.2.2.1 s.2.2.2) (hh : 216 ≤ h.1) {a0 : Int32} {V : Int32} (bad : a0 < 0 ∨ nI (bLa s.2.2.1) ≤ a0) : RQ G mX10_leaderOf d 0 [some (.ref 0), some (.int (a0))] [] h (CK h bk dr s "java/lang/IndexOutOfBoundsException" "" 1 V) := by
  have c1 := c.poll
  refine tX10_leaderOf_0  (r := ?_)
  refine tX10_leaderOf_1  (r := ?_)
  refine tX10_leaderOf_2 (hd := (by omega)) (ha := (by first | assumption | (repeat (first | assumption | exact At.set_eq2 (by first | omega | (simp only [hset, hnew]; omega) | rfl | decide) | exact At.new_eq2 _ _ (by first | omega | (simp only [hset, hnew]; omega) | rfl | decide) | refine At.set_ne ?_ (by first | omega | (simp only [hset, hnew]; omega) | rfl | decide) | refine At.new_ne ?_)))) (call := s_checkLabel_no (d := 6) (by decide) c bad) (kx := fun E_ h_ hx_ => by obtain ⟨rfl, rfl⟩ := hx_; exact ck_throw c hh (Or.inl ⟨rfl, rfl⟩)) (k := ?_)
  intro h_ e_
  exact e_.elim

set_option maxHeartbeats 4000000 in
set_option maxRecDepth 100000 in
theorem k_areAllied_no1 (hd : 7 ≤ d) (c : ClR h 0 bk dr s) (hb : BDok s.2.2.1 s.2.2.2) (hh : 216 ≤ h.1) {a0 a1 : Int32} {V : Int32} (bad : a0 < 0 ∨ nI (bLa s.2.2.1) ≤ a0) : RQ G mX10_areAllied d 0 [some (.ref 0), some (.int (a0)), some (.int (a1))] [] h (CK h bk dr s "java/lang/IndexOutOfBoundsException" "" 1 V) := by
  have c1 := c.poll
  refine tX10_areAllied_0  (r := ?_)
  refine tX10_areAllied_1  (r := ?_)
  refine tX10_areAllied_2 (hd := (by omega)) (ha := (by first | assumption | (repeat (first | assumption | exact At.set_eq2 (by first | omega | (simp only [hset, hnew]; omega) | rfl | decide) | exact At.new_eq2 _ _ (by first | omega | (simp only [hset, hnew]; omega) | rfl | decide) | refine At.set_ne ?_ (by first | omega | (simp only [hset, hnew]; omega) | rfl | decide) | refine At.new_ne ?_)))) (call := s_checkLabel_no (d := 6) (by decide) c bad) (kx := fun E_ h_ hx_ => by obtain ⟨rfl, rfl⟩ := hx_; exact ck_throw c hh (Or.inl ⟨rfl, rfl⟩)) (k := ?_)
  intro h_ e_
  exact e_.elim

set_option maxHeartbeats 4000000 in
set_option maxRecDepth 100000 in
theorem k_areAllied_no2 (hd : 7 ≤ d) (c : ClR h 0 bk dr s) (hb : BDok s.2.2.1 s.2.2.2) (hh : 216 ≤ h.1) {j0 : Nat} (q0 : j0 < bLa s.2.2.1) {a1 : Int32} {V : Int32} (bad : a1 < 0 ∨ nI (bLa s.2.2.1) ≤ a1) : RQ G mX10_areAllied d 0 [some (.ref 0), some (.int (nI j0)), some (.int (a1))] [] h (CK h bk dr s "java/lang/IndexOutOfBoundsException" "" 1 V) := by
  have c1 := c.poll
  refine tX10_areAllied_0  (r := ?_)
  refine tX10_areAllied_1  (r := ?_)
  refine tX10_areAllied_2 (hd := (by omega)) (ha := (by first | assumption | (repeat (first | assumption | exact At.set_eq2 (by first | omega | (simp only [hset, hnew]; omega) | rfl | decide) | exact At.new_eq2 _ _ (by first | omega | (simp only [hset, hnew]; omega) | rfl | decide) | refine At.set_ne ?_ (by first | omega | (simp only [hset, hnew]; omega) | rfl | decide) | refine At.new_ne ?_)))) (call := s_checkLabel_ok (d := 6) (QX := fun _ _ => False) c hb q0) (kx := fun E_ h_ hx_ => by exact hx_.elim) (k := ?_)
  intro h_ e0
  rw [e0]
  refine tX10_areAllied_5  (r := ?_)
  refine tX10_areAllied_6  (r := ?_)
  refine tX10_areAllied_7 (hd := (by omega)) (ha := (by first | assumption | (repeat (first | assumption | exact At.set_eq2 (by first | omega | (simp only [hset, hnew]; omega) | rfl | decide) | exact At.new_eq2 _ _ (by first | omega | (simp only [hset, hnew]; omega) | rfl | decide) | refine At.set_ne ?_ (by first | omega | (simp only [hset, hnew]; omega) | rfl | decide) | refine At.new_ne ?_)))) (call := s_checkLabel_no (d := 6) (by decide) c bad) (kx := fun E_ h_ hx_ => by obtain ⟨rfl, rfl⟩ := hx_; exact ck_throw c hh (Or.inl ⟨rfl, rfl⟩)) (k := ?_)
  intro h_ e_
  exact e_.elim

set_option maxHeartbeats 4000000 in
set_option maxRecDepth 100000 in
theorem k_firstIn_no1 (hd : 7 ≤ d) (c : ClR h 0 bk dr s) (hb : BDok s.2.2.1 s.2.2.2) (hh : 216 ≤ h.1) {a0 : Int32} {V : Int32} (bad : a0 < 0 ∨ nI (bJa s.2.2.1) ≤ a0) : RQ G mX10_firstIn d 0 [some (.ref 0), some (.int (a0))] [] h (CK h bk dr s "java/lang/IndexOutOfBoundsException" "" 1 V) := by
  have c1 := c.poll
  refine tX10_firstIn_0  (r := ?_)
  refine tX10_firstIn_1  (r := ?_)
  refine tX10_firstIn_2 (hd := (by omega)) (ha := (by first | assumption | (repeat (first | assumption | exact At.set_eq2 (by first | omega | (simp only [hset, hnew]; omega) | rfl | decide) | exact At.new_eq2 _ _ (by first | omega | (simp only [hset, hnew]; omega) | rfl | decide) | refine At.set_ne ?_ (by first | omega | (simp only [hset, hnew]; omega) | rfl | decide) | refine At.new_ne ?_)))) (call := s_checkJar_no (d := 6) (by decide) c bad) (kx := fun E_ h_ hx_ => by obtain ⟨rfl, rfl⟩ := hx_; exact ck_throw c hh (Or.inl ⟨rfl, rfl⟩)) (k := ?_)
  intro h_ e_
  exact e_.elim

set_option maxHeartbeats 4000000 in
set_option maxRecDepth 100000 in
theorem k_marginIn_no1 (hd : 7 ≤ d) (c : ClR h 0 bk dr s) (hb : BDok s.2.2.1 s.2.2.2) (hh : 216 ≤ h.1) {a0 : Int32} {V : Int32} (bad : a0 < 0 ∨ nI (bJa s.2.2.1) ≤ a0) : RQ G mX10_marginIn d 0 [some (.ref 0), some (.int (a0))] [] h (CK h bk dr s "java/lang/IndexOutOfBoundsException" "" 1 V) := by
  have c1 := c.poll
  refine tX10_marginIn_0  (r := ?_)
  refine tX10_marginIn_1  (r := ?_)
  refine tX10_marginIn_2 (hd := (by omega)) (ha := (by first | assumption | (repeat (first | assumption | exact At.set_eq2 (by first | omega | (simp only [hset, hnew]; omega) | rfl | decide) | exact At.new_eq2 _ _ (by first | omega | (simp only [hset, hnew]; omega) | rfl | decide) | refine At.set_ne ?_ (by first | omega | (simp only [hset, hnew]; omega) | rfl | decide) | refine At.new_ne ?_)))) (call := s_checkJar_no (d := 6) (by decide) c bad) (kx := fun E_ h_ hx_ => by obtain ⟨rfl, rfl⟩ := hx_; exact ck_throw c hh (Or.inl ⟨rfl, rfl⟩)) (k := ?_)
  intro h_ e_
  exact e_.elim

set_option maxHeartbeats 4000000 in
set_option maxRecDepth 100000 in
theorem k_allianceBeans_no1 (hd : 7 ≤ d) (c : ClR h 0 bk dr s) (hb : BDok s.2.2.1 s.2.2.2) (hh : 216 ≤ h.1) {a0 a1 : Int32} {V : Int32} (bad : a0 < 0 ∨ nI (bJa s.2.2.1) ≤ a0) : RQ G mX10_allianceBeans d 0 [some (.ref 0), some (.int (a0)), some (.int (a1))] [] h (CK h bk dr s "java/lang/IndexOutOfBoundsException" "" 1 V) := by
  have c1 := c.poll
  refine tX10_allianceBeans_0  (r := ?_)
  refine tX10_allianceBeans_1  (r := ?_)
  refine tX10_allianceBeans_2 (hd := (by omega)) (ha := (by first | assumption | (repeat (first | assumption | exact At.set_eq2 (by first | omega | (simp only [hset, hnew]; omega) | rfl | decide) | exact At.new_eq2 _ _ (by first | omega | (simp only [hset, hnew]; omega) | rfl | decide) | refine At.set_ne ?_ (by first | omega | (simp only [hset, hnew]; omega) | rfl | decide) | refine At.new_ne ?_)))) (call := s_checkJar_no (d := 6) (by decide) c bad) (kx := fun E_ h_ hx_ => by obtain ⟨rfl, rfl⟩ := hx_; exact ck_throw c hh (Or.inl ⟨rfl, rfl⟩)) (k := ?_)
  intro h_ e_
  exact e_.elim

set_option maxHeartbeats 4000000 in
set_option maxRecDepth 100000 in
theorem k_allianceBeans_no2 (hd : 7 ≤ d) (c : ClR h 0 bk dr s) (hb : BDok s.2.2.1 s.2.2.2) (hh : 216 ≤ h.1) {j0 : Nat} (q0 : j0 < bJa s.2.2.1) {a1 : Int32} {V : Int32} (bad : a1 < 0 ∨ nI (bLa s.2.2.1) ≤ a1) : RQ G mX10_allianceBeans d 0 [some (.ref 0), some (.int (nI j0)), some (.int (a1))] [] h (CK h bk dr s "java/lang/IndexOutOfBoundsException" "" 1 V) := by
  have c1 := c.poll
  refine tX10_allianceBeans_0  (r := ?_)
  refine tX10_allianceBeans_1  (r := ?_)
  refine tX10_allianceBeans_2 (hd := (by omega)) (ha := (by first | assumption | (repeat (first | assumption | exact At.set_eq2 (by first | omega | (simp only [hset, hnew]; omega) | rfl | decide) | exact At.new_eq2 _ _ (by first | omega | (simp only [hset, hnew]; omega) | rfl | decide) | refine At.set_ne ?_ (by first | omega | (simp only [hset, hnew]; omega) | rfl | decide) | refine At.new_ne ?_)))) (call := s_checkJar_ok (d := 6) (QX := fun _ _ => False) c hb q0) (kx := fun E_ h_ hx_ => by exact hx_.elim) (k := ?_)
  intro h_ e0
  rw [e0]
  refine tX10_allianceBeans_5  (r := ?_)
  refine tX10_allianceBeans_6  (r := ?_)
  refine tX10_allianceBeans_7 (hd := (by omega)) (ha := (by first | assumption | (repeat (first | assumption | exact At.set_eq2 (by first | omega | (simp only [hset, hnew]; omega) | rfl | decide) | exact At.new_eq2 _ _ (by first | omega | (simp only [hset, hnew]; omega) | rfl | decide) | refine At.set_ne ?_ (by first | omega | (simp only [hset, hnew]; omega) | rfl | decide) | refine At.new_ne ?_)))) (call := s_checkLabel_no (d := 6) (by decide) c bad) (kx := fun E_ h_ hx_ => by obtain ⟨rfl, rfl⟩ := hx_; exact ck_throw c hh (Or.inl ⟨rfl, rfl⟩)) (k := ?_)
  intro h_ e_
  exact e_.elim

set_option maxHeartbeats 4000000 in
set_option maxRecDepth 100000 in
theorem k_seatsWon_no1 (hd : 7 ≤ d) (c : ClR h 0 bk dr s) (hb : BDok s.2.2.1 s.2.2.2) (hh : 216 ≤ h.1) {a0 a1 : Int32} {V : Int32} (bad : a0 < 0 ∨ nI (bJa s.2.2.1) ≤ a0) : RQ G mX10_seatsWon d 0 [some (.ref 0), some (.int (a0)), some (.int (a1))] [] h (CK h bk dr s "java/lang/IndexOutOfBoundsException" "" 1 V) := by
  have c1 := c.poll
  refine tX10_seatsWon_0  (r := ?_)
  refine tX10_seatsWon_1  (r := ?_)
  refine tX10_seatsWon_2 (hd := (by omega)) (ha := (by first | assumption | (repeat (first | assumption | exact At.set_eq2 (by first | omega | (simp only [hset, hnew]; omega) | rfl | decide) | exact At.new_eq2 _ _ (by first | omega | (simp only [hset, hnew]; omega) | rfl | decide) | refine At.set_ne ?_ (by first | omega | (simp only [hset, hnew]; omega) | rfl | decide) | refine At.new_ne ?_)))) (call := s_checkJar_no (d := 6) (by decide) c bad) (kx := fun E_ h_ hx_ => by obtain ⟨rfl, rfl⟩ := hx_; exact ck_throw c hh (Or.inl ⟨rfl, rfl⟩)) (k := ?_)
  intro h_ e_
  exact e_.elim

set_option maxHeartbeats 4000000 in
set_option maxRecDepth 100000 in
theorem k_seatsWon_no2 (hd : 7 ≤ d) (c : ClR h 0 bk dr s) (hb : BDok s.2.2.1 s.2.2.2) (hh : 216 ≤ h.1) {j0 : Nat} (q0 : j0 < bJa s.2.2.1) {a1 : Int32} {V : Int32} (bad : a1 < 0 ∨ nI (bLa s.2.2.1) ≤ a1) : RQ G mX10_seatsWon d 0 [some (.ref 0), some (.int (nI j0)), some (.int (a1))] [] h (CK h bk dr s "java/lang/IndexOutOfBoundsException" "" 1 V) := by
  have c1 := c.poll
  refine tX10_seatsWon_0  (r := ?_)
  refine tX10_seatsWon_1  (r := ?_)
  refine tX10_seatsWon_2 (hd := (by omega)) (ha := (by first | assumption | (repeat (first | assumption | exact At.set_eq2 (by first | omega | (simp only [hset, hnew]; omega) | rfl | decide) | exact At.new_eq2 _ _ (by first | omega | (simp only [hset, hnew]; omega) | rfl | decide) | refine At.set_ne ?_ (by first | omega | (simp only [hset, hnew]; omega) | rfl | decide) | refine At.new_ne ?_)))) (call := s_checkJar_ok (d := 6) (QX := fun _ _ => False) c hb q0) (kx := fun E_ h_ hx_ => by exact hx_.elim) (k := ?_)
  intro h_ e0
  rw [e0]
  refine tX10_seatsWon_5  (r := ?_)
  refine tX10_seatsWon_6  (r := ?_)
  refine tX10_seatsWon_7 (hd := (by omega)) (ha := (by first | assumption | (repeat (first | assumption | exact At.set_eq2 (by first | omega | (simp only [hset, hnew]; omega) | rfl | decide) | exact At.new_eq2 _ _ (by first | omega | (simp only [hset, hnew]; omega) | rfl | decide) | refine At.set_ne ?_ (by first | omega | (simp only [hset, hnew]; omega) | rfl | decide) | refine At.new_ne ?_)))) (call := s_checkLabel_no (d := 6) (by decide) c bad) (kx := fun E_ h_ hx_ => by obtain ⟨rfl, rfl⟩ := hx_; exact ck_throw c hh (Or.inl ⟨rfl, rfl⟩)) (k := ?_)
  intro h_ e_
  exact e_.elim

set_option maxHeartbeats 4000000 in
set_option maxRecDepth 100000 in
theorem k_emptySeats_no1 (hd : 7 ≤ d) (c : ClR h 0 bk dr s) (hb : BDok s.2.2.1 s.2.2.2) (hh : 216 ≤ h.1) {a0 : Int32} {V : Int32} (bad : a0 < 0 ∨ nI (bJa s.2.2.1) ≤ a0) : RQ G mX10_emptySeats d 0 [some (.ref 0), some (.int (a0))] [] h (CK h bk dr s "java/lang/IndexOutOfBoundsException" "" 1 V) := by
  have c1 := c.poll
  refine tX10_emptySeats_0  (r := ?_)
  refine tX10_emptySeats_1  (r := ?_)
  refine tX10_emptySeats_2 (hd := (by omega)) (ha := (by first | assumption | (repeat (first | assumption | exact At.set_eq2 (by first | omega | (simp only [hset, hnew]; omega) | rfl | decide) | exact At.new_eq2 _ _ (by first | omega | (simp only [hset, hnew]; omega) | rfl | decide) | refine At.set_ne ?_ (by first | omega | (simp only [hset, hnew]; omega) | rfl | decide) | refine At.new_ne ?_)))) (call := s_checkJar_no (d := 6) (by decide) c bad) (kx := fun E_ h_ hx_ => by obtain ⟨rfl, rfl⟩ := hx_; exact ck_throw c hh (Or.inl ⟨rfl, rfl⟩)) (k := ?_)
  intro h_ e_
  exact e_.elim

set_option maxHeartbeats 4000000 in
set_option maxRecDepth 100000 in
theorem k_seatsInAll_no1 (hd : 7 ≤ d) (c : ClR h 0 bk dr s) (hb : BDok s.2.2.1 s.2.2.2) (hh : 216 ≤ h.1) {a0 : Int32} {V : Int32} (bad : a0 < 0 ∨ nI (bLa s.2.2.1) ≤ a0) : RQ G mX10_seatsInAll d 0 [some (.ref 0), some (.int (a0))] [] h (CK h bk dr s "java/lang/IndexOutOfBoundsException" "" 1 V) := by
  have c1 := c.poll
  refine tX10_seatsInAll_0  (r := ?_)
  refine tX10_seatsInAll_1  (r := ?_)
  refine tX10_seatsInAll_2 (hd := (by omega)) (ha := (by first | assumption | (repeat (first | assumption | exact At.set_eq2 (by first | omega | (simp only [hset, hnew]; omega) | rfl | decide) | exact At.new_eq2 _ _ (by first | omega | (simp only [hset, hnew]; omega) | rfl | decide) | refine At.set_ne ?_ (by first | omega | (simp only [hset, hnew]; omega) | rfl | decide) | refine At.new_ne ?_)))) (call := s_checkLabel_no (d := 6) (by decide) c bad) (kx := fun E_ h_ hx_ => by obtain ⟨rfl, rfl⟩ := hx_; exact ck_throw c hh (Or.inl ⟨rfl, rfl⟩)) (k := ?_)
  intro h_ e_
  exact e_.elim

set_option maxHeartbeats 4000000 in
set_option maxRecDepth 100000 in
theorem k_hasMajority_no1 (hd : 7 ≤ d) (c : ClR h 0 bk dr s) (hb : BDok s.2.2.1 s.2.2.2) (hh : 216 ≤ h.1) {a0 : Int32} {V : Int32} (bad : a0 < 0 ∨ nI (bLa s.2.2.1) ≤ a0) : RQ G mX10_hasMajority d 0 [some (.ref 0), some (.int (a0))] [] h (CK h bk dr s "java/lang/IndexOutOfBoundsException" "" 1 V) := by
  have c1 := c.poll
  refine tX10_hasMajority_0  (r := ?_)
  refine tX10_hasMajority_1  (r := ?_)
  refine tX10_hasMajority_2 (hd := (by omega)) (ha := (by first | assumption | (repeat (first | assumption | exact At.set_eq2 (by first | omega | (simp only [hset, hnew]; omega) | rfl | decide) | exact At.new_eq2 _ _ (by first | omega | (simp only [hset, hnew]; omega) | rfl | decide) | refine At.set_ne ?_ (by first | omega | (simp only [hset, hnew]; omega) | rfl | decide) | refine At.new_ne ?_)))) (call := s_checkLabel_no (d := 6) (by decide) c bad) (kx := fun E_ h_ hx_ => by obtain ⟨rfl, rfl⟩ := hx_; exact ck_throw c hh (Or.inl ⟨rfl, rfl⟩)) (k := ?_)
  intro h_ e_
  exact e_.elim

set_option maxHeartbeats 4000000 in
set_option maxRecDepth 100000 in
theorem k_jarOfLid_no1 (hd : 7 ≤ d) (c : ClR h 0 bk dr s) (hb : BDok s.2.2.1 s.2.2.2) (hh : 216 ≤ h.1) {a0 : Int32} {V : Int32} (bad : a0 < 0 ∨ nI (bLi s.2.2.1) ≤ a0) : RQ G mX10_jarOfLid d 0 [some (.ref 0), some (.int (a0))] [] h (CK h bk dr s "java/lang/IndexOutOfBoundsException" "" 1 V) := by
  have c1 := c.poll
  refine tX10_jarOfLid_0  (r := ?_)
  refine tX10_jarOfLid_1  (r := ?_)
  refine tX10_jarOfLid_2 (hd := (by omega)) (ha := (by first | assumption | (repeat (first | assumption | exact At.set_eq2 (by first | omega | (simp only [hset, hnew]; omega) | rfl | decide) | exact At.new_eq2 _ _ (by first | omega | (simp only [hset, hnew]; omega) | rfl | decide) | refine At.set_ne ?_ (by first | omega | (simp only [hset, hnew]; omega) | rfl | decide) | refine At.new_ne ?_)))) (call := s_checkLid_no (d := 6) (by decide) c bad) (kx := fun E_ h_ hx_ => by obtain ⟨rfl, rfl⟩ := hx_; exact ck_throw c hh (Or.inl ⟨rfl, rfl⟩)) (k := ?_)
  intro h_ e_
  exact e_.elim

set_option maxHeartbeats 4000000 in
set_option maxRecDepth 100000 in
theorem k_labelOfLid_no1 (hd : 7 ≤ d) (c : ClR h 0 bk dr s) (hb : BDok s.2.2.1 s.2.2.2) (hh : 216 ≤ h.1) {a0 : Int32} {V : Int32} (bad : a0 < 0 ∨ nI (bLi s.2.2.1) ≤ a0) : RQ G mX10_labelOfLid d 0 [some (.ref 0), some (.int (a0))] [] h (CK h bk dr s "java/lang/IndexOutOfBoundsException" "" 1 V) := by
  have c1 := c.poll
  refine tX10_labelOfLid_0  (r := ?_)
  refine tX10_labelOfLid_1  (r := ?_)
  refine tX10_labelOfLid_2 (hd := (by omega)) (ha := (by first | assumption | (repeat (first | assumption | exact At.set_eq2 (by first | omega | (simp only [hset, hnew]; omega) | rfl | decide) | exact At.new_eq2 _ _ (by first | omega | (simp only [hset, hnew]; omega) | rfl | decide) | refine At.set_ne ?_ (by first | omega | (simp only [hset, hnew]; omega) | rfl | decide) | refine At.new_ne ?_)))) (call := s_checkLid_no (d := 6) (by decide) c bad) (kx := fun E_ h_ hx_ => by obtain ⟨rfl, rfl⟩ := hx_; exact ck_throw c hh (Or.inl ⟨rfl, rfl⟩)) (k := ?_)
  intro h_ e_
  exact e_.elim

set_option maxHeartbeats 4000000 in
set_option maxRecDepth 100000 in
theorem k_ruleOfLid_no1 (hd : 7 ≤ d) (c : ClR h 0 bk dr s) (hb : BDok s.2.2.1 s.2.2.2) (hh : 216 ≤ h.1) {a0 : Int32} {V : Int32} (bad : a0 < 0 ∨ nI (bLi s.2.2.1) ≤ a0) : RQ G mX10_ruleOfLid d 0 [some (.ref 0), some (.int (a0)), none] [] h (CK h bk dr s "java/lang/IndexOutOfBoundsException" "" 1 V) := by
  have c1 := c.poll
  refine tX10_ruleOfLid_0  (r := ?_)
  refine tX10_ruleOfLid_1  (r := ?_)
  refine tX10_ruleOfLid_2 (hd := (by omega)) (ha := (by first | assumption | (repeat (first | assumption | exact At.set_eq2 (by first | omega | (simp only [hset, hnew]; omega) | rfl | decide) | exact At.new_eq2 _ _ (by first | omega | (simp only [hset, hnew]; omega) | rfl | decide) | refine At.set_ne ?_ (by first | omega | (simp only [hset, hnew]; omega) | rfl | decide) | refine At.new_ne ?_)))) (call := s_checkLid_no (d := 6) (by decide) c bad) (kx := fun E_ h_ hx_ => by obtain ⟨rfl, rfl⟩ := hx_; exact ck_throw c hh (Or.inl ⟨rfl, rfl⟩)) (k := ?_)
  intro h_ e_
  exact e_.elim

set_option maxHeartbeats 4000000 in
set_option maxRecDepth 100000 in
theorem k_pour_no1 (hd : 7 ≤ d) (c : ClR h 0 bk dr s) (hb : BDok s.2.2.1 s.2.2.2) (hh : 216 ≤ h.1) {a0 a1 a2 a3 : Int32} {V : Int32} (bad : a0 < 0 ∨ nI (bJa s.2.2.1) ≤ a0) : RQ G mX10_pour d 0 [some (.ref 0), some (.int (a0)), some (.int (a1)), some (.int (a2)), some (.int (a3))] [] h (CK h bk dr s "java/lang/IndexOutOfBoundsException" "java/lang/IllegalArgumentException" 1 V) := by
  have c1 := c.poll
  refine tX10_pour_0  (r := ?_)
  refine tX10_pour_1  (r := ?_)
  refine tX10_pour_2 (hd := (by omega)) (ha := (by first | assumption | (repeat (first | assumption | exact At.set_eq2 (by first | omega | (simp only [hset, hnew]; omega) | rfl | decide) | exact At.new_eq2 _ _ (by first | omega | (simp only [hset, hnew]; omega) | rfl | decide) | refine At.set_ne ?_ (by first | omega | (simp only [hset, hnew]; omega) | rfl | decide) | refine At.new_ne ?_)))) (call := s_checkJar_no (d := 6) (by decide) c bad) (kx := fun E_ h_ hx_ => by obtain ⟨rfl, rfl⟩ := hx_; exact ck_throw c hh (Or.inl ⟨rfl, rfl⟩)) (k := ?_)
  intro h_ e_
  exact e_.elim

set_option maxHeartbeats 4000000 in
set_option maxRecDepth 100000 in
theorem k_pour_no2 (hd : 7 ≤ d) (c : ClR h 0 bk dr s) (hb : BDok s.2.2.1 s.2.2.2) (hh : 216 ≤ h.1) {j0 : Nat} (q0 : j0 < bJa s.2.2.1) {a1 a2 a3 : Int32} {V : Int32} (bad : a1 < 0 ∨ nI (bLa s.2.2.1) ≤ a1) : RQ G mX10_pour d 0 [some (.ref 0), some (.int (nI j0)), some (.int (a1)), some (.int (a2)), some (.int (a3))] [] h (CK h bk dr s "java/lang/IndexOutOfBoundsException" "java/lang/IllegalArgumentException" 1 V) := by
  have c1 := c.poll
  refine tX10_pour_0  (r := ?_)
  refine tX10_pour_1  (r := ?_)
  refine tX10_pour_2 (hd := (by omega)) (ha := (by first | assumption | (repeat (first | assumption | exact At.set_eq2 (by first | omega | (simp only [hset, hnew]; omega) | rfl | decide) | exact At.new_eq2 _ _ (by first | omega | (simp only [hset, hnew]; omega) | rfl | decide) | refine At.set_ne ?_ (by first | omega | (simp only [hset, hnew]; omega) | rfl | decide) | refine At.new_ne ?_)))) (call := s_checkJar_ok (d := 6) (QX := fun _ _ => False) c hb q0) (kx := fun E_ h_ hx_ => by exact hx_.elim) (k := ?_)
  intro h_ e0
  rw [e0]
  refine tX10_pour_5  (r := ?_)
  refine tX10_pour_6  (r := ?_)
  refine tX10_pour_7 (hd := (by omega)) (ha := (by first | assumption | (repeat (first | assumption | exact At.set_eq2 (by first | omega | (simp only [hset, hnew]; omega) | rfl | decide) | exact At.new_eq2 _ _ (by first | omega | (simp only [hset, hnew]; omega) | rfl | decide) | refine At.set_ne ?_ (by first | omega | (simp only [hset, hnew]; omega) | rfl | decide) | refine At.new_ne ?_)))) (call := s_checkLabel_no (d := 6) (by decide) c bad) (kx := fun E_ h_ hx_ => by obtain ⟨rfl, rfl⟩ := hx_; exact ck_throw c hh (Or.inl ⟨rfl, rfl⟩)) (k := ?_)
  intro h_ e_
  exact e_.elim

set_option maxHeartbeats 4000000 in
set_option maxRecDepth 100000 in
theorem k_pour_no3 (hd : 7 ≤ d) (c : ClR h 0 bk dr s) (hb : BDok s.2.2.1 s.2.2.2) (hh : 216 ≤ h.1) {j0 : Nat} (q0 : j0 < bJa s.2.2.1) {j1 : Nat} (q1 : j1 < bLa s.2.2.1) {a2 a3 : Int32} {V : Int32} (bad : a2 < 0 ∨ nI (bLa s.2.2.1) ≤ a2) : RQ G mX10_pour d 0 [some (.ref 0), some (.int (nI j0)), some (.int (nI j1)), some (.int (a2)), some (.int (a3))] [] h (CK h bk dr s "java/lang/IndexOutOfBoundsException" "java/lang/IllegalArgumentException" 1 V) := by
  have c1 := c.poll
  refine tX10_pour_0  (r := ?_)
  refine tX10_pour_1  (r := ?_)
  refine tX10_pour_2 (hd := (by omega)) (ha := (by first | assumption | (repeat (first | assumption | exact At.set_eq2 (by first | omega | (simp only [hset, hnew]; omega) | rfl | decide) | exact At.new_eq2 _ _ (by first | omega | (simp only [hset, hnew]; omega) | rfl | decide) | refine At.set_ne ?_ (by first | omega | (simp only [hset, hnew]; omega) | rfl | decide) | refine At.new_ne ?_)))) (call := s_checkJar_ok (d := 6) (QX := fun _ _ => False) c hb q0) (kx := fun E_ h_ hx_ => by exact hx_.elim) (k := ?_)
  intro h_ e0
  rw [e0]
  refine tX10_pour_5  (r := ?_)
  refine tX10_pour_6  (r := ?_)
  refine tX10_pour_7 (hd := (by omega)) (ha := (by first | assumption | (repeat (first | assumption | exact At.set_eq2 (by first | omega | (simp only [hset, hnew]; omega) | rfl | decide) | exact At.new_eq2 _ _ (by first | omega | (simp only [hset, hnew]; omega) | rfl | decide) | refine At.set_ne ?_ (by first | omega | (simp only [hset, hnew]; omega) | rfl | decide) | refine At.new_ne ?_)))) (call := s_checkLabel_ok (d := 6) (QX := fun _ _ => False) c hb q1) (kx := fun E_ h_ hx_ => by exact hx_.elim) (k := ?_)
  intro h_ e1
  rw [e1]
  refine tX10_pour_10  (r := ?_)
  refine tX10_pour_11  (r := ?_)
  refine tX10_pour_12 (hd := (by omega)) (ha := (by first | assumption | (repeat (first | assumption | exact At.set_eq2 (by first | omega | (simp only [hset, hnew]; omega) | rfl | decide) | exact At.new_eq2 _ _ (by first | omega | (simp only [hset, hnew]; omega) | rfl | decide) | refine At.set_ne ?_ (by first | omega | (simp only [hset, hnew]; omega) | rfl | decide) | refine At.new_ne ?_)))) (call := s_checkLabel_no (d := 6) (by decide) c bad) (kx := fun E_ h_ hx_ => by obtain ⟨rfl, rfl⟩ := hx_; exact ck_throw c hh (Or.inl ⟨rfl, rfl⟩)) (k := ?_)
  intro h_ e_
  exact e_.elim

set_option maxHeartbeats 4000000 in
set_option maxRecDepth 100000 in
theorem k_shake_no1 (hd : 7 ≤ d) (c : ClR h 0 bk dr s) (hb : BDok s.2.2.1 s.2.2.2) (hh : 216 ≤ h.1) {a0 : Int32} {V : Int32} (bad : a0 < 0 ∨ nI (bJa s.2.2.1) ≤ a0) : RQ G mX10_shake d 0 [some (.ref 0), some (.int (a0))] [] h (CK h bk dr s "java/lang/IndexOutOfBoundsException" "" 1 V) := by
  have c1 := c.poll
  refine tX10_shake_0  (r := ?_)
  refine tX10_shake_1  (r := ?_)
  refine tX10_shake_2 (hd := (by omega)) (ha := (by first | assumption | (repeat (first | assumption | exact At.set_eq2 (by first | omega | (simp only [hset, hnew]; omega) | rfl | decide) | exact At.new_eq2 _ _ (by first | omega | (simp only [hset, hnew]; omega) | rfl | decide) | refine At.set_ne ?_ (by first | omega | (simp only [hset, hnew]; omega) | rfl | decide) | refine At.new_ne ?_)))) (call := s_checkJar_no (d := 6) (by decide) c bad) (kx := fun E_ h_ hx_ => by obtain ⟨rfl, rfl⟩ := hx_; exact ck_throw c hh (Or.inl ⟨rfl, rfl⟩)) (k := ?_)
  intro h_ e_
  exact e_.elim

set_option maxHeartbeats 4000000 in
set_option maxRecDepth 100000 in
theorem k_putLid_no1 (hd : 7 ≤ d) (c : ClR h 0 bk dr s) (hb : BDok s.2.2.1 s.2.2.2) (hh : 216 ≤ h.1) {a0 a1 : Int32} {V : Int32} (bad : a0 < 0 ∨ nI (bLi s.2.2.1) ≤ a0) : RQ G mX10_putLid d 0 [some (.ref 0), some (.int (a0)), some (.int (a1)), none] [] h (CK h bk dr s "java/lang/IndexOutOfBoundsException" "" 1 V) := by
  have c1 := c.poll
  refine tX10_putLid_0  (r := ?_)
  refine tX10_putLid_1  (r := ?_)
  refine tX10_putLid_2 (hd := (by omega)) (ha := (by first | assumption | (repeat (first | assumption | exact At.set_eq2 (by first | omega | (simp only [hset, hnew]; omega) | rfl | decide) | exact At.new_eq2 _ _ (by first | omega | (simp only [hset, hnew]; omega) | rfl | decide) | refine At.set_ne ?_ (by first | omega | (simp only [hset, hnew]; omega) | rfl | decide) | refine At.new_ne ?_)))) (call := s_checkLid_no (d := 6) (by decide) c bad) (kx := fun E_ h_ hx_ => by obtain ⟨rfl, rfl⟩ := hx_; exact ck_throw c hh (Or.inl ⟨rfl, rfl⟩)) (k := ?_)
  intro h_ e_
  exact e_.elim

set_option maxHeartbeats 4000000 in
set_option maxRecDepth 100000 in
theorem k_putLid_no2 (hd : 7 ≤ d) (c : ClR h 0 bk dr s) (hb : BDok s.2.2.1 s.2.2.2) (hh : 216 ≤ h.1) {j0 : Nat} (q0 : j0 < bLi s.2.2.1) {a1 : Int32} {V : Int32} (bad : a1 < 0 ∨ nI (bJa s.2.2.1) ≤ a1) : RQ G mX10_putLid d 0 [some (.ref 0), some (.int (nI j0)), some (.int (a1)), none] [] h (CK h bk dr s "java/lang/IndexOutOfBoundsException" "" 1 V) := by
  have c1 := c.poll
  refine tX10_putLid_0  (r := ?_)
  refine tX10_putLid_1  (r := ?_)
  refine tX10_putLid_2 (hd := (by omega)) (ha := (by first | assumption | (repeat (first | assumption | exact At.set_eq2 (by first | omega | (simp only [hset, hnew]; omega) | rfl | decide) | exact At.new_eq2 _ _ (by first | omega | (simp only [hset, hnew]; omega) | rfl | decide) | refine At.set_ne ?_ (by first | omega | (simp only [hset, hnew]; omega) | rfl | decide) | refine At.new_ne ?_)))) (call := s_checkLid_ok (d := 6) (QX := fun _ _ => False) c hb q0) (kx := fun E_ h_ hx_ => by exact hx_.elim) (k := ?_)
  intro h_ e0
  rw [e0]
  refine tX10_putLid_5  (r := ?_)
  refine tX10_putLid_6  (r := ?_)
  refine tX10_putLid_7 (hd := (by omega)) (ha := (by first | assumption | (repeat (first | assumption | exact At.set_eq2 (by first | omega | (simp only [hset, hnew]; omega) | rfl | decide) | exact At.new_eq2 _ _ (by first | omega | (simp only [hset, hnew]; omega) | rfl | decide) | refine At.set_ne ?_ (by first | omega | (simp only [hset, hnew]; omega) | rfl | decide) | refine At.new_ne ?_)))) (call := s_checkJar_no (d := 6) (by decide) c bad) (kx := fun E_ h_ hx_ => by obtain ⟨rfl, rfl⟩ := hx_; exact ck_throw c hh (Or.inl ⟨rfl, rfl⟩)) (k := ?_)
  intro h_ e_
  exact e_.elim

set_option maxHeartbeats 4000000 in
set_option maxRecDepth 100000 in
theorem k_join_no1 (hd : 7 ≤ d) (c : ClR h 0 bk dr s) (hb : BDok s.2.2.1 s.2.2.2) (hh : 216 ≤ h.1) {a0 a1 : Int32} {V : Int32} (bad : a0 < 0 ∨ nI (bLa s.2.2.1) ≤ a0) : RQ G mX10_join d 0 [some (.ref 0), some (.int (a0)), some (.int (a1))] [] h (CK h bk dr s "java/lang/IndexOutOfBoundsException" "java/lang/IllegalStateException" 1 V) := by
  have c1 := c.poll
  refine tX10_join_0  (r := ?_)
  refine tX10_join_1  (r := ?_)
  refine tX10_join_2 (hd := (by omega)) (ha := (by first | assumption | (repeat (first | assumption | exact At.set_eq2 (by first | omega | (simp only [hset, hnew]; omega) | rfl | decide) | exact At.new_eq2 _ _ (by first | omega | (simp only [hset, hnew]; omega) | rfl | decide) | refine At.set_ne ?_ (by first | omega | (simp only [hset, hnew]; omega) | rfl | decide) | refine At.new_ne ?_)))) (call := s_checkLabel_no (d := 6) (by decide) c bad) (kx := fun E_ h_ hx_ => by obtain ⟨rfl, rfl⟩ := hx_; exact ck_throw c hh (Or.inl ⟨rfl, rfl⟩)) (k := ?_)
  intro h_ e_
  exact e_.elim

set_option maxHeartbeats 4000000 in
set_option maxRecDepth 100000 in
theorem k_join_no2 (hd : 7 ≤ d) (c : ClR h 0 bk dr s) (hb : BDok s.2.2.1 s.2.2.2) (hh : 216 ≤ h.1) {j0 : Nat} (q0 : j0 < bLa s.2.2.1) {a1 : Int32} {V : Int32} (bad : a1 < 0 ∨ nI (bLa s.2.2.1) ≤ a1) : RQ G mX10_join d 0 [some (.ref 0), some (.int (nI j0)), some (.int (a1))] [] h (CK h bk dr s "java/lang/IndexOutOfBoundsException" "java/lang/IllegalStateException" 1 V) := by
  have c1 := c.poll
  refine tX10_join_0  (r := ?_)
  refine tX10_join_1  (r := ?_)
  refine tX10_join_2 (hd := (by omega)) (ha := (by first | assumption | (repeat (first | assumption | exact At.set_eq2 (by first | omega | (simp only [hset, hnew]; omega) | rfl | decide) | exact At.new_eq2 _ _ (by first | omega | (simp only [hset, hnew]; omega) | rfl | decide) | refine At.set_ne ?_ (by first | omega | (simp only [hset, hnew]; omega) | rfl | decide) | refine At.new_ne ?_)))) (call := s_checkLabel_ok (d := 6) (QX := fun _ _ => False) c hb q0) (kx := fun E_ h_ hx_ => by exact hx_.elim) (k := ?_)
  intro h_ e0
  rw [e0]
  refine tX10_join_5  (r := ?_)
  refine tX10_join_6  (r := ?_)
  refine tX10_join_7 (hd := (by omega)) (ha := (by first | assumption | (repeat (first | assumption | exact At.set_eq2 (by first | omega | (simp only [hset, hnew]; omega) | rfl | decide) | exact At.new_eq2 _ _ (by first | omega | (simp only [hset, hnew]; omega) | rfl | decide) | refine At.set_ne ?_ (by first | omega | (simp only [hset, hnew]; omega) | rfl | decide) | refine At.new_ne ?_)))) (call := s_checkLabel_no (d := 6) (by decide) c bad) (kx := fun E_ h_ hx_ => by obtain ⟨rfl, rfl⟩ := hx_; exact ck_throw c hh (Or.inl ⟨rfl, rfl⟩)) (k := ?_)
  intro h_ e_
  exact e_.elim

set_option maxHeartbeats 4000000 in
set_option maxRecDepth 100000 in
theorem k_leave_no1 (hd : 7 ≤ d) (c : ClR h 0 bk dr s) (hb : BDok s.2.2.1 s.2.2.2) (hh : 216 ≤ h.1) {a0 : Int32} {V : Int32} (bad : a0 < 0 ∨ nI (bLa s.2.2.1) ≤ a0) : RQ G mX10_leave d 0 [some (.ref 0), some (.int (a0)), none] [] h (CK h bk dr s "java/lang/IndexOutOfBoundsException" "java/lang/IllegalStateException" 1 V) := by
  have c1 := c.poll
  refine tX10_leave_0  (r := ?_)
  refine tX10_leave_1  (r := ?_)
  refine tX10_leave_2 (hd := (by omega)) (ha := (by first | assumption | (repeat (first | assumption | exact At.set_eq2 (by first | omega | (simp only [hset, hnew]; omega) | rfl | decide) | exact At.new_eq2 _ _ (by first | omega | (simp only [hset, hnew]; omega) | rfl | decide) | refine At.set_ne ?_ (by first | omega | (simp only [hset, hnew]; omega) | rfl | decide) | refine At.new_ne ?_)))) (call := s_checkLabel_no (d := 6) (by decide) c bad) (kx := fun E_ h_ hx_ => by obtain ⟨rfl, rfl⟩ := hx_; exact ck_throw c hh (Or.inl ⟨rfl, rfl⟩)) (k := ?_)
  intro h_ e_
  exact e_.elim

set_option maxHeartbeats 4000000 in
set_option maxRecDepth 100000 in
theorem k_seatsAfter_no1 (hd : 7 ≤ d) (c : ClR h 0 bk dr s) (hb : BDok s.2.2.1 s.2.2.2) (hh : 216 ≤ h.1) {a0 a1 : Int32} {V : Int32} (bad : a0 < 0 ∨ nI (bLa s.2.2.1) ≤ a0) : RQ G mX10_seatsAfter d 0 [some (.ref 0), some (.int (a0)), some (.int (a1)), none] [] h (CK h bk dr s "java/lang/IndexOutOfBoundsException" "java/lang/IllegalArgumentException" 1 V) := by
  have c1 := c.poll
  refine tX10_seatsAfter_0  (r := ?_)
  refine tX10_seatsAfter_1  (r := ?_)
  refine tX10_seatsAfter_2 (hd := (by omega)) (ha := (by first | assumption | (repeat (first | assumption | exact At.set_eq2 (by first | omega | (simp only [hset, hnew]; omega) | rfl | decide) | exact At.new_eq2 _ _ (by first | omega | (simp only [hset, hnew]; omega) | rfl | decide) | refine At.set_ne ?_ (by first | omega | (simp only [hset, hnew]; omega) | rfl | decide) | refine At.new_ne ?_)))) (call := s_checkLabel_no (d := 6) (by decide) c bad) (kx := fun E_ h_ hx_ => by obtain ⟨rfl, rfl⟩ := hx_; exact ck_throw c hh (Or.inl ⟨rfl, rfl⟩)) (k := ?_)
  intro h_ e_
  exact e_.elim

set_option maxHeartbeats 4000000 in
set_option maxRecDepth 100000 in
theorem k_daysUntilMajority_no1 (hd : 7 ≤ d) (c : ClR h 0 bk dr s) (hb : BDok s.2.2.1 s.2.2.2) (hh : 216 ≤ h.1) {a0 : Int32} {V : Int32} (bad : a0 < 0 ∨ nI (bLa s.2.2.1) ≤ a0) : RQ G mX10_daysUntilMajority d 0 [some (.ref 0), some (.int (a0)), none] [] h (CK h bk dr s "java/lang/IndexOutOfBoundsException" "" 1 V) := by
  have c1 := c.poll
  refine tX10_daysUntilMajority_0  (r := ?_)
  refine tX10_daysUntilMajority_1  (r := ?_)
  refine tX10_daysUntilMajority_2 (hd := (by omega)) (ha := (by first | assumption | (repeat (first | assumption | exact At.set_eq2 (by first | omega | (simp only [hset, hnew]; omega) | rfl | decide) | exact At.new_eq2 _ _ (by first | omega | (simp only [hset, hnew]; omega) | rfl | decide) | refine At.set_ne ?_ (by first | omega | (simp only [hset, hnew]; omega) | rfl | decide) | refine At.new_ne ?_)))) (call := s_checkLabel_no (d := 6) (by decide) c bad) (kx := fun E_ h_ hx_ => by obtain ⟨rfl, rfl⟩ := hx_; exact ck_throw c hh (Or.inl ⟨rfl, rfl⟩)) (k := ?_)
  intro h_ e_
  exact e_.elim

set_option maxHeartbeats 4000000 in
set_option maxRecDepth 100000 in
theorem k_beansToWin_no1 (hd : 7 ≤ d) (c : ClR h 0 bk dr s) (hb : BDok s.2.2.1 s.2.2.2) (hh : 216 ≤ h.1) {a0 a1 : Int32} {V : Int32} (bad : a0 < 0 ∨ nI (bJa s.2.2.1) ≤ a0) : RQ G mX10_beansToWin d 0 [some (.ref 0), some (.int (a0)), some (.int (a1))] [] h (CK h bk dr s "java/lang/IndexOutOfBoundsException" "" 1 V) := by
  have c1 := c.poll
  refine tX10_beansToWin_0  (r := ?_)
  refine tX10_beansToWin_1  (r := ?_)
  refine tX10_beansToWin_2 (hd := (by omega)) (ha := (by first | assumption | (repeat (first | assumption | exact At.set_eq2 (by first | omega | (simp only [hset, hnew]; omega) | rfl | decide) | exact At.new_eq2 _ _ (by first | omega | (simp only [hset, hnew]; omega) | rfl | decide) | refine At.set_ne ?_ (by first | omega | (simp only [hset, hnew]; omega) | rfl | decide) | refine At.new_ne ?_)))) (call := s_checkJar_no (d := 6) (by decide) c bad) (kx := fun E_ h_ hx_ => by obtain ⟨rfl, rfl⟩ := hx_; exact ck_throw c hh (Or.inl ⟨rfl, rfl⟩)) (k := ?_)
  intro h_ e_
  exact e_.elim

set_option maxHeartbeats 4000000 in
set_option maxRecDepth 100000 in
theorem k_beansToWin_no2 (hd : 7 ≤ d) (c : ClR h 0 bk dr s) (hb : BDok s.2.2.1 s.2.2.2) (hh : 216 ≤ h.1) {j0 : Nat} (q0 : j0 < bJa s.2.2.1) {a1 : Int32} {V : Int32} (bad : a1 < 0 ∨ nI (bLa s.2.2.1) ≤ a1) : RQ G mX10_beansToWin d 0 [some (.ref 0), some (.int (nI j0)), some (.int (a1))] [] h (CK h bk dr s "java/lang/IndexOutOfBoundsException" "" 1 V) := by
  have c1 := c.poll
  refine tX10_beansToWin_0  (r := ?_)
  refine tX10_beansToWin_1  (r := ?_)
  refine tX10_beansToWin_2 (hd := (by omega)) (ha := (by first | assumption | (repeat (first | assumption | exact At.set_eq2 (by first | omega | (simp only [hset, hnew]; omega) | rfl | decide) | exact At.new_eq2 _ _ (by first | omega | (simp only [hset, hnew]; omega) | rfl | decide) | refine At.set_ne ?_ (by first | omega | (simp only [hset, hnew]; omega) | rfl | decide) | refine At.new_ne ?_)))) (call := s_checkJar_ok (d := 6) (QX := fun _ _ => False) c hb q0) (kx := fun E_ h_ hx_ => by exact hx_.elim) (k := ?_)
  intro h_ e0
  rw [e0]
  refine tX10_beansToWin_5  (r := ?_)
  refine tX10_beansToWin_6  (r := ?_)
  refine tX10_beansToWin_7 (hd := (by omega)) (ha := (by first | assumption | (repeat (first | assumption | exact At.set_eq2 (by first | omega | (simp only [hset, hnew]; omega) | rfl | decide) | exact At.new_eq2 _ _ (by first | omega | (simp only [hset, hnew]; omega) | rfl | decide) | refine At.set_ne ?_ (by first | omega | (simp only [hset, hnew]; omega) | rfl | decide) | refine At.new_ne ?_)))) (call := s_checkLabel_no (d := 6) (by decide) c bad) (kx := fun E_ h_ hx_ => by obtain ⟨rfl, rfl⟩ := hx_; exact ck_throw c hh (Or.inl ⟨rfl, rfl⟩)) (k := ?_)
  intro h_ e_
  exact e_.elim

set_option maxHeartbeats 4000000 in
set_option maxRecDepth 100000 in
theorem k_bestJarFor_no1 (hd : 7 ≤ d) (c : ClR h 0 bk dr s) (hb : BDok s.2.2.1 s.2.2.2) (hh : 216 ≤ h.1) {a0 : Int32} {V : Int32} (bad : a0 < 0 ∨ nI (bLa s.2.2.1) ≤ a0) : RQ G mX10_bestJarFor d 0 [some (.ref 0), some (.int (a0)), none, none, none, none] [] h (CK h bk dr s "java/lang/IndexOutOfBoundsException" "" 1 V) := by
  have c1 := c.poll
  refine tX10_bestJarFor_0  (r := ?_)
  refine tX10_bestJarFor_1  (r := ?_)
  refine tX10_bestJarFor_2 (hd := (by omega)) (ha := (by first | assumption | (repeat (first | assumption | exact At.set_eq2 (by first | omega | (simp only [hset, hnew]; omega) | rfl | decide) | exact At.new_eq2 _ _ (by first | omega | (simp only [hset, hnew]; omega) | rfl | decide) | refine At.set_ne ?_ (by first | omega | (simp only [hset, hnew]; omega) | rfl | decide) | refine At.new_ne ?_)))) (call := s_checkLabel_no (d := 6) (by decide) c bad) (kx := fun E_ h_ hx_ => by obtain ⟨rfl, rfl⟩ := hx_; exact ck_throw c hh (Or.inl ⟨rfl, rfl⟩)) (k := ?_)
  intro h_ e_
  exact e_.elim

set_option maxHeartbeats 4000000 in
set_option maxRecDepth 100000 in
theorem k_firstShaken_no1 (hd : 7 ≤ d) (c : ClR h 0 bk dr s) (hb : BDok s.2.2.1 s.2.2.2) (hh : 216 ≤ h.1) {a0 : Int32} {V : Int32} (bad : a0 < 0 ∨ nI (bJa s.2.2.1) ≤ a0) : RQ G mX10_firstShaken d 0 [some (.ref 0), some (.int (a0))] [] h (CK h bk dr s "java/lang/IndexOutOfBoundsException" "" 1 V) := by
  have c1 := c.poll
  refine tX10_firstShaken_0  (r := ?_)
  refine tX10_firstShaken_1  (r := ?_)
  refine tX10_firstShaken_2 (hd := (by omega)) (ha := (by first | assumption | (repeat (first | assumption | exact At.set_eq2 (by first | omega | (simp only [hset, hnew]; omega) | rfl | decide) | exact At.new_eq2 _ _ (by first | omega | (simp only [hset, hnew]; omega) | rfl | decide) | refine At.set_ne ?_ (by first | omega | (simp only [hset, hnew]; omega) | rfl | decide) | refine At.new_ne ?_)))) (call := s_checkJar_no (d := 6) (by decide) c bad) (kx := fun E_ h_ hx_ => by obtain ⟨rfl, rfl⟩ := hx_; exact ck_throw c hh (Or.inl ⟨rfl, rfl⟩)) (k := ?_)
  intro h_ e_
  exact e_.elim

end NO
