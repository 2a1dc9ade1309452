/-! the checks, the class's and the reference's -/
section CH
variable {G : GT} {d : Nat} {h : AH}
theorem ClR.poll {x bk dr : Nat} {s : ST} (c : ClR h x bk dr s) : At h x (.inr (8, [.ref (x + 1), .ref (x + 3), .ref (x + 66), .ref (x + 111), .ref (x + 156), .ref bk, .int s.2.1])) := c.1
theorem ClR.book {x bk dr : Nat} {s : ST} (c : ClR h x bk dr s) : At h bk (.inr (0, [.ref (bk + 1), .ref (bk + 2), .ref (bk + 3), .ref (bk + 4), .ref (bk + 5), .ref (bk + 6), .ref (bk + 7), .ref (bk + 52), .int (nI (bLa s.2.2.1)), .int (nI (bJa s.2.2.1)), .int (nI (bLi s.2.2.1))])) := c.2.2.2.2.2.2.2.1.1
/-- the reference, with what it has thrown -/
def MoT (h : AH) (m : Nat) (th : Int32) (s : ST) : Prop := (∃ tk iw er et dp nm, At h m (ModO m th (nI s.1.length) s.2.1 tk iw er et dp nm)) ∧ MoR h m s ∧ ToR h m s.2.2.1
theorem MoT.told {m : Nat} {th : Int32} {s : ST} (c : MoT h m th s) : ∃ ru ac no : Int32, At h (m + 9) (MBoO (m + 9) (nI (bLa s.2.2.1)) (nI (bJa s.2.2.1)) (nI (bLi s.2.2.1)) ru ac no) := by
  obtain ⟨-, ⟨-, -, -, -, -, -, -, -, -, ⟨ru, ac, no, a9⟩, -⟩, -⟩ := c
  exact ⟨ru, ac, no, a9.1⟩
theorem MoT.thr {m : Nat} {th th2 : Int32} {s : ST} (c : MoT h m th s) {tk iw er et dp nm : Int32} (a : At h m (ModO m th (nI s.1.length) s.2.1 tk iw er et dp nm)) : MoT (hset h m (ModO m th2 (nI s.1.length) s.2.1 tk iw er et dp nm)) m th2 s := by
  obtain ⟨-, ⟨-, ⟨f1, a1, c1⟩, a2, a3, a4, a5, a6, a7, a8, ⟨ru, ac, no, a9⟩, ⟨b1, b2, b3, b4, b5, b6, a28⟩, a47, ⟨f, a48, hf⟩, a49, a50, a51, a52⟩, c3⟩ := c
  have u : Un h (hset h m (ModO m th2 (nI s.1.length) s.2.1 tk iw er et dp nm)) (m + 1) (m + 53) := Un.set (Un.rf _ _ _) (by omega)
  have e : h.1 ≤ (hset h m (ModO m th2 (nI s.1.length) s.2.1 tk iw er et dp nm)).1 := Nat.le_refl _
  have am : At (hset h m (ModO m th2 (nI s.1.length) s.2.1 tk iw er et dp nm)) m (ModO m th2 (nI s.1.length) s.2.1 tk iw er et dp nm) := At.set_eq2 a.1
  obtain ⟨⟨f1', a1', c1'⟩, ⟨f2, a2', c2⟩, ⟨f3, a3', c3'⟩, ⟨f4, a4', c4⟩, ⟨f5, a5', c5⟩⟩ := c3
  exact ⟨⟨tk, iw, er, et, dp, nm, am⟩, ⟨⟨th2, tk, iw, er, et, dp, nm, am⟩, ⟨f1, a1.keep e (u _ (by omega) (by omega)), c1⟩, a2.keep e (u _ (by omega) (by omega)), a3.keep e (u _ (by omega) (by omega)), a4.keep e (u _ (by omega) (by omega)), a5.keep e (u _ (by omega) (by omega)), a6.keep e (u _ (by omega) (by omega)), a7.keep e (u _ (by omega) (by omega)), a8.keep e (u _ (by omega) (by omega)), ⟨ru, ac, no, a9.keep e (u.sub (by omega) (by omega))⟩, ⟨b1, b2, b3, b4, b5, b6, a28.keep e (u.sub (by omega) (by omega))⟩, a47.keep e (u _ (by omega) (by omega)), ⟨f, a48.keep e (u _ (by omega) (by omega)), hf⟩, a49.keep e (u _ (by omega) (by omega)), a50.keep e (u _ (by omega) (by omega)), a51.keep e (u _ (by omega) (by omega)), a52.keep e (u _ (by omega) (by omega))⟩,
    ⟨f1', a1'.keep e (u _ (by omega) (by omega)), c1'⟩, ⟨f2, a2'.keep e (u _ (by omega) (by omega)), c2⟩, ⟨f3, a3'.keep e (u _ (by omega) (by omega)), c3'⟩, ⟨f4, a4'.keep e (u _ (by omega) (by omega)), c4⟩, ⟨f5, a5'.keep e (u _ (by omega) (by omega)), c5⟩⟩
theorem MoT.ofR {m : Nat} {s : ST} (c : MoR h m s) (t : ToR h m s.2.2.1) : ∃ th, MoT h m th s := by
  obtain ⟨th, tk, iw, er, et, dp, nm, a⟩ := c.1
  exact ⟨th, ⟨tk, iw, er, et, dp, nm, a⟩, c, t⟩
theorem MoT.keep {h' : AH} {m : Nat} {th : Int32} {s : ST} (c : MoT h m th s) (e : h.1 ≤ h'.1) (u : Un h h' m (m + 53)) : MoT h' m th s := by
  obtain ⟨⟨tk, iw, er, et, dp, nm, a⟩, c2, c3⟩ := c
  exact ⟨⟨tk, iw, er, et, dp, nm, a.keep e (u _ (by omega) (by omega))⟩, c2.keep e u, c3.keep e u⟩
/-- the end of a call of the reference -/
theorem MK.of {h1 : AH} {s : ST} {t : Nat} {V : Int32} (c : MoT h1 216 (nI t) s) (ch : Ch h h1 216 269 16 100) : MK h s t V (.inl (some (.int V))) h1 := by
  obtain ⟨⟨tk, iw, er, et, dp, nm, a⟩, c2, c3⟩ := c
  exact ⟨V, rfl, rfl, ⟨_, a⟩, c2, c3, ch⟩

set_option maxHeartbeats 4000000 in
set_option maxRecDepth 100000 in
theorem s_checkJar_ok {x bk dr : Nat} {s : ST} (c : ClR h x bk dr s) (hb : BDok s.2.2.1 s.2.2.2) {j : Nat} (hj : j < bJa s.2.2.1) {QX : String → AH → Prop} : RQ G mX10_checkJar d 0 [some (.ref x), some (.int (nI j))] [] h (Rx (Rv fun h1 => h1 = h) QX) := by
  have c1 := c.poll
  have c2 := c.book
  have l1 : bJa s.2.2.1 ≤ 8 := by have := hb.1; have := hb.2.1; have := hb.2.2.1; omega
  refine tX10_checkJar_0  (r := ?_)
  refine tX10_checkJar_1  (kt := fun c_ => by exfalso; (simp (disch := first | omega | decide) only [ci_lt, ci_le, ci_eq, ci_lt0, ci_ge0, ci_gt0, ci_le0, ci_eq0, ci_m1_lt, ci_m1_le, ci_lt_m1, ci_le_m1, ci_eq_m1, ci_m1_eq, not_true, not_false_iff, Nat.not_lt, Nat.not_le] at c_ <;> omega)) (kf := fun _ => ?_)
  refine tX10_checkJar_4  (r := ?_)
  refine tX10_checkJar_5  (r := ?_)
  refine tX10_checkJar_6 (ha := (by first | assumption | (repeat (first | assumption | exact At.set_eq2 (by first | omega | (simp only [hset, hnew]; omega) | rfl | decide) | exact At.new_eq2 _ _ (by first | omega | (simp only [hset, hnew]; omega) | rfl | decide) | refine At.set_ne ?_ (by first | omega | (simp only [hset, hnew]; omega) | rfl | decide) | refine At.new_ne ?_)))) (hv := rfl) (r := ?_)
  refine tX10_checkJar_9 (ha := (by first | assumption | (repeat (first | assumption | exact At.set_eq2 (by first | omega | (simp only [hset, hnew]; omega) | rfl | decide) | exact At.new_eq2 _ _ (by first | omega | (simp only [hset, hnew]; omega) | rfl | decide) | refine At.set_ne ?_ (by first | omega | (simp only [hset, hnew]; omega) | rfl | decide) | refine At.new_ne ?_)))) (hv := rfl) (r := ?_)
  refine tX10_checkJar_12  (kf := fun c_ => by exfalso; (simp (disch := first | omega | decide) only [ci_lt, ci_le, ci_eq, ci_lt0, ci_ge0, ci_gt0, ci_le0, ci_eq0, ci_m1_lt, ci_m1_le, ci_lt_m1, ci_le_m1, ci_eq_m1, ci_m1_eq, not_true, not_false_iff, Nat.not_lt, Nat.not_le] at c_ <;> omega)) (kt := fun _ => ?_)
  refine tX10_checkJar_23  (hP := ?_)
  exact Or.inl ⟨rfl, rfl⟩

set_option maxHeartbeats 4000000 in
set_option maxRecDepth 100000 in
theorem s_checkJar_no (hd : 6 ≤ d) {x bk dr : Nat} {s : ST} (c : ClR h x bk dr s) {a : Int32} (hj : a < 0 ∨ nI (bJa s.2.2.1) ≤ a) : RQ G mX10_checkJar d 0 [some (.ref x), some (.int a)] [] h (Rx (Rv fun _ => False) (fun E h1 => E = "java/lang/IndexOutOfBoundsException" ∧ h1 = hnew h 6 (.inr (18, [])))) := by
  have c1 := c.poll
  have c2 := c.book
  refine tX10_checkJar_0  (r := ?_)
  refine tX10_checkJar_1  (kt := fun c_1 => ?_) (kf := fun c_1 => ?_)
  · refine tX10_checkJar_15 (hdd := hd) (hP := ?_)
    exact Or.inr ⟨_, rfl, rfl, rfl⟩
  · refine tX10_checkJar_4  (r := ?_)
    refine tX10_checkJar_5  (r := ?_)
    refine tX10_checkJar_6 (ha := (by first | assumption | (repeat (first | assumption | exact At.set_eq2 (by first | omega | (simp only [hset, hnew]; omega) | rfl | decide) | exact At.new_eq2 _ _ (by first | omega | (simp only [hset, hnew]; omega) | rfl | decide) | refine At.set_ne ?_ (by first | omega | (simp only [hset, hnew]; omega) | rfl | decide) | refine At.new_ne ?_)))) (hv := rfl) (r := ?_)
    refine tX10_checkJar_9 (ha := (by first | assumption | (repeat (first | assumption | exact At.set_eq2 (by first | omega | (simp only [hset, hnew]; omega) | rfl | decide) | exact At.new_eq2 _ _ (by first | omega | (simp only [hset, hnew]; omega) | rfl | decide) | refine At.set_ne ?_ (by first | omega | (simp only [hset, hnew]; omega) | rfl | decide) | refine At.new_ne ?_)))) (hv := rfl) (r := ?_)
    refine tX10_checkJar_12  (kt := fun c_ => by exfalso; exact hj.elim (fun q => absurd q c_1) (fun q => (Int32.not_lt.mpr q) c_)) (kf := fun _ => ?_)
    refine tX10_checkJar_15 (hdd := hd) (hP := ?_)
    exact Or.inr ⟨_, rfl, rfl, rfl⟩

set_option maxHeartbeats 4000000 in
set_option maxRecDepth 100000 in
theorem s_checkLabel_ok {x bk dr : Nat} {s : ST} (c : ClR h x bk dr s) (hb : BDok s.2.2.1 s.2.2.2) {j : Nat} (hj : j < bLa s.2.2.1) {QX : String → AH → Prop} : RQ G mX10_checkLabel d 0 [some (.ref x), some (.int (nI j))] [] h (Rx (Rv fun h1 => h1 = h) QX) := by
  have c1 := c.poll
  have c2 := c.book
  have l1 : bLa s.2.2.1 ≤ 8 := by have := hb.1; have := hb.2.1; have := hb.2.2.1; omega
  refine tX10_checkLabel_0  (r := ?_)
  refine tX10_checkLabel_1  (kt := fun c_ => by exfalso; (simp (disch := first | omega | decide) only [ci_lt, ci_le, ci_eq, ci_lt0, ci_ge0, ci_gt0, ci_le0, ci_eq0, ci_m1_lt, ci_m1_le, ci_lt_m1, ci_le_m1, ci_eq_m1, ci_m1_eq, not_true, not_false_iff, Nat.not_lt, Nat.not_le] at c_ <;> omega)) (kf := fun _ => ?_)
  refine tX10_checkLabel_4  (r := ?_)
  refine tX10_checkLabel_5  (r := ?_)
  refine tX10_checkLabel_6 (ha := (by first | assumption | (repeat (first | assumption | exact At.set_eq2 (by first | omega | (simp only [hset, hnew]; omega) | rfl | decide) | exact At.new_eq2 _ _ (by first | omega | (simp only [hset, hnew]; omega) | rfl | decide) | refine At.set_ne ?_ (by first | omega | (simp only [hset, hnew]; omega) | rfl | decide) | refine At.new_ne ?_)))) (hv := rfl) (r := ?_)
  refine tX10_checkLabel_9 (ha := (by first | assumption | (repeat (first | assumption | exact At.set_eq2 (by first | omega | (simp only [hset, hnew]; omega) | rfl | decide) | exact At.new_eq2 _ _ (by first | omega | (simp only [hset, hnew]; omega) | rfl | decide) | refine At.set_ne ?_ (by first | omega | (simp only [hset, hnew]; omega) | rfl | decide) | refine At.new_ne ?_)))) (hv := rfl) (r := ?_)
  refine tX10_checkLabel_12  (kf := fun c_ => by exfalso; (simp (disch := first | omega | decide) only [ci_lt, ci_le, ci_eq, ci_lt0, ci_ge0, ci_gt0, ci_le0, ci_eq0, ci_m1_lt, ci_m1_le, ci_lt_m1, ci_le_m1, ci_eq_m1, ci_m1_eq, not_true, not_false_iff, Nat.not_lt, Nat.not_le] at c_ <;> omega)) (kt := fun _ => ?_)
  refine tX10_checkLabel_23  (hP := ?_)
  exact Or.inl ⟨rfl, rfl⟩

set_option maxHeartbeats 4000000 in
set_option maxRecDepth 100000 in
theorem s_checkLabel_no (hd : 6 ≤ d) {x bk dr : Nat} {s : ST} (c : ClR h x bk dr s) {a : Int32} (hj : a < 0 ∨ nI (bLa s.2.2.1) ≤ a) : RQ G mX10_checkLabel d 0 [some (.ref x), some (.int a)] [] h (Rx (Rv fun _ => False) (fun E h1 => E = "java/lang/IndexOutOfBoundsException" ∧ h1 = hnew h 6 (.inr (18, [])))) := by
  have c1 := c.poll
  have c2 := c.book
  refine tX10_checkLabel_0  (r := ?_)
  refine tX10_checkLabel_1  (kt := fun c_1 => ?_) (kf := fun c_1 => ?_)
  · refine tX10_checkLabel_15 (hdd := hd) (hP := ?_)
    exact Or.inr ⟨_, rfl, rfl, rfl⟩
  · refine tX10_checkLabel_4  (r := ?_)
    refine tX10_checkLabel_5  (r := ?_)
    refine tX10_checkLabel_6 (ha := (by first | assumption | (repeat (first | assumption | exact At.set_eq2 (by first | omega | (simp only [hset, hnew]; omega) | rfl | decide) | exact At.new_eq2 _ _ (by first | omega | (simp only [hset, hnew]; omega) | rfl | decide) | refine At.set_ne ?_ (by first | omega | (simp only [hset, hnew]; omega) | rfl | decide) | refine At.new_ne ?_)))) (hv := rfl) (r := ?_)
    refine tX10_checkLabel_9 (ha := (by first | assumption | (repeat (first | assumption | exact At.set_eq2 (by first | omega | (simp only [hset, hnew]; omega) | rfl | decide) | exact At.new_eq2 _ _ (by first | omega | (simp only [hset, hnew]; omega) | rfl | decide) | refine At.set_ne ?_ (by first | omega | (simp only [hset, hnew]; omega) | rfl | decide) | refine At.new_ne ?_)))) (hv := rfl) (r := ?_)
    refine tX10_checkLabel_12  (kt := fun c_ => by exfalso; exact hj.elim (fun q => absurd q c_1) (fun q => (Int32.not_lt.mpr q) c_)) (kf := fun _ => ?_)
    refine tX10_checkLabel_15 (hdd := hd) (hP := ?_)
    exact Or.inr ⟨_, rfl, rfl, rfl⟩

set_option maxHeartbeats 4000000 in
set_option maxRecDepth 100000 in
theorem s_checkLid_ok {x bk dr : Nat} {s : ST} (c : ClR h x bk dr s) (hb : BDok s.2.2.1 s.2.2.2) {j : Nat} (hj : j < bLi s.2.2.1) {QX : String → AH → Prop} : RQ G mX10_checkLid d 0 [some (.ref x), some (.int (nI j))] [] h (Rx (Rv fun h1 => h1 = h) QX) := by
  have c1 := c.poll
  have c2 := c.book
  have l1 : bLi s.2.2.1 ≤ 8 := by have := hb.1; have := hb.2.1; have := hb.2.2.1; omega
  refine tX10_checkLid_0  (r := ?_)
  refine tX10_checkLid_1  (kt := fun c_ => by exfalso; (simp (disch := first | omega | decide) only [ci_lt, ci_le, ci_eq, ci_lt0, ci_ge0, ci_gt0, ci_le0, ci_eq0, ci_m1_lt, ci_m1_le, ci_lt_m1, ci_le_m1, ci_eq_m1, ci_m1_eq, not_true, not_false_iff, Nat.not_lt, Nat.not_le] at c_ <;> omega)) (kf := fun _ => ?_)
  refine tX10_checkLid_4  (r := ?_)
  refine tX10_checkLid_5  (r := ?_)
  refine tX10_checkLid_6 (ha := (by first | assumption | (repeat (first | assumption | exact At.set_eq2 (by first | omega | (simp only [hset, hnew]; omega) | rfl | decide) | exact At.new_eq2 _ _ (by first | omega | (simp only [hset, hnew]; omega) | rfl | decide) | refine At.set_ne ?_ (by first | omega | (simp only [hset, hnew]; omega) | rfl | decide) | refine At.new_ne ?_)))) (hv := rfl) (r := ?_)
  refine tX10_checkLid_9 (ha := (by first | assumption | (repeat (first | assumption | exact At.set_eq2 (by first | omega | (simp only [hset, hnew]; omega) | rfl | decide) | exact At.new_eq2 _ _ (by first | omega | (simp only [hset, hnew]; omega) | rfl | decide) | refine At.set_ne ?_ (by first | omega | (simp only [hset, hnew]; omega) | rfl | decide) | refine At.new_ne ?_)))) (hv := rfl) (r := ?_)
  refine tX10_checkLid_12  (kf := fun c_ => by exfalso; (simp (disch := first | omega | decide) only [ci_lt, ci_le, ci_eq, ci_lt0, ci_ge0, ci_gt0, ci_le0, ci_eq0, ci_m1_lt, ci_m1_le, ci_lt_m1, ci_le_m1, ci_eq_m1, ci_m1_eq, not_true, not_false_iff, Nat.not_lt, Nat.not_le] at c_ <;> omega)) (kt := fun _ => ?_)
  refine tX10_checkLid_23  (hP := ?_)
  exact Or.inl ⟨rfl, rfl⟩

set_option maxHeartbeats 4000000 in
set_option maxRecDepth 100000 in
theorem s_checkLid_no (hd : 6 ≤ d) {x bk dr : Nat} {s : ST} (c : ClR h x bk dr s) {a : Int32} (hj : a < 0 ∨ nI (bLi s.2.2.1) ≤ a) : RQ G mX10_checkLid d 0 [some (.ref x), some (.int a)] [] h (Rx (Rv fun _ => False) (fun E h1 => E = "java/lang/IndexOutOfBoundsException" ∧ h1 = hnew h 6 (.inr (18, [])))) := by
  have c1 := c.poll
  have c2 := c.book
  refine tX10_checkLid_0  (r := ?_)
  refine tX10_checkLid_1  (kt := fun c_1 => ?_) (kf := fun c_1 => ?_)
  · refine tX10_checkLid_15 (hdd := hd) (hP := ?_)
    exact Or.inr ⟨_, rfl, rfl, rfl⟩
  · refine tX10_checkLid_4  (r := ?_)
    refine tX10_checkLid_5  (r := ?_)
    refine tX10_checkLid_6 (ha := (by first | assumption | (repeat (first | assumption | exact At.set_eq2 (by first | omega | (simp only [hset, hnew]; omega) | rfl | decide) | exact At.new_eq2 _ _ (by first | omega | (simp only [hset, hnew]; omega) | rfl | decide) | refine At.set_ne ?_ (by first | omega | (simp only [hset, hnew]; omega) | rfl | decide) | refine At.new_ne ?_)))) (hv := rfl) (r := ?_)
    refine tX10_checkLid_9 (ha := (by first | assumption | (repeat (first | assumption | exact At.set_eq2 (by first | omega | (simp only [hset, hnew]; omega) | rfl | decide) | exact At.new_eq2 _ _ (by first | omega | (simp only [hset, hnew]; omega) | rfl | decide) | refine At.set_ne ?_ (by first | omega | (simp only [hset, hnew]; omega) | rfl | decide) | refine At.new_ne ?_)))) (hv := rfl) (r := ?_)
    refine tX10_checkLid_12  (kt := fun c_ => by exfalso; exact hj.elim (fun q => absurd q c_1) (fun q => (Int32.not_lt.mpr q) c_)) (kf := fun _ => ?_)
    refine tX10_checkLid_15 (hdd := hd) (hP := ?_)
    exact Or.inr ⟨_, rfl, rfl, rfl⟩

set_option maxHeartbeats 4000000 in
set_option maxRecDepth 100000 in
theorem s_checkDays_ok {x : Nat} {n : Nat} (h1 : 1 ≤ n) (h2 : n ≤ 60) {QX : String → AH → Prop} : RQ G mX10_checkDays d 0 [some (.ref x), some (.int (nI n))] [] h (Rx (Rv fun h1 => h1 = h) QX) := by
  refine tX10_checkDays_0  (r := ?_)
  refine tX10_checkDays_1  (r := ?_)
  refine tX10_checkDays_2  (kt := fun c_ => by exfalso; (simp (disch := first | omega | decide) only [ci_lt, ci_le, ci_eq, ci_lt0, ci_ge0, ci_gt0, ci_le0, ci_eq0, ci_m1_lt, ci_m1_le, ci_lt_m1, ci_le_m1, ci_eq_m1, ci_m1_eq, not_true, not_false_iff, Nat.not_lt, Nat.not_le] at c_ <;> omega)) (kf := fun _ => ?_)
  refine tX10_checkDays_5  (r := ?_)
  refine tX10_checkDays_6  (r := ?_)
  refine tX10_checkDays_8  (kf := fun c_ => by exfalso; (simp (disch := first | omega | decide) only [ci_lt, ci_le, ci_eq, ci_lt0, ci_ge0, ci_gt0, ci_le0, ci_eq0, ci_m1_lt, ci_m1_le, ci_lt_m1, ci_le_m1, ci_eq_m1, ci_m1_eq, not_true, not_false_iff, Nat.not_lt, Nat.not_le] at c_ <;> omega)) (kt := fun _ => ?_)
  refine tX10_checkDays_19  (hP := ?_)
  exact Or.inl ⟨rfl, rfl⟩

set_option maxHeartbeats 4000000 in
set_option maxRecDepth 100000 in
theorem s_checkDays_no (hd : 6 ≤ d) {x : Nat} {a : Int32} (hj : a < nI 1 ∨ nI 60 < a) : RQ G mX10_checkDays d 0 [some (.ref x), some (.int a)] [] h (Rx (Rv fun _ => False) (fun E h1 => E = "java/lang/IllegalArgumentException" ∧ h1 = hnew h 6 (.inr (19, [])))) := by
  refine tX10_checkDays_0  (r := ?_)
  refine tX10_checkDays_1  (r := ?_)
  refine tX10_checkDays_2  (kt := fun c_2 => ?_) (kf := fun c_2 => ?_)
  · refine tX10_checkDays_11 (hdd := hd) (hP := ?_)
    exact Or.inr ⟨_, rfl, rfl, rfl⟩
  · refine tX10_checkDays_5  (r := ?_)
    refine tX10_checkDays_6  (r := ?_)
    refine tX10_checkDays_8  (kt := fun c_ => by exfalso; exact hj.elim (fun q => absurd q c_2) (fun q => (Int32.not_le.mpr q) c_)) (kf := fun _ => ?_)
    refine tX10_checkDays_11 (hdd := hd) (hP := ?_)
    exact Or.inr ⟨_, rfl, rfl, rfl⟩

theorem le_sub1 {v : Int32} {n : Nat} (hn : n < 2147483648) : (v ≤ nI n - nI 1) ↔ v.toInt < n := by
  rw [Int32.le_iff_toInt_le, Int32.toInt_sub, nI_toInt hn, nI_toInt (show 1 < 2147483648 by decide)]
  rw [Int.bmod_eq_of_le (by omega) (by omega)]
  omega
theorem in_yes {j n : Nat} (hn : n < 2147483648) (hj : j < n) : (if nI 0 ≤ nI j ∧ nI j ≤ nI n - nI 1 then nI 1 else nI 0) = nI 1 := if_pos ⟨by rw [nI_0]; exact nI_pos' (by omega), (le_sub1 hn).mpr (by rw [nI_toInt (by omega)]; omega)⟩
theorem in_no {a : Int32} {n : Nat} (hn : n < 2147483648) (hj : a < 0 ∨ nI n ≤ a) : (if nI 0 ≤ a ∧ a ≤ nI n - nI 1 then nI 1 else nI 0) = nI 0 := if_neg (fun q => by
  obtain ⟨q1, q2⟩ := q
  have q3 := (le_sub1 hn).mp q2
  rcases hj with hj | hj
  · rw [nI_0] at q1
    exact (Int32.not_lt.mpr q1) hj
  · rw [Int32.le_iff_toInt_le, nI_toInt hn] at hj
    omega)

end CH
