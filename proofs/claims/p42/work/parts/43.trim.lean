/-! trim -/
section TR
variable {G : GT} {d : Nat} {h : AH} {bk dr : Nat} {s : ST}
theorem take_ok (T : List Nat) {k : Nat} (hk : k ≤ T.length) : (T.take k).length = k ∧ ∀ i, i < k → (T.take k).getD i 0 = T.getD i 0 := by
  refine ⟨by rw [List.length_take]; omega, fun i hi => ?_⟩
  simp [List.getElem?_take, hi]
theorem no_le {a : Int32} {n : Nat} (hn : n + 1 < 2147483648) (q : nI (n + 1) ≤ a) (z : a ≤ nI n) : False := by
  rw [Int32.le_iff_toInt_le, nI_toInt (by omega)] at q z
  omega
theorem ClR.tape {h1 : AH} (c : ClR h 0 bk dr s) {T : List Nat} (t : TaR h1 (0 + 1) T) (e : h.1 ≤ h1.1) (u0 : h1.2.2 0 = h.2.2 0) (u : Un h h1 3 216) : ClR h1 0 bk dr (T, s.2.1, s.2.2.1, s.2.2.2) := by
  obtain ⟨a1, a2, a3, ⟨a, b, c, a4⟩, a5, ⟨dy, a6⟩, a7, a8, a9⟩ := c
  have hb : (bk = 158 ∧ dr = 8) ∨ (bk = 8 ∧ dr = 158) := by omega
  exact ⟨a1.keep e u0, t, a3.keep e (u.sub (by omega) (by omega)), ⟨a, b, c, a4.keep e (u.sub (by omega) (by omega))⟩, a5.keep e (u.sub (by omega) (by omega)), ⟨dy, a6.keep e (u.sub (by omega) (by omega))⟩, a7.keep e (u.sub (by omega) (by omega)), a8.keep e (u.sub (by omega) (by omega)), a9⟩
theorem MoT.tape {m : Nat} {th : Int32} {s : ST} (c : MoT h m th s) {tk iw er et dp nm : Int32} (a : At h m (ModO m th (nI s.1.length) s.2.1 tk iw er et dp nm)) {T : List Nat} (t1 : T.length ≤ s.1.length) (t2 : ∀ i, i < T.length → T.getD i 0 = s.1.getD i 0) : MoT (hset h m (ModO m th (nI T.length) s.2.1 tk iw er et dp nm)) m th (T, s.2.1, s.2.2.1, s.2.2.2) := by
  obtain ⟨-, ⟨-, ⟨f1, a1, c1⟩, a2, a3, a4, a5, a6, a7, a8, ⟨ru, ac, no, a9⟩, ⟨b1, b2, b3, b4, b5, b6, a28⟩, a47, ⟨f, a48, hf⟩, a49, a50, a51, a52⟩, c3⟩ := c
  have u : Un h (hset h m (ModO m th (nI T.length) s.2.1 tk iw er et dp nm)) (m + 1) (m + 53) := Un.set (Un.rf _ _ _) (by omega)
  have e : h.1 ≤ (hset h m (ModO m th (nI T.length) s.2.1 tk iw er et dp nm)).1 := Nat.le_refl _
  have am : At (hset h m (ModO m th (nI T.length) s.2.1 tk iw er et dp nm)) m (ModO m th (nI T.length) s.2.1 tk iw er et dp nm) := At.set_eq2 a.1
  obtain ⟨⟨f1', a1', c1'⟩, ⟨f2, a2', c2⟩, ⟨f3, a3', c3'⟩, ⟨f4, a4', c4⟩, ⟨f5, a5', c5⟩⟩ := c3
  exact ⟨⟨tk, iw, er, et, dp, nm, am⟩, ⟨⟨th, tk, iw, er, et, dp, nm, am⟩, ⟨f1, a1.keep e (u _ (by omega) (by omega)), fun i hi => by rw [t2 i hi]; exact c1 i (Nat.lt_of_lt_of_le hi t1)⟩, a2.keep e (u _ (by omega) (by omega)), a3.keep e (u _ (by omega) (by omega)), a4.keep e (u _ (by omega) (by omega)), a5.keep e (u _ (by omega) (by omega)), a6.keep e (u _ (by omega) (by omega)), a7.keep e (u _ (by omega) (by omega)), a8.keep e (u _ (by omega) (by omega)), ⟨ru, ac, no, a9.keep e (u.sub (by omega) (by omega))⟩, ⟨b1, b2, b3, b4, b5, b6, a28.keep e (u.sub (by omega) (by omega))⟩, a47.keep e (u _ (by omega) (by omega)), ⟨f, a48.keep e (u _ (by omega) (by omega)), hf⟩, a49.keep e (u _ (by omega) (by omega)), a50.keep e (u _ (by omega) (by omega)), a51.keep e (u _ (by omega) (by omega)), a52.keep e (u _ (by omega) (by omega))⟩,
    ⟨f1', a1'.keep e (u _ (by omega) (by omega)), c1'⟩, ⟨f2, a2'.keep e (u _ (by omega) (by omega)), c2⟩, ⟨f3, a3'.keep e (u _ (by omega) (by omega)), c3'⟩, ⟨f4, a4'.keep e (u _ (by omega) (by omega)), c4⟩, ⟨f5, a5'.keep e (u _ (by omega) (by omega)), c5⟩⟩

set_option maxHeartbeats 4000000 in
set_option maxRecDepth 100000 in
theorem k_trim_ok (c : ClR h 0 bk dr s) {k : Nat} (hk : k ≤ s.1.length) : RQ G mX10_trim d 0 [some (.ref 0), some (.int (nI k))] [] h (CK h bk dr (s.1.take k, s.2.1, s.2.2.1, s.2.2.2) "java/lang/IllegalArgumentException" "" 0 (nI k)) := by
  have c1 := c.poll
  obtain ⟨t0, t3, f, t1, t2⟩ := id c.2.1
  have l0 := t0.1
  obtain ⟨k1, k2⟩ := take_ok s.1 hk
  refine tX10_trim_0  (r := ?_)
  refine tX10_trim_1  (kt := fun c_ => by exfalso; (simp (disch := first | omega | decide) only [ci_lt, ci_le, ci_eq, ci_lt0, ci_ge0, ci_gt0, ci_le0, ci_eq0, ci_m1_lt, ci_m1_le, ci_lt_m1, ci_le_m1, ci_eq_m1, ci_m1_eq, not_true, not_false_iff, Nat.not_lt, Nat.not_le] at c_ <;> omega)) (kf := fun _ => ?_)
  refine tX10_trim_4  (r := ?_)
  refine tX10_trim_5  (r := ?_)
  refine tX10_trim_6 (ha := (by first | assumption | (repeat (first | assumption | exact At.set_eq2 (by first | omega | (simp only [hset, hnew]; omega) | rfl | decide) | exact At.new_eq2 _ _ (by first | omega | (simp only [hset, hnew]; omega) | rfl | decide) | refine At.set_ne ?_ (by first | omega | (simp only [hset, hnew]; omega) | rfl | decide) | refine At.new_ne ?_)))) (hv := rfl) (r := ?_)
  refine tX10_trim_9 (ha := (by first | assumption | (repeat (first | assumption | exact At.set_eq2 (by first | omega | (simp only [hset, hnew]; omega) | rfl | decide) | exact At.new_eq2 _ _ (by first | omega | (simp only [hset, hnew]; omega) | rfl | decide) | refine At.set_ne ?_ (by first | omega | (simp only [hset, hnew]; omega) | rfl | decide) | refine At.new_ne ?_)))) (hv := rfl) (r := ?_)
  refine tX10_trim_12  (kf := fun c_ => by exfalso; (simp (disch := first | omega | decide) only [ci_lt, ci_le, ci_eq, ci_lt0, ci_ge0, ci_gt0, ci_le0, ci_eq0, ci_m1_lt, ci_m1_le, ci_lt_m1, ci_le_m1, ci_eq_m1, ci_m1_eq, not_true, not_false_iff, Nat.not_lt, Nat.not_le] at c_ <;> omega)) (kt := fun _ => ?_)
  refine tX10_trim_23  (r := ?_)
  refine tX10_trim_24 (ha := (by first | assumption | (repeat (first | assumption | exact At.set_eq2 (by first | omega | (simp only [hset, hnew]; omega) | rfl | decide) | exact At.new_eq2 _ _ (by first | omega | (simp only [hset, hnew]; omega) | rfl | decide) | refine At.set_ne ?_ (by first | omega | (simp only [hset, hnew]; omega) | rfl | decide) | refine At.new_ne ?_)))) (hv := rfl) (r := ?_)
  refine tX10_trim_27  (r := ?_)
  refine tX10_trim_28 (ha := (by first | assumption | (repeat (first | assumption | exact At.set_eq2 (by first | omega | (simp only [hset, hnew]; omega) | rfl | decide) | exact At.new_eq2 _ _ (by first | omega | (simp only [hset, hnew]; omega) | rfl | decide) | refine At.set_ne ?_ (by first | omega | (simp only [hset, hnew]; omega) | rfl | decide) | refine At.new_ne ?_)))) (hlen := rfl) (r := ?_)
  refine tX10_trim_31  (r := ?_)
  refine tX10_trim_32  (hP := ?_)
  refine ck_val (c.tape ⟨?_, by omega, f, t1.keep (Nat.le_refl _) ((Un.set (Un.rf h 2 3) (by omega)) _ (by omega) (by omega)), fun i hi => ?_⟩ (Nat.le_refl _) ((Un.set (Un.rf h 0 1) (by omega)) _ (by omega) (by omega)) (Un.set (Un.rf _ _ _) (by omega))) ((Ch.rf h 0 216 0 0).set (by omega) (by omega))
  · rw [k1]
    exact At.set_eq2 l0
  · rw [k2 i (by omega)]
    exact t2 i (by omega)

set_option maxHeartbeats 4000000 in
set_option maxRecDepth 100000 in
theorem k_trim_no (hd : 7 ≤ d) (c : ClR h 0 bk dr s) (hh : 216 ≤ h.1) {a0 : Int32} {V : Int32} (bad : a0 < 0 ∨ nI (s.1.length + 1) ≤ a0) : RQ G mX10_trim d 0 [some (.ref 0), some (.int a0)] [] h (CK h bk dr s "java/lang/IllegalArgumentException" "" 1 V) := by
  have c1 := c.poll
  obtain ⟨t0, t3, f, t1, t2⟩ := id c.2.1
  have l0 := t0.1
  refine tX10_trim_0  (r := ?_)
  refine tX10_trim_1  (kt := fun c_1 => ?_) (kf := fun c_1 => ?_)
  · refine tX10_trim_15 (hdd := (by omega)) (hP := ?_)
    exact ck_throw c hh (Or.inl ⟨rfl, rfl⟩)
  · refine tX10_trim_4  (r := ?_)
    refine tX10_trim_5  (r := ?_)
    refine tX10_trim_6 (ha := (by first | assumption | (repeat (first | assumption | exact At.set_eq2 (by first | omega | (simp only [hset, hnew]; omega) | rfl | decide) | exact At.new_eq2 _ _ (by first | omega | (simp only [hset, hnew]; omega) | rfl | decide) | refine At.set_ne ?_ (by first | omega | (simp only [hset, hnew]; omega) | rfl | decide) | refine At.new_ne ?_)))) (hv := rfl) (r := ?_)
    refine tX10_trim_9 (ha := (by first | assumption | (repeat (first | assumption | exact At.set_eq2 (by first | omega | (simp only [hset, hnew]; omega) | rfl | decide) | exact At.new_eq2 _ _ (by first | omega | (simp only [hset, hnew]; omega) | rfl | decide) | refine At.set_ne ?_ (by first | omega | (simp only [hset, hnew]; omega) | rfl | decide) | refine At.new_ne ?_)))) (hv := rfl) (r := ?_)
    refine tX10_trim_12  (kt := fun c_ => by exfalso; exact bad.elim (fun q => absurd q c_1) (fun q => no_le (by omega) q c_)) (kf := fun _ => ?_)
    refine tX10_trim_15 (hdd := (by omega)) (hP := ?_)
    exact ck_throw c hh (Or.inl ⟨rfl, rfl⟩)

end TR