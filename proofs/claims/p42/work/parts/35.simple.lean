/-! beansOf, alliances, areAllied, putLid, trim -/
section SJ
variable {G : GT} {d : Nat} {h : AH} {bk dr : Nat} {s : ST}

set_option maxHeartbeats 4000000 in
set_option maxRecDepth 100000 in
theorem k_beansOf_l (c : ClR h 0 bk dr s) (hb : BDok s.2.2.1 s.2.2.2) {j0 : Nat} (q0 : j0 < bLa s.2.2.1) : ∀ (n i : Nat), bJa s.2.2.1 ≤ i + n → i ≤ bJa s.2.2.1 → RQ G mX10_beansOf d 9 [some (.ref 0), some (.int (nI j0)), some (.int (nI (su (fun j => dB s.2.2.2 j j0) i))), some (.int (nI i))] [] h (CK h bk dr s "java/lang/IndexOutOfBoundsException" "" 0 (nI (su (fun j => dB s.2.2.2 j j0) (bJa s.2.2.1)))) := by
  have c1 := c.poll
  have cb := c.book
  obtain ⟨jf, lj, fo, le, u0, u1, u2, u3, u4, u5, u6, u7, u8, u9⟩ := id c.2.2.2.2.1
  have l1 := hb.1
  have l2 := hb.2.1
  have l3 := hb.2.2.1
  have ex : ∀ i, i = bJa s.2.2.1 → RQ G mX10_beansOf d 9 [some (.ref 0), some (.int (nI j0)), some (.int (nI (su (fun j => dB s.2.2.2 j j0) i))), some (.int (nI i))] [] h (CK h bk dr s "java/lang/IndexOutOfBoundsException" "" 0 (nI (su (fun j => dB s.2.2.2 j j0) (bJa s.2.2.1)))) := by
    intro i hi
    rw [hi]
    refine tX10_beansOf_9  (r := ?_)
    refine tX10_beansOf_10  (r := ?_)
    refine tX10_beansOf_11 (ha := (by first | assumption | (repeat (first | assumption | exact At.set_eq2 (by first | omega | (simp only [hset, hnew]; omega) | rfl | decide) | exact At.new_eq2 _ _ (by first | omega | (simp only [hset, hnew]; omega) | rfl | decide) | refine At.set_ne ?_ (by first | omega | (simp only [hset, hnew]; omega) | rfl | decide) | refine At.new_ne ?_)))) (hv := rfl) (r := ?_)
    refine tX10_beansOf_14 (ha := (by first | assumption | (repeat (first | assumption | exact At.set_eq2 (by first | omega | (simp only [hset, hnew]; omega) | rfl | decide) | exact At.new_eq2 _ _ (by first | omega | (simp only [hset, hnew]; omega) | rfl | decide) | refine At.set_ne ?_ (by first | omega | (simp only [hset, hnew]; omega) | rfl | decide) | refine At.new_ne ?_)))) (hv := rfl) (r := ?_)
    refine tX10_beansOf_17  (kf := fun c_ => by exfalso; (simp (disch := first | omega | decide) only [ci_lt, ci_le, ci_eq, ci_lt0, ci_ge0, ci_gt0, ci_le0, ci_eq0, ci_m1_lt, ci_m1_le, ci_lt_m1, ci_le_m1, ci_eq_m1, ci_m1_eq, not_true, not_false_iff, Nat.not_lt, Nat.not_le] at c_ <;> omega)) (kt := fun _ => ?_)
    refine tX10_beansOf_43  (r := ?_)
    refine tX10_beansOf_44  (hP := ?_)
    exact ck_val c (Ch.rf _ _ _ _ _)
  intro n
  induction n with
  | zero => exact fun i h1_ h2_ => ex i (by omega)
  | succ n ih =>
    intro i h1_ h2_
    by_cases hi : i = bJa s.2.2.1
    · exact ex i hi
    have hi2 : i < bJa s.2.2.1 := by omega
    refine tX10_beansOf_9  (r := ?_)
    refine tX10_beansOf_10  (r := ?_)
    refine tX10_beansOf_11 (ha := (by first | assumption | (repeat (first | assumption | exact At.set_eq2 (by first | omega | (simp only [hset, hnew]; omega) | rfl | decide) | exact At.new_eq2 _ _ (by first | omega | (simp only [hset, hnew]; omega) | rfl | decide) | refine At.set_ne ?_ (by first | omega | (simp only [hset, hnew]; omega) | rfl | decide) | refine At.new_ne ?_)))) (hv := rfl) (r := ?_)
    refine tX10_beansOf_14 (ha := (by first | assumption | (repeat (first | assumption | exact At.set_eq2 (by first | omega | (simp only [hset, hnew]; omega) | rfl | decide) | exact At.new_eq2 _ _ (by first | omega | (simp only [hset, hnew]; omega) | rfl | decide) | refine At.set_ne ?_ (by first | omega | (simp only [hset, hnew]; omega) | rfl | decide) | refine At.new_ne ?_)))) (hv := rfl) (r := ?_)
    refine tX10_beansOf_17  (kt := fun c_ => by exfalso; (simp (disch := first | omega | decide) only [ci_lt, ci_le, ci_eq, ci_lt0, ci_ge0, ci_gt0, ci_le0, ci_eq0, ci_m1_lt, ci_m1_le, ci_lt_m1, ci_le_m1, ci_eq_m1, ci_m1_eq, not_true, not_false_iff, Nat.not_lt, Nat.not_le] at c_ <;> omega)) (kf := fun _ => ?_)
    refine tX10_beansOf_20  (r := ?_)
    obtain ⟨bf, p, w, l, tu, fi, ma, co, ⟨b0, b1, b2, b3, b4⟩, hb2, hb3⟩ := u9 i (by omega)
    refine tX10_beansOf_21  (r := ?_)
    refine tX10_beansOf_22 (ha := (by first | assumption | (repeat (first | assumption | exact At.set_eq2 (by first | omega | (simp only [hset, hnew]; omega) | rfl | decide) | exact At.new_eq2 _ _ (by first | omega | (simp only [hset, hnew]; omega) | rfl | decide) | refine At.set_ne ?_ (by first | omega | (simp only [hset, hnew]; omega) | rfl | decide) | refine At.new_ne ?_)))) (hv := rfl) (r := ?_)
    refine tX10_beansOf_25 (ha := (by first | assumption | (repeat (first | assumption | exact At.set_eq2 (by first | omega | (simp only [hset, hnew]; omega) | rfl | decide) | exact At.new_eq2 _ _ (by first | omega | (simp only [hset, hnew]; omega) | rfl | decide) | refine At.set_ne ?_ (by first | omega | (simp only [hset, hnew]; omega) | rfl | decide) | refine At.new_ne ?_)))) (hv := rfl) (r := ?_)
    refine tX10_beansOf_28  (r := ?_)
    refine tX10_beansOf_29 (ha := (by first | assumption | (repeat (first | assumption | exact At.set_eq2 (by first | omega | (simp only [hset, hnew]; omega) | rfl | decide) | exact At.new_eq2 _ _ (by first | omega | (simp only [hset, hnew]; omega) | rfl | decide) | refine At.set_ne ?_ (by first | omega | (simp only [hset, hnew]; omega) | rfl | decide) | refine At.new_ne ?_)))) (hx := rfl) (hj := (by omega)) (hn := (by decide)) (hf := (u5 _ (by omega))) (r := ?_)
    refine tX10_beansOf_30 (ha := (by first | assumption | (repeat (first | assumption | exact At.set_eq2 (by first | omega | (simp only [hset, hnew]; omega) | rfl | decide) | exact At.new_eq2 _ _ (by first | omega | (simp only [hset, hnew]; omega) | rfl | decide) | refine At.set_ne ?_ (by first | omega | (simp only [hset, hnew]; omega) | rfl | decide) | refine At.new_ne ?_)))) (hv := rfl) (r := ?_)
    refine tX10_beansOf_33  (r := ?_)
    refine tX10_beansOf_34 (ha := (by first | assumption | (repeat (first | assumption | exact At.set_eq2 (by first | omega | (simp only [hset, hnew]; omega) | rfl | decide) | exact At.new_eq2 _ _ (by first | omega | (simp only [hset, hnew]; omega) | rfl | decide) | refine At.set_ne ?_ (by first | omega | (simp only [hset, hnew]; omega) | rfl | decide) | refine At.new_ne ?_)))) (hx := rfl) (hj := (by omega)) (hn := (by decide)) (r := ?_)
    rw [hb2 _ (by omega)]
    refine tX10_beansOf_35  (r := ?_)
    rw [nI_add]
    refine tX10_beansOf_36  (r := ?_)
    refine tX10_beansOf_37  (r := ?_)
    rw [nI_add]
    refine tX10_beansOf_40 (r := ?_)
    exact ih (i + 1) (by omega) (by omega)

set_option maxHeartbeats 4000000 in
set_option maxRecDepth 100000 in
theorem k_beansOf_ok (hd : 7 ≤ d) (c : ClR h 0 bk dr s) (hb : BDok s.2.2.1 s.2.2.2) (hh : 216 ≤ h.1) {j0 : Nat} (q0 : j0 < bLa s.2.2.1) : RQ G mX10_beansOf d 0 [some (.ref 0), some (.int (nI j0)), none, none] [] h (CK h bk dr s "java/lang/IndexOutOfBoundsException" "" 0 (nI (su (fun j => dB s.2.2.2 j j0) (bJa s.2.2.1)))) := by
  have c1 := c.poll
  have cb := c.book
  obtain ⟨jf, lj, fo, le, u0, u1, u2, u3, u4, u5, u6, u7, u8, u9⟩ := id c.2.2.2.2.1
  have l1 := hb.1
  have l2 := hb.2.1
  have l3 := hb.2.2.1
  refine tX10_beansOf_0  (r := ?_)
  refine tX10_beansOf_1  (r := ?_)
  refine tX10_beansOf_2 (hd := (by omega)) (ha := (by first | assumption | (repeat (first | assumption | exact At.set_eq2 (by first | omega | (simp only [hset, hnew]; omega) | rfl | decide) | exact At.new_eq2 _ _ (by first | omega | (simp only [hset, hnew]; omega) | rfl | decide) | refine At.set_ne ?_ (by first | omega | (simp only [hset, hnew]; omega) | rfl | decide) | refine At.new_ne ?_)))) (call := s_checkLabel_ok (d := 6) (QX := fun _ _ => False) c hb q0) (kx := fun E_ h_ hx_ => by exact hx_.elim) (k := ?_)
  intro h_ e0
  rw [e0]
  refine tX10_beansOf_5  (r := ?_)
  refine tX10_beansOf_6  (r := ?_)
  refine tX10_beansOf_7  (r := ?_)
  refine tX10_beansOf_8  (r := ?_)
  exact k_beansOf_l c hb q0 (bJa s.2.2.1) 0 (by omega) (by omega)

set_option maxHeartbeats 4000000 in
set_option maxRecDepth 100000 in
theorem k_alliances_l (c : ClR h 0 bk dr s) (hb : BDok s.2.2.1 s.2.2.2) : ∀ (n i : Nat), bLa s.2.2.1 ≤ i + n → i ≤ bLa s.2.2.1 → RQ G mX10_alliances d 4 [some (.ref 0), some (.int (nI (su (fun k => if rt (dF s.2.2.2) k = k then 1 else 0) i))), some (.int (nI i))] [] h (fun o h1 => o = .inl (some (Value.int (nI (su (fun k => if rt (dF s.2.2.2) k = k then 1 else 0) (bLa s.2.2.1))))) ∧ ClR h1 0 bk dr s ∧ Ch h h1 0 216 0 0) := by
  have c1 := c.poll
  have cb := c.book
  obtain ⟨jf, lj, fo, le, u0, u1, u2, u3, u4, u5, u6, u7, u8, u9⟩ := id c.2.2.2.2.1
  have l1 := hb.1
  have l2 := hb.2.1
  have l3 := hb.2.2.1
  have rtl := fun i (hi : i < bLa s.2.2.1) => rt_lt hb 6 i hi
  have ex : ∀ i, i = bLa s.2.2.1 → RQ G mX10_alliances d 4 [some (.ref 0), some (.int (nI (su (fun k => if rt (dF s.2.2.2) k = k then 1 else 0) i))), some (.int (nI i))] [] h (fun o h1 => o = .inl (some (Value.int (nI (su (fun k => if rt (dF s.2.2.2) k = k then 1 else 0) (bLa s.2.2.1))))) ∧ ClR h1 0 bk dr s ∧ Ch h h1 0 216 0 0) := by
    intro i hi
    rw [hi]
    refine tX10_alliances_4  (r := ?_)
    refine tX10_alliances_5  (r := ?_)
    refine tX10_alliances_6 (ha := (by first | assumption | (repeat (first | assumption | exact At.set_eq2 (by first | omega | (simp only [hset, hnew]; omega) | rfl | decide) | exact At.new_eq2 _ _ (by first | omega | (simp only [hset, hnew]; omega) | rfl | decide) | refine At.set_ne ?_ (by first | omega | (simp only [hset, hnew]; omega) | rfl | decide) | refine At.new_ne ?_)))) (hv := rfl) (r := ?_)
    refine tX10_alliances_9 (ha := (by first | assumption | (repeat (first | assumption | exact At.set_eq2 (by first | omega | (simp only [hset, hnew]; omega) | rfl | decide) | exact At.new_eq2 _ _ (by first | omega | (simp only [hset, hnew]; omega) | rfl | decide) | refine At.set_ne ?_ (by first | omega | (simp only [hset, hnew]; omega) | rfl | decide) | refine At.new_ne ?_)))) (hv := rfl) (r := ?_)
    refine tX10_alliances_12  (kf := fun c_ => by exfalso; (simp (disch := first | omega | decide) only [ci_lt, ci_le, ci_eq, ci_lt0, ci_ge0, ci_gt0, ci_le0, ci_eq0, ci_m1_lt, ci_m1_le, ci_lt_m1, ci_le_m1, ci_eq_m1, ci_m1_eq, not_true, not_false_iff, Nat.not_lt, Nat.not_le] at c_ <;> omega)) (kt := fun _ => ?_)
    refine tX10_alliances_37  (r := ?_)
    refine tX10_alliances_38  (hP := ?_)
    exact ⟨rfl, c, Ch.rf _ _ _ _ _⟩
  intro n
  induction n with
  | zero => exact fun i h1_ h2_ => ex i (by omega)
  | succ n ih =>
    intro i h1_ h2_
    by_cases hi : i = bLa s.2.2.1
    · exact ex i hi
    have hi2 : i < bLa s.2.2.1 := by omega
    refine tX10_alliances_4  (r := ?_)
    refine tX10_alliances_5  (r := ?_)
    refine tX10_alliances_6 (ha := (by first | assumption | (repeat (first | assumption | exact At.set_eq2 (by first | omega | (simp only [hset, hnew]; omega) | rfl | decide) | exact At.new_eq2 _ _ (by first | omega | (simp only [hset, hnew]; omega) | rfl | decide) | refine At.set_ne ?_ (by first | omega | (simp only [hset, hnew]; omega) | rfl | decide) | refine At.new_ne ?_)))) (hv := rfl) (r := ?_)
    refine tX10_alliances_9 (ha := (by first | assumption | (repeat (first | assumption | exact At.set_eq2 (by first | omega | (simp only [hset, hnew]; omega) | rfl | decide) | exact At.new_eq2 _ _ (by first | omega | (simp only [hset, hnew]; omega) | rfl | decide) | refine At.set_ne ?_ (by first | omega | (simp only [hset, hnew]; omega) | rfl | decide) | refine At.new_ne ?_)))) (hv := rfl) (r := ?_)
    refine tX10_alliances_12  (kt := fun c_ => by exfalso; (simp (disch := first | omega | decide) only [ci_lt, ci_le, ci_eq, ci_lt0, ci_ge0, ci_gt0, ci_le0, ci_eq0, ci_m1_lt, ci_m1_le, ci_lt_m1, ci_le_m1, ci_eq_m1, ci_m1_eq, not_true, not_false_iff, Nat.not_lt, Nat.not_le] at c_ <;> omega)) (kf := fun _ => ?_)
    refine tX10_alliances_15  (r := ?_)
    refine tX10_alliances_16 (ha := (by first | assumption | (repeat (first | assumption | exact At.set_eq2 (by first | omega | (simp only [hset, hnew]; omega) | rfl | decide) | exact At.new_eq2 _ _ (by first | omega | (simp only [hset, hnew]; omega) | rfl | decide) | refine At.set_ne ?_ (by first | omega | (simp only [hset, hnew]; omega) | rfl | decide) | refine At.new_ne ?_)))) (hv := rfl) (r := ?_)
    refine tX10_alliances_19 (ha := (by first | assumption | (repeat (first | assumption | exact At.set_eq2 (by first | omega | (simp only [hset, hnew]; omega) | rfl | decide) | exact At.new_eq2 _ _ (by first | omega | (simp only [hset, hnew]; omega) | rfl | decide) | refine At.set_ne ?_ (by first | omega | (simp only [hset, hnew]; omega) | rfl | decide) | refine At.new_ne ?_)))) (hv := rfl) (r := ?_)
    refine tX10_alliances_22  (r := ?_)
    refine tX10_alliances_23 (ha := (by first | assumption | (repeat (first | assumption | exact At.set_eq2 (by first | omega | (simp only [hset, hnew]; omega) | rfl | decide) | exact At.new_eq2 _ _ (by first | omega | (simp only [hset, hnew]; omega) | rfl | decide) | refine At.set_ne ?_ (by first | omega | (simp only [hset, hnew]; omega) | rfl | decide) | refine At.new_ne ?_)))) (hx := rfl) (hj := (by omega)) (hn := (by decide)) (r := ?_)
    rw [u8 _ (by omega)]
    refine tX10_alliances_24  (r := ?_)
    refine tX10_alliances_25  (kt := fun c_25 => ?_) (kf := fun c_25 => ?_)
    · have e : su (fun k => if rt (dF s.2.2.2) k = k then 1 else 0) (i + 1) = su (fun k => if rt (dF s.2.2.2) k = k then 1 else 0) i := by
        show su (fun k => if rt (dF s.2.2.2) k = k then 1 else 0) i + (if rt (dF s.2.2.2) i = i then 1 else 0) = _
        rw [if_neg (fun q => c_25 (by rw [q]))]
        exact Nat.add_zero _
      rw [← e]
      refine tX10_alliances_31  (r := ?_)
      rw [nI_add]
      refine tX10_alliances_34 (r := ?_)
      exact ih (i + 1) (by omega) (by omega)
    · have e : su (fun k => if rt (dF s.2.2.2) k = k then 1 else 0) (i + 1) = su (fun k => if rt (dF s.2.2.2) k = k then 1 else 0) i + 1 := by
        show su (fun k => if rt (dF s.2.2.2) k = k then 1 else 0) i + (if rt (dF s.2.2.2) i = i then 1 else 0) = _
        rw [if_pos ((nI_eq (by have := rt_lt hb 6 i hi2; unfold rt; omega) (by omega)).mp c_25)]
      refine tX10_alliances_28  (r := ?_)
      rw [nI_add, ← e]
      refine tX10_alliances_31  (r := ?_)
      rw [nI_add]
      refine tX10_alliances_34 (r := ?_)
      exact ih (i + 1) (by omega) (by omega)

set_option maxHeartbeats 4000000 in
set_option maxRecDepth 100000 in
theorem k_alliances (c : ClR h 0 bk dr s) (hb : BDok s.2.2.1 s.2.2.2) : RQ G mX10_alliances d 0 [some (.ref 0), none, none] [] h (fun o h1 => o = .inl (some (Value.int (nI (su (fun k => if rt (dF s.2.2.2) k = k then 1 else 0) (bLa s.2.2.1))))) ∧ ClR h1 0 bk dr s ∧ Ch h h1 0 216 0 0) := by
  refine tX10_alliances_0  (r := ?_)
  refine tX10_alliances_1  (r := ?_)
  refine tX10_alliances_2  (r := ?_)
  refine tX10_alliances_3  (r := ?_)
  exact k_alliances_l c hb (bLa s.2.2.1) 0 (by omega) (by omega)

theorem all_same {B : BK} {D : DY} (hb : BDok B D) : su (fun k => if rt (dF D) k = k then 1 else 0) (bLa B) = su (fun k => if dF D k = none then 1 else 0) (bLa B) := su_congr (fun k hk => by
  have l1 := hb.1
  have e := hb.2.2.2.2.2.2.2.2.2.1 k (by omega)
  by_cases h1 : dF D k = none
  · rw [if_pos h1, if_pos (show rt (dF D) k = k by simp [rt, rtn, h1])]
  · rw [if_neg h1, if_neg (fun q => h1 (by rw [q] at e; exact e))])
set_option maxHeartbeats 4000000 in
set_option maxRecDepth 100000 in
theorem k_areAllied_ok (hd : 7 ≤ d) (c : ClR h 0 bk dr s) (hb : BDok s.2.2.1 s.2.2.2) (hh : 216 ≤ h.1) {j0 : Nat} (q0 : j0 < bLa s.2.2.1) {j1 : Nat} (q1 : j1 < bLa s.2.2.1) : RQ G mX10_areAllied d 0 [some (.ref 0), some (.int (nI j0)), some (.int (nI j1))] [] h (CK h bk dr s "java/lang/IndexOutOfBoundsException" "" 0 ((if rt (dF s.2.2.2) j0 = rt (dF s.2.2.2) j1 then nI 1 else nI 0))) := by
  have c1 := c.poll
  have cb := c.book
  obtain ⟨jf, lj, fo, le, u0, u1, u2, u3, u4, u5, u6, u7, u8, u9⟩ := id c.2.2.2.2.1
  have l1 := hb.1
  have l2 := hb.2.1
  have l3 := hb.2.2.1
  have r0 := rt_lt hb 6 j0 q0
  have r1 := rt_lt hb 6 j1 q1
  refine tX10_areAllied_0  (r := ?_)
  refine tX10_areAllied_1  (r := ?_)
  refine tX10_areAllied_2 (hd := (by omega)) (ha := (by first | assumption | (repeat (first | assumption | exact At.set_eq2 (by first | omega | (simp only [hset, hnew]; omega) | rfl | decide) | exact At.new_eq2 _ _ (by first | omega | (simp only [hset, hnew]; omega) | rfl | decide) | refine At.set_ne ?_ (by first | omega | (simp only [hset, hnew]; omega) | rfl | decide) | refine At.new_ne ?_)))) (call := s_checkLabel_ok (d := 6) (QX := fun _ _ => False) c hb q0) (kx := fun E_ h_ hx_ => by exact hx_.elim) (k := ?_)
  intro h_ e0
  rw [e0]
  refine tX10_areAllied_5  (r := ?_)
  refine tX10_areAllied_6  (r := ?_)
  refine tX10_areAllied_7 (hd := (by omega)) (ha := (by first | assumption | (repeat (first | assumption | exact At.set_eq2 (by first | omega | (simp only [hset, hnew]; omega) | rfl | decide) | exact At.new_eq2 _ _ (by first | omega | (simp only [hset, hnew]; omega) | rfl | decide) | refine At.set_ne ?_ (by first | omega | (simp only [hset, hnew]; omega) | rfl | decide) | refine At.new_ne ?_)))) (call := s_checkLabel_ok (d := 6) (QX := fun _ _ => False) c hb q1) (kx := fun E_ h_ hx_ => by exact hx_.elim) (k := ?_)
  intro h_ e1
  rw [e1]
  refine tX10_areAllied_10  (r := ?_)
  refine tX10_areAllied_11 (ha := (by first | assumption | (repeat (first | assumption | exact At.set_eq2 (by first | omega | (simp only [hset, hnew]; omega) | rfl | decide) | exact At.new_eq2 _ _ (by first | omega | (simp only [hset, hnew]; omega) | rfl | decide) | refine At.set_ne ?_ (by first | omega | (simp only [hset, hnew]; omega) | rfl | decide) | refine At.new_ne ?_)))) (hv := rfl) (r := ?_)
  refine tX10_areAllied_14 (ha := (by first | assumption | (repeat (first | assumption | exact At.set_eq2 (by first | omega | (simp only [hset, hnew]; omega) | rfl | decide) | exact At.new_eq2 _ _ (by first | omega | (simp only [hset, hnew]; omega) | rfl | decide) | refine At.set_ne ?_ (by first | omega | (simp only [hset, hnew]; omega) | rfl | decide) | refine At.new_ne ?_)))) (hv := rfl) (r := ?_)
  refine tX10_areAllied_17  (r := ?_)
  refine tX10_areAllied_18 (ha := (by first | assumption | (repeat (first | assumption | exact At.set_eq2 (by first | omega | (simp only [hset, hnew]; omega) | rfl | decide) | exact At.new_eq2 _ _ (by first | omega | (simp only [hset, hnew]; omega) | rfl | decide) | refine At.set_ne ?_ (by first | omega | (simp only [hset, hnew]; omega) | rfl | decide) | refine At.new_ne ?_)))) (hx := rfl) (hj := (by omega)) (hn := (by decide)) (r := ?_)
  rw [u8 _ (by omega)]
  refine tX10_areAllied_19  (r := ?_)
  refine tX10_areAllied_20 (ha := (by first | assumption | (repeat (first | assumption | exact At.set_eq2 (by first | omega | (simp only [hset, hnew]; omega) | rfl | decide) | exact At.new_eq2 _ _ (by first | omega | (simp only [hset, hnew]; omega) | rfl | decide) | refine At.set_ne ?_ (by first | omega | (simp only [hset, hnew]; omega) | rfl | decide) | refine At.new_ne ?_)))) (hv := rfl) (r := ?_)
  refine tX10_areAllied_23 (ha := (by first | assumption | (repeat (first | assumption | exact At.set_eq2 (by first | omega | (simp only [hset, hnew]; omega) | rfl | decide) | exact At.new_eq2 _ _ (by first | omega | (simp only [hset, hnew]; omega) | rfl | decide) | refine At.set_ne ?_ (by first | omega | (simp only [hset, hnew]; omega) | rfl | decide) | refine At.new_ne ?_)))) (hv := rfl) (r := ?_)
  refine tX10_areAllied_26  (r := ?_)
  refine tX10_areAllied_27 (ha := (by first | assumption | (repeat (first | assumption | exact At.set_eq2 (by first | omega | (simp only [hset, hnew]; omega) | rfl | decide) | exact At.new_eq2 _ _ (by first | omega | (simp only [hset, hnew]; omega) | rfl | decide) | refine At.set_ne ?_ (by first | omega | (simp only [hset, hnew]; omega) | rfl | decide) | refine At.new_ne ?_)))) (hx := rfl) (hj := (by omega)) (hn := (by decide)) (r := ?_)
  rw [u8 _ (by omega)]
  refine tX10_areAllied_28  (kt := fun c_28 => ?_) (kf := fun c_28 => ?_)
  · have ne_ : ¬ rt (dF s.2.2.2) j0 = rt (dF s.2.2.2) j1 := fun q => c_28 (by rw [q])
    refine tX10_areAllied_35  (r := ?_)
    refine tX10_areAllied_36 (hb := (Or.inl rfl)) (hP := ?_)
    rw [if_neg ne_]
    exact ck_val c (Ch.rf _ _ _ _ _)
  · have eq_ : rt (dF s.2.2.2) j0 = rt (dF s.2.2.2) j1 := (nI_eq (show rt (dF s.2.2.2) j0 < 2147483648 by unfold rt; omega) (show rt (dF s.2.2.2) j1 < 2147483648 by unfold rt; omega)).mp c_28
    refine tX10_areAllied_31  (r := ?_)
    refine tX10_areAllied_32 (r := ?_)
    refine tX10_areAllied_36 (hb := (Or.inr rfl)) (hP := ?_)
    rw [if_pos eq_]
    exact ck_val c (Ch.rf _ _ _ _ _)

end SJ