/-! seats that stay empty -/
section EM
variable {G : GT} {d : Nat} {h : AH} {bk dr : Nat} {s : ST}
theorem su_inc {g : Nat → Nat} {c : Nat} : ∀ m, su (fun k => if k = c then g k + 1 else g k) m = su g m + (if c < m then 1 else 0)
  | 0 => rfl
  | m + 1 => by
    show su (fun k => if k = c then g k + 1 else g k) m + (if m = c then g m + 1 else g m) = su g m + g m + _
    rw [su_inc m]
    by_cases h1 : c < m
    · rw [if_pos h1, if_neg (by omega), if_pos (by omega)]
      omega
    · by_cases h2 : m = c
      · rw [if_neg h1, if_pos h2, if_pos (by omega)]
        omega
      · rw [if_neg h1, if_neg h2, if_neg (by omega)]
        omega
theorem dvN_sum (p : Nat → Nat) : ∀ s, su (dvN p s) 6 = s
  | 0 => su_zero 6
  | s + 1 => by
    have e := su_inc (g := dvN p s) (c := bestD p (dvN p s) 6) 6
    rw [if_pos (bestD_lt (Nat.le_refl 6)), dvN_sum p s] at e
    exact e
theorem quN_sum : ∀ (n : Nat) (w l : Nat → Nat), su (quN n (w, l)).1 6 + quR n l = su w 6 + n := by
  intro n
  induction n with
  | zero => exact fun w l => rfl
  | succ n ih =>
    intro w l
    cases e : fiN l 6 with
    | none => rw [quN_none e, quR_none e]
    | some k =>
      rw [quN_some e, quR_some e, ih, su_inc, if_pos (fi_lt _ _ _ e)]
      omega
theorem wo_sum {p : Nat → Nat} {t se wy : Nat} (ht : su p 6 = t) (hw : wy < 3) : su (wo p t se wy) 6 + emp p t se wy = se := by
  cases e : fiN p 6 with
  | none =>
    rw [emp_none e, su_congr (g := fun _ => 0) (fun i _ => wo_none e i), su_zero]
    exact Nat.zero_add _
  | some f =>
    have f6 := fi_lt _ _ _ e
    rw [emp_some e, wo_some e]
    by_cases h0 : wy = 0
    · rw [if_pos h0, if_neg (by omega), su_congr (g := fun k => if f = k then se else 0) (fun i _ => by
        by_cases z : i = f
        · rw [if_pos z, if_pos z.symm]
        · rw [if_neg z, if_neg (fun y => z y.symm)]), su_one, if_pos f6]
      exact Nat.add_zero _
    · rw [if_neg h0]
      by_cases h1 : wy = 1
      · rw [if_pos h1, if_neg (by omega), dvN_sum]
        exact Nat.add_zero _
      · rw [if_neg h1, if_pos (by omega)]
        have k1 := quN_sum (se - su (fun k => p k / (t / (se + 1) + 1)) 6) (fun k => p k / (t / (se + 1) + 1)) (fun k => p k - p k / (t / (se + 1) + 1) * (t / (se + 1) + 1))
        have k2 := quota_le (se := se) ht
        exact k1.trans (by omega)

set_option maxHeartbeats 4000000 in
set_option maxRecDepth 100000 in
theorem s_left_l {j : Nat} {bf p w l : Nat → Int32} {se wy : Nat} {tu fi ma co : Int32} (jc : JarC h j bf p w l (nI se) wy tu fi ma co) {ws : Nat → Nat} (hw : ∀ k, k < 6 → w k = nI (ws k)) (hs : su ws 6 ≤ se) (hse : se ≤ 9) : ∀ (n i : Nat), 6 ≤ i + n → i ≤ 6 → RQ G mX4_emptySeatsLeft d 7 [some (.ref j), some (.int (nI (se - su ws i))), some (.int (nI i))] [] h (Ri fun v h1 => v = nI (se - su ws 6) ∧ h1 = h) := by
  obtain ⟨b0, b1, b2, b3, b4⟩ := id jc
  have ex : ∀ i, i = 6 → RQ G mX4_emptySeatsLeft d 7 [some (.ref j), some (.int (nI (se - su ws i))), some (.int (nI i))] [] h (Ri fun v h1 => v = nI (se - su ws 6) ∧ h1 = h) := by
    intro i hi
    rw [hi]
    refine tX4_emptySeatsLeft_7  (r := ?_)
    refine tX4_emptySeatsLeft_8  (r := ?_)
    refine tX4_emptySeatsLeft_10  (kf := fun c_ => by exfalso; exact c_ (by decide)) (kt := fun _ => ?_)
    refine tX4_emptySeatsLeft_28  (r := ?_)
    refine tX4_emptySeatsLeft_29  (hP := ?_)
    exact ⟨_, rfl, rfl, rfl⟩
  intro n
  induction n with
  | zero => exact fun i h1_ h2_ => ex i (by omega)
  | succ n ih =>
    intro i h1_ h2_
    by_cases hi : i = 6
    · exact ex i hi
    have hi2 : i < 6 := by omega
    refine tX4_emptySeatsLeft_7  (r := ?_)
    refine tX4_emptySeatsLeft_8  (r := ?_)
    refine tX4_emptySeatsLeft_10  (kt := fun c_ => by exfalso; exact absurd ((nI_leI (by decide) (by omega)).mp c_) (by omega)) (kf := fun _ => ?_)
    refine tX4_emptySeatsLeft_13  (r := ?_)
    refine tX4_emptySeatsLeft_14  (r := ?_)
    refine tX4_emptySeatsLeft_15 (ha := (by first | assumption | (repeat (first | assumption | exact At.set_eq2 (by first | omega | (simp only [hset, hnew]; omega) | rfl | decide) | exact At.new_eq2 _ _ (by first | omega | (simp only [hset, hnew]; omega) | rfl | decide) | refine At.set_ne ?_ (by first | omega | (simp only [hset, hnew]; omega) | rfl | decide) | refine At.new_ne ?_)))) (hv := rfl) (r := ?_)
    have m1 : su ws i + ws i ≤ su ws 6 := su_le (f := ws) (n := 6) (i := i + 1) (by omega)
    refine tX4_emptySeatsLeft_18  (r := ?_)
    refine tX4_emptySeatsLeft_19 (ha := (by first | assumption | (repeat (first | assumption | exact At.set_eq2 (by first | omega | (simp only [hset, hnew]; omega) | rfl | decide) | exact At.new_eq2 _ _ (by first | omega | (simp only [hset, hnew]; omega) | rfl | decide) | refine At.set_ne ?_ (by first | omega | (simp only [hset, hnew]; omega) | rfl | decide) | refine At.new_ne ?_)))) (hx := rfl) (hj := hi2) (hn := (by decide)) (r := ?_)
    rw [hw _ hi2]
    refine tX4_emptySeatsLeft_20  (r := ?_)
    rw [nI_subN (by omega) (by omega), Nat.sub_sub]
    refine tX4_emptySeatsLeft_21  (r := ?_)
    refine tX4_emptySeatsLeft_22  (r := ?_)
    rw [nI_add]
    refine tX4_emptySeatsLeft_25 (r := ?_)
    exact ih (i + 1) (by omega) (by omega)

set_option maxHeartbeats 4000000 in
set_option maxRecDepth 100000 in
theorem s_left {j : Nat} {bf p w l : Nat → Int32} {se wy : Nat} {tu fi ma co : Int32} (jc : JarC h j bf p w l (nI se) wy tu fi ma co) {ws : Nat → Nat} (hw : ∀ k, k < 6 → w k = nI (ws k)) (hs : su ws 6 ≤ se) (hse : se ≤ 9) : RQ G mX4_emptySeatsLeft d 0 [some (.ref j), none, none] [] h (Ri fun v h1 => v = nI (se - su ws 6) ∧ h1 = h) := by
  obtain ⟨b0, b1, b2, b3, b4⟩ := id jc
  refine tX4_emptySeatsLeft_0  (r := ?_)
  refine tX4_emptySeatsLeft_1 (ha := (by first | assumption | (repeat (first | assumption | exact At.set_eq2 (by first | omega | (simp only [hset, hnew]; omega) | rfl | decide) | exact At.new_eq2 _ _ (by first | omega | (simp only [hset, hnew]; omega) | rfl | decide) | refine At.set_ne ?_ (by first | omega | (simp only [hset, hnew]; omega) | rfl | decide) | refine At.new_ne ?_)))) (hv := rfl) (r := ?_)
  refine tX4_emptySeatsLeft_4  (r := ?_)
  refine tX4_emptySeatsLeft_5  (r := ?_)
  refine tX4_emptySeatsLeft_6  (r := ?_)
  exact s_left_l jc hw hs hse 6 0 (by omega) (by omega)

set_option maxHeartbeats 4000000 in
set_option maxRecDepth 100000 in
theorem k_emptySeats_ok (hd : 7 ≤ d) (c : ClR h 0 bk dr s) (hb : BDok s.2.2.1 s.2.2.2) (hh : 216 ≤ h.1) {j0 : Nat} (q0 : j0 < bJa s.2.2.1) : RQ G mX10_emptySeats d 0 [some (.ref 0), some (.int (nI j0))] [] h (CK h bk dr s "java/lang/IndexOutOfBoundsException" "" 0 (nI (emp (po (rt (dF s.2.2.2)) (dB s.2.2.2 j0)) (su (dB s.2.2.2 j0) 6) (bSe s.2.2.1 j0) (bWy s.2.2.1 j0)))) := by
  have c1 := c.poll
  have cb := c.book
  obtain ⟨jf, lj, fo, le, u0, u1, u2, u3, u4, u5, u6, u7, u8, u9⟩ := id c.2.2.2.2.1
  have l1 := hb.1
  have l2 := hb.2.1
  have l3 := hb.2.2.1
  obtain ⟨hse, hwy⟩ := hb.2.2.2.1 j0 (by omega)
  have ws_ := wo_sum (p := (po (rt (dF s.2.2.2)) (dB s.2.2.2 j0))) (t := (su (dB s.2.2.2 j0) 6)) (se := (bSe s.2.2.1 j0)) (po_sum (rt_lt6 hb)) hwy
  have we_ : (bSe s.2.2.1 j0) - su (wo (po (rt (dF s.2.2.2)) (dB s.2.2.2 j0)) (su (dB s.2.2.2 j0) 6) (bSe s.2.2.1 j0) (bWy s.2.2.1 j0)) 6 = emp (po (rt (dF s.2.2.2)) (dB s.2.2.2 j0)) (su (dB s.2.2.2 j0) 6) (bSe s.2.2.1 j0) (bWy s.2.2.1 j0) := by omega
  refine tX10_emptySeats_0  (r := ?_)
  refine tX10_emptySeats_1  (r := ?_)
  refine tX10_emptySeats_2 (hd := (by omega)) (ha := (by first | assumption | (repeat (first | assumption | exact At.set_eq2 (by first | omega | (simp only [hset, hnew]; omega) | rfl | decide) | exact At.new_eq2 _ _ (by first | omega | (simp only [hset, hnew]; omega) | rfl | decide) | refine At.set_ne ?_ (by first | omega | (simp only [hset, hnew]; omega) | rfl | decide) | refine At.new_ne ?_)))) (call := s_checkJar_ok (d := 6) (QX := fun _ _ => False) c hb q0) (kx := fun E_ h_ hx_ => by exact hx_.elim) (k := ?_)
  intro h_ e0
  rw [e0]
  refine tX10_emptySeats_5  (r := ?_)
  refine tX10_emptySeats_6 (ha := (by first | assumption | (repeat (first | assumption | exact At.set_eq2 (by first | omega | (simp only [hset, hnew]; omega) | rfl | decide) | exact At.new_eq2 _ _ (by first | omega | (simp only [hset, hnew]; omega) | rfl | decide) | refine At.set_ne ?_ (by first | omega | (simp only [hset, hnew]; omega) | rfl | decide) | refine At.new_ne ?_)))) (hv := rfl) (r := ?_)
  refine tX10_emptySeats_9  (r := ?_)
  refine tX10_emptySeats_10 (hd := (by omega)) (ha := (by first | assumption | (repeat (first | assumption | exact At.set_eq2 (by first | omega | (simp only [hset, hnew]; omega) | rfl | decide) | exact At.new_eq2 _ _ (by first | omega | (simp only [hset, hnew]; omega) | rfl | decide) | refine At.set_ne ?_ (by first | omega | (simp only [hset, hnew]; omega) | rfl | decide) | refine At.new_ne ?_)))) (call := (s_counted (d := 3) (by decide) c.2.2.2.2.1 hb (show j0 < 8 by omega)).imp (fun o9 h9 q9 => (⟨_, q9.1, rfl, q9.2⟩ : Rr (fun r h1 => r = 0 + 66 + 5 + 5 * j0 ∧ JaC h1 (0 + 66 + 5 + 5 * j0) (dB s.2.2.2 j0) (bSe s.2.2.1 j0) (bWy s.2.2.1 j0) (rt (dF s.2.2.2)) ∧ CuR h1 (0 + 66) s.2.2.1 s.2.2.2 ∧ Sm h h1 (0 + 66 + 5 + 5 * j0) (0 + 66 + 5 + 5 * j0 + 5)) o9 h9))) (k := ?_)
  rintro jj h1 ⟨rfl, q9⟩
  obtain ⟨jc, cu, sm⟩ := q9
  have cl := c.now cu sm (by omega) (by omega)
  have chh : Ch h h1 0 216 0 0 := sm.ch (Nat.zero_le _) (by omega)
  obtain ⟨bf, p, w, l, tu, fi, ma, ⟨b0, b1, b2, b3, b4⟩, hb2, cp, cw_, ct, cf, cm⟩ := jc
  refine tX10_emptySeats_13 (hd := (by omega)) (ha := (by first | assumption | (repeat (first | assumption | exact At.set_eq2 (by first | omega | (simp only [hset, hnew]; omega) | rfl | decide) | exact At.new_eq2 _ _ (by first | omega | (simp only [hset, hnew]; omega) | rfl | decide) | refine At.set_ne ?_ (by first | omega | (simp only [hset, hnew]; omega) | rfl | decide) | refine At.new_ne ?_)))) (call := s_left (d := 5) (ws := wo (po (rt (dF s.2.2.2)) (dB s.2.2.2 j0)) (su (dB s.2.2.2 j0) 6) (bSe s.2.2.1 j0) (bWy s.2.2.1 j0)) ⟨b0, b1, b2, b3, b4⟩ cw_ (by omega) hse) (k := ?_)
  rintro v h_ ⟨rfl, e9⟩
  rw [e9, we_]
  refine tX10_emptySeats_16  (hP := ?_)
  exact ck_val cl chh

end EM