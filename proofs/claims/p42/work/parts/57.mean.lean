/-! meanMargin -/
theorem mar_le {p : Nat → Nat} (hp : ∀ k, k < 6 → p k ≤ 1200) : mar p ≤ 1200 := by
  cases e : fiN p 6 with
  | none =>
    rw [mar_none e]
    exact Nat.zero_le _
  | some f =>
    rw [mar_some e]
    exact Nat.le_trans (Nat.sub_le _ _) (hp f (fi_lt _ _ _ e))
/-- margins of the first n jars -/
def mS (D : DY) (n : Nat) : Nat := su (fun j => mar (po (rt (dF D)) (dB D j))) n
theorem mS_le {B : BK} {D : DY} (hb : BDok B D) : mS D (bJa B) ≤ bJa B * 1200 := su_bd (bJa B) (fun i hi => mar_le (fun k _ => po_le (hb.2.2.2.2.2.2.1 i (Nat.lt_of_lt_of_le hi hb.2.1)) k))
/-- the mean margin -/
def mmV (B : BK) (D : DY) : UInt64 := if bJa B = 0 then FP.dconst0 else FP.ddiv (FP.i2d (nI (mS D (bJa B)))) (FP.i2d (nI (bJa B)))
section MEA
variable {G : GT} {d : Nat} {s : ST} {h0 h : AH} {bk dr : Nat}

set_option maxHeartbeats 4000000 in
set_option maxRecDepth 100000 in
theorem k_mean_l (hd : 5 ≤ d) (hb : BDok s.2.2.1 s.2.2.2) (hj1 : 1 ≤ bJa s.2.2.1) : ∀ (n i : Nat) (h : AH), bJa s.2.2.1 ≤ i + n → i ≤ bJa s.2.2.1 → ClR h 0 bk dr s → Sm h0 h 66 111 → RQ G mX10_meanMargin d 17 [some (.ref 0), some (.int (nI (mS s.2.2.2 i))), some (.int (nI i))] [] h (fun o h1 => o = .inl (some (Value.double (mmV s.2.2.1 s.2.2.2))) ∧ ClR h1 0 bk dr s ∧ Ch h0 h1 0 216 0 0) := by
  have ex : ∀ (i : Nat) (h : AH), i = bJa s.2.2.1 → ClR h 0 bk dr s → Sm h0 h 66 111 → RQ G mX10_meanMargin d 17 [some (.ref 0), some (.int (nI (mS s.2.2.2 i))), some (.int (nI i))] [] h (fun o h1 => o = .inl (some (Value.double (mmV s.2.2.1 s.2.2.2))) ∧ ClR h1 0 bk dr s ∧ Ch h0 h1 0 216 0 0) := by
    intro i h hi c sm
    subst hi
    have c1 := c.poll
    have cb := c.book
    obtain ⟨jf, lj, fo, le, u0, u1, u2, u3, u4, u5, u6, u7, u8, u9⟩ := id c.2.2.2.2.1
    have l1 := hb.1
    have l2 := hb.2.1
    have l3 := hb.2.2.1
    refine tX10_meanMargin_17  (r := ?_)
    refine tX10_meanMargin_18  (r := ?_)
    refine tX10_meanMargin_19 (ha := (by first | assumption | (repeat (first | assumption | exact At.set_eq2 (by first | omega | (simp only [hset, hnew]; omega) | rfl | decide) | exact At.new_eq2 _ _ (by first | omega | (simp only [hset, hnew]; omega) | rfl | decide) | refine At.set_ne ?_ (by first | omega | (simp only [hset, hnew]; omega) | rfl | decide) | refine At.new_ne ?_)))) (hv := rfl) (r := ?_)
    refine tX10_meanMargin_22 (ha := (by first | assumption | (repeat (first | assumption | exact At.set_eq2 (by first | omega | (simp only [hset, hnew]; omega) | rfl | decide) | exact At.new_eq2 _ _ (by first | omega | (simp only [hset, hnew]; omega) | rfl | decide) | refine At.set_ne ?_ (by first | omega | (simp only [hset, hnew]; omega) | rfl | decide) | refine At.new_ne ?_)))) (hv := rfl) (r := ?_)
    refine tX10_meanMargin_25  (kf := fun c_ => by exfalso; (simp (disch := first | omega | decide) only [ci_lt, ci_le, ci_eq, ci_lt0, ci_ge0, ci_gt0, ci_le0, ci_eq0, ci_m1_lt, ci_m1_le, ci_lt_m1, ci_le_m1, ci_eq_m1, ci_m1_eq, not_true, not_false_iff, Nat.not_lt, Nat.not_le] at c_ <;> omega)) (kt := fun _ => ?_)
    refine tX10_meanMargin_48  (r := ?_)
    refine tX10_meanMargin_49  (r := ?_)
    refine tX10_meanMargin_50  (r := ?_)
    refine tX10_meanMargin_51 (ha := (by first | assumption | (repeat (first | assumption | exact At.set_eq2 (by first | omega | (simp only [hset, hnew]; omega) | rfl | decide) | exact At.new_eq2 _ _ (by first | omega | (simp only [hset, hnew]; omega) | rfl | decide) | refine At.set_ne ?_ (by first | omega | (simp only [hset, hnew]; omega) | rfl | decide) | refine At.new_ne ?_)))) (hv := rfl) (r := ?_)
    refine tX10_meanMargin_54 (ha := (by first | assumption | (repeat (first | assumption | exact At.set_eq2 (by first | omega | (simp only [hset, hnew]; omega) | rfl | decide) | exact At.new_eq2 _ _ (by first | omega | (simp only [hset, hnew]; omega) | rfl | decide) | refine At.set_ne ?_ (by first | omega | (simp only [hset, hnew]; omega) | rfl | decide) | refine At.new_ne ?_)))) (hv := rfl) (r := ?_)
    refine tX10_meanMargin_57  (r := ?_)
    refine tX10_meanMargin_58 (hne := (mq_all hj1 l2 (mS_le hb))) (r := ?_)
    refine tX10_meanMargin_59  (hP := ?_)
    refine ⟨?_, c, sm.ch (by omega) (by omega)⟩
    show _ = Sum.inl (some (Value.double (if bJa s.2.2.1 = 0 then _ else _)))
    rw [if_neg (by omega)]
  intro n
  induction n with
  | zero => exact fun i h h1_ h2_ => ex i h (by omega)
  | succ n ih =>
    intro i h h1_ h2_ c sm
    by_cases hi : i = bJa s.2.2.1
    · exact ex i h hi c sm
    have hi2 : i < bJa s.2.2.1 := by omega
    have c1 := c.poll
    have cb := c.book
    obtain ⟨jf, lj, fo, le, u0, u1, u2, u3, u4, u5, u6, u7, u8, u9⟩ := id c.2.2.2.2.1
    have l1 := hb.1
    have l2 := hb.2.1
    have l3 := hb.2.2.1
    refine tX10_meanMargin_17  (r := ?_)
    refine tX10_meanMargin_18  (r := ?_)
    refine tX10_meanMargin_19 (ha := (by first | assumption | (repeat (first | assumption | exact At.set_eq2 (by first | omega | (simp only [hset, hnew]; omega) | rfl | decide) | exact At.new_eq2 _ _ (by first | omega | (simp only [hset, hnew]; omega) | rfl | decide) | refine At.set_ne ?_ (by first | omega | (simp only [hset, hnew]; omega) | rfl | decide) | refine At.new_ne ?_)))) (hv := rfl) (r := ?_)
    refine tX10_meanMargin_22 (ha := (by first | assumption | (repeat (first | assumption | exact At.set_eq2 (by first | omega | (simp only [hset, hnew]; omega) | rfl | decide) | exact At.new_eq2 _ _ (by first | omega | (simp only [hset, hnew]; omega) | rfl | decide) | refine At.set_ne ?_ (by first | omega | (simp only [hset, hnew]; omega) | rfl | decide) | refine At.new_ne ?_)))) (hv := rfl) (r := ?_)
    refine tX10_meanMargin_25  (kt := fun c_ => by exfalso; (simp (disch := first | omega | decide) only [ci_lt, ci_le, ci_eq, ci_lt0, ci_ge0, ci_gt0, ci_le0, ci_eq0, ci_m1_lt, ci_m1_le, ci_lt_m1, ci_le_m1, ci_eq_m1, ci_m1_eq, not_true, not_false_iff, Nat.not_lt, Nat.not_le] at c_ <;> omega)) (kf := fun _ => ?_)
    refine tX10_meanMargin_28  (r := ?_)
    refine tX10_meanMargin_29  (r := ?_)
    refine tX10_meanMargin_30 (ha := (by first | assumption | (repeat (first | assumption | exact At.set_eq2 (by first | omega | (simp only [hset, hnew]; omega) | rfl | decide) | exact At.new_eq2 _ _ (by first | omega | (simp only [hset, hnew]; omega) | rfl | decide) | refine At.set_ne ?_ (by first | omega | (simp only [hset, hnew]; omega) | rfl | decide) | refine At.new_ne ?_)))) (hv := rfl) (r := ?_)
    refine tX10_meanMargin_33  (r := ?_)
    refine tX10_meanMargin_34 (hd := (by omega)) (ha := (by first | assumption | (repeat (first | assumption | exact At.set_eq2 (by first | omega | (simp only [hset, hnew]; omega) | rfl | decide) | exact At.new_eq2 _ _ (by first | omega | (simp only [hset, hnew]; omega) | rfl | decide) | refine At.set_ne ?_ (by first | omega | (simp only [hset, hnew]; omega) | rfl | decide) | refine At.new_ne ?_)))) (call := (s_counted (d := 4) (by decide) c.2.2.2.2.1 hb (show i < 8 by omega)).imp (fun o9 h9 q9 => (⟨_, q9.1, rfl, q9.2⟩ : Rr (fun r h1 => r = 0 + 66 + 5 + 5 * i ∧ JaC h1 (0 + 66 + 5 + 5 * i) (dB s.2.2.2 i) (bSe s.2.2.1 i) (bWy s.2.2.1 i) (rt (dF s.2.2.2)) ∧ CuR h1 (0 + 66) s.2.2.1 s.2.2.2 ∧ Sm h h1 (0 + 66 + 5 + 5 * i) (0 + 66 + 5 + 5 * i + 5)) o9 h9))) (k := ?_)
    rintro jj h1 ⟨rfl, q9⟩
    obtain ⟨jc, cu, sm1⟩ := q9
    have cl := c.now cu sm1 (by omega) (by omega)
    have sm2 := sm.trans (sm1.sub (lo2 := 66) (hi2 := 111) (by omega) (by omega))
    obtain ⟨bf, p, w, l, tu, fi, ma, ⟨b0, b1, b2, b3, b4⟩, hb2, cp, cw_, ct, cf, cm⟩ := jc
    refine tX10_meanMargin_37 (ha := (by first | assumption | (repeat (first | assumption | exact At.set_eq2 (by first | omega | (simp only [hset, hnew]; omega) | rfl | decide) | exact At.new_eq2 _ _ (by first | omega | (simp only [hset, hnew]; omega) | rfl | decide) | refine At.set_ne ?_ (by first | omega | (simp only [hset, hnew]; omega) | rfl | decide) | refine At.new_ne ?_)))) (hv := rfl) (r := ?_)
    rw [cm]
    refine tX10_meanMargin_40  (r := ?_)
    rw [nI_add]
    refine tX10_meanMargin_41  (r := ?_)
    refine tX10_meanMargin_42  (r := ?_)
    rw [nI_add]
    refine tX10_meanMargin_45 (r := ?_)
    exact ih (i + 1) _ (by omega) (by omega) cl sm2

set_option maxHeartbeats 4000000 in
set_option maxRecDepth 100000 in
theorem k_meanMargin (hd : 5 ≤ d) (c : ClR h0 0 bk dr s) (hb : BDok s.2.2.1 s.2.2.2) : RQ G mX10_meanMargin d 0 [some (.ref 0), none, none] [] h0 (fun o h1 => o = .inl (some (Value.double (mmV s.2.2.1 s.2.2.2))) ∧ ClR h1 0 bk dr s ∧ Ch h0 h1 0 216 0 0) := by
  have c1 := c.poll
  have cb := c.book
  have l1 := hb.1
  have l2 := hb.2.1
  have l3 := hb.2.2.1
  refine tX10_meanMargin_0  (r := ?_)
  refine tX10_meanMargin_1 (ha := (by first | assumption | (repeat (first | assumption | exact At.set_eq2 (by first | omega | (simp only [hset, hnew]; omega) | rfl | decide) | exact At.new_eq2 _ _ (by first | omega | (simp only [hset, hnew]; omega) | rfl | decide) | refine At.set_ne ?_ (by first | omega | (simp only [hset, hnew]; omega) | rfl | decide) | refine At.new_ne ?_)))) (hv := rfl) (r := ?_)
  refine tX10_meanMargin_4 (ha := (by first | assumption | (repeat (first | assumption | exact At.set_eq2 (by first | omega | (simp only [hset, hnew]; omega) | rfl | decide) | exact At.new_eq2 _ _ (by first | omega | (simp only [hset, hnew]; omega) | rfl | decide) | refine At.set_ne ?_ (by first | omega | (simp only [hset, hnew]; omega) | rfl | decide) | refine At.new_ne ?_)))) (hv := rfl) (r := ?_)
  refine tX10_meanMargin_7  (r := ?_)
  refine tX10_meanMargin_8  (kt := fun c_8 => ?_) (kf := fun c_8 => ?_)
  · have hj1 := (nI_leI (by decide) (by omega)).mp c_8
    refine tX10_meanMargin_13  (r := ?_)
    refine tX10_meanMargin_14  (r := ?_)
    refine tX10_meanMargin_15  (r := ?_)
    refine tX10_meanMargin_16  (r := ?_)
    exact k_mean_l hd hb hj1 (bJa s.2.2.1) 0 h0 (by omega) (by omega) c (Sm.rf _ _ _)
  · have hj0 : bJa s.2.2.1 = 0 := by have z1 : ¬ 1 ≤ bJa s.2.2.1 := fun z => c_8 ((nI_leI (by decide) (by omega)).mpr z); omega
    refine tX10_meanMargin_11  (r := ?_)
    refine tX10_meanMargin_12  (hP := ?_)
    refine ⟨?_, c, Ch.rf _ _ _ _ _⟩
    show _ = Sum.inl (some (Value.double (if bJa s.2.2.1 = 0 then _ else _)))
    rw [if_pos hj0]

end MEA
