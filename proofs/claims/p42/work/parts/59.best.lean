/-! the best jar -/
def gtO (v : Nat → Nat) (f : Option Nat) (n : Nat) : Bool := match f with
  | none => true
  | some b => decide (v n < v b)
/-- the best of the first n jars, where v n beans would do, none for 0 -/
def bjN (v : Nat → Nat) : Nat → Option Nat
  | 0 => none
  | n + 1 => if 1 ≤ v n ∧ gtO v (bjN v n) n = true then some n else bjN v n
theorem bj_no1 {v : Nat → Nat} {n : Nat} (e : v n < 1) : bjN v (n + 1) = bjN v n := if_neg (fun z => by have := z.1; omega)
theorem bj_no2 {v : Nat → Nat} {n b : Nat} (e : bjN v n = some b) (e2 : v b ≤ v n) : bjN v (n + 1) = bjN v n := if_neg (fun z => by
  have h := z.2
  rw [e] at h
  exact absurd (of_decide_eq_true h) (Nat.not_lt.mpr e2))
theorem bj_yes {v : Nat → Nat} {n : Nat} (e : 1 ≤ v n) (h : ∀ b, bjN v n = some b → v n < v b) : bjN v (n + 1) = some n := if_pos ⟨e, by
  cases q : bjN v n with
  | none => rfl
  | some b => exact decide_eq_true (h b q)⟩
theorem bj_lt {v : Nat → Nat} : ∀ n b, bjN v n = some b → b < n
  | 0, _, h => nomatch h
  | n + 1, b, h => by
    by_cases c : 1 ≤ v n ∧ gtO v (bjN v n) n = true
    · have e : bjN v (n + 1) = some n := if_pos c
      rw [e] at h
      cases h
      exact Nat.lt_succ_self _
    · have e : bjN v (n + 1) = bjN v n := if_neg c
      rw [e] at h
      exact Nat.lt_succ_of_lt (bj_lt n b h)
/-- so many beans would do in jar j; 0 if none or as many as there are don't -/
def vB (D : DY) (m j : Nat) : Nat := (bw (po (rt (dF D)) (dB D j)) m).getD 0
theorem vB_le {B : BK} {D : DY} (hb : BDok B D) {m j : Nat} (hj : j < 8) : vB D m j ≤ 1200 := by
  unfold vB
  cases e : bw (po (rt (dF D)) (dB D j)) m with
  | none => exact Nat.zero_le _
  | some k => exact bw_le (fun k _ => po_le (hb.2.2.2.2.2.2.1 j hj) k) e
theorem oI_lt1 {f : Option Nat} (hf : f.getD 0 ≤ 1200) : (oI f < nI 1) ↔ f.getD 0 < 1 := by
  cases f with
  | none => exact ⟨fun _ => Nat.zero_lt_one, fun _ => (by decide : (-1 : Int32) < nI 1)⟩
  | some k =>
    have hf : k ≤ 1200 := hf
    exact nI_ltI (by omega) (by decide)
theorem vB_some {D : DY} {m j : Nat} (h : 1 ≤ vB D m j) : oI (bw (po (rt (dF D)) (dB D j)) m) = nI (vB D m j) := by
  unfold vB at h ⊢
  cases e : bw (po (rt (dF D)) (dB D j)) m with
  | none =>
    rw [e] at h
    exact absurd h (by decide)
  | some k => rfl
section BJ
variable {G : GT} {d : Nat} {s : ST} {h0 h : AH} {bk dr : Nat}

set_option maxHeartbeats 4000000 in
set_option maxRecDepth 100000 in
theorem k_bestJar_l (hd : 7 ≤ d) (hb : BDok s.2.2.1 s.2.2.2) {j0 : Nat} (q0 : j0 < bLa s.2.2.1) : ∀ (n i : Nat) (h : AH) (x5 : Option Value), bJa s.2.2.1 ≤ i + n → i ≤ bJa s.2.2.1 → ClR h 0 bk dr s → Sm h0 h 66 111 → RQ G mX10_bestJarFor d 12 [some (.ref 0), some (.int (nI j0)), some (.int (oI (bjN (vB s.2.2.2 (rt (dF s.2.2.2) j0)) i))), some (.int (nI (mT (vB s.2.2.2 (rt (dF s.2.2.2) j0)) (bjN (vB s.2.2.2 (rt (dF s.2.2.2) j0)) i)))), some (.int (nI i)), x5] [] h (CK h0 bk dr s "java/lang/IndexOutOfBoundsException" "" 0 (oI (bjN (vB s.2.2.2 (rt (dF s.2.2.2) j0)) (bJa s.2.2.1)))) := by
  have ex : ∀ (i : Nat) (h : AH) (x5 : Option Value), i = bJa s.2.2.1 → ClR h 0 bk dr s → Sm h0 h 66 111 → RQ G mX10_bestJarFor d 12 [some (.ref 0), some (.int (nI j0)), some (.int (oI (bjN (vB s.2.2.2 (rt (dF s.2.2.2) j0)) i))), some (.int (nI (mT (vB s.2.2.2 (rt (dF s.2.2.2) j0)) (bjN (vB s.2.2.2 (rt (dF s.2.2.2) j0)) i)))), some (.int (nI i)), x5] [] h (CK h0 bk dr s "java/lang/IndexOutOfBoundsException" "" 0 (oI (bjN (vB s.2.2.2 (rt (dF s.2.2.2) j0)) (bJa s.2.2.1)))) := by
    intro i h x5 hi c sm
    subst hi
    have c1 := c.poll
    have cb := c.book
    obtain ⟨jf, lj, fo, le, u0, u1, u2, u3, u4, u5, u6, u7, u8, u9⟩ := id c.2.2.2.2.1
    have l1 := hb.1
    have l2 := hb.2.1
    have l3 := hb.2.2.1
    have r6 := rt_lt6 hb j0 (by omega)
    refine tX10_bestJarFor_12  (r := ?_)
    refine tX10_bestJarFor_14  (r := ?_)
    refine tX10_bestJarFor_15 (ha := (by first | assumption | (repeat (first | assumption | exact At.set_eq2 (by first | omega | (simp only [hset, hnew]; omega) | rfl | decide) | exact At.new_eq2 _ _ (by first | omega | (simp only [hset, hnew]; omega) | rfl | decide) | refine At.set_ne ?_ (by first | omega | (simp only [hset, hnew]; omega) | rfl | decide) | refine At.new_ne ?_)))) (hv := rfl) (r := ?_)
    refine tX10_bestJarFor_18 (ha := (by first | assumption | (repeat (first | assumption | exact At.set_eq2 (by first | omega | (simp only [hset, hnew]; omega) | rfl | decide) | exact At.new_eq2 _ _ (by first | omega | (simp only [hset, hnew]; omega) | rfl | decide) | refine At.set_ne ?_ (by first | omega | (simp only [hset, hnew]; omega) | rfl | decide) | refine At.new_ne ?_)))) (hv := rfl) (r := ?_)
    refine tX10_bestJarFor_21  (kf := fun c_ => by exfalso; (simp (disch := first | omega | decide) only [ci_lt, ci_le, ci_eq, ci_lt0, ci_ge0, ci_gt0, ci_le0, ci_eq0, ci_m1_lt, ci_m1_le, ci_lt_m1, ci_le_m1, ci_eq_m1, ci_m1_eq, not_true, not_false_iff, Nat.not_lt, Nat.not_le] at c_ <;> omega)) (kt := fun _ => ?_)
    refine tX10_bestJarFor_76  (r := ?_)
    refine tX10_bestJarFor_77  (hP := ?_)
    exact ck_val c (sm.ch (by omega) (by omega))
  intro n
  induction n with
  | zero => exact fun i h x5 h1_ h2_ => ex i h x5 (by omega)
  | succ n ih =>
    intro i h x5 h1_ h2_ c sm
    by_cases hi : i = bJa s.2.2.1
    · exact ex i h x5 hi c sm
    have hi2 : i < bJa s.2.2.1 := by omega
    have c1 := c.poll
    have cb := c.book
    obtain ⟨jf, lj, fo, le, u0, u1, u2, u3, u4, u5, u6, u7, u8, u9⟩ := id c.2.2.2.2.1
    have l1 := hb.1
    have l2 := hb.2.1
    have l3 := hb.2.2.1
    have r6 := rt_lt6 hb j0 (by omega)
    refine tX10_bestJarFor_12  (r := ?_)
    refine tX10_bestJarFor_14  (r := ?_)
    refine tX10_bestJarFor_15 (ha := (by first | assumption | (repeat (first | assumption | exact At.set_eq2 (by first | omega | (simp only [hset, hnew]; omega) | rfl | decide) | exact At.new_eq2 _ _ (by first | omega | (simp only [hset, hnew]; omega) | rfl | decide) | refine At.set_ne ?_ (by first | omega | (simp only [hset, hnew]; omega) | rfl | decide) | refine At.new_ne ?_)))) (hv := rfl) (r := ?_)
    refine tX10_bestJarFor_18 (ha := (by first | assumption | (repeat (first | assumption | exact At.set_eq2 (by first | omega | (simp only [hset, hnew]; omega) | rfl | decide) | exact At.new_eq2 _ _ (by first | omega | (simp only [hset, hnew]; omega) | rfl | decide) | refine At.set_ne ?_ (by first | omega | (simp only [hset, hnew]; omega) | rfl | decide) | refine At.new_ne ?_)))) (hv := rfl) (r := ?_)
    refine tX10_bestJarFor_21  (kt := fun c_ => by exfalso; (simp (disch := first | omega | decide) only [ci_lt, ci_le, ci_eq, ci_lt0, ci_ge0, ci_gt0, ci_le0, ci_eq0, ci_m1_lt, ci_m1_le, ci_lt_m1, ci_le_m1, ci_eq_m1, ci_m1_eq, not_true, not_false_iff, Nat.not_lt, Nat.not_le] at c_ <;> omega)) (kf := fun _ => ?_)
    refine tX10_bestJarFor_24  (r := ?_)
    refine tX10_bestJarFor_25 (ha := (by first | assumption | (repeat (first | assumption | exact At.set_eq2 (by first | omega | (simp only [hset, hnew]; omega) | rfl | decide) | exact At.new_eq2 _ _ (by first | omega | (simp only [hset, hnew]; omega) | rfl | decide) | refine At.set_ne ?_ (by first | omega | (simp only [hset, hnew]; omega) | rfl | decide) | refine At.new_ne ?_)))) (hv := rfl) (r := ?_)
    refine tX10_bestJarFor_28  (r := ?_)
    refine tX10_bestJarFor_30 (hd := (by omega)) (ha := (by first | assumption | (repeat (first | assumption | exact At.set_eq2 (by first | omega | (simp only [hset, hnew]; omega) | rfl | decide) | exact At.new_eq2 _ _ (by first | omega | (simp only [hset, hnew]; omega) | rfl | decide) | refine At.set_ne ?_ (by first | omega | (simp only [hset, hnew]; omega) | rfl | decide) | refine At.new_ne ?_)))) (call := (s_counted (d := 4) (by decide) c.2.2.2.2.1 hb (show i < 8 by omega)).imp (fun o9 h9 q9 => (⟨_, q9.1, rfl, q9.2⟩ : Rr (fun r h1 => r = 0 + 66 + 5 + 5 * i ∧ JaC h1 (0 + 66 + 5 + 5 * i) (dB s.2.2.2 i) (bSe s.2.2.1 i) (bWy s.2.2.1 i) (rt (dF s.2.2.2)) ∧ CuR h1 (0 + 66) s.2.2.1 s.2.2.2 ∧ Sm h h1 (0 + 66 + 5 + 5 * i) (0 + 66 + 5 + 5 * i + 5)) o9 h9))) (k := ?_)
    rintro jj h1 ⟨rfl, q9⟩
    obtain ⟨jc, cu, sm1⟩ := q9
    have cl := c.now cu sm1 (by omega) (by omega)
    have sm2 := sm.trans (sm1.sub (lo2 := 66) (hi2 := 111) (by omega) (by omega))
    obtain ⟨bf, p, w, l, tu, fi, ma, ⟨b0, b1, b2, b3, b4⟩, hb2, cp, cw_, ct, cf, cm⟩ := jc
    obtain ⟨jf', lj', fo', le', v0, v1, v2, v3, v4, v5, v6, v7, v8, v9⟩ := id cu
    have c1 := cl.poll
    have t1_ := vB_le hb (m := rt (dF s.2.2.2) j0) (j := i) (by omega)
    refine tX10_bestJarFor_33  (r := ?_)
    refine tX10_bestJarFor_34 (ha := (by first | assumption | (repeat (first | assumption | exact At.set_eq2 (by first | omega | (simp only [hset, hnew]; omega) | rfl | decide) | exact At.new_eq2 _ _ (by first | omega | (simp only [hset, hnew]; omega) | rfl | decide) | refine At.set_ne ?_ (by first | omega | (simp only [hset, hnew]; omega) | rfl | decide) | refine At.new_ne ?_)))) (hv := rfl) (r := ?_)
    refine tX10_bestJarFor_37 (ha := (by first | assumption | (repeat (first | assumption | exact At.set_eq2 (by first | omega | (simp only [hset, hnew]; omega) | rfl | decide) | exact At.new_eq2 _ _ (by first | omega | (simp only [hset, hnew]; omega) | rfl | decide) | refine At.set_ne ?_ (by first | omega | (simp only [hset, hnew]; omega) | rfl | decide) | refine At.new_ne ?_)))) (hv := rfl) (r := ?_)
    refine tX10_bestJarFor_40  (r := ?_)
    refine tX10_bestJarFor_41 (ha := (by first | assumption | (repeat (first | assumption | exact At.set_eq2 (by first | omega | (simp only [hset, hnew]; omega) | rfl | decide) | exact At.new_eq2 _ _ (by first | omega | (simp only [hset, hnew]; omega) | rfl | decide) | refine At.set_ne ?_ (by first | omega | (simp only [hset, hnew]; omega) | rfl | decide) | refine At.new_ne ?_)))) (hx := rfl) (hj := (by omega)) (hn := (by decide)) (r := ?_)
    rw [v8 _ (by omega)]
    refine tX10_bestJarFor_42 (hd := (by omega)) (ha := (by first | assumption | (repeat (first | assumption | exact At.set_eq2 (by first | omega | (simp only [hset, hnew]; omega) | rfl | decide) | exact At.new_eq2 _ _ (by first | omega | (simp only [hset, hnew]; omega) | rfl | decide) | refine At.set_ne ?_ (by first | omega | (simp only [hset, hnew]; omega) | rfl | decide) | refine At.new_ne ?_)))) (call := s_missing (d := 5) (q := po (rt (dF s.2.2.2)) (dB s.2.2.2 i)) (by decide) ⟨b0, b1, b2, b3, b4⟩ cf cp (fun k _ => po_le (hb.2.2.2.2.2.2.1 i (by omega)) k) r6) (k := ?_)
    rintro v_ h_ ⟨rfl, e9⟩
    rw [e9]
    refine tX10_bestJarFor_45  (r := ?_)
    refine tX10_bestJarFor_47  (r := ?_)
    refine tX10_bestJarFor_49  (r := ?_)
    refine tX10_bestJarFor_50  (kt := fun c_50 => ?_) (kf := fun c_50 => ?_)
    · have e : (bjN (vB s.2.2.2 (rt (dF s.2.2.2) j0)) (i + 1)) = (bjN (vB s.2.2.2 (rt (dF s.2.2.2) j0)) i) := bj_no1 ((oI_lt1 t1_).mp c_50)
      refine tX10_bestJarFor_70  (r := ?_)
      rw [nI_add]
      refine tX10_bestJarFor_73 (r := ?_)
      have key := fun x_ => ih (i + 1) _ x_ (by omega) (by omega) cl (sm2)
      rw [e] at key
      exact key _
    · have v1_ : 1 ≤ (vB s.2.2.2 (rt (dF s.2.2.2) j0)) i := Nat.le_of_not_lt (fun z => c_50 ((oI_lt1 t1_).mpr z))
      rw [vB_some v1_]
      refine tX10_bestJarFor_53  (r := ?_)
      refine tX10_bestJarFor_54  (r := ?_)
      refine tX10_bestJarFor_55  (kt := fun c_55 => ?_) (kf := fun c_55 => ?_)
      · have e : (bjN (vB s.2.2.2 (rt (dF s.2.2.2) j0)) (i + 1)) = some i := bj_yes v1_ (fun b z => by
          have b6 := bj_lt _ _ z
          rw [z] at c_55
          have c9 : nI b = -1 := c_55
          rw [ci_eq_m1 (by omega)] at c9
          exact c9.elim)
        refine tX10_bestJarFor_64  (r := ?_)
        refine tX10_bestJarFor_66  (r := ?_)
        refine tX10_bestJarFor_67  (r := ?_)
        refine tX10_bestJarFor_69  (r := ?_)
        refine tX10_bestJarFor_70  (r := ?_)
        rw [nI_add]
        refine tX10_bestJarFor_73 (r := ?_)
        have key := fun x_ => ih (i + 1) _ x_ (by omega) (by omega) cl (sm2)
        rw [e, show mT (vB s.2.2.2 (rt (dF s.2.2.2) j0)) (some i) = (vB s.2.2.2 (rt (dF s.2.2.2) j0)) i from rfl] at key
        exact key _
      · obtain ⟨b, e1⟩ : ∃ b, (bjN (vB s.2.2.2 (rt (dF s.2.2.2) j0)) i) = some b := by
          cases z : (bjN (vB s.2.2.2 (rt (dF s.2.2.2) j0)) i) with
          | none =>
            rw [z] at c_55
            exact absurd rfl c_55
          | some b => exact ⟨b, rfl⟩
        have mT_ : mT (vB s.2.2.2 (rt (dF s.2.2.2) j0)) (bjN (vB s.2.2.2 (rt (dF s.2.2.2) j0)) i) = (vB s.2.2.2 (rt (dF s.2.2.2) j0)) b := by rw [e1]; rfl
        have b8 := bj_lt _ _ e1
        have t2_ := vB_le hb (m := rt (dF s.2.2.2) j0) (j := b) (by omega)
        refine tX10_bestJarFor_58  (r := ?_)
        refine tX10_bestJarFor_60  (r := ?_)
        refine tX10_bestJarFor_61  (kt := fun c_61 => ?_) (kf := fun c_61 => ?_)
        · have e : (bjN (vB s.2.2.2 (rt (dF s.2.2.2) j0)) (i + 1)) = (bjN (vB s.2.2.2 (rt (dF s.2.2.2) j0)) i) := by
            rw [mT_] at c_61
            exact bj_no2 e1 ((nI_leI (by omega) (by omega)).mp c_61)
          refine tX10_bestJarFor_70  (r := ?_)
          rw [nI_add]
          refine tX10_bestJarFor_73 (r := ?_)
          have key := fun x_ => ih (i + 1) _ x_ (by omega) (by omega) cl (sm2)
          rw [e] at key
          exact key _
        · rw [mT_] at c_61
          have e : (bjN (vB s.2.2.2 (rt (dF s.2.2.2) j0)) (i + 1)) = some i := bj_yes v1_ (fun b2 z => by
            rw [e1] at z
            cases z
            exact Nat.lt_of_not_le (fun z => c_61 ((nI_leI (by omega) (by omega)).mpr z)))
          refine tX10_bestJarFor_64  (r := ?_)
          refine tX10_bestJarFor_66  (r := ?_)
          refine tX10_bestJarFor_67  (r := ?_)
          refine tX10_bestJarFor_69  (r := ?_)
          refine tX10_bestJarFor_70  (r := ?_)
          rw [nI_add]
          refine tX10_bestJarFor_73 (r := ?_)
          have key := fun x_ => ih (i + 1) _ x_ (by omega) (by omega) cl (sm2)
          rw [e, show mT (vB s.2.2.2 (rt (dF s.2.2.2) j0)) (some i) = (vB s.2.2.2 (rt (dF s.2.2.2) j0)) i from rfl] at key
          exact key _

set_option maxHeartbeats 4000000 in
set_option maxRecDepth 100000 in
theorem k_bestJarFor_ok (hd : 7 ≤ d) (c : ClR h 0 bk dr s) (hb : BDok s.2.2.1 s.2.2.2) (hh : 216 ≤ h.1) {j0 : Nat} (q0 : j0 < bLa s.2.2.1) : RQ G mX10_bestJarFor d 0 [some (.ref 0), some (.int (nI j0)), none, none, none, none] [] h (CK h bk dr s "java/lang/IndexOutOfBoundsException" "" 0 (oI (bjN (vB s.2.2.2 (rt (dF s.2.2.2) j0)) (bJa s.2.2.1)))) := by
  have c1 := c.poll
  have cb := c.book
  obtain ⟨jf, lj, fo, le, u0, u1, u2, u3, u4, u5, u6, u7, u8, u9⟩ := id c.2.2.2.2.1
  have l1 := hb.1
  have l2 := hb.2.1
  have l3 := hb.2.2.1
  refine tX10_bestJarFor_0  (r := ?_)
  refine tX10_bestJarFor_1  (r := ?_)
  refine tX10_bestJarFor_2 (hd := (by omega)) (ha := (by first | assumption | (repeat (first | assumption | exact At.set_eq2 (by first | omega | (simp only [hset, hnew]; omega) | rfl | decide) | exact At.new_eq2 _ _ (by first | omega | (simp only [hset, hnew]; omega) | rfl | decide) | refine At.set_ne ?_ (by first | omega | (simp only [hset, hnew]; omega) | rfl | decide) | refine At.new_ne ?_)))) (call := s_checkLabel_ok (d := 6) (QX := fun _ _ => False) c hb q0) (kx := fun E_ h_ hx_ => by exact hx_.elim) (k := ?_)
  intro h_ e0
  rw [e0]
  refine tX10_bestJarFor_5  (r := ?_)
  refine tX10_bestJarFor_6  (r := ?_)
  refine tX10_bestJarFor_7  (r := ?_)
  refine tX10_bestJarFor_8  (r := ?_)
  refine tX10_bestJarFor_9  (r := ?_)
  refine tX10_bestJarFor_10  (r := ?_)
  exact k_bestJar_l (by omega) hb q0 (bJa s.2.2.1) 0 h none (by omega) (by omega) c (Sm.rf _ _ _)

end BJ