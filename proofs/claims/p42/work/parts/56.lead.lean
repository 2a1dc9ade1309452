/-! leading -/
def ltO (T : Nat → Nat) (f : Option Nat) (n : Nat) : Bool := match f with
  | none => true
  | some b => decide (T b < T n)
/-- who leads among the first n -/
def ldN (T r : Nat → Nat) : Nat → Option Nat
  | 0 => none
  | n + 1 => if r n = n ∧ ltO T (ldN T r n) n = true then some n else ldN T r n
theorem ld_no1 {T r : Nat → Nat} {n : Nat} (e : ¬ r n = n) : ldN T r (n + 1) = ldN T r n := if_neg (fun z => e z.1)
theorem ld_no2 {T r : Nat → Nat} {n b : Nat} (e : ldN T r n = some b) (e2 : T n ≤ T b) : ldN T r (n + 1) = ldN T r n := if_neg (fun z => by
  have h := z.2
  rw [e] at h
  exact absurd (of_decide_eq_true h) (Nat.not_lt.mpr e2))
theorem ld_yes {T r : Nat → Nat} {n : Nat} (e : r n = n) (h : ∀ b, ldN T r n = some b → T b < T n) : ldN T r (n + 1) = some n := if_pos ⟨e, by
  cases q : ldN T r n with
  | none => rfl
  | some b => exact decide_eq_true (h b q)⟩
theorem ld_lt {T r : Nat → Nat} : ∀ n b, ldN T r n = some b → b < n
  | 0, _, h => nomatch h
  | n + 1, b, h => by
    by_cases c : r n = n ∧ ltO T (ldN T r n) n = true
    · have e : ldN T r (n + 1) = some n := if_pos c
      rw [e] at h
      cases h
      exact Nat.lt_succ_self _
    · have e : ldN T r (n + 1) = ldN T r n := if_neg c
      rw [e] at h
      exact Nat.lt_succ_of_lt (ld_lt n b h)
theorem ld_le {T : Nat → Nat} (hT : ∀ k, T k ≤ 9672) {f : Option Nat} {n : Nat} : (nI (T n) ≤ oI (f.map T)) ↔ ∃ b, f = some b ∧ T n ≤ T b := by
  have h1 := hT n
  cases f with
  | none =>
    refine ⟨fun c_ => ?_, fun z => ?_⟩
    · have c_ : nI (T n) ≤ -1 := c_
      exfalso
      (simp (disch := first | omega | decide) only [ci_lt, ci_le, ci_eq, ci_lt0, ci_ge0, ci_gt0, ci_le0, ci_eq0, ci_m1_lt, ci_m1_le, ci_lt_m1, ci_le_m1, ci_eq_m1, ci_m1_eq, not_true, not_false_iff, Nat.not_lt, Nat.not_le] at c_ <;> omega)
    · obtain ⟨b, z1, -⟩ := z
      exact nomatch z1
  | some b =>
    have h2 := hT b
    refine ⟨fun c_ => ⟨b, rfl, (nI_leI (by omega) (by omega)).mp c_⟩, fun z => ?_⟩
    obtain ⟨b2, z1, z2⟩ := z
    cases z1
    exact (nI_leI (by omega) (by omega)).mpr z2
def mT (T : Nat → Nat) (f : Option Nat) : Nat := match f with
  | none => 0
  | some b => T b
def sT (B : BK) (D : DY) (k : Nat) : Nat := su (sw B D k) 8
theorem sT_le {B : BK} {D : DY} (hb : BDok B D) (k : Nat) : sT B D k ≤ 9672 := sw_le hb k
section LEA
variable {G : GT} {d : Nat} {s : ST} {h0 h : AH} {bk dr : Nat}

set_option maxHeartbeats 4000000 in
set_option maxRecDepth 100000 in
theorem k_leading_l (hd : 5 ≤ d) (hb : BDok s.2.2.1 s.2.2.2) : ∀ (n i : Nat) (h : AH), bLa s.2.2.1 ≤ i + n → i ≤ bLa s.2.2.1 → ClR h 0 bk dr s → Sm h0 h 66 111 → RQ G mX10_leading d 6 [some (.ref 0), some (.int (oI (ldN (sT s.2.2.1 s.2.2.2) (rt (dF s.2.2.2)) i))), some (.int (oI ((ldN (sT s.2.2.1 s.2.2.2) (rt (dF s.2.2.2)) i).map (sT s.2.2.1 s.2.2.2)))), some (.int (nI i))] [] h (fun o h1 => o = .inl (some (Value.int (oI (ldN (sT s.2.2.1 s.2.2.2) (rt (dF s.2.2.2)) (bLa s.2.2.1))))) ∧ ClR h1 0 bk dr s ∧ Ch h0 h1 0 216 0 0) := by
  have ex : ∀ (i : Nat) (h : AH), i = bLa s.2.2.1 → ClR h 0 bk dr s → Sm h0 h 66 111 → RQ G mX10_leading d 6 [some (.ref 0), some (.int (oI (ldN (sT s.2.2.1 s.2.2.2) (rt (dF s.2.2.2)) i))), some (.int (oI ((ldN (sT s.2.2.1 s.2.2.2) (rt (dF s.2.2.2)) i).map (sT s.2.2.1 s.2.2.2)))), some (.int (nI i))] [] h (fun o h1 => o = .inl (some (Value.int (oI (ldN (sT s.2.2.1 s.2.2.2) (rt (dF s.2.2.2)) (bLa s.2.2.1))))) ∧ ClR h1 0 bk dr s ∧ Ch h0 h1 0 216 0 0) := by
    intro i h hi c sm
    subst hi
    have c1 := c.poll
    have cb := c.book
    obtain ⟨jf, lj, fo, le, u0, u1, u2, u3, u4, u5, u6, u7, u8, u9⟩ := id c.2.2.2.2.1
    have l1 := hb.1
    have l2 := hb.2.1
    have l3 := hb.2.2.1
    skip
    refine tX10_leading_6  (r := ?_)
    refine tX10_leading_7  (r := ?_)
    refine tX10_leading_8 (ha := (by first | assumption | (repeat (first | assumption | exact At.set_eq2 (by first | omega | (simp only [hset, hnew]; omega) | rfl | decide) | exact At.new_eq2 _ _ (by first | omega | (simp only [hset, hnew]; omega) | rfl | decide) | refine At.set_ne ?_ (by first | omega | (simp only [hset, hnew]; omega) | rfl | decide) | refine At.new_ne ?_)))) (hv := rfl) (r := ?_)
    refine tX10_leading_11 (ha := (by first | assumption | (repeat (first | assumption | exact At.set_eq2 (by first | omega | (simp only [hset, hnew]; omega) | rfl | decide) | exact At.new_eq2 _ _ (by first | omega | (simp only [hset, hnew]; omega) | rfl | decide) | refine At.set_ne ?_ (by first | omega | (simp only [hset, hnew]; omega) | rfl | decide) | refine At.new_ne ?_)))) (hv := rfl) (r := ?_)
    refine tX10_leading_14  (kf := fun c_ => by exfalso; (simp (disch := first | omega | decide) only [ci_lt, ci_le, ci_eq, ci_lt0, ci_ge0, ci_gt0, ci_le0, ci_eq0, ci_m1_lt, ci_m1_le, ci_lt_m1, ci_le_m1, ci_eq_m1, ci_m1_eq, not_true, not_false_iff, Nat.not_lt, Nat.not_le] at c_ <;> omega)) (kt := fun _ => ?_)
    refine tX10_leading_59  (r := ?_)
    refine tX10_leading_60  (hP := ?_)
    exact ⟨rfl, c, sm.ch (by omega) (by omega)⟩
  intro n
  induction n with
  | zero => exact fun i h h1_ h2_ => ex i h (by omega)
  | succ n ih =>
    intro i h h1_ h2_ c sm
    by_cases hi : i = bLa s.2.2.1
    · exact ex i h hi c sm
    have hi2 : i < bLa s.2.2.1 := by omega
    have c1 := c.poll
    have cb := c.book
    obtain ⟨jf, lj, fo, le, u0, u1, u2, u3, u4, u5, u6, u7, u8, u9⟩ := id c.2.2.2.2.1
    have l1 := hb.1
    have l2 := hb.2.1
    have l3 := hb.2.2.1
    have r6 := rt_lt6 hb i (by omega)
    refine tX10_leading_6  (r := ?_)
    refine tX10_leading_7  (r := ?_)
    refine tX10_leading_8 (ha := (by first | assumption | (repeat (first | assumption | exact At.set_eq2 (by first | omega | (simp only [hset, hnew]; omega) | rfl | decide) | exact At.new_eq2 _ _ (by first | omega | (simp only [hset, hnew]; omega) | rfl | decide) | refine At.set_ne ?_ (by first | omega | (simp only [hset, hnew]; omega) | rfl | decide) | refine At.new_ne ?_)))) (hv := rfl) (r := ?_)
    refine tX10_leading_11 (ha := (by first | assumption | (repeat (first | assumption | exact At.set_eq2 (by first | omega | (simp only [hset, hnew]; omega) | rfl | decide) | exact At.new_eq2 _ _ (by first | omega | (simp only [hset, hnew]; omega) | rfl | decide) | refine At.set_ne ?_ (by first | omega | (simp only [hset, hnew]; omega) | rfl | decide) | refine At.new_ne ?_)))) (hv := rfl) (r := ?_)
    refine tX10_leading_14  (kt := fun c_ => by exfalso; (simp (disch := first | omega | decide) only [ci_lt, ci_le, ci_eq, ci_lt0, ci_ge0, ci_gt0, ci_le0, ci_eq0, ci_m1_lt, ci_m1_le, ci_lt_m1, ci_le_m1, ci_eq_m1, ci_m1_eq, not_true, not_false_iff, Nat.not_lt, Nat.not_le] at c_ <;> omega)) (kf := fun _ => ?_)
    refine tX10_leading_17  (r := ?_)
    refine tX10_leading_18 (ha := (by first | assumption | (repeat (first | assumption | exact At.set_eq2 (by first | omega | (simp only [hset, hnew]; omega) | rfl | decide) | exact At.new_eq2 _ _ (by first | omega | (simp only [hset, hnew]; omega) | rfl | decide) | refine At.set_ne ?_ (by first | omega | (simp only [hset, hnew]; omega) | rfl | decide) | refine At.new_ne ?_)))) (hv := rfl) (r := ?_)
    refine tX10_leading_21 (ha := (by first | assumption | (repeat (first | assumption | exact At.set_eq2 (by first | omega | (simp only [hset, hnew]; omega) | rfl | decide) | exact At.new_eq2 _ _ (by first | omega | (simp only [hset, hnew]; omega) | rfl | decide) | refine At.set_ne ?_ (by first | omega | (simp only [hset, hnew]; omega) | rfl | decide) | refine At.new_ne ?_)))) (hv := rfl) (r := ?_)
    refine tX10_leading_24  (r := ?_)
    refine tX10_leading_25 (ha := (by first | assumption | (repeat (first | assumption | exact At.set_eq2 (by first | omega | (simp only [hset, hnew]; omega) | rfl | decide) | exact At.new_eq2 _ _ (by first | omega | (simp only [hset, hnew]; omega) | rfl | decide) | refine At.set_ne ?_ (by first | omega | (simp only [hset, hnew]; omega) | rfl | decide) | refine At.new_ne ?_)))) (hx := rfl) (hj := (by omega)) (hn := (by decide)) (r := ?_)
    rw [u8 _ (by omega)]
    refine tX10_leading_26  (r := ?_)
    refine tX10_leading_27  (kt := fun c_27 => ?_) (kf := fun c_27 => ?_)
    · have ne_ : ¬ rt (dF s.2.2.2) i = i := fun q => c_27 (by rw [q])
      have e : (ldN (sT s.2.2.1 s.2.2.2) (rt (dF s.2.2.2)) (i + 1)) = (ldN (sT s.2.2.1 s.2.2.2) (rt (dF s.2.2.2)) i) := ld_no1 ne_
      refine tX10_leading_53  (r := ?_)
      rw [nI_add]
      refine tX10_leading_56 (r := ?_)
      have key := ih (i + 1) _ (by omega) (by omega) c sm
      rw [e] at key
      exact key
    · have eq_ : rt (dF s.2.2.2) i = i := (nI_eq (by omega) (by omega)).mp c_27
      refine tX10_leading_30  (r := ?_)
      refine tX10_leading_31 (ha := (by first | assumption | (repeat (first | assumption | exact At.set_eq2 (by first | omega | (simp only [hset, hnew]; omega) | rfl | decide) | exact At.new_eq2 _ _ (by first | omega | (simp only [hset, hnew]; omega) | rfl | decide) | refine At.set_ne ?_ (by first | omega | (simp only [hset, hnew]; omega) | rfl | decide) | refine At.new_ne ?_)))) (hv := rfl) (r := ?_)
      refine tX10_leading_34  (r := ?_)
      refine tX10_leading_35 (hd := (by omega)) (ha := (by first | assumption | (repeat (first | assumption | exact At.set_eq2 (by first | omega | (simp only [hset, hnew]; omega) | rfl | decide) | exact At.new_eq2 _ _ (by first | omega | (simp only [hset, hnew]; omega) | rfl | decide) | refine At.set_ne ?_ (by first | omega | (simp only [hset, hnew]; omega) | rfl | decide) | refine At.new_ne ?_)))) (call := s_allSeats (d := 4) (by decide) hb (show i < 6 by omega) c.2.2.2.2.1) (k := ?_)
      rintro v h1 ⟨rfl, cu1, sm1⟩
      have cl1 := c.now cu1 sm1 (by omega) (by omega)
      have c3 := cl1.poll
      obtain ⟨jf1, lj1, fo1, le1, w0, -⟩ := id cu1
      have sm2 := sm.trans (sm1.sub (lo2 := 66) (hi2 := 111) (by omega) (by omega))
      refine tX10_leading_38  (r := ?_)
      refine tX10_leading_39  (kt := fun c_39 => ?_) (kf := fun c_39 => ?_)
      · obtain ⟨b, e1, e2⟩ := (ld_le (T := (sT s.2.2.1 s.2.2.2)) (sT_le hb)).mp c_39
        have e : (ldN (sT s.2.2.1 s.2.2.2) (rt (dF s.2.2.2)) (i + 1)) = (ldN (sT s.2.2.1 s.2.2.2) (rt (dF s.2.2.2)) i) := ld_no2 e1 e2
        refine tX10_leading_53  (r := ?_)
        rw [nI_add]
        refine tX10_leading_56 (r := ?_)
        have key := ih (i + 1) _ (by omega) (by omega) cl1 sm2
        rw [e] at key
        exact key
      · have e : (ldN (sT s.2.2.1 s.2.2.2) (rt (dF s.2.2.2)) (i + 1)) = some i := ld_yes eq_ (fun b z => Nat.lt_of_not_le (fun z2 => c_39 ((ld_le (T := (sT s.2.2.1 s.2.2.2)) (sT_le hb)).mpr ⟨b, z, z2⟩)))
        refine tX10_leading_42  (r := ?_)
        refine tX10_leading_43  (r := ?_)
        refine tX10_leading_44  (r := ?_)
        refine tX10_leading_45 (ha := (by first | assumption | (repeat (first | assumption | exact At.set_eq2 (by first | omega | (simp only [hset, hnew]; omega) | rfl | decide) | exact At.new_eq2 _ _ (by first | omega | (simp only [hset, hnew]; omega) | rfl | decide) | refine At.set_ne ?_ (by first | omega | (simp only [hset, hnew]; omega) | rfl | decide) | refine At.new_ne ?_)))) (hv := rfl) (r := ?_)
        refine tX10_leading_48  (r := ?_)
        refine tX10_leading_49 (hd := (by omega)) (ha := (by first | assumption | (repeat (first | assumption | exact At.set_eq2 (by first | omega | (simp only [hset, hnew]; omega) | rfl | decide) | exact At.new_eq2 _ _ (by first | omega | (simp only [hset, hnew]; omega) | rfl | decide) | refine At.set_ne ?_ (by first | omega | (simp only [hset, hnew]; omega) | rfl | decide) | refine At.new_ne ?_)))) (call := s_allSeats (d := 4) (by decide) hb (show i < 6 by omega) cu1) (k := ?_)
        rintro v2 h2 ⟨rfl, cu3, sm3⟩
        have cl3 := cl1.now cu3 sm3 (by omega) (by omega)
        have sm4 := sm2.trans (sm3.sub (lo2 := 66) (hi2 := 111) (by omega) (by omega))
        refine tX10_leading_52  (r := ?_)
        refine tX10_leading_53  (r := ?_)
        rw [nI_add]
        refine tX10_leading_56 (r := ?_)
        have key := ih (i + 1) _ (by omega) (by omega) cl3 sm4
        rw [e] at key
        exact key

set_option maxHeartbeats 4000000 in
set_option maxRecDepth 100000 in
theorem k_leading (hd : 5 ≤ d) (c : ClR h0 0 bk dr s) (hb : BDok s.2.2.1 s.2.2.2) : RQ G mX10_leading d 0 [some (.ref 0), none, none, none] [] h0 (fun o h1 => o = .inl (some (Value.int (oI (ldN (sT s.2.2.1 s.2.2.2) (rt (dF s.2.2.2)) (bLa s.2.2.1))))) ∧ ClR h1 0 bk dr s ∧ Ch h0 h1 0 216 0 0) := by
  refine tX10_leading_0  (r := ?_)
  refine tX10_leading_1  (r := ?_)
  refine tX10_leading_2  (r := ?_)
  refine tX10_leading_3  (r := ?_)
  refine tX10_leading_4  (r := ?_)
  refine tX10_leading_5  (r := ?_)
  exact k_leading_l hd hb (bLa s.2.2.1) 0 h0 (by omega) (by omega) c (Sm.rf _ _ _)

end LEA
