/-! leading -/
def ltO (T : Nat → Nat) (f : Option Nat) (n : Nat) : Bool := match f with
  | none => true
  | some b => decide (T b < T n)
/-- who leads among the first n -/
def ldN (T r : Nat → Nat) : Nat → Option Nat
  | 0 => none
  | n + 1 => if r n = n ∧ ltO T (ldN T r n) n = true then some n else ldN T r n
theorem ld_no1 {T r : Nat → Nat} {n : Nat} (e : ¬ r n = n) : ldN T r (n + 1) = ldN T r n := if_neg (fun z => e z.1)
theorem ld_no2 {T r : Nat → Nat} {n b : Nat} (e : ldN T r n = some b) (e2 : T n ≤ T b) : ldN T r (n + 1) = ldN T r n := if_neg (fun z => by
  have h := z.2
  rw [e] at h
  exact absurd (of_decide_eq_true h) (Nat.not_lt.mpr e2))
theorem ld_yes {T r : Nat → Nat} {n : Nat} (e : r n = n) (h : ∀ b, ldN T r n = some b → T b < T n) : ldN T r (n + 1) = some n := if_pos ⟨e, by
  cases q : ldN T r n with
  | none => rfl
  | some b => exact decide_eq_true (h b q)⟩
theorem ld_lt {T r : Nat → Nat} : ∀ n b, ldN T r n = some b → b < n
  | 0, _, h => nomatch h
  | n + 1, b, h => by
    by_cases c : r n = n ∧ ltO T (ldN T r n) n = true
    · have e : ldN T r (n + 1) = some n := if_pos c
      rw [e] at h
      cases h
      exact Nat.lt_succ_self _
    · have e : ldN T r (n + 1) = ldN T r n := if_neg c
      rw [e] at h
      exact Nat.lt_succ_of_lt (ld_lt n b h)
theorem ld_le {T : Nat → Nat} (hT : ∀ k, T k ≤ 9672) {f : Option Nat} {n : Nat} : (nI (T n) ≤ oI (f.map T)) ↔ ∃ b, f = some b ∧ T n ≤ T b := by
  have h1 := hT n
  cases f with
  | none =>
    refine ⟨fun c_ => ?_, fun z => ?_⟩
    · have c_ : nI (T n) ≤ -1 := c_
      exfalso
      (simp (disch := first | omega | decide) only [ci_lt, ci_le, ci_eq, ci_lt0, ci_ge0, ci_gt0, ci_le0, ci_eq0, ci_m1_lt, ci_m1_le, ci_lt_m1, ci_le_m1, ci_eq_m1, ci_m1_eq, not_true, not_false_iff, Nat.not_lt, Nat.not_le] at c_ <;> omega)
    · obtain ⟨b, z1, -⟩ := z
      exact nomatch z1
  | some b =>
    have h2 := hT b
    refine ⟨fun c_ => ⟨b, rfl, (nI_leI (by omega) (by omega)).mp c_⟩, fun z => ?_⟩
    obtain ⟨b2, z1, z2⟩ := z
    cases z1
    exact (nI_leI (by omega) (by omega)).mpr z2
def mT (T : Nat → Nat) (f : Option Nat) : Nat := match f with
  | none => 0
  | some b => T b
def sT (B : BK) (D : DY) (k : Nat) : Nat := su (sw B D k) 8
theorem sT_le {B : BK} {D : DY} (hb : BDok B D) (k : Nat) : sT B D k ≤ 9672 := sw_le hb k
section LEA
variable {G : GT} {d : Nat} {s : ST} {h0 h : AH} {bk dr : Nat}

set_option maxHeartbeats 4000000 in
set_option maxRecDepth 100000 in
theorem k_leading_l (hd : 5 ≤ d) (hb : BDok s.2.2.1 s.2.2.2) : ∀ (n i : Nat) (h : AH), bLa s.2.2.1 ≤ i + n → i ≤ bLa s.2.2.1 → ClR h 0 bk dr s → Sm h0 h 66 111 → RQ G mX10_leading d 6 [some (.ref 0), some (.int (oI (ldN (sT s.2.2.1 s.2.2.2) (rt (dF s.2.2.2)) i))), some (.int (oI ((ldN (sT s.2.2.1 s.2.2.2) (rt (dF s.2.2.2)) i).map (sT s.2.2.1 s.2.2.2)))), some (.int (nI i))] [] h (fun o h1 => o = .inl (some (Value.int (oI (ldN (sT s.2.2.1 s.2.2.2) (rt (dF s.2.2.2)) (bLa s.2.2.1))))) ∧ ClR h1 0 bk dr s ∧ Ch h0 h1 0 216 0 0) := by
  have ex : ∀ (i : Nat) (h : AH), i = bLa s.2.2.1 → ClR h 0 bk dr s → Sm h0 h 66 111 → RQ G mX10_leading d 6 [some (.ref 0), some (.int (oI (ldN (sT s.2.2.1 s.2.2.2) (rt (dF s.2.2.2)) i))), some (.int (oI ((ldN (sT s.2.2.1 s.2.2.2) (rt (dF s.2.2.2)) i).map (sT s.2.2.1 s.2.2.2)))), some (.int (nI i))] [] h (fun o h1 => o = .inl (some (Value.int (oI (ldN (sT s.2.2.1 s.2.2.2) (rt (dF s.2.2.2)) (bLa s.2.2.1))))) ∧ ClR h1 0 bk dr s ∧ Ch h0 h1 0 216 0 0) := by
    intro i h hi c sm
    subst hi
    have c1 := c.poll
    have cb := c.book
    obtain ⟨jf, lj, fo, le, u0, u1, u2, u3, u4, u5, u6, u7, u8, u9⟩ := id c.2.2.2.2.1
    have l1 := hb.1
    have l2 := hb.2.1
    have l3 := hb.2.2.1
    skip
    refine tX10_leading_6  (r := ?_)
    refine tX10_leading_7  (r := ?_)
    refine tX10_leading_8 (ha := (by first | assumption | (repeat (first | assumption | exact At.set_eq2 (by first | omega | (simp only [hset, hnew]; omega) | rfl | decide) | exact At.new_eq2 _ _ (by first | omega | (simp only [hset, hnew]; omega) | rfl | decide) | refine At.set_ne ?_ (by first | omega | (simp only [hset, hnew]; omega) | rfl | decide) | refine At.new_ne ?_)))) (hv := rfl) (r := ?_)
    refine tX10_leading_11 (ha := (by first | assumption | (repeat (first | assumption | exact At.set_eq2 (by first | omega | (simp only [hset, hnew]; omega) | rfl | decide) | exact At.new_eq2 _ _ (by first | omega | (simp only [hset, hnew]; omega) | rfl | decide) | refine At.set_ne ?_ (by first | omega | (simp only [hset, hnew]; omega) | rfl | decide) | refine At.new_ne ?_)))) (hv := rfl) (r := ?_)
    refine tX10_leading_14  (kf := fun c_ => by exfalso; (simp (disch := first | omega | decide) only [ci_lt, ci_le, ci_eq, ci_lt0, ci_ge0, ci_gt0, ci_le0, ci_eq0, ci_m1_lt, ci_m1_le, ci_lt_m1, ci_le_m1, ci_eq_m1, ci_m1_eq, not_true, not_false_iff, Nat.not_lt, Nat.not_le] at c_ <;> omega)) (kt := fun _ => ?_)
    refine tX10_leading_59  (r := ?_)
    refine tX10_leading_60  (hP := ?_)
    exact ⟨rfl, c, sm.ch (by omega) (by omega)⟩
  intro n
  induction n with
  | zero => exact fun i h h1_ h2_ => ex i h (by omega)
  | succ n ih =>
    intro i h h1_ h2_ c sm
    by_cases hi : i = bLa s.2.2.1
    · exact ex i h hi c sm
    have hi2 : i < bLa s.2.2.1 := by omega
    have c1 := c.poll
    have cb := c.book
    obtain ⟨jf, lj, fo, le, u0, u1, u2, u3, u4, u5, u6, u7, u8, u9⟩ := id c.2.2.2.2.1
    have l1 := hb.1
    have l2 := hb.2.1
    have l3 := hb.2.2.1
    have r6 := rt_lt6 hb i (by omega)
    refine tX10_leading_6  (r := ?_)
    refine tX10_leading_7  (r := ?_)
    refine tX10_leading_8 (ha := (by first | assumption | (repeat (first | assumption | exact At.set_eq2 (by first | omega | (simp only [hset, hnew]; omega) | rfl | decide) | exact At.new_eq2 _ _ (by first | omega | (simp only [hset, hnew]; omega) | rfl | decide) | refine At.set_ne ?_ (by first | omega | (simp only [hset, hnew]; omega) | rfl | decide) | refine At.new_ne ?_)))) (hv := rfl) (r := ?_)
    refine tX10_leading_11 (ha := (by first | assumption | (repeat (first | assumption | exact At.set_eq2 (by first | omega | (simp only [hset, hnew]; omega) | rfl | decide) | exact At.new_eq2 _ _ (by first | omega | (simp only [hset, hnew]; omega) | rfl | decide) | refine At.set_ne ?_ (by first | omega | (simp only [hset, hnew]; omega) | rfl | decide) | refine At.new_ne ?_)))) (hv := rfl) (r := ?_)
    refine tX10_leading_14  (kt := fun c_ => by exfalso; (simp (disch := first | omega | decide) only [ci_lt, ci_le, ci_eq, ci_lt0, ci_ge0, ci_gt0, ci_le0, ci_eq0, ci_m1_lt, ci_m1_le, ci_lt_m1, ci_le_m1, ci_eq_m1, ci_m1_eq, not_true, not_false_iff, Nat.not_lt, Nat.not_le] at c_ <;> omega)) (kf := fun _ => ?_)
    refine tX10_leading_17  (r := ?_)
    refine tX10_leading_18 (ha := (by first | assumption | (repeat (first | assumption | exact At.set_eq2 (by first | omega | (simp only [hset, hnew]; omega) | rfl | decide) | exact At.new_eq2 _ _ (by first | omega | (simp only [hset, hnew]; omega) | rfl | decide) | refine At.set_ne ?_ (by first | omega | (simp only [hset, hnew]; omega) | rfl | decide) | refine At.new_ne ?_)))) (hv := rfl) (r := ?_)
    refine tX10_leading_21 (ha := (by first | assumption | (repeat (first | assumption | exact At.set_eq2 (by first | omega | (simp only [hset, hnew]; omega) | rfl | decide) | exact At.new_eq2 _ _ (by first | omega | (simp only [hset, hnew]; omega) | rfl | decide) | refine At.set_ne ?_ (by first | omega | (simp only [hset, hnew]; omega) | rfl | decide) | refine At.new_ne ?_)))) (hv := rfl) (r := ?_)
    refine tX10_leading_24  (r := ?_)
    refine tX10_leading_25 (ha := (by first | assumption | (repeat (first | assumption | exact At.set_eq2 (by first | omega | (simp only [hset, hnew]; omega) | rfl | decide) | exact At.new_eq2 _ _ (by first | omega | (simp only [hset, hnew]; omega) | rfl | decide) | refine At.set_ne ?_ (by first | omega | (simp only [hset, hnew]; omega) | rfl | decide) | refine At.new_ne ?_)))) (hx := rfl) (hj := (by omega)) (hn := (by decide)) (r := ?_)
    rw [u8 _ (by omega)]
    refine tX10_leading_26  (r := ?_)
    refine tX10_leading_27  (kt := fun c_27 => ?_) (kf := fun c_27 => ?_)
    · have ne_ : ¬ rt (dF s.2.2.2) i = i := fun q => c_27 (by rw [q])
      have e : (ldN (sT s.2.2.1 s.2.2.2) (rt (dF s.2.2.2)) (i + 1)) = (ldN (sT s.2.2.1 s.2.2.2) (rt (dF s.2.2.2)) i) := ld_no1 ne_
      refine tX10_leading_53  (r := ?_)
      rw [nI_add]
      refine tX10_leading_56 (r := ?_)
      have key := ih (i + 1) _ (by omega) (by omega) c sm
      rw [e] at key
      exact key
    · have eq_ : rt (dF s.2.2.2) i = i := (nI_eq (by omega) (by omega)).mp c_27
      refine tX10_leading_30  (r := ?_)
      refine tX10_leading_31 (ha := (by first | assumption | (repeat (first | assumption | exact At.set_eq2 (by first | omega | (simp only [hset, hnew]; omega) | rfl | decide) | exact At.new_eq2 _ _ (by first | omega | (simp only [hset, hnew]; omega) | rfl | decide) | refine At.set_ne ?_ (by first | omega | (simp only [hset, hnew]; omega) | rfl | decide) | refine At.new_ne ?_)))) (hv := rfl) (r := ?_)
      refine tX10_leading_34  (r := ?_)
      refine tX10_leading_35 (hd := (by omega)) (ha := (by first | assumption | (repeat (first | assumption | exact At.set_eq2 (by first | omega | (simp only [hset, hnew]; omega) | rfl | decide) | exact At.new_eq2 _ _ (by first | omega | (simp only [hset, hnew]; omega) | rfl | decide) | refine At.set_ne ?_ (by first | omega | (simp only [hset, hnew]; omega) | rfl | decide) | refine At.new_ne ?_)))) (call := s_allSeats (d := 4) (by decide) hb (show i < 6 by omega) c.2.2.2.2.1) (k := ?_)
      rintro v h1 ⟨rfl, cu1, sm1⟩
      have cl1 := c.now cu1 sm1 (by omega) (by omega)
      have c3 := cl1.poll
      obtain ⟨jf1, lj1, fo1, le1, w0, -⟩ := id cu1
      have sm2 := sm.trans (sm1.sub (lo2 := 66) (hi2 := 111) (by omega) (by omega))
      refine tX10_leading_38  (r := ?_)
      refine tX10_leading_39  (kt := fun c_39 => ?_) (kf := fun c_39 => ?_)
      · obtain ⟨b, e1, e2⟩ := (ld_le (T := (sT s.2.2.1 s.2.2.2)) (sT_le hb)).mp c_39
        have e : (ldN (sT s.2.2.1 s.2.2.2) (rt (dF s.2.2.2)) (i + 1)) = (ldN (sT s.2.2.1 s.2.2.2) (rt (dF s.2.2.2)) i) := ld_no2 e1 e2
        refine tX10_leading_53  (r := ?_)
        rw [nI_add]
        refine tX10_leading_56 (r := ?_)
        have key := ih (i + 1) _ (by omega) (by omega) cl1 sm2
        rw [e] at key
        exact key
      · have e : (ldN (sT s.2.2.1 s.2.2.2) (rt (dF s.2.2.2)) (i + 1)) = some i := ld_yes eq_ (fun b z => Nat.lt_of_not_le (fun z2 => c_39 ((ld_le (T := (sT s.2.2.1 s.2.2.2)) (sT_le hb)).mpr ⟨b, z, z2⟩)))
        refine tX10_leading_42  (r := ?_)
        refine tX10_leading_43  (r := ?_)
        refine tX10_leading_44  (r := ?_)
        refine tX10_leading_45 (ha := (by first | assumption | (repeat (first | assumption | exact At.set_eq2 (by first | omega | (simp only [hset, hnew]; omega) | rfl | decide) | exact At.new_eq2 _ _ (by first | omega | (simp only [hset, hnew]; omega) | rfl | decide) | refine At.set_ne ?_ (by first | omega | (simp only [hset, hnew]; omega) | rfl | decide) | refine At.new_ne ?_)))) (hv := rfl) (r := ?_)
        refine tX10_leading_48  (r := ?_)
        refine tX10_leading_49 (hd := (by omega)) (ha := (by first | assumption | (repeat (first | assumption | exact At.set_eq2 (by first | omega | (simp only [hset, hnew]; omega) | rfl | decide) | exact At.new_eq2 _ _ (by first | omega | (simp only [hset, hnew]; omega) | rfl | decide) | refine At.set_ne ?_ (by first | omega | (simp only [hset, hnew]; omega) | rfl | decide) | refine At.new_ne ?_)))) (call := s_allSeats (d := 4) (by decide) hb (show i < 6 by omega) cu1) (k := ?_)
        rintro v2 h2 ⟨rfl, cu3, sm3⟩
        have cl3 := cl1.now cu3 sm3 (by omega) (by omega)
        have sm4 := sm2.trans (sm3.sub (lo2 := 66) (hi2 := 111) (by omega) (by omega))
        refine tX10_leading_52  (r := ?_)
        refine tX10_leading_53  (r := ?_)
        rw [nI_add]
        refine tX10_leading_56 (r := ?_)
        have key := ih (i + 1) _ (by omega) (by omega) cl3 sm4
        rw [e] at key
        exact key

set_option maxHeartbeats 4000000 in
set_option maxRecDepth 100000 in
theorem k_leading (hd : 5 ≤ d) (c : ClR h0 0 bk dr s) (hb : BDok s.2.2.1 s.2.2.2) : RQ G mX10_leading d 0 [some (.ref 0), none, none, none] [] h0 (fun o h1 => o = .inl (some (Value.int (oI (ldN (sT s.2.2.1 s.2.2.2) (rt (dF s.2.2.2)) (bLa s.2.2.1))))) ∧ ClR h1 0 bk dr s ∧ Ch h0 h1 0 216 0 0) := by
  refine tX10_leading_0  (r := ?_)
  refine tX10_leading_1  (r := ?_)
  refine tX10_leading_2  (r := ?_)
  refine tX10_leading_3  (r := ?_)
  refine tX10_leading_4  (r := ?_)
  refine tX10_leading_5  (r := ?_)
  exact k_leading_l hd hb (bLa s.2.2.1) 0 h0 (by omega) (by omega) c (Sm.rf _ _ _)

set_option maxHeartbeats 4000000 in
set_option maxRecDepth 100000 in
theorem s_leading_l (hd : 6 ≤ d) {th : Int32} (hb : BDok s.2.2.1 s.2.2.2) : ∀ (n i : Nat) (h : AH) (x4 : Option Value), bLa s.2.2.1 ≤ i + n → i ≤ bLa s.2.2.1 → MoT h 216 th s → Sm h0 h (216 + 50) (216 + 52) → RQ G mX12_leadingNow d 6 [some (.ref 216), some (.int (oI (ldN (sT s.2.2.1 s.2.2.2) (rt (dF s.2.2.2)) i))), some (.int (nI (mT (sT s.2.2.1 s.2.2.2) (ldN (sT s.2.2.1 s.2.2.2) (rt (dF s.2.2.2)) i)))), some (.int (nI i)), x4] [] h (Ri fun v h1 => v = (oI (ldN (sT s.2.2.1 s.2.2.2) (rt (dF s.2.2.2)) (bLa s.2.2.1))) ∧ MoT h1 216 th s ∧ Sm h0 h1 (216 + 50) (216 + 52)) := by
  have ex : ∀ (i : Nat) (h : AH) (x4 : Option Value), i = bLa s.2.2.1 → MoT h 216 th s → Sm h0 h (216 + 50) (216 + 52) → RQ G mX12_leadingNow d 6 [some (.ref 216), some (.int (oI (ldN (sT s.2.2.1 s.2.2.2) (rt (dF s.2.2.2)) i))), some (.int (nI (mT (sT s.2.2.1 s.2.2.2) (ldN (sT s.2.2.1 s.2.2.2) (rt (dF s.2.2.2)) i)))), some (.int (nI i)), x4] [] h (Ri fun v h1 => v = (oI (ldN (sT s.2.2.1 s.2.2.2) (rt (dF s.2.2.2)) (bLa s.2.2.1))) ∧ MoT h1 216 th s ∧ Sm h0 h1 (216 + 50) (216 + 52)) := by
    intro i h x4 hi c2 sm
    subst hi
    obtain ⟨⟨tk, iw, er, et, dp, nm, am⟩, ⟨-, -, -, -, -, -, -, -, -, ⟨ru, ac, no, a9, -⟩, -⟩, -⟩ := id c2
    have l1 := hb.1
    have l2 := hb.2.1
    have l3 := hb.2.2.1
    refine tX12_leadingNow_6  (r := ?_)
    refine tX12_leadingNow_7  (r := ?_)
    refine tX12_leadingNow_8 (ha := (by first | assumption | (repeat (first | assumption | exact At.set_eq2 (by first | omega | (simp only [hset, hnew]; omega) | rfl | decide) | exact At.new_eq2 _ _ (by first | omega | (simp only [hset, hnew]; omega) | rfl | decide) | refine At.set_ne ?_ (by first | omega | (simp only [hset, hnew]; omega) | rfl | decide) | refine At.new_ne ?_)))) (hv := rfl) (r := ?_)
    refine tX12_leadingNow_11 (ha := (by first | assumption | (repeat (first | assumption | exact At.set_eq2 (by first | omega | (simp only [hset, hnew]; omega) | rfl | decide) | exact At.new_eq2 _ _ (by first | omega | (simp only [hset, hnew]; omega) | rfl | decide) | refine At.set_ne ?_ (by first | omega | (simp only [hset, hnew]; omega) | rfl | decide) | refine At.new_ne ?_)))) (hv := rfl) (r := ?_)
    refine tX12_leadingNow_14  (kf := fun c_ => by exfalso; (simp (disch := first | omega | decide) only [ci_lt, ci_le, ci_eq, ci_lt0, ci_ge0, ci_gt0, ci_le0, ci_eq0, ci_m1_lt, ci_m1_le, ci_lt_m1, ci_le_m1, ci_eq_m1, ci_m1_eq, not_true, not_false_iff, Nat.not_lt, Nat.not_le] at c_ <;> omega)) (kt := fun _ => ?_)
    refine tX12_leadingNow_61  (r := ?_)
    refine tX12_leadingNow_62  (hP := ?_)
    exact ⟨_, rfl, rfl, c2, sm⟩
  intro n
  induction n with
  | zero => exact fun i h x4 h1_ h2_ => ex i h x4 (by omega)
  | succ n ih =>
    intro i h x4 h1_ h2_ c2 sm
    by_cases hi : i = bLa s.2.2.1
    · exact ex i h x4 hi c2 sm
    have hi2 : i < bLa s.2.2.1 := by omega
    obtain ⟨⟨tk, iw, er, et, dp, nm, am⟩, ⟨-, -, -, -, -, -, -, -, -, ⟨ru, ac, no, a9, -⟩, -⟩, -⟩ := id c2
    have l1 := hb.1
    have l2 := hb.2.1
    have l3 := hb.2.2.1
    refine tX12_leadingNow_6  (r := ?_)
    refine tX12_leadingNow_7  (r := ?_)
    refine tX12_leadingNow_8 (ha := (by first | assumption | (repeat (first | assumption | exact At.set_eq2 (by first | omega | (simp only [hset, hnew]; omega) | rfl | decide) | exact At.new_eq2 _ _ (by first | omega | (simp only [hset, hnew]; omega) | rfl | decide) | refine At.set_ne ?_ (by first | omega | (simp only [hset, hnew]; omega) | rfl | decide) | refine At.new_ne ?_)))) (hv := rfl) (r := ?_)
    refine tX12_leadingNow_11 (ha := (by first | assumption | (repeat (first | assumption | exact At.set_eq2 (by first | omega | (simp only [hset, hnew]; omega) | rfl | decide) | exact At.new_eq2 _ _ (by first | omega | (simp only [hset, hnew]; omega) | rfl | decide) | refine At.set_ne ?_ (by first | omega | (simp only [hset, hnew]; omega) | rfl | decide) | refine At.new_ne ?_)))) (hv := rfl) (r := ?_)
    refine tX12_leadingNow_14  (kt := fun c_ => by exfalso; (simp (disch := first | omega | decide) only [ci_lt, ci_le, ci_eq, ci_lt0, ci_ge0, ci_gt0, ci_le0, ci_eq0, ci_m1_lt, ci_m1_le, ci_lt_m1, ci_le_m1, ci_eq_m1, ci_m1_eq, not_true, not_false_iff, Nat.not_lt, Nat.not_le] at c_ <;> omega)) (kf := fun _ => ?_)
    refine tX12_leadingNow_17  (r := ?_)
    refine tX12_leadingNow_18  (r := ?_)
    refine tX12_leadingNow_19 (hd := (by omega)) (ha := (by first | assumption | (repeat (first | assumption | exact At.set_eq2 (by first | omega | (simp only [hset, hnew]; omega) | rfl | decide) | exact At.new_eq2 _ _ (by first | omega | (simp only [hset, hnew]; omega) | rfl | decide) | refine At.set_ne ?_ (by first | omega | (simp only [hset, hnew]; omega) | rfl | decide) | refine At.new_ne ?_)))) (call := s_leader (d := 5) c2 hb hi2) (k := ?_)
    rintro v h_ ⟨rfl, e9⟩
    rw [e9]
    have r6 := rt_lt6 hb i (by omega)
    refine tX12_leadingNow_22  (r := ?_)
    refine tX12_leadingNow_23  (kt := fun c_23 => ?_) (kf := fun c_23 => ?_)
    · have eq_ : rt (dF s.2.2.2) i = i := (nI_eq (by omega) (by omega)).mp c_23
      refine tX12_leadingNow_29  (r := ?_)
      refine tX12_leadingNow_30  (r := ?_)
      refine tX12_leadingNow_31 (hd := (by omega)) (ha := (by first | assumption | (repeat (first | assumption | exact At.set_eq2 (by first | omega | (simp only [hset, hnew]; omega) | rfl | decide) | exact At.new_eq2 _ _ (by first | omega | (simp only [hset, hnew]; omega) | rfl | decide) | refine At.set_ne ?_ (by first | omega | (simp only [hset, hnew]; omega) | rfl | decide) | refine At.new_ne ?_)))) (call := s_refinall (d := 5) (by decide) c2 hb hi2) (k := ?_)
      rintro v2 h1 ⟨rfl, c3, sm1⟩
      rw [show su (sw s.2.2.1 s.2.2.2 i) 8 = sT s.2.2.1 s.2.2.2 i from rfl]
      have t1_ := sT_le hb i
      refine tX12_leadingNow_34  (r := ?_)
      refine tX12_leadingNow_36  (r := ?_)
      refine tX12_leadingNow_37  (r := ?_)
      refine tX12_leadingNow_38  (kt := fun c_38 => ?_) (kf := fun c_38 => ?_)
      · have e : (ldN (sT s.2.2.1 s.2.2.2) (rt (dF s.2.2.2)) (i + 1)) = some i := ld_yes eq_ (fun b z => by
          have b6 := ld_lt _ _ z
          rw [z] at c_38
          have c9 : nI b = -1 := c_38
          rw [ci_eq_m1 (by omega)] at c9
          exact c9.elim)
        refine tX12_leadingNow_50  (r := ?_)
        refine tX12_leadingNow_51  (r := ?_)
        refine tX12_leadingNow_52  (r := ?_)
        refine tX12_leadingNow_54  (r := ?_)
        refine tX12_leadingNow_55  (r := ?_)
        rw [nI_add]
        refine tX12_leadingNow_58 (r := ?_)
        have key := fun x_ => ih (i + 1) _ x_ (by omega) (by omega) c3 (sm.trans sm1)
        rw [e] at key
        exact key _
      · obtain ⟨b, e1⟩ : ∃ b, (ldN (sT s.2.2.1 s.2.2.2) (rt (dF s.2.2.2)) i) = some b := by
          cases z : (ldN (sT s.2.2.1 s.2.2.2) (rt (dF s.2.2.2)) i) with
          | none =>
            rw [z] at c_38
            exact absurd rfl c_38
          | some b => exact ⟨b, rfl⟩
        have t2_ := sT_le hb b
        have mT_ : mT (sT s.2.2.1 s.2.2.2) (ldN (sT s.2.2.1 s.2.2.2) (rt (dF s.2.2.2)) i) = sT s.2.2.1 s.2.2.2 b := by rw [e1]; rfl
        refine tX12_leadingNow_41  (r := ?_)
        refine tX12_leadingNow_43  (r := ?_)
        refine tX12_leadingNow_44  (kt := fun c_44 => ?_) (kf := fun c_44 => ?_)
        · rw [mT_] at c_44
          have e : (ldN (sT s.2.2.1 s.2.2.2) (rt (dF s.2.2.2)) (i + 1)) = some i := ld_yes eq_ (fun b2 z => by
            rw [e1] at z
            cases z
            exact (nI_ltI (by omega) (by omega)).mp c_44)
          refine tX12_leadingNow_50  (r := ?_)
          refine tX12_leadingNow_51  (r := ?_)
          refine tX12_leadingNow_52  (r := ?_)
          refine tX12_leadingNow_54  (r := ?_)
          refine tX12_leadingNow_55  (r := ?_)
          rw [nI_add]
          refine tX12_leadingNow_58 (r := ?_)
          have key := fun x_ => ih (i + 1) _ x_ (by omega) (by omega) c3 (sm.trans sm1)
          rw [e] at key
          exact key _
        · have e : (ldN (sT s.2.2.1 s.2.2.2) (rt (dF s.2.2.2)) (i + 1)) = (ldN (sT s.2.2.1 s.2.2.2) (rt (dF s.2.2.2)) i) := by
            rw [mT_] at c_44
            exact ld_no2 e1 (Nat.le_of_not_lt (fun z => c_44 ((nI_ltI (by omega) (by omega)).mpr z)))
          refine tX12_leadingNow_47 (r := ?_)
          refine tX12_leadingNow_55  (r := ?_)
          rw [nI_add]
          refine tX12_leadingNow_58 (r := ?_)
          have key := fun x_ => ih (i + 1) _ x_ (by omega) (by omega) c3 (sm.trans sm1)
          rw [e] at key
          exact key _
    · have ne_ : ¬ rt (dF s.2.2.2) i = i := fun q => c_23 (by rw [q])
      have e : (ldN (sT s.2.2.1 s.2.2.2) (rt (dF s.2.2.2)) (i + 1)) = (ldN (sT s.2.2.1 s.2.2.2) (rt (dF s.2.2.2)) i) := ld_no1 ne_
      refine tX12_leadingNow_26 (r := ?_)
      refine tX12_leadingNow_55  (r := ?_)
      rw [nI_add]
      refine tX12_leadingNow_58 (r := ?_)
      have key := fun x_ => ih (i + 1) _ x_ (by omega) (by omega) c2 (sm)
      rw [e] at key
      exact key _

set_option maxHeartbeats 4000000 in
set_option maxRecDepth 100000 in
theorem s_leading (hd : 6 ≤ d) {th : Int32} (c2 : MoT h0 216 th s) (hb : BDok s.2.2.1 s.2.2.2) : RQ G mX12_leadingNow d 0 [some (.ref 216), none, none, none, none] [] h0 (Ri fun v h1 => v = (oI (ldN (sT s.2.2.1 s.2.2.2) (rt (dF s.2.2.2)) (bLa s.2.2.1))) ∧ MoT h1 216 th s ∧ Sm h0 h1 (216 + 50) (216 + 52)) := by
  refine tX12_leadingNow_0  (r := ?_)
  refine tX12_leadingNow_1  (r := ?_)
  refine tX12_leadingNow_2  (r := ?_)
  refine tX12_leadingNow_3  (r := ?_)
  refine tX12_leadingNow_4  (r := ?_)
  refine tX12_leadingNow_5  (r := ?_)
  exact s_leading_l hd hb (bLa s.2.2.1) 0 h0 none (by omega) (by omega) c2 (Sm.rf _ _ _)

set_option maxHeartbeats 4000000 in
set_option maxRecDepth 100000 in
theorem m_leading (hd : 7 ≤ d) (m1 : MoR h0 216 s) (t1 : ToR h0 216 s.2.2.1) (hb : BDok s.2.2.1 s.2.2.2) : RQ G mX12_leading d 0 [some (.ref 216)] [] h0 (fun o h2 => o = .inl (some (Value.int (oI (ldN (sT s.2.2.1 s.2.2.2) (rt (dF s.2.2.2)) (bLa s.2.2.1))))) ∧ MoR h2 216 s ∧ ToR h2 216 s.2.2.1 ∧ Ch h0 h2 216 269 16 100) := by
  obtain ⟨th, c2⟩ := MoT.ofR m1 t1
  obtain ⟨⟨tk, iw, er, et, dp, nm, am⟩, -⟩ := id c2
  refine tX12_leading_0  (r := ?_)
  refine tX12_leading_1  (r := ?_)
  refine tX12_leading_2 (hd := (by omega)) (ha := (by first | assumption | (repeat (first | assumption | exact At.set_eq2 (by first | omega | (simp only [hset, hnew]; omega) | rfl | decide) | exact At.new_eq2 _ _ (by first | omega | (simp only [hset, hnew]; omega) | rfl | decide) | refine At.set_ne ?_ (by first | omega | (simp only [hset, hnew]; omega) | rfl | decide) | refine At.new_ne ?_)))) (call := s_leading (d := 6) (by decide) c2 hb) (k := ?_)
  rintro v h1 ⟨rfl, c3, sm⟩
  obtain ⟨⟨tk3, iw3, er3, et3, dp3, nm3, am3⟩, -⟩ := id c3
  refine tX12_leading_5 (hd := (by omega)) (ha := (by first | assumption | (repeat (first | assumption | exact At.set_eq2 (by first | omega | (simp only [hset, hnew]; omega) | rfl | decide) | exact At.new_eq2 _ _ (by first | omega | (simp only [hset, hnew]; omega) | rfl | decide) | refine At.set_ne ?_ (by first | omega | (simp only [hset, hnew]; omega) | rfl | decide) | refine At.new_ne ?_)))) (call := s_ok (d := 0) c3) (k := ?_)
  rintro v h3 ⟨rfl, c4, ch3⟩
  refine tX12_leading_8  (hP := ?_)
  exact ⟨rfl, c4.2.1, c4.2.2, ((sm.ch (lo2 := 216) (hi2 := 269) (ck := 0) (sk := 0) (by omega) (by omega)).trans ch3).sub (Nat.le_refl _) (Nat.le_refl _) (by decide) (by decide)⟩

theorem D_leading (j : Jd h s bk dr) : OpD Value.int G mX10_leading mX12_leading 2047 [some (.ref 0), none, none, none] [some (.ref 216)] h s := ⟨_, s, bk, dr, j.1, k_leading (by decide) j.2.1 j.1, fun h1 m1 t1 => m_leading (by decide) m1 t1 j.1⟩
end LEA
