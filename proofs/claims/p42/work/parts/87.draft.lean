/-! names, rules, beans in the class's draft -/
theorem nL_eq {a b : Nat} (ha : a < 1099511627776) (hb : b < 1099511627776) : (nL a = nL b) ↔ a = b := by
  refine ⟨fun e => ?_, fun e => e ▸ rfl⟩
  have e2 := congrArg Int64.toInt e
  rw [Int64.toInt_ofNat_of_lt (by omega), Int64.toInt_ofNat_of_lt (by omega)] at e2
  exact Int.ofNat.inj e2
theorem fnN_none {f : Nat → Nat} {v : Nat} : ∀ {n : Nat}, fnN f v n = none ↔ ∀ k, k < n → f k ≠ v
  | 0 => ⟨fun _ k hk => absurd hk (Nat.not_lt_zero k), fun _ => rfl⟩
  | n + 1 => by
    have ih := fnN_none (f := f) (v := v) (n := n)
    unfold fnN
    cases e : fnN f v n with
    | some k =>
      refine ⟨(fun z => nomatch z), fun z => ?_⟩
      rw [ih.mpr (fun k hk => z k (by omega))] at e
      exact nomatch e
    | none =>
      show (if f n = v then some n else none) = none ↔ _
      by_cases q : f n = v
      · rw [if_pos q]
        exact ⟨(fun z => nomatch z), fun z => absurd q (z n (Nat.lt_succ_self n))⟩
      · rw [if_neg q]
        refine ⟨fun _ k hk => ?_, fun _ => rfl⟩
        by_cases z : k = n
        · rw [z]
          exact q
        · exact ih.mp e k (by omega)
theorem fnN_first {f : Nat → Nat} {v : Nat} {i : Nat} (e : f i = v) (h : ∀ k, k < i → f k ≠ v) : ∀ {n : Nat}, i < n → fnN f v n = some i
  | n + 1, hi => by
    unfold fnN
    by_cases z : i = n
    · subst z
      rw [fnN_none.mpr h]
      exact if_pos e
    · rw [fnN_first e h (n := n) (by omega)]
theorem fnN_some {f : Nat → Nat} {v : Nat} {i : Nat} : ∀ {n : Nat}, fnN f v n = some i → i < n ∧ f i = v ∧ ∀ k, k < i → f k ≠ v
  | n + 1, h => by
    unfold fnN at h
    cases e : fnN f v n with
    | some k =>
      rw [e] at h
      cases h
      have := fnN_some e
      exact ⟨by omega, this.2⟩
    | none =>
      rw [e] at h
      by_cases q : f n = v
      · have h : (if f n = v then some n else none) = some i := h
        rw [if_pos q] at h
        cases h
        exact ⟨Nat.lt_succ_self _, q, fnN_none.mp e⟩
      · have h : (if f n = v then some n else none) = some i := h
        rw [if_neg q] at h
        exact nomatch h
section DRB
variable {G : GT} {d : Nat} {h h0 : AH} {b : Nat} {D : DRF}

/-- a book whose script has one rule more -/
def rb2 (B : BK) : BK := (bLa B, bJa B, bLi B, bSe B, bWy B, bLl B, bRu B, bRs B + 1, (cSt B, cKd B, cNu B, upN (cTe B) (bRs B) (cSt B), cTn B, cAe B), bNd B)
set_option maxHeartbeats 4000000 in
set_option maxRecDepth 100000 in
theorem s_xbegin {c : Nat} {B : BK} (sx : ScX h c B) (lt : bRs B < 24) : RQ G mX7_beginRule d 0 [some (.ref c)] [] h (Rv fun h1 => ScX h1 c (rb2 B) ∧ Sm h h1 c (c + 6)) := by
  obtain ⟨s0, ⟨k1, s1, t1⟩, ⟨k2, s2, t2⟩, ⟨k3, s3, t3⟩, ⟨k4, s4, t4⟩, ⟨k5, s5, t5⟩, l1, l2, l3⟩ := id sx
  have z0 := s0.1
  have z1 := s1.1
  have z2 := s2.1
  have z3 := s3.1
  have z4 := s4.1
  have z5 := s5.1
  refine tX7_beginRule_0  (r := ?_)
  refine tX7_beginRule_1 (ha := (by first | assumption | (repeat (first | assumption | exact At.set_eq2 (by first | omega | (simp only [hset, hnew]; omega) | rfl | decide) | exact At.new_eq2 _ _ (by first | omega | (simp only [hset, hnew]; omega) | rfl | decide) | refine At.set_ne ?_ (by first | omega | (simp only [hset, hnew]; omega) | rfl | decide) | refine At.new_ne ?_)))) (hv := rfl) (r := ?_)
  refine tX7_beginRule_4  (r := ?_)
  refine tX7_beginRule_6  (kt := fun c_ => by exfalso; exact absurd ((nI_leI (by decide) (by omega)).mp c_) (by omega)) (kf := fun _ => ?_)
  refine tX7_beginRule_9  (r := ?_)
  refine tX7_beginRule_10 (ha := (by first | assumption | (repeat (first | assumption | exact At.set_eq2 (by first | omega | (simp only [hset, hnew]; omega) | rfl | decide) | exact At.new_eq2 _ _ (by first | omega | (simp only [hset, hnew]; omega) | rfl | decide) | refine At.set_ne ?_ (by first | omega | (simp only [hset, hnew]; omega) | rfl | decide) | refine At.new_ne ?_)))) (hv := rfl) (r := ?_)
  refine tX7_beginRule_13  (r := ?_)
  refine tX7_beginRule_14 (ha := (by first | assumption | (repeat (first | assumption | exact At.set_eq2 (by first | omega | (simp only [hset, hnew]; omega) | rfl | decide) | exact At.new_eq2 _ _ (by first | omega | (simp only [hset, hnew]; omega) | rfl | decide) | refine At.set_ne ?_ (by first | omega | (simp only [hset, hnew]; omega) | rfl | decide) | refine At.new_ne ?_)))) (hv := rfl) (r := ?_)
  refine tX7_beginRule_17  (r := ?_)
  refine tX7_beginRule_18 (ha := (by first | assumption | (repeat (first | assumption | exact At.set_eq2 (by first | omega | (simp only [hset, hnew]; omega) | rfl | decide) | exact At.new_eq2 _ _ (by first | omega | (simp only [hset, hnew]; omega) | rfl | decide) | refine At.set_ne ?_ (by first | omega | (simp only [hset, hnew]; omega) | rfl | decide) | refine At.new_ne ?_)))) (hv := rfl) (r := ?_)
  refine tX7_beginRule_21 (ha := (by first | assumption | (repeat (first | assumption | exact At.set_eq2 (by first | omega | (simp only [hset, hnew]; omega) | rfl | decide) | exact At.new_eq2 _ _ (by first | omega | (simp only [hset, hnew]; omega) | rfl | decide) | refine At.set_ne ?_ (by first | omega | (simp only [hset, hnew]; omega) | rfl | decide) | refine At.new_ne ?_)))) (hx := rfl) (hj := lt) (hn := (by decide)) (r := ?_)
  refine tX7_beginRule_22  (r := ?_)
  refine tX7_beginRule_23  (r := ?_)
  refine tX7_beginRule_24 (ha := (by first | assumption | (repeat (first | assumption | exact At.set_eq2 (by first | omega | (simp only [hset, hnew]; omega) | rfl | decide) | exact At.new_eq2 _ _ (by first | omega | (simp only [hset, hnew]; omega) | rfl | decide) | refine At.set_ne ?_ (by first | omega | (simp only [hset, hnew]; omega) | rfl | decide) | refine At.new_ne ?_)))) (hv := rfl) (r := ?_)
  refine tX7_beginRule_27  (r := ?_)
  refine tX7_beginRule_28  (r := ?_)
  rw [nI_add]
  refine tX7_beginRule_29 (ha := (by first | assumption | (repeat (first | assumption | exact At.set_eq2 (by first | omega | (simp only [hset, hnew]; omega) | rfl | decide) | exact At.new_eq2 _ _ (by first | omega | (simp only [hset, hnew]; omega) | rfl | decide) | refine At.set_ne ?_ (by first | omega | (simp only [hset, hnew]; omega) | rfl | decide) | refine At.new_ne ?_)))) (hlen := rfl) (r := ?_)
  refine tX7_beginRule_32  (hP := ?_)
  refine ⟨rfl, ⟨At.set_eq2 z0, ⟨_, by (first | assumption | (repeat (first | assumption | exact At.set_eq2 (by (first | omega | (simp only [hset, hnew]; omega) | rfl | decide)) | exact At.new_eq2 _ _ (by (first | omega | (simp only [hset, hnew]; omega) | rfl | decide)) | refine At.set_ne ?_ (by (first | omega | (simp only [hset, hnew]; omega) | rfl | decide)) | refine At.new_ne ?_))), t1⟩, ⟨_, by (first | assumption | (repeat (first | assumption | exact At.set_eq2 (by (first | omega | (simp only [hset, hnew]; omega) | rfl | decide)) | exact At.new_eq2 _ _ (by (first | omega | (simp only [hset, hnew]; omega) | rfl | decide)) | refine At.set_ne ?_ (by (first | omega | (simp only [hset, hnew]; omega) | rfl | decide)) | refine At.new_ne ?_))), t2⟩, ⟨_, At.set_ne (At.set_eq2 z3) (by omega), fun k hk => ?_⟩, ⟨_, by (first | assumption | (repeat (first | assumption | exact At.set_eq2 (by (first | omega | (simp only [hset, hnew]; omega) | rfl | decide)) | exact At.new_eq2 _ _ (by (first | omega | (simp only [hset, hnew]; omega) | rfl | decide)) | refine At.set_ne ?_ (by (first | omega | (simp only [hset, hnew]; omega) | rfl | decide)) | refine At.new_ne ?_))), t4⟩, ⟨_, by (first | assumption | (repeat (first | assumption | exact At.set_eq2 (by (first | omega | (simp only [hset, hnew]; omega) | rfl | decide)) | exact At.new_eq2 _ _ (by (first | omega | (simp only [hset, hnew]; omega) | rfl | decide)) | refine At.set_ne ?_ (by (first | omega | (simp only [hset, hnew]; omega) | rfl | decide)) | refine At.new_ne ?_))), t5⟩, l1, lt, l3⟩, ((Sm.rf h c (c + 6)).set (by omega) (by omega)).set (by omega) (by omega)⟩
  show (if k = bRs B then _ else k3 k) = nI (if k = bRs B then cSt B else cTe B k)
  split
  · rfl
  · exact t3 k hk

set_option maxHeartbeats 4000000 in
set_option maxRecDepth 100000 in
theorem s_xrule (hd : 1 ≤ d) (bx : BoX h b D) : RQ G mX1_addRule d 0 [some (.ref b)] [] h (Rv fun h1 => BoX h1 b (ruD D) ∧ Sm h h1 b (b + 58)) := by
  obtain ⟨s0, ⟨k1, s1, t1⟩, ⟨k2, s2, t2⟩, ⟨k3, s3, t3⟩, ⟨k4, s4, t4⟩, ⟨k5, s5, t5⟩, l1, l2, l3⟩ := id bx.2.2.2.2.2.2.2.2.1
  have z0 := s0.1
  have z1 := s1.1
  have z2 := s2.1
  have z3 := s3.1
  have z4 := s4.1
  have z5 := s5.1
  have a0 := bx.1
  have y0 := a0.1
  obtain ⟨-, a1, a2, a3, a4, a5, ⟨k6, a6, t6⟩, a7, -, m1, m2, m3⟩ := id bx
  have y6 := a6.1
  refine tX1_addRule_0  (r := ?_)
  refine tX1_addRule_1 (ha := (by first | assumption | (repeat (first | assumption | exact At.set_eq2 (by first | omega | (simp only [hset, hnew]; omega) | rfl | decide) | exact At.new_eq2 _ _ (by first | omega | (simp only [hset, hnew]; omega) | rfl | decide) | refine At.set_ne ?_ (by first | omega | (simp only [hset, hnew]; omega) | rfl | decide) | refine At.new_ne ?_)))) (hv := rfl) (r := ?_)
  refine tX1_addRule_4  (kt := fun c_4 => ?_) (kf := fun c_4 => ?_)
  · have e : ruD D = D := if_neg (fun z => by simp (disch := omega) only [ci_le0] at c_4; omega)
    rw [e]
    refine tX1_addRule_53  (hP := ?_)
    exact ⟨rfl, bx, Sm.rf _ _ _⟩
  · refine tX1_addRule_7  (r := ?_)
    refine tX1_addRule_8 (ha := (by first | assumption | (repeat (first | assumption | exact At.set_eq2 (by first | omega | (simp only [hset, hnew]; omega) | rfl | decide) | exact At.new_eq2 _ _ (by first | omega | (simp only [hset, hnew]; omega) | rfl | decide) | refine At.set_ne ?_ (by first | omega | (simp only [hset, hnew]; omega) | rfl | decide) | refine At.new_ne ?_)))) (hv := rfl) (r := ?_)
    refine tX1_addRule_11  (r := ?_)
    refine tX1_addRule_13  (kt := fun c_ => by exfalso; exact absurd ((nI_ltI (by decide) (by omega)).mp c_) (by omega)) (kf := fun _ => ?_)
    refine tX1_addRule_16  (r := ?_)
    refine tX1_addRule_17 (ha := (by first | assumption | (repeat (first | assumption | exact At.set_eq2 (by first | omega | (simp only [hset, hnew]; omega) | rfl | decide) | exact At.new_eq2 _ _ (by first | omega | (simp only [hset, hnew]; omega) | rfl | decide) | refine At.set_ne ?_ (by first | omega | (simp only [hset, hnew]; omega) | rfl | decide) | refine At.new_ne ?_)))) (hv := rfl) (r := ?_)
    refine tX1_addRule_20 (ha := (by first | assumption | (repeat (first | assumption | exact At.set_eq2 (by first | omega | (simp only [hset, hnew]; omega) | rfl | decide) | exact At.new_eq2 _ _ (by first | omega | (simp only [hset, hnew]; omega) | rfl | decide) | refine At.set_ne ?_ (by first | omega | (simp only [hset, hnew]; omega) | rfl | decide) | refine At.new_ne ?_)))) (hv := rfl) (r := ?_)
    refine tX1_addRule_23  (r := ?_)
    refine tX1_addRule_25  (kt := fun c_25 => ?_) (kf := fun c_25 => ?_)
    · have e : ruD D = D := if_neg (fun z => by have := (nI_leI (by decide) (by omega)).mp c_25; omega)
      rw [e]
      refine tX1_addRule_53  (hP := ?_)
      exact ⟨rfl, bx, Sm.rf _ _ _⟩
    · have lt : bRs D.1 < 24 := Nat.lt_of_not_le (fun z => c_25 ((nI_leI (by decide) (by omega)).mpr z))
      have p0 : 0 < bLi D.1 := by simp (disch := omega) only [ci_le0] at c_4; omega
      have e : ruD D = ((bLa D.1, bJa D.1, bLi D.1, bSe D.1, bWy D.1, bLl D.1, upN (bRu D.1) (bLi D.1 - 1) ((bRu D.1 (bLi D.1 - 1)).1, bRs D.1 + 1), bRs D.1 + 1, (cSt D.1, cKd D.1, cNu D.1, upN (cTe D.1) (bRs D.1) (cSt D.1), cTn D.1, cAe D.1), bNd D.1), D.2) := if_pos ⟨p0, lt⟩
      rw [e]
      refine tX1_addRule_28  (r := ?_)
      refine tX1_addRule_29 (ha := (by first | assumption | (repeat (first | assumption | exact At.set_eq2 (by first | omega | (simp only [hset, hnew]; omega) | rfl | decide) | exact At.new_eq2 _ _ (by first | omega | (simp only [hset, hnew]; omega) | rfl | decide) | refine At.set_ne ?_ (by first | omega | (simp only [hset, hnew]; omega) | rfl | decide) | refine At.new_ne ?_)))) (hv := rfl) (r := ?_)
      refine tX1_addRule_32 (hd := (by omega)) (ha := (by first | assumption | (repeat (first | assumption | exact At.set_eq2 (by first | omega | (simp only [hset, hnew]; omega) | rfl | decide) | exact At.new_eq2 _ _ (by first | omega | (simp only [hset, hnew]; omega) | rfl | decide) | refine At.set_ne ?_ (by first | omega | (simp only [hset, hnew]; omega) | rfl | decide) | refine At.new_ne ?_)))) (call := s_xbegin (d := 0) bx.2.2.2.2.2.2.2.2.1 lt) (k := ?_)
      intro h1 hq
      obtain ⟨sx1, sm1⟩ := hq
      have c0 := sm1.at a0 (by omega)
      have c6 := sm1.at a6 (by omega)
      have w6 := c6.1
      have v0 := sx1.1
      refine tX1_addRule_35  (r := ?_)
      refine tX1_addRule_36 (ha := (by first | assumption | (repeat (first | assumption | exact At.set_eq2 (by first | omega | (simp only [hset, hnew]; omega) | rfl | decide) | exact At.new_eq2 _ _ (by first | omega | (simp only [hset, hnew]; omega) | rfl | decide) | refine At.set_ne ?_ (by first | omega | (simp only [hset, hnew]; omega) | rfl | decide) | refine At.new_ne ?_)))) (hv := rfl) (r := ?_)
      refine tX1_addRule_39  (r := ?_)
      refine tX1_addRule_40 (ha := (by first | assumption | (repeat (first | assumption | exact At.set_eq2 (by first | omega | (simp only [hset, hnew]; omega) | rfl | decide) | exact At.new_eq2 _ _ (by first | omega | (simp only [hset, hnew]; omega) | rfl | decide) | refine At.set_ne ?_ (by first | omega | (simp only [hset, hnew]; omega) | rfl | decide) | refine At.new_ne ?_)))) (hv := rfl) (r := ?_)
      refine tX1_addRule_43  (r := ?_)
      refine tX1_addRule_44  (r := ?_)
      rw [nI_subN (by omega) (by omega)]
      refine tX1_addRule_45  (r := ?_)
      refine tX1_addRule_46 (ha := (by first | assumption | (repeat (first | assumption | exact At.set_eq2 (by first | omega | (simp only [hset, hnew]; omega) | rfl | decide) | exact At.new_eq2 _ _ (by first | omega | (simp only [hset, hnew]; omega) | rfl | decide) | refine At.set_ne ?_ (by first | omega | (simp only [hset, hnew]; omega) | rfl | decide) | refine At.new_ne ?_)))) (hv := rfl) (r := ?_)
      refine tX1_addRule_49 (ha := (by first | assumption | (repeat (first | assumption | exact At.set_eq2 (by first | omega | (simp only [hset, hnew]; omega) | rfl | decide) | exact At.new_eq2 _ _ (by first | omega | (simp only [hset, hnew]; omega) | rfl | decide) | refine At.set_ne ?_ (by first | omega | (simp only [hset, hnew]; omega) | rfl | decide) | refine At.new_ne ?_)))) (hv := rfl) (r := ?_)
      refine tX1_addRule_52 (ha := (by first | assumption | (repeat (first | assumption | exact At.set_eq2 (by first | omega | (simp only [hset, hnew]; omega) | rfl | decide) | exact At.new_eq2 _ _ (by first | omega | (simp only [hset, hnew]; omega) | rfl | decide) | refine At.set_ne ?_ (by first | omega | (simp only [hset, hnew]; omega) | rfl | decide) | refine At.new_ne ?_)))) (hx := rfl) (hj := (by omega)) (hn := (by decide)) (r := ?_)
      refine tX1_addRule_53  (hP := ?_)
      have sm2 := (Sm.rf h1 (b + 6) (b + 7)).set (i := b + 6) (c := .inl (0, 6, .inl (fun k => if k = bLi D.1 - 1 then nI (bRs D.1 + 1) else k6 k))) (by omega) (by omega)
      refine ⟨rfl, ⟨sm2.at c0 (by omega), (a1.sm sm1 (by omega)).sm sm2 (by omega), (a2.sm sm1 (by omega)).sm sm2 (by omega), (a3.sm sm1 (by omega)).sm sm2 (by omega), (a4.sm sm1 (by omega)).sm sm2 (by omega), ?_, ⟨_, At.set_eq2 w6, fun k hk => ?_⟩, (a7.sm sm1 (by omega)).sm sm2 (by omega), sx1.sm sm2 (by omega), m1, m2, m3⟩, (sm1.sub (by omega) (by omega)).trans (sm2.sub (by omega) (by omega))⟩
      · obtain ⟨k5', a5', t5'⟩ := a5
        refine ⟨k5', sm2.at (sm1.at a5' (by omega)) (by omega), fun k hk => ?_⟩
        show k5' k = nI (if k = bLi D.1 - 1 then ((bRu D.1 (bLi D.1 - 1)).1, bRs D.1 + 1) else bRu D.1 k).1
        split
        · rename_i z
          rw [t5' k hk, z]
        · exact t5' k hk
      · show (if k = bLi D.1 - 1 then nI (bRs D.1 + 1) else k6 k) = nI (if k = bLi D.1 - 1 then ((bRu D.1 (bLi D.1 - 1)).1, bRs D.1 + 1) else bRu D.1 k).2
        split
        · rfl
        · exact t6 k hk

set_option maxHeartbeats 4000000 in
set_option maxRecDepth 100000 in
theorem s_xtend (bx : BoX h b D) : RQ G mX7_endTest d 0 [some (.ref (b + 52))] [] h (Rv fun h1 => BoX h1 b (teD D) ∧ Sm h h1 b (b + 58)) := by
  obtain ⟨s0, ⟨k1, s1, t1⟩, ⟨k2, s2, t2⟩, ⟨k3, s3, t3⟩, ⟨k4, s4, t4⟩, ⟨k5, s5, t5⟩, l1, l2, l3⟩ := id bx.2.2.2.2.2.2.2.2.1
  have z0 := s0.1
  have z1 := s1.1
  have z2 := s2.1
  have z3 := s3.1
  have z4 := s4.1
  have z5 := s5.1
  refine tX7_endTest_0  (r := ?_)
  refine tX7_endTest_1 (ha := (by first | assumption | (repeat (first | assumption | exact At.set_eq2 (by first | omega | (simp only [hset, hnew]; omega) | rfl | decide) | exact At.new_eq2 _ _ (by first | omega | (simp only [hset, hnew]; omega) | rfl | decide) | refine At.set_ne ?_ (by first | omega | (simp only [hset, hnew]; omega) | rfl | decide) | refine At.new_ne ?_)))) (hv := rfl) (r := ?_)
  refine tX7_endTest_4  (kt := fun c_4 => ?_) (kf := fun c_4 => ?_)
  · have e : teD D = D := if_neg (fun z => by simp (disch := omega) only [ci_le0] at c_4; omega)
    rw [e]
    refine tX7_endTest_31  (hP := ?_)
    exact ⟨rfl, bx, Sm.rf _ _ _⟩
  · have p0 : 0 < bRs D.1 := by simp (disch := omega) only [ci_le0] at c_4; omega
    have e : teD D = (scB (cSt D.1, cKd D.1, cNu D.1, cTe D.1, upN (cTn D.1) (bRs D.1 - 1) (cSt D.1), cAe D.1) D.1, D.2) := if_pos p0
    rw [e]
    refine tX7_endTest_7  (r := ?_)
    refine tX7_endTest_8 (ha := (by first | assumption | (repeat (first | assumption | exact At.set_eq2 (by first | omega | (simp only [hset, hnew]; omega) | rfl | decide) | exact At.new_eq2 _ _ (by first | omega | (simp only [hset, hnew]; omega) | rfl | decide) | refine At.set_ne ?_ (by first | omega | (simp only [hset, hnew]; omega) | rfl | decide) | refine At.new_ne ?_)))) (hv := rfl) (r := ?_)
    refine tX7_endTest_11  (r := ?_)
    refine tX7_endTest_13  (kt := fun c_ => by exfalso; exact absurd ((nI_ltI (by decide) (by omega)).mp c_) (by omega)) (kf := fun _ => ?_)
    refine tX7_endTest_16  (r := ?_)
    refine tX7_endTest_17 (ha := (by first | assumption | (repeat (first | assumption | exact At.set_eq2 (by first | omega | (simp only [hset, hnew]; omega) | rfl | decide) | exact At.new_eq2 _ _ (by first | omega | (simp only [hset, hnew]; omega) | rfl | decide) | refine At.set_ne ?_ (by first | omega | (simp only [hset, hnew]; omega) | rfl | decide) | refine At.new_ne ?_)))) (hv := rfl) (r := ?_)
    refine tX7_endTest_20  (r := ?_)
    refine tX7_endTest_21 (ha := (by first | assumption | (repeat (first | assumption | exact At.set_eq2 (by first | omega | (simp only [hset, hnew]; omega) | rfl | decide) | exact At.new_eq2 _ _ (by first | omega | (simp only [hset, hnew]; omega) | rfl | decide) | refine At.set_ne ?_ (by first | omega | (simp only [hset, hnew]; omega) | rfl | decide) | refine At.new_ne ?_)))) (hv := rfl) (r := ?_)
    refine tX7_endTest_24  (r := ?_)
    refine tX7_endTest_25  (r := ?_)
    rw [nI_subN (by omega) (by omega)]
    refine tX7_endTest_26  (r := ?_)
    refine tX7_endTest_27 (ha := (by first | assumption | (repeat (first | assumption | exact At.set_eq2 (by first | omega | (simp only [hset, hnew]; omega) | rfl | decide) | exact At.new_eq2 _ _ (by first | omega | (simp only [hset, hnew]; omega) | rfl | decide) | refine At.set_ne ?_ (by first | omega | (simp only [hset, hnew]; omega) | rfl | decide) | refine At.new_ne ?_)))) (hv := rfl) (r := ?_)
    refine tX7_endTest_30 (ha := (by first | assumption | (repeat (first | assumption | exact At.set_eq2 (by first | omega | (simp only [hset, hnew]; omega) | rfl | decide) | exact At.new_eq2 _ _ (by first | omega | (simp only [hset, hnew]; omega) | rfl | decide) | refine At.set_ne ?_ (by first | omega | (simp only [hset, hnew]; omega) | rfl | decide) | refine At.new_ne ?_)))) (hx := rfl) (hj := (by omega)) (hn := (by decide)) (r := ?_)
    refine tX7_endTest_31  (hP := ?_)
    have sm := (Sm.rf h (b + 52) (b + 58)).set (i := b + 52 + 4) (c := .inl (0, 24, .inl (fun k => if k = bRs D.1 - 1 then nI (cSt D.1) else k4 k))) (by omega) (by omega)
    refine ⟨rfl, bx.sc (f := (cSt D.1, cKd D.1, cNu D.1, cTe D.1, upN (cTn D.1) (bRs D.1 - 1) (cSt D.1), cAe D.1)) (g := bNd D.1) sm ⟨by (first | assumption | (repeat (first | assumption | exact At.set_eq2 (by (first | omega | (simp only [hset, hnew]; omega) | rfl | decide)) | exact At.new_eq2 _ _ (by (first | omega | (simp only [hset, hnew]; omega) | rfl | decide)) | refine At.set_ne ?_ (by (first | omega | (simp only [hset, hnew]; omega) | rfl | decide)) | refine At.new_ne ?_))), ⟨_, by (first | assumption | (repeat (first | assumption | exact At.set_eq2 (by (first | omega | (simp only [hset, hnew]; omega) | rfl | decide)) | exact At.new_eq2 _ _ (by (first | omega | (simp only [hset, hnew]; omega) | rfl | decide)) | refine At.set_ne ?_ (by (first | omega | (simp only [hset, hnew]; omega) | rfl | decide)) | refine At.new_ne ?_))), t1⟩, ⟨_, by (first | assumption | (repeat (first | assumption | exact At.set_eq2 (by (first | omega | (simp only [hset, hnew]; omega) | rfl | decide)) | exact At.new_eq2 _ _ (by (first | omega | (simp only [hset, hnew]; omega) | rfl | decide)) | refine At.set_ne ?_ (by (first | omega | (simp only [hset, hnew]; omega) | rfl | decide)) | refine At.new_ne ?_))), t2⟩, ⟨_, by (first | assumption | (repeat (first | assumption | exact At.set_eq2 (by (first | omega | (simp only [hset, hnew]; omega) | rfl | decide)) | exact At.new_eq2 _ _ (by (first | omega | (simp only [hset, hnew]; omega) | rfl | decide)) | refine At.set_ne ?_ (by (first | omega | (simp only [hset, hnew]; omega) | rfl | decide)) | refine At.new_ne ?_))), t3⟩, ⟨_, At.set_eq2 z4, fun k hk => ?_⟩, ⟨_, by (first | assumption | (repeat (first | assumption | exact At.set_eq2 (by (first | omega | (simp only [hset, hnew]; omega) | rfl | decide)) | exact At.new_eq2 _ _ (by (first | omega | (simp only [hset, hnew]; omega) | rfl | decide)) | refine At.set_ne ?_ (by (first | omega | (simp only [hset, hnew]; omega) | rfl | decide)) | refine At.new_ne ?_))), t5⟩, l1, l2, l3⟩, sm.sub (by omega) (by omega)⟩
    show (if k = bRs D.1 - 1 then nI (cSt D.1) else k4 k) = nI (if k = bRs D.1 - 1 then cSt D.1 else cTn D.1 k)
    split
    · rfl
    · exact t4 k hk

set_option maxHeartbeats 4000000 in
set_option maxRecDepth 100000 in
theorem s_xaend (bx : BoX h b D) : RQ G mX7_endActs d 0 [some (.ref (b + 52))] [] h (Rv fun h1 => BoX h1 b (aeD D) ∧ Sm h h1 b (b + 58)) := by
  obtain ⟨s0, ⟨k1, s1, t1⟩, ⟨k2, s2, t2⟩, ⟨k3, s3, t3⟩, ⟨k4, s4, t4⟩, ⟨k5, s5, t5⟩, l1, l2, l3⟩ := id bx.2.2.2.2.2.2.2.2.1
  have z0 := s0.1
  have z1 := s1.1
  have z2 := s2.1
  have z3 := s3.1
  have z4 := s4.1
  have z5 := s5.1
  refine tX7_endActs_0  (r := ?_)
  refine tX7_endActs_1 (ha := (by first | assumption | (repeat (first | assumption | exact At.set_eq2 (by first | omega | (simp only [hset, hnew]; omega) | rfl | decide) | exact At.new_eq2 _ _ (by first | omega | (simp only [hset, hnew]; omega) | rfl | decide) | refine At.set_ne ?_ (by first | omega | (simp only [hset, hnew]; omega) | rfl | decide) | refine At.new_ne ?_)))) (hv := rfl) (r := ?_)
  refine tX7_endActs_4  (kt := fun c_4 => ?_) (kf := fun c_4 => ?_)
  · have e : aeD D = D := if_neg (fun z => by simp (disch := omega) only [ci_le0] at c_4; omega)
    rw [e]
    refine tX7_endActs_31  (hP := ?_)
    exact ⟨rfl, bx, Sm.rf _ _ _⟩
  · have p0 : 0 < bRs D.1 := by simp (disch := omega) only [ci_le0] at c_4; omega
    have e : aeD D = (scB (cSt D.1, cKd D.1, cNu D.1, cTe D.1, cTn D.1, upN (cAe D.1) (bRs D.1 - 1) (cSt D.1)) D.1, D.2) := if_pos p0
    rw [e]
    refine tX7_endActs_7  (r := ?_)
    refine tX7_endActs_8 (ha := (by first | assumption | (repeat (first | assumption | exact At.set_eq2 (by first | omega | (simp only [hset, hnew]; omega) | rfl | decide) | exact At.new_eq2 _ _ (by first | omega | (simp only [hset, hnew]; omega) | rfl | decide) | refine At.set_ne ?_ (by first | omega | (simp only [hset, hnew]; omega) | rfl | decide) | refine At.new_ne ?_)))) (hv := rfl) (r := ?_)
    refine tX7_endActs_11  (r := ?_)
    refine tX7_endActs_13  (kt := fun c_ => by exfalso; exact absurd ((nI_ltI (by decide) (by omega)).mp c_) (by omega)) (kf := fun _ => ?_)
    refine tX7_endActs_16  (r := ?_)
    refine tX7_endActs_17 (ha := (by first | assumption | (repeat (first | assumption | exact At.set_eq2 (by first | omega | (simp only [hset, hnew]; omega) | rfl | decide) | exact At.new_eq2 _ _ (by first | omega | (simp only [hset, hnew]; omega) | rfl | decide) | refine At.set_ne ?_ (by first | omega | (simp only [hset, hnew]; omega) | rfl | decide) | refine At.new_ne ?_)))) (hv := rfl) (r := ?_)
    refine tX7_endActs_20  (r := ?_)
    refine tX7_endActs_21 (ha := (by first | assumption | (repeat (first | assumption | exact At.set_eq2 (by first | omega | (simp only [hset, hnew]; omega) | rfl | decide) | exact At.new_eq2 _ _ (by first | omega | (simp only [hset, hnew]; omega) | rfl | decide) | refine At.set_ne ?_ (by first | omega | (simp only [hset, hnew]; omega) | rfl | decide) | refine At.new_ne ?_)))) (hv := rfl) (r := ?_)
    refine tX7_endActs_24  (r := ?_)
    refine tX7_endActs_25  (r := ?_)
    rw [nI_subN (by omega) (by omega)]
    refine tX7_endActs_26  (r := ?_)
    refine tX7_endActs_27 (ha := (by first | assumption | (repeat (first | assumption | exact At.set_eq2 (by first | omega | (simp only [hset, hnew]; omega) | rfl | decide) | exact At.new_eq2 _ _ (by first | omega | (simp only [hset, hnew]; omega) | rfl | decide) | refine At.set_ne ?_ (by first | omega | (simp only [hset, hnew]; omega) | rfl | decide) | refine At.new_ne ?_)))) (hv := rfl) (r := ?_)
    refine tX7_endActs_30 (ha := (by first | assumption | (repeat (first | assumption | exact At.set_eq2 (by first | omega | (simp only [hset, hnew]; omega) | rfl | decide) | exact At.new_eq2 _ _ (by first | omega | (simp only [hset, hnew]; omega) | rfl | decide) | refine At.set_ne ?_ (by first | omega | (simp only [hset, hnew]; omega) | rfl | decide) | refine At.new_ne ?_)))) (hx := rfl) (hj := (by omega)) (hn := (by decide)) (r := ?_)
    refine tX7_endActs_31  (hP := ?_)
    have sm := (Sm.rf h (b + 52) (b + 58)).set (i := b + 52 + 5) (c := .inl (0, 24, .inl (fun k => if k = bRs D.1 - 1 then nI (cSt D.1) else k5 k))) (by omega) (by omega)
    refine ⟨rfl, bx.sc (f := (cSt D.1, cKd D.1, cNu D.1, cTe D.1, cTn D.1, upN (cAe D.1) (bRs D.1 - 1) (cSt D.1))) (g := bNd D.1) sm ⟨by (first | assumption | (repeat (first | assumption | exact At.set_eq2 (by (first | omega | (simp only [hset, hnew]; omega) | rfl | decide)) | exact At.new_eq2 _ _ (by (first | omega | (simp only [hset, hnew]; omega) | rfl | decide)) | refine At.set_ne ?_ (by (first | omega | (simp only [hset, hnew]; omega) | rfl | decide)) | refine At.new_ne ?_))), ⟨_, by (first | assumption | (repeat (first | assumption | exact At.set_eq2 (by (first | omega | (simp only [hset, hnew]; omega) | rfl | decide)) | exact At.new_eq2 _ _ (by (first | omega | (simp only [hset, hnew]; omega) | rfl | decide)) | refine At.set_ne ?_ (by (first | omega | (simp only [hset, hnew]; omega) | rfl | decide)) | refine At.new_ne ?_))), t1⟩, ⟨_, by (first | assumption | (repeat (first | assumption | exact At.set_eq2 (by (first | omega | (simp only [hset, hnew]; omega) | rfl | decide)) | exact At.new_eq2 _ _ (by (first | omega | (simp only [hset, hnew]; omega) | rfl | decide)) | refine At.set_ne ?_ (by (first | omega | (simp only [hset, hnew]; omega) | rfl | decide)) | refine At.new_ne ?_))), t2⟩, ⟨_, by (first | assumption | (repeat (first | assumption | exact At.set_eq2 (by (first | omega | (simp only [hset, hnew]; omega) | rfl | decide)) | exact At.new_eq2 _ _ (by (first | omega | (simp only [hset, hnew]; omega) | rfl | decide)) | refine At.set_ne ?_ (by (first | omega | (simp only [hset, hnew]; omega) | rfl | decide)) | refine At.new_ne ?_))), t3⟩, ⟨_, by (first | assumption | (repeat (first | assumption | exact At.set_eq2 (by (first | omega | (simp only [hset, hnew]; omega) | rfl | decide)) | exact At.new_eq2 _ _ (by (first | omega | (simp only [hset, hnew]; omega) | rfl | decide)) | refine At.set_ne ?_ (by (first | omega | (simp only [hset, hnew]; omega) | rfl | decide)) | refine At.new_ne ?_))), t4⟩, ⟨_, At.set_eq2 z5, fun k hk => ?_⟩, l1, l2, l3⟩, sm.sub (by omega) (by omega)⟩
    show (if k = bRs D.1 - 1 then nI (cSt D.1) else k5 k) = nI (if k = bRs D.1 - 1 then cSt D.1 else cAe D.1 k)
    split
    · rfl
    · exact t5 k hk

set_option maxHeartbeats 4000000 in
set_option maxRecDepth 100000 in
theorem s_find_l {a n c v0 : Nat} {f : Nat → Nat} (na : NaX h a n c f) (hc : c ≤ n) (hn : n < 9) (hv : v0 < 1099511627776) : ∀ (n i : Nat) , c ≤ i + n → i ≤ c → (∀ k, k < i → f k ≠ v0) → RQ G mX1_find d 3 [some (.ref a), some (.int (nI c)), some (.long (nL v0)), none, some (.int (nI i))] [] h (Ri fun v h1 => v = oI (fnN f v0 c) ∧ h1 = h) := by
  have ex : ∀ (i : Nat) , i = c → (∀ k, k < i → f k ≠ v0) → RQ G mX1_find d 3 [some (.ref a), some (.int (nI c)), some (.long (nL v0)), none, some (.int (nI i))] [] h (Ri fun v h1 => v = oI (fnN f v0 c) ∧ h1 = h) := by
    intro i  hi hk
    subst hi
    obtain ⟨g, a1, t1⟩ := na
    refine tX1_find_3  (r := ?_)
    refine tX1_find_5  (r := ?_)
    refine tX1_find_6  (kf := fun c_ => by exfalso; exact c_ ((nI_leI (by omega) (by omega)).mpr (by omega))) (kt := fun _ => ?_)
    refine tX1_find_34  (r := ?_)
    refine tX1_find_35  (hP := ?_)
    refine ⟨_, rfl, ?_, rfl⟩
    rw [fnN_none.mpr hk]
    rfl
  intro n
  induction n with
  | zero => exact fun i  h1_ h2_ => ex i  (by omega)
  | succ n ih =>
    intro i  h1_ h2_ hk
    by_cases hi : i = c
    · exact ex i  hi hk
    have hi2 : i < c := by omega
    obtain ⟨g, a1, t1⟩ := na
    refine tX1_find_3  (r := ?_)
    refine tX1_find_5  (r := ?_)
    refine tX1_find_6  (kt := fun c_ => by exfalso; exact absurd ((nI_leI (by omega) (by omega)).mp c_) (by omega)) (kf := fun _ => ?_)
    refine tX1_find_9  (r := ?_)
    refine tX1_find_11  (r := ?_)
    refine tX1_find_12 (ha := (by first | assumption | (repeat (first | assumption | exact At.set_eq2 (by first | omega | (simp only [hset, hnew]; omega) | rfl | decide) | exact At.new_eq2 _ _ (by first | omega | (simp only [hset, hnew]; omega) | rfl | decide) | refine At.set_ne ?_ (by first | omega | (simp only [hset, hnew]; omega) | rfl | decide) | refine At.new_ne ?_)))) (r := ?_)
    refine tX1_find_13  (kt := fun c_ => by exfalso; exact absurd ((nI_leI (by omega) (by omega)).mp c_) (by omega)) (kf := fun _ => ?_)
    refine tX1_find_16  (r := ?_)
    refine tX1_find_17  (r := ?_)
    refine tX1_find_19 (ha := (by first | assumption | (repeat (first | assumption | exact At.set_eq2 (by first | omega | (simp only [hset, hnew]; omega) | rfl | decide) | exact At.new_eq2 _ _ (by first | omega | (simp only [hset, hnew]; omega) | rfl | decide) | refine At.set_ne ?_ (by first | omega | (simp only [hset, hnew]; omega) | rfl | decide) | refine At.new_ne ?_)))) (hx := rfl) (hj := (by omega)) (hn := (by omega)) (r := ?_)
    rw [(t1 i hi2).1]
    refine tX1_find_20  (r := ?_)
    refine tX1_find_21  (r := ?_)
    refine tX1_find_22  (kt := fun c_22 => ?_) (kf := fun c_22 => ?_)
    · have ne : f i ≠ v0 := fun z => c_22 ((lg_cmp_eq _ _).mpr (by rw [z]))
      refine tX1_find_28  (r := ?_)
      rw [nI_add]
      refine tX1_find_31 (r := ?_)
      refine ih (i + 1) (by omega) (by omega) (fun k hk2 => ?_)
      by_cases z : k = i
      · rw [z]
        exact ne
      · exact hk k (by omega)
    · have eq : f i = v0 := (nL_eq (t1 i hi2).2 hv).mp ((lg_cmp_eq _ _).mp c_22)
      refine tX1_find_25  (r := ?_)
      refine tX1_find_27  (hP := ?_)
      refine ⟨_, rfl, ?_, rfl⟩
      rw [fnN_first eq hk hi2]
      rfl

set_option maxHeartbeats 4000000 in
set_option maxRecDepth 100000 in
theorem s_find {a n c v0 : Nat} {f : Nat → Nat} (na : NaX h a n c f) (hc : c ≤ n) (hn : n < 9) (hv : v0 < 1099511627776) : RQ G mX1_find d 0 [some (.ref a), some (.int (nI c)), some (.long (nL v0)), none, none] [] h (Ri fun v h1 => v = oI (fnN f v0 c) ∧ h1 = h) := by
  refine tX1_find_0  (r := ?_)
  refine tX1_find_1  (r := ?_)
  exact s_find_l na hc hn hv c 0 (by omega) (by omega) (fun k hk => absurd hk (Nat.not_lt_zero k))

theorem fnN_lt {f : Nat → Nat} {v n : Nat} : ∀ k, fnN f v n = some k → k < n := fun _ e => (fnN_some e).1
theorem oI_ne {o : Option Nat} (h : ∀ k, o = some k → k < 9) : (oI o = -1) ↔ o = none := oI_m1 (fun k e => by have := h k e; omega)

set_option maxHeartbeats 4000000 in
set_option maxRecDepth 100000 in
theorem s_hasName (hd : 1 ≤ d) (bx : BoX h b D) {v0 : Nat} (hv : v0 < 1099511627776) : RQ G mX1_hasName d 0 [some (.ref b), some (.long (nL v0)), none] [] h (Ri fun v h1 => v = (if fnN (dfL D) v0 (bLa D.1) = none ∧ fnN (dfJ D) v0 (bJa D.1) = none ∧ fnN (dfI D) v0 (bLi D.1) = none then nI 0 else nI 1) ∧ h1 = h) := by
  obtain ⟨a0, a1, a2, a3, -, -, -, -, -, m1, m2, m3⟩ := id bx
  refine tX1_hasName_0  (r := ?_)
  refine tX1_hasName_1 (ha := (by first | assumption | (repeat (first | assumption | exact At.set_eq2 (by first | omega | (simp only [hset, hnew]; omega) | rfl | decide) | exact At.new_eq2 _ _ (by first | omega | (simp only [hset, hnew]; omega) | rfl | decide) | refine At.set_ne ?_ (by first | omega | (simp only [hset, hnew]; omega) | rfl | decide) | refine At.new_ne ?_)))) (hv := rfl) (r := ?_)
  refine tX1_hasName_4  (r := ?_)
  refine tX1_hasName_5 (ha := (by first | assumption | (repeat (first | assumption | exact At.set_eq2 (by first | omega | (simp only [hset, hnew]; omega) | rfl | decide) | exact At.new_eq2 _ _ (by first | omega | (simp only [hset, hnew]; omega) | rfl | decide) | refine At.set_ne ?_ (by first | omega | (simp only [hset, hnew]; omega) | rfl | decide) | refine At.new_ne ?_)))) (hv := rfl) (r := ?_)
  refine tX1_hasName_8  (r := ?_)
  refine tX1_hasName_9 (hd := (by omega)) (call := s_find (d := 0) a1 m1 (by decide) hv) (k := ?_)
  rintro x_ h_ ⟨hx_, e_⟩
  rw [e_, hx_]
  refine tX1_hasName_12  (r := ?_)
  refine tX1_hasName_13  (kt := fun c_13 => ?_) (kf := fun c_13 => ?_)
  · refine tX1_hasName_48  (r := ?_)
    refine tX1_hasName_49 (r := ?_)
    refine tX1_hasName_53 (hb := (by first | exact Or.inl rfl | exact Or.inr rfl | assumption)) (hP := ?_)
    exact ⟨_, rfl, (if_neg (fun z => c_13 ((oI_ne (fun k e => Nat.lt_of_lt_of_le (fnN_lt k e) (by omega))).mpr z.1))).symm, rfl⟩
  · refine tX1_hasName_16  (r := ?_)
    refine tX1_hasName_17 (ha := (by first | assumption | (repeat (first | assumption | exact At.set_eq2 (by first | omega | (simp only [hset, hnew]; omega) | rfl | decide) | exact At.new_eq2 _ _ (by first | omega | (simp only [hset, hnew]; omega) | rfl | decide) | refine At.set_ne ?_ (by first | omega | (simp only [hset, hnew]; omega) | rfl | decide) | refine At.new_ne ?_)))) (hv := rfl) (r := ?_)
    refine tX1_hasName_20  (r := ?_)
    refine tX1_hasName_21 (ha := (by first | assumption | (repeat (first | assumption | exact At.set_eq2 (by first | omega | (simp only [hset, hnew]; omega) | rfl | decide) | exact At.new_eq2 _ _ (by first | omega | (simp only [hset, hnew]; omega) | rfl | decide) | refine At.set_ne ?_ (by first | omega | (simp only [hset, hnew]; omega) | rfl | decide) | refine At.new_ne ?_)))) (hv := rfl) (r := ?_)
    refine tX1_hasName_24  (r := ?_)
    refine tX1_hasName_25 (hd := (by omega)) (call := s_find (d := 0) a2 m2 (by decide) hv) (k := ?_)
    rintro x_ h_ ⟨hx_, e_⟩
    rw [e_, hx_]
    refine tX1_hasName_28  (r := ?_)
    refine tX1_hasName_29  (kt := fun c_29 => ?_) (kf := fun c_29 => ?_)
    · refine tX1_hasName_48  (r := ?_)
      refine tX1_hasName_49 (r := ?_)
      refine tX1_hasName_53 (hb := (by first | exact Or.inl rfl | exact Or.inr rfl | assumption)) (hP := ?_)
      exact ⟨_, rfl, (if_neg (fun z => c_29 ((oI_ne (fun k e => Nat.lt_of_lt_of_le (fnN_lt k e) (by omega))).mpr z.2.1))).symm, rfl⟩
    · refine tX1_hasName_32  (r := ?_)
      refine tX1_hasName_33 (ha := (by first | assumption | (repeat (first | assumption | exact At.set_eq2 (by first | omega | (simp only [hset, hnew]; omega) | rfl | decide) | exact At.new_eq2 _ _ (by first | omega | (simp only [hset, hnew]; omega) | rfl | decide) | refine At.set_ne ?_ (by first | omega | (simp only [hset, hnew]; omega) | rfl | decide) | refine At.new_ne ?_)))) (hv := rfl) (r := ?_)
      refine tX1_hasName_36  (r := ?_)
      refine tX1_hasName_37 (ha := (by first | assumption | (repeat (first | assumption | exact At.set_eq2 (by first | omega | (simp only [hset, hnew]; omega) | rfl | decide) | exact At.new_eq2 _ _ (by first | omega | (simp only [hset, hnew]; omega) | rfl | decide) | refine At.set_ne ?_ (by first | omega | (simp only [hset, hnew]; omega) | rfl | decide) | refine At.new_ne ?_)))) (hv := rfl) (r := ?_)
      refine tX1_hasName_40  (r := ?_)
      refine tX1_hasName_41 (hd := (by omega)) (call := s_find (d := 0) a3 m3 (by decide) hv) (k := ?_)
      rintro x_ h_ ⟨hx_, e_⟩
      rw [e_, hx_]
      refine tX1_hasName_44  (r := ?_)
      refine tX1_hasName_45  (kt := fun c_45 => ?_) (kf := fun c_45 => ?_)
      · refine tX1_hasName_52  (r := ?_)
        refine tX1_hasName_53 (hb := (by first | exact Or.inl rfl | exact Or.inr rfl | assumption)) (hP := ?_)
        exact ⟨_, rfl, (if_pos ⟨(oI_ne (fun k e => Nat.lt_of_lt_of_le (fnN_lt k e) (by omega))).mp c_13, (oI_ne (fun k e => Nat.lt_of_lt_of_le (fnN_lt k e) (by omega))).mp c_29, (oI_ne (fun k e => Nat.lt_of_lt_of_le (fnN_lt k e) (by omega))).mp c_45⟩).symm, rfl⟩
      · refine tX1_hasName_48  (r := ?_)
        refine tX1_hasName_49 (r := ?_)
        refine tX1_hasName_53 (hb := (by first | exact Or.inl rfl | exact Or.inr rfl | assumption)) (hP := ?_)
        exact ⟨_, rfl, (if_neg (fun z => c_45 ((oI_ne (fun k e => Nat.lt_of_lt_of_le (fnN_lt k e) (by omega))).mpr z.2.2))).symm, rfl⟩

end DRB
