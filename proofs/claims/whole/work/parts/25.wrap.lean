/-! the law's wrappers -/
section WR
variable {G : GT} {d : Nat} {h : AH}

set_option maxHeartbeats 4000000 in
set_option maxRecDepth 100000 in
theorem w_feed {d2 x out : Nat} {a0 a1 a2 a3 a4 : Int32} {vs : List Value} {Pc : OC → AH → Prop} {Q : Int32 → AH → Prop} (hd : d2 + 1 ≤ d) (ax : At h x (.inr (8, vs))) (call : RQ G mX10_feed d2 0 [some (.ref x), some (.int a0), some (.int a1), some (.int a2), some (.int a3), some (.int a4)] [] h Pc) (hP : ∀ o h1, Pc o h1 → (∃ (v : Int32) (f : Nat → Int64), o = .inl (some (.int v)) ∧ At h1 out (.inl (2, 1, .inr (.inl f))) ∧ Q (nI 0) (hset h1 out (.inl (2, 1, .inr (.inl (vp_updL f 0 v.toInt64)))))) ∨ (o = .inr "java/lang/IllegalStateException" ∧ Q (nI 1) h1)) : RQ G mL_feed d 0 [some (.ref x), some (.int a0), some (.int a1), some (.int a2), some (.int a3), some (.int a4), some (.ref out), none] [] h (Ri Q) := by
  obtain ⟨o1, h1, r1, p1⟩ := call
  refine tL_feed_0  (r := ?_)
  refine tL_feed_2  (r := ?_)
  refine tL_feed_3  (r := ?_)
  refine tL_feed_4  (r := ?_)
  refine tL_feed_5  (r := ?_)
  refine tL_feed_6  (r := ?_)
  refine tL_feed_7  (r := ?_)
  refine tL_feed_9  (r := ?_)
  rcases hP _ _ p1 with ⟨v, f, rfl, ao, q⟩ | ⟨rfl, q⟩
  · refine tL_feed_11 (Q := fun v2 h2 => v2 = v ∧ h2 = h1) (hd := hd) (ha := ax) (call := ⟨_, _, r1, v, rfl, rfl, rfl⟩) (k := ?_)
    rintro _ _ ⟨rfl, rfl⟩
    refine tL_feed_14  (r := ?_)
    refine tL_feed_15 (ha := (by first | assumption | (repeat (first | assumption | exact At.set_eq2 (by first | omega | (simp only [hset, hnew]; omega) | rfl | decide) | exact At.new_eq2 _ _ (by first | omega | (simp only [hset, hnew]; omega) | rfl | decide) | refine At.set_ne ?_ (by first | omega | (simp only [hset, hnew]; omega) | rfl | decide) | refine At.new_ne ?_)))) (hx := rfl) (hj := (by decide)) (hn := (by decide)) (r := ?_)
    refine tL_feed_16 (r := ?_)
    refine tL_feed_23  (r := ?_)
    refine tL_feed_24  (hP := ?_)
    exact ⟨_, rfl, q⟩
  · refine tL_feed_11x0 (Q := fun h2 => h2 = h1) (hd := hd) (ha := ax) (call := ⟨_, _, r1, rfl, rfl⟩) (k := ?_)
    rintro _ rfl
    refine tL_feed_21  (r := ?_)
    refine tL_feed_22  (hP := ?_)
    exact ⟨_, rfl, q⟩

set_option maxHeartbeats 4000000 in
set_option maxRecDepth 100000 in
theorem w_trim {d2 x out : Nat} {a0 : Int32} {vs : List Value} {Pc : OC → AH → Prop} {Q : Int32 → AH → Prop} (hd : d2 + 1 ≤ d) (ax : At h x (.inr (8, vs))) (call : RQ G mX10_trim d2 0 [some (.ref x), some (.int a0)] [] h Pc) (hP : ∀ o h1, Pc o h1 → (∃ (v : Int32) (f : Nat → Int64), o = .inl (some (.int v)) ∧ At h1 out (.inl (2, 1, .inr (.inl f))) ∧ Q (nI 0) (hset h1 out (.inl (2, 1, .inr (.inl (vp_updL f 0 v.toInt64)))))) ∨ (o = .inr "java/lang/IllegalArgumentException" ∧ Q (nI 1) h1)) : RQ G mL_trim d 0 [some (.ref x), some (.int a0), some (.ref out), none] [] h (Ri Q) := by
  obtain ⟨o1, h1, r1, p1⟩ := call
  refine tL_trim_0  (r := ?_)
  refine tL_trim_1  (r := ?_)
  refine tL_trim_2  (r := ?_)
  refine tL_trim_3  (r := ?_)
  rcases hP _ _ p1 with ⟨v, f, rfl, ao, q⟩ | ⟨rfl, q⟩
  · refine tL_trim_4 (Q := fun v2 h2 => v2 = v ∧ h2 = h1) (hd := hd) (ha := ax) (call := ⟨_, _, r1, v, rfl, rfl, rfl⟩) (k := ?_)
    rintro _ _ ⟨rfl, rfl⟩
    refine tL_trim_7  (r := ?_)
    refine tL_trim_8 (ha := (by first | assumption | (repeat (first | assumption | exact At.set_eq2 (by first | omega | (simp only [hset, hnew]; omega) | rfl | decide) | exact At.new_eq2 _ _ (by first | omega | (simp only [hset, hnew]; omega) | rfl | decide) | refine At.set_ne ?_ (by first | omega | (simp only [hset, hnew]; omega) | rfl | decide) | refine At.new_ne ?_)))) (hx := rfl) (hj := (by decide)) (hn := (by decide)) (r := ?_)
    refine tL_trim_9 (r := ?_)
    refine tL_trim_15  (r := ?_)
    refine tL_trim_16  (hP := ?_)
    exact ⟨_, rfl, q⟩
  · refine tL_trim_4x0 (Q := fun h2 => h2 = h1) (hd := hd) (ha := ax) (call := ⟨_, _, r1, rfl, rfl⟩) (k := ?_)
    rintro _ rfl
    refine tL_trim_13  (r := ?_)
    refine tL_trim_14  (hP := ?_)
    exact ⟨_, rfl, q⟩

set_option maxHeartbeats 4000000 in
set_option maxRecDepth 100000 in
theorem w_beansIn {d2 x out : Nat} {a0 a1 : Int32} {vs : List Value} {Pc : OC → AH → Prop} {Q : Int32 → AH → Prop} (hd : d2 + 1 ≤ d) (ax : At h x (.inr (8, vs))) (call : RQ G mX10_beansIn d2 0 [some (.ref x), some (.int a0), some (.int a1)] [] h Pc) (hP : ∀ o h1, Pc o h1 → (∃ (v : Int32) (f : Nat → Int64), o = .inl (some (.int v)) ∧ At h1 out (.inl (2, 1, .inr (.inl f))) ∧ Q (nI 0) (hset h1 out (.inl (2, 1, .inr (.inl (vp_updL f 0 v.toInt64)))))) ∨ (o = .inr "java/lang/IndexOutOfBoundsException" ∧ Q (nI 1) h1)) : RQ G mL_beansIn d 0 [some (.ref x), some (.int a0), some (.int a1), some (.ref out), none] [] h (Ri Q) := by
  obtain ⟨o1, h1, r1, p1⟩ := call
  refine tL_beansIn_0  (r := ?_)
  refine tL_beansIn_1  (r := ?_)
  refine tL_beansIn_2  (r := ?_)
  refine tL_beansIn_3  (r := ?_)
  refine tL_beansIn_4  (r := ?_)
  rcases hP _ _ p1 with ⟨v, f, rfl, ao, q⟩ | ⟨rfl, q⟩
  · refine tL_beansIn_5 (Q := fun v2 h2 => v2 = v ∧ h2 = h1) (hd := hd) (ha := ax) (call := ⟨_, _, r1, v, rfl, rfl, rfl⟩) (k := ?_)
    rintro _ _ ⟨rfl, rfl⟩
    refine tL_beansIn_8  (r := ?_)
    refine tL_beansIn_9 (ha := (by first | assumption | (repeat (first | assumption | exact At.set_eq2 (by first | omega | (simp only [hset, hnew]; omega) | rfl | decide) | exact At.new_eq2 _ _ (by first | omega | (simp only [hset, hnew]; omega) | rfl | decide) | refine At.set_ne ?_ (by first | omega | (simp only [hset, hnew]; omega) | rfl | decide) | refine At.new_ne ?_)))) (hx := rfl) (hj := (by decide)) (hn := (by decide)) (r := ?_)
    refine tL_beansIn_10 (r := ?_)
    refine tL_beansIn_17  (r := ?_)
    refine tL_beansIn_18  (hP := ?_)
    exact ⟨_, rfl, q⟩
  · refine tL_beansIn_5x0 (Q := fun h2 => h2 = h1) (hd := hd) (ha := ax) (call := ⟨_, _, r1, rfl, rfl⟩) (k := ?_)
    rintro _ rfl
    refine tL_beansIn_15  (r := ?_)
    refine tL_beansIn_16  (hP := ?_)
    exact ⟨_, rfl, q⟩

set_option maxHeartbeats 4000000 in
set_option maxRecDepth 100000 in
theorem w_beansOf {d2 x out : Nat} {a0 : Int32} {vs : List Value} {Pc : OC → AH → Prop} {Q : Int32 → AH → Prop} (hd : d2 + 1 ≤ d) (ax : At h x (.inr (8, vs))) (call : RQ G mX10_beansOf d2 0 [some (.ref x), some (.int a0), none, none] [] h Pc) (hP : ∀ o h1, Pc o h1 → (∃ (v : Int32) (f : Nat → Int64), o = .inl (some (.int v)) ∧ At h1 out (.inl (2, 1, .inr (.inl f))) ∧ Q (nI 0) (hset h1 out (.inl (2, 1, .inr (.inl (vp_updL f 0 v.toInt64)))))) ∨ (o = .inr "java/lang/IndexOutOfBoundsException" ∧ Q (nI 1) h1)) : RQ G mL_beansOf d 0 [some (.ref x), some (.int a0), some (.ref out), none] [] h (Ri Q) := by
  obtain ⟨o1, h1, r1, p1⟩ := call
  refine tL_beansOf_0  (r := ?_)
  refine tL_beansOf_1  (r := ?_)
  refine tL_beansOf_2  (r := ?_)
  refine tL_beansOf_3  (r := ?_)
  rcases hP _ _ p1 with ⟨v, f, rfl, ao, q⟩ | ⟨rfl, q⟩
  · refine tL_beansOf_4 (Q := fun v2 h2 => v2 = v ∧ h2 = h1) (hd := hd) (ha := ax) (call := ⟨_, _, r1, v, rfl, rfl, rfl⟩) (k := ?_)
    rintro _ _ ⟨rfl, rfl⟩
    refine tL_beansOf_7  (r := ?_)
    refine tL_beansOf_8 (ha := (by first | assumption | (repeat (first | assumption | exact At.set_eq2 (by first | omega | (simp only [hset, hnew]; omega) | rfl | decide) | exact At.new_eq2 _ _ (by first | omega | (simp only [hset, hnew]; omega) | rfl | decide) | refine At.set_ne ?_ (by first | omega | (simp only [hset, hnew]; omega) | rfl | decide) | refine At.new_ne ?_)))) (hx := rfl) (hj := (by decide)) (hn := (by decide)) (r := ?_)
    refine tL_beansOf_9 (r := ?_)
    refine tL_beansOf_15  (r := ?_)
    refine tL_beansOf_16  (hP := ?_)
    exact ⟨_, rfl, q⟩
  · refine tL_beansOf_4x0 (Q := fun h2 => h2 = h1) (hd := hd) (ha := ax) (call := ⟨_, _, r1, rfl, rfl⟩) (k := ?_)
    rintro _ rfl
    refine tL_beansOf_13  (r := ?_)
    refine tL_beansOf_14  (hP := ?_)
    exact ⟨_, rfl, q⟩

set_option maxHeartbeats 4000000 in
set_option maxRecDepth 100000 in
theorem w_turnout {d2 x out : Nat} {a0 : Int32} {vs : List Value} {Pc : OC → AH → Prop} {Q : Int32 → AH → Prop} (hd : d2 + 1 ≤ d) (ax : At h x (.inr (8, vs))) (call : RQ G mX10_turnout d2 0 [some (.ref x), some (.int a0)] [] h Pc) (hP : ∀ o h1, Pc o h1 → (∃ (v : Int32) (f : Nat → Int64), o = .inl (some (.int v)) ∧ At h1 out (.inl (2, 1, .inr (.inl f))) ∧ Q (nI 0) (hset h1 out (.inl (2, 1, .inr (.inl (vp_updL f 0 v.toInt64)))))) ∨ (o = .inr "java/lang/IndexOutOfBoundsException" ∧ Q (nI 1) h1)) : RQ G mL_turnout d 0 [some (.ref x), some (.int a0), some (.ref out), none] [] h (Ri Q) := by
  obtain ⟨o1, h1, r1, p1⟩ := call
  refine tL_turnout_0  (r := ?_)
  refine tL_turnout_1  (r := ?_)
  refine tL_turnout_2  (r := ?_)
  refine tL_turnout_3  (r := ?_)
  rcases hP _ _ p1 with ⟨v, f, rfl, ao, q⟩ | ⟨rfl, q⟩
  · refine tL_turnout_4 (Q := fun v2 h2 => v2 = v ∧ h2 = h1) (hd := hd) (ha := ax) (call := ⟨_, _, r1, v, rfl, rfl, rfl⟩) (k := ?_)
    rintro _ _ ⟨rfl, rfl⟩
    refine tL_turnout_7  (r := ?_)
    refine tL_turnout_8 (ha := (by first | assumption | (repeat (first | assumption | exact At.set_eq2 (by first | omega | (simp only [hset, hnew]; omega) | rfl | decide) | exact At.new_eq2 _ _ (by first | omega | (simp only [hset, hnew]; omega) | rfl | decide) | refine At.set_ne ?_ (by first | omega | (simp only [hset, hnew]; omega) | rfl | decide) | refine At.new_ne ?_)))) (hx := rfl) (hj := (by decide)) (hn := (by decide)) (r := ?_)
    refine tL_turnout_9 (r := ?_)
    refine tL_turnout_15  (r := ?_)
    refine tL_turnout_16  (hP := ?_)
    exact ⟨_, rfl, q⟩
  · refine tL_turnout_4x0 (Q := fun h2 => h2 = h1) (hd := hd) (ha := ax) (call := ⟨_, _, r1, rfl, rfl⟩) (k := ?_)
    rintro _ rfl
    refine tL_turnout_13  (r := ?_)
    refine tL_turnout_14  (hP := ?_)
    exact ⟨_, rfl, q⟩

set_option maxHeartbeats 4000000 in
set_option maxRecDepth 100000 in
theorem w_seatsOf {d2 x out : Nat} {a0 : Int32} {vs : List Value} {Pc : OC → AH → Prop} {Q : Int32 → AH → Prop} (hd : d2 + 1 ≤ d) (ax : At h x (.inr (8, vs))) (call : RQ G mX10_seatsOf d2 0 [some (.ref x), some (.int a0)] [] h Pc) (hP : ∀ o h1, Pc o h1 → (∃ (v : Int32) (f : Nat → Int64), o = .inl (some (.int v)) ∧ At h1 out (.inl (2, 1, .inr (.inl f))) ∧ Q (nI 0) (hset h1 out (.inl (2, 1, .inr (.inl (vp_updL f 0 v.toInt64)))))) ∨ (o = .inr "java/lang/IndexOutOfBoundsException" ∧ Q (nI 1) h1)) : RQ G mL_seatsOf d 0 [some (.ref x), some (.int a0), some (.ref out), none] [] h (Ri Q) := by
  obtain ⟨o1, h1, r1, p1⟩ := call
  refine tL_seatsOf_0  (r := ?_)
  refine tL_seatsOf_1  (r := ?_)
  refine tL_seatsOf_2  (r := ?_)
  refine tL_seatsOf_3  (r := ?_)
  rcases hP _ _ p1 with ⟨v, f, rfl, ao, q⟩ | ⟨rfl, q⟩
  · refine tL_seatsOf_4 (Q := fun v2 h2 => v2 = v ∧ h2 = h1) (hd := hd) (ha := ax) (call := ⟨_, _, r1, v, rfl, rfl, rfl⟩) (k := ?_)
    rintro _ _ ⟨rfl, rfl⟩
    refine tL_seatsOf_7  (r := ?_)
    refine tL_seatsOf_8 (ha := (by first | assumption | (repeat (first | assumption | exact At.set_eq2 (by first | omega | (simp only [hset, hnew]; omega) | rfl | decide) | exact At.new_eq2 _ _ (by first | omega | (simp only [hset, hnew]; omega) | rfl | decide) | refine At.set_ne ?_ (by first | omega | (simp only [hset, hnew]; omega) | rfl | decide) | refine At.new_ne ?_)))) (hx := rfl) (hj := (by decide)) (hn := (by decide)) (r := ?_)
    refine tL_seatsOf_9 (r := ?_)
    refine tL_seatsOf_15  (r := ?_)
    refine tL_seatsOf_16  (hP := ?_)
    exact ⟨_, rfl, q⟩
  · refine tL_seatsOf_4x0 (Q := fun h2 => h2 = h1) (hd := hd) (ha := ax) (call := ⟨_, _, r1, rfl, rfl⟩) (k := ?_)
    rintro _ rfl
    refine tL_seatsOf_13  (r := ?_)
    refine tL_seatsOf_14  (hP := ?_)
    exact ⟨_, rfl, q⟩

set_option maxHeartbeats 4000000 in
set_option maxRecDepth 100000 in
theorem w_leaderOf {d2 x out : Nat} {a0 : Int32} {vs : List Value} {Pc : OC → AH → Prop} {Q : Int32 → AH → Prop} (hd : d2 + 1 ≤ d) (ax : At h x (.inr (8, vs))) (call : RQ G mX10_leaderOf d2 0 [some (.ref x), some (.int a0)] [] h Pc) (hP : ∀ o h1, Pc o h1 → (∃ (v : Int32) (f : Nat → Int64), o = .inl (some (.int v)) ∧ At h1 out (.inl (2, 1, .inr (.inl f))) ∧ Q (nI 0) (hset h1 out (.inl (2, 1, .inr (.inl (vp_updL f 0 v.toInt64)))))) ∨ (o = .inr "java/lang/IndexOutOfBoundsException" ∧ Q (nI 1) h1)) : RQ G mL_leaderOf d 0 [some (.ref x), some (.int a0), some (.ref out), none] [] h (Ri Q) := by
  obtain ⟨o1, h1, r1, p1⟩ := call
  refine tL_leaderOf_0  (r := ?_)
  refine tL_leaderOf_1  (r := ?_)
  refine tL_leaderOf_2  (r := ?_)
  refine tL_leaderOf_3  (r := ?_)
  rcases hP _ _ p1 with ⟨v, f, rfl, ao, q⟩ | ⟨rfl, q⟩
  · refine tL_leaderOf_4 (Q := fun v2 h2 => v2 = v ∧ h2 = h1) (hd := hd) (ha := ax) (call := ⟨_, _, r1, v, rfl, rfl, rfl⟩) (k := ?_)
    rintro _ _ ⟨rfl, rfl⟩
    refine tL_leaderOf_7  (r := ?_)
    refine tL_leaderOf_8 (ha := (by first | assumption | (repeat (first | assumption | exact At.set_eq2 (by first | omega | (simp only [hset, hnew]; omega) | rfl | decide) | exact At.new_eq2 _ _ (by first | omega | (simp only [hset, hnew]; omega) | rfl | decide) | refine At.set_ne ?_ (by first | omega | (simp only [hset, hnew]; omega) | rfl | decide) | refine At.new_ne ?_)))) (hx := rfl) (hj := (by decide)) (hn := (by decide)) (r := ?_)
    refine tL_leaderOf_9 (r := ?_)
    refine tL_leaderOf_15  (r := ?_)
    refine tL_leaderOf_16  (hP := ?_)
    exact ⟨_, rfl, q⟩
  · refine tL_leaderOf_4x0 (Q := fun h2 => h2 = h1) (hd := hd) (ha := ax) (call := ⟨_, _, r1, rfl, rfl⟩) (k := ?_)
    rintro _ rfl
    refine tL_leaderOf_13  (r := ?_)
    refine tL_leaderOf_14  (hP := ?_)
    exact ⟨_, rfl, q⟩

set_option maxHeartbeats 4000000 in
set_option maxRecDepth 100000 in
theorem w_areAllied {d2 x out : Nat} {a0 a1 : Int32} {vs : List Value} {Pc : OC → AH → Prop} {Q : Int32 → AH → Prop} (hd : d2 + 1 ≤ d) (ax : At h x (.inr (8, vs))) (call : RQ G mX10_areAllied d2 0 [some (.ref x), some (.int a0), some (.int a1)] [] h Pc) (hP : ∀ o h1, Pc o h1 → (∃ (v : Int32) (f : Nat → Int64), o = .inl (some (.int v)) ∧ (v = nI 0 ∨ v = nI 1) ∧ At h1 out (.inl (2, 1, .inr (.inl f))) ∧ Q (nI 0) (hset h1 out (.inl (2, 1, .inr (.inl (vp_updL f 0 v.toInt64)))))) ∨ (o = .inr "java/lang/IndexOutOfBoundsException" ∧ Q (nI 1) h1)) : RQ G mL_areAllied d 0 [some (.ref x), some (.int a0), some (.int a1), some (.ref out), none] [] h (Ri Q) := by
  obtain ⟨o1, h1, r1, p1⟩ := call
  refine tL_areAllied_0  (r := ?_)
  refine tL_areAllied_1  (r := ?_)
  refine tL_areAllied_2  (r := ?_)
  refine tL_areAllied_3  (r := ?_)
  refine tL_areAllied_4  (r := ?_)
  rcases hP _ _ p1 with ⟨v, f, rfl, hb, ao, q⟩ | ⟨rfl, q⟩
  · refine tL_areAllied_5 (Q := fun v2 h2 => v2 = v ∧ h2 = h1) (hd := hd) (ha := ax) (call := ⟨_, _, r1, v, rfl, rfl, rfl⟩) (k := ?_)
    rintro _ _ ⟨rfl, rfl⟩
    rcases hb with rfl | rfl
    · refine tL_areAllied_8  (kf := fun c_ => by exfalso; (simp (disch := first | omega | decide) only [ci_lt, ci_le, ci_eq, ci_lt0, ci_ge0, ci_gt0, ci_le0, ci_eq0, ci_m1_lt, ci_m1_le, ci_lt_m1, ci_le_m1, ci_eq_m1, ci_m1_eq, not_true, not_false_iff, Nat.not_lt, Nat.not_le] at c_ <;> omega)) (kt := fun _ => ?_)
      refine tL_areAllied_15  (r := ?_)
      refine tL_areAllied_16 (ha := (by first | assumption | (repeat (first | assumption | exact At.set_eq2 (by first | omega | (simp only [hset, hnew]; omega) | rfl | decide) | exact At.new_eq2 _ _ (by first | omega | (simp only [hset, hnew]; omega) | rfl | decide) | refine At.set_ne ?_ (by first | omega | (simp only [hset, hnew]; omega) | rfl | decide) | refine At.new_ne ?_)))) (hx := rfl) (hj := (by decide)) (hn := (by decide)) (r := ?_)
      refine tL_areAllied_17 (r := ?_)
      refine tL_areAllied_24  (r := ?_)
      refine tL_areAllied_25  (hP := ?_)
      exact ⟨_, rfl, q⟩
    · refine tL_areAllied_8  (kt := fun c_ => by exfalso; (simp (disch := first | omega | decide) only [ci_lt, ci_le, ci_eq, ci_lt0, ci_ge0, ci_gt0, ci_le0, ci_eq0, ci_m1_lt, ci_m1_le, ci_lt_m1, ci_le_m1, ci_eq_m1, ci_m1_eq, not_true, not_false_iff, Nat.not_lt, Nat.not_le] at c_ <;> omega)) (kf := fun _ => ?_)
      refine tL_areAllied_11  (r := ?_)
      refine tL_areAllied_12 (r := ?_)
      refine tL_areAllied_16 (ha := (by first | assumption | (repeat (first | assumption | exact At.set_eq2 (by first | omega | (simp only [hset, hnew]; omega) | rfl | decide) | exact At.new_eq2 _ _ (by first | omega | (simp only [hset, hnew]; omega) | rfl | decide) | refine At.set_ne ?_ (by first | omega | (simp only [hset, hnew]; omega) | rfl | decide) | refine At.new_ne ?_)))) (hx := rfl) (hj := (by decide)) (hn := (by decide)) (r := ?_)
      refine tL_areAllied_17 (r := ?_)
      refine tL_areAllied_24  (r := ?_)
      refine tL_areAllied_25  (hP := ?_)
      exact ⟨_, rfl, q⟩
  · refine tL_areAllied_5x0 (Q := fun h2 => h2 = h1) (hd := hd) (ha := ax) (call := ⟨_, _, r1, rfl, rfl⟩) (k := ?_)
    rintro _ rfl
    refine tL_areAllied_22  (r := ?_)
    refine tL_areAllied_23  (hP := ?_)
    exact ⟨_, rfl, q⟩

set_option maxHeartbeats 4000000 in
set_option maxRecDepth 100000 in
theorem w_firstIn {d2 x out : Nat} {a0 : Int32} {vs : List Value} {Pc : OC → AH → Prop} {Q : Int32 → AH → Prop} (hd : d2 + 1 ≤ d) (ax : At h x (.inr (8, vs))) (call : RQ G mX10_firstIn d2 0 [some (.ref x), some (.int a0)] [] h Pc) (hP : ∀ o h1, Pc o h1 → (∃ (v : Int32) (f : Nat → Int64), o = .inl (some (.int v)) ∧ At h1 out (.inl (2, 1, .inr (.inl f))) ∧ Q (nI 0) (hset h1 out (.inl (2, 1, .inr (.inl (vp_updL f 0 v.toInt64)))))) ∨ (o = .inr "java/lang/IndexOutOfBoundsException" ∧ Q (nI 1) h1)) : RQ G mL_firstIn d 0 [some (.ref x), some (.int a0), some (.ref out), none] [] h (Ri Q) := by
  obtain ⟨o1, h1, r1, p1⟩ := call
  refine tL_firstIn_0  (r := ?_)
  refine tL_firstIn_1  (r := ?_)
  refine tL_firstIn_2  (r := ?_)
  refine tL_firstIn_3  (r := ?_)
  rcases hP _ _ p1 with ⟨v, f, rfl, ao, q⟩ | ⟨rfl, q⟩
  · refine tL_firstIn_4 (Q := fun v2 h2 => v2 = v ∧ h2 = h1) (hd := hd) (ha := ax) (call := ⟨_, _, r1, v, rfl, rfl, rfl⟩) (k := ?_)
    rintro _ _ ⟨rfl, rfl⟩
    refine tL_firstIn_7  (r := ?_)
    refine tL_firstIn_8 (ha := (by first | assumption | (repeat (first | assumption | exact At.set_eq2 (by first | omega | (simp only [hset, hnew]; omega) | rfl | decide) | exact At.new_eq2 _ _ (by first | omega | (simp only [hset, hnew]; omega) | rfl | decide) | refine At.set_ne ?_ (by first | omega | (simp only [hset, hnew]; omega) | rfl | decide) | refine At.new_ne ?_)))) (hx := rfl) (hj := (by decide)) (hn := (by decide)) (r := ?_)
    refine tL_firstIn_9 (r := ?_)
    refine tL_firstIn_15  (r := ?_)
    refine tL_firstIn_16  (hP := ?_)
    exact ⟨_, rfl, q⟩
  · refine tL_firstIn_4x0 (Q := fun h2 => h2 = h1) (hd := hd) (ha := ax) (call := ⟨_, _, r1, rfl, rfl⟩) (k := ?_)
    rintro _ rfl
    refine tL_firstIn_13  (r := ?_)
    refine tL_firstIn_14  (hP := ?_)
    exact ⟨_, rfl, q⟩

set_option maxHeartbeats 4000000 in
set_option maxRecDepth 100000 in
theorem w_marginIn {d2 x out : Nat} {a0 : Int32} {vs : List Value} {Pc : OC → AH → Prop} {Q : Int32 → AH → Prop} (hd : d2 + 1 ≤ d) (ax : At h x (.inr (8, vs))) (call : RQ G mX10_marginIn d2 0 [some (.ref x), some (.int a0)] [] h Pc) (hP : ∀ o h1, Pc o h1 → (∃ (v : Int32) (f : Nat → Int64), o = .inl (some (.int v)) ∧ At h1 out (.inl (2, 1, .inr (.inl f))) ∧ Q (nI 0) (hset h1 out (.inl (2, 1, .inr (.inl (vp_updL f 0 v.toInt64)))))) ∨ (o = .inr "java/lang/IndexOutOfBoundsException" ∧ Q (nI 1) h1)) : RQ G mL_marginIn d 0 [some (.ref x), some (.int a0), some (.ref out), none] [] h (Ri Q) := by
  obtain ⟨o1, h1, r1, p1⟩ := call
  refine tL_marginIn_0  (r := ?_)
  refine tL_marginIn_1  (r := ?_)
  refine tL_marginIn_2  (r := ?_)
  refine tL_marginIn_3  (r := ?_)
  rcases hP _ _ p1 with ⟨v, f, rfl, ao, q⟩ | ⟨rfl, q⟩
  · refine tL_marginIn_4 (Q := fun v2 h2 => v2 = v ∧ h2 = h1) (hd := hd) (ha := ax) (call := ⟨_, _, r1, v, rfl, rfl, rfl⟩) (k := ?_)
    rintro _ _ ⟨rfl, rfl⟩
    refine tL_marginIn_7  (r := ?_)
    refine tL_marginIn_8 (ha := (by first | assumption | (repeat (first | assumption | exact At.set_eq2 (by first | omega | (simp only [hset, hnew]; omega) | rfl | decide) | exact At.new_eq2 _ _ (by first | omega | (simp only [hset, hnew]; omega) | rfl | decide) | refine At.set_ne ?_ (by first | omega | (simp only [hset, hnew]; omega) | rfl | decide) | refine At.new_ne ?_)))) (hx := rfl) (hj := (by decide)) (hn := (by decide)) (r := ?_)
    refine tL_marginIn_9 (r := ?_)
    refine tL_marginIn_15  (r := ?_)
    refine tL_marginIn_16  (hP := ?_)
    exact ⟨_, rfl, q⟩
  · refine tL_marginIn_4x0 (Q := fun h2 => h2 = h1) (hd := hd) (ha := ax) (call := ⟨_, _, r1, rfl, rfl⟩) (k := ?_)
    rintro _ rfl
    refine tL_marginIn_13  (r := ?_)
    refine tL_marginIn_14  (hP := ?_)
    exact ⟨_, rfl, q⟩

set_option maxHeartbeats 4000000 in
set_option maxRecDepth 100000 in
theorem w_allianceBeans {d2 x out : Nat} {a0 a1 : Int32} {vs : List Value} {Pc : OC → AH → Prop} {Q : Int32 → AH → Prop} (hd : d2 + 1 ≤ d) (ax : At h x (.inr (8, vs))) (call : RQ G mX10_allianceBeans d2 0 [some (.ref x), some (.int a0), some (.int a1)] [] h Pc) (hP : ∀ o h1, Pc o h1 → (∃ (v : Int32) (f : Nat → Int64), o = .inl (some (.int v)) ∧ At h1 out (.inl (2, 1, .inr (.inl f))) ∧ Q (nI 0) (hset h1 out (.inl (2, 1, .inr (.inl (vp_updL f 0 v.toInt64)))))) ∨ (o = .inr "java/lang/IndexOutOfBoundsException" ∧ Q (nI 1) h1)) : RQ G mL_allianceBeans d 0 [some (.ref x), some (.int a0), some (.int a1), some (.ref out), none] [] h (Ri Q) := by
  obtain ⟨o1, h1, r1, p1⟩ := call
  refine tL_allianceBeans_0  (r := ?_)
  refine tL_allianceBeans_1  (r := ?_)
  refine tL_allianceBeans_2  (r := ?_)
  refine tL_allianceBeans_3  (r := ?_)
  refine tL_allianceBeans_4  (r := ?_)
  rcases hP _ _ p1 with ⟨v, f, rfl, ao, q⟩ | ⟨rfl, q⟩
  · refine tL_allianceBeans_5 (Q := fun v2 h2 => v2 = v ∧ h2 = h1) (hd := hd) (ha := ax) (call := ⟨_, _, r1, v, rfl, rfl, rfl⟩) (k := ?_)
    rintro _ _ ⟨rfl, rfl⟩
    refine tL_allianceBeans_8  (r := ?_)
    refine tL_allianceBeans_9 (ha := (by first | assumption | (repeat (first | assumption | exact At.set_eq2 (by first | omega | (simp only [hset, hnew]; omega) | rfl | decide) | exact At.new_eq2 _ _ (by first | omega | (simp only [hset, hnew]; omega) | rfl | decide) | refine At.set_ne ?_ (by first | omega | (simp only [hset, hnew]; omega) | rfl | decide) | refine At.new_ne ?_)))) (hx := rfl) (hj := (by decide)) (hn := (by decide)) (r := ?_)
    refine tL_allianceBeans_10 (r := ?_)
    refine tL_allianceBeans_17  (r := ?_)
    refine tL_allianceBeans_18  (hP := ?_)
    exact ⟨_, rfl, q⟩
  · refine tL_allianceBeans_5x0 (Q := fun h2 => h2 = h1) (hd := hd) (ha := ax) (call := ⟨_, _, r1, rfl, rfl⟩) (k := ?_)
    rintro _ rfl
    refine tL_allianceBeans_15  (r := ?_)
    refine tL_allianceBeans_16  (hP := ?_)
    exact ⟨_, rfl, q⟩

set_option maxHeartbeats 4000000 in
set_option maxRecDepth 100000 in
theorem w_seatsWon {d2 x out : Nat} {a0 a1 : Int32} {vs : List Value} {Pc : OC → AH → Prop} {Q : Int32 → AH → Prop} (hd : d2 + 1 ≤ d) (ax : At h x (.inr (8, vs))) (call : RQ G mX10_seatsWon d2 0 [some (.ref x), some (.int a0), some (.int a1)] [] h Pc) (hP : ∀ o h1, Pc o h1 → (∃ (v : Int32) (f : Nat → Int64), o = .inl (some (.int v)) ∧ At h1 out (.inl (2, 1, .inr (.inl f))) ∧ Q (nI 0) (hset h1 out (.inl (2, 1, .inr (.inl (vp_updL f 0 v.toInt64)))))) ∨ (o = .inr "java/lang/IndexOutOfBoundsException" ∧ Q (nI 1) h1)) : RQ G mL_seatsWon d 0 [some (.ref x), some (.int a0), some (.int a1), some (.ref out), none] [] h (Ri Q) := by
  obtain ⟨o1, h1, r1, p1⟩ := call
  refine tL_seatsWon_0  (r := ?_)
  refine tL_seatsWon_1  (r := ?_)
  refine tL_seatsWon_2  (r := ?_)
  refine tL_seatsWon_3  (r := ?_)
  refine tL_seatsWon_4  (r := ?_)
  rcases hP _ _ p1 with ⟨v, f, rfl, ao, q⟩ | ⟨rfl, q⟩
  · refine tL_seatsWon_5 (Q := fun v2 h2 => v2 = v ∧ h2 = h1) (hd := hd) (ha := ax) (call := ⟨_, _, r1, v, rfl, rfl, rfl⟩) (k := ?_)
    rintro _ _ ⟨rfl, rfl⟩
    refine tL_seatsWon_8  (r := ?_)
    refine tL_seatsWon_9 (ha := (by first | assumption | (repeat (first | assumption | exact At.set_eq2 (by first | omega | (simp only [hset, hnew]; omega) | rfl | decide) | exact At.new_eq2 _ _ (by first | omega | (simp only [hset, hnew]; omega) | rfl | decide) | refine At.set_ne ?_ (by first | omega | (simp only [hset, hnew]; omega) | rfl | decide) | refine At.new_ne ?_)))) (hx := rfl) (hj := (by decide)) (hn := (by decide)) (r := ?_)
    refine tL_seatsWon_10 (r := ?_)
    refine tL_seatsWon_17  (r := ?_)
    refine tL_seatsWon_18  (hP := ?_)
    exact ⟨_, rfl, q⟩
  · refine tL_seatsWon_5x0 (Q := fun h2 => h2 = h1) (hd := hd) (ha := ax) (call := ⟨_, _, r1, rfl, rfl⟩) (k := ?_)
    rintro _ rfl
    refine tL_seatsWon_15  (r := ?_)
    refine tL_seatsWon_16  (hP := ?_)
    exact ⟨_, rfl, q⟩

set_option maxHeartbeats 4000000 in
set_option maxRecDepth 100000 in
theorem w_emptySeats {d2 x out : Nat} {a0 : Int32} {vs : List Value} {Pc : OC → AH → Prop} {Q : Int32 → AH → Prop} (hd : d2 + 1 ≤ d) (ax : At h x (.inr (8, vs))) (call : RQ G mX10_emptySeats d2 0 [some (.ref x), some (.int a0)] [] h Pc) (hP : ∀ o h1, Pc o h1 → (∃ (v : Int32) (f : Nat → Int64), o = .inl (some (.int v)) ∧ At h1 out (.inl (2, 1, .inr (.inl f))) ∧ Q (nI 0) (hset h1 out (.inl (2, 1, .inr (.inl (vp_updL f 0 v.toInt64)))))) ∨ (o = .inr "java/lang/IndexOutOfBoundsException" ∧ Q (nI 1) h1)) : RQ G mL_emptySeats d 0 [some (.ref x), some (.int a0), some (.ref out), none] [] h (Ri Q) := by
  obtain ⟨o1, h1, r1, p1⟩ := call
  refine tL_emptySeats_0  (r := ?_)
  refine tL_emptySeats_1  (r := ?_)
  refine tL_emptySeats_2  (r := ?_)
  refine tL_emptySeats_3  (r := ?_)
  rcases hP _ _ p1 with ⟨v, f, rfl, ao, q⟩ | ⟨rfl, q⟩
  · refine tL_emptySeats_4 (Q := fun v2 h2 => v2 = v ∧ h2 = h1) (hd := hd) (ha := ax) (call := ⟨_, _, r1, v, rfl, rfl, rfl⟩) (k := ?_)
    rintro _ _ ⟨rfl, rfl⟩
    refine tL_emptySeats_7  (r := ?_)
    refine tL_emptySeats_8 (ha := (by first | assumption | (repeat (first | assumption | exact At.set_eq2 (by first | omega | (simp only [hset, hnew]; omega) | rfl | decide) | exact At.new_eq2 _ _ (by first | omega | (simp only [hset, hnew]; omega) | rfl | decide) | refine At.set_ne ?_ (by first | omega | (simp only [hset, hnew]; omega) | rfl | decide) | refine At.new_ne ?_)))) (hx := rfl) (hj := (by decide)) (hn := (by decide)) (r := ?_)
    refine tL_emptySeats_9 (r := ?_)
    refine tL_emptySeats_15  (r := ?_)
    refine tL_emptySeats_16  (hP := ?_)
    exact ⟨_, rfl, q⟩
  · refine tL_emptySeats_4x0 (Q := fun h2 => h2 = h1) (hd := hd) (ha := ax) (call := ⟨_, _, r1, rfl, rfl⟩) (k := ?_)
    rintro _ rfl
    refine tL_emptySeats_13  (r := ?_)
    refine tL_emptySeats_14  (hP := ?_)
    exact ⟨_, rfl, q⟩

set_option maxHeartbeats 4000000 in
set_option maxRecDepth 100000 in
theorem w_seatsInAll {d2 x out : Nat} {a0 : Int32} {vs : List Value} {Pc : OC → AH → Prop} {Q : Int32 → AH → Prop} (hd : d2 + 1 ≤ d) (ax : At h x (.inr (8, vs))) (call : RQ G mX10_seatsInAll d2 0 [some (.ref x), some (.int a0)] [] h Pc) (hP : ∀ o h1, Pc o h1 → (∃ (v : Int32) (f : Nat → Int64), o = .inl (some (.int v)) ∧ At h1 out (.inl (2, 1, .inr (.inl f))) ∧ Q (nI 0) (hset h1 out (.inl (2, 1, .inr (.inl (vp_updL f 0 v.toInt64)))))) ∨ (o = .inr "java/lang/IndexOutOfBoundsException" ∧ Q (nI 1) h1)) : RQ G mL_seatsInAll d 0 [some (.ref x), some (.int a0), some (.ref out), none] [] h (Ri Q) := by
  obtain ⟨o1, h1, r1, p1⟩ := call
  refine tL_seatsInAll_0  (r := ?_)
  refine tL_seatsInAll_1  (r := ?_)
  refine tL_seatsInAll_2  (r := ?_)
  refine tL_seatsInAll_3  (r := ?_)
  rcases hP _ _ p1 with ⟨v, f, rfl, ao, q⟩ | ⟨rfl, q⟩
  · refine tL_seatsInAll_4 (Q := fun v2 h2 => v2 = v ∧ h2 = h1) (hd := hd) (ha := ax) (call := ⟨_, _, r1, v, rfl, rfl, rfl⟩) (k := ?_)
    rintro _ _ ⟨rfl, rfl⟩
    refine tL_seatsInAll_7  (r := ?_)
    refine tL_seatsInAll_8 (ha := (by first | assumption | (repeat (first | assumption | exact At.set_eq2 (by first | omega | (simp only [hset, hnew]; omega) | rfl | decide) | exact At.new_eq2 _ _ (by first | omega | (simp only [hset, hnew]; omega) | rfl | decide) | refine At.set_ne ?_ (by first | omega | (simp only [hset, hnew]; omega) | rfl | decide) | refine At.new_ne ?_)))) (hx := rfl) (hj := (by decide)) (hn := (by decide)) (r := ?_)
    refine tL_seatsInAll_9 (r := ?_)
    refine tL_seatsInAll_15  (r := ?_)
    refine tL_seatsInAll_16  (hP := ?_)
    exact ⟨_, rfl, q⟩
  · refine tL_seatsInAll_4x0 (Q := fun h2 => h2 = h1) (hd := hd) (ha := ax) (call := ⟨_, _, r1, rfl, rfl⟩) (k := ?_)
    rintro _ rfl
    refine tL_seatsInAll_13  (r := ?_)
    refine tL_seatsInAll_14  (hP := ?_)
    exact ⟨_, rfl, q⟩

set_option maxHeartbeats 4000000 in
set_option maxRecDepth 100000 in
theorem w_hasMajority {d2 x out : Nat} {a0 : Int32} {vs : List Value} {Pc : OC → AH → Prop} {Q : Int32 → AH → Prop} (hd : d2 + 1 ≤ d) (ax : At h x (.inr (8, vs))) (call : RQ G mX10_hasMajority d2 0 [some (.ref x), some (.int a0)] [] h Pc) (hP : ∀ o h1, Pc o h1 → (∃ (v : Int32) (f : Nat → Int64), o = .inl (some (.int v)) ∧ (v = nI 0 ∨ v = nI 1) ∧ At h1 out (.inl (2, 1, .inr (.inl f))) ∧ Q (nI 0) (hset h1 out (.inl (2, 1, .inr (.inl (vp_updL f 0 v.toInt64)))))) ∨ (o = .inr "java/lang/IndexOutOfBoundsException" ∧ Q (nI 1) h1)) : RQ G mL_hasMajority d 0 [some (.ref x), some (.int a0), some (.ref out), none] [] h (Ri Q) := by
  obtain ⟨o1, h1, r1, p1⟩ := call
  refine tL_hasMajority_0  (r := ?_)
  refine tL_hasMajority_1  (r := ?_)
  refine tL_hasMajority_2  (r := ?_)
  refine tL_hasMajority_3  (r := ?_)
  rcases hP _ _ p1 with ⟨v, f, rfl, hb, ao, q⟩ | ⟨rfl, q⟩
  · refine tL_hasMajority_4 (Q := fun v2 h2 => v2 = v ∧ h2 = h1) (hd := hd) (ha := ax) (call := ⟨_, _, r1, v, rfl, rfl, rfl⟩) (k := ?_)
    rintro _ _ ⟨rfl, rfl⟩
    rcases hb with rfl | rfl
    · refine tL_hasMajority_7  (kf := fun c_ => by exfalso; (simp (disch := first | omega | decide) only [ci_lt, ci_le, ci_eq, ci_lt0, ci_ge0, ci_gt0, ci_le0, ci_eq0, ci_m1_lt, ci_m1_le, ci_lt_m1, ci_le_m1, ci_eq_m1, ci_m1_eq, not_true, not_false_iff, Nat.not_lt, Nat.not_le] at c_ <;> omega)) (kt := fun _ => ?_)
      refine tL_hasMajority_14  (r := ?_)
      refine tL_hasMajority_15 (ha := (by first | assumption | (repeat (first | assumption | exact At.set_eq2 (by first | omega | (simp only [hset, hnew]; omega) | rfl | decide) | exact At.new_eq2 _ _ (by first | omega | (simp only [hset, hnew]; omega) | rfl | decide) | refine At.set_ne ?_ (by first | omega | (simp only [hset, hnew]; omega) | rfl | decide) | refine At.new_ne ?_)))) (hx := rfl) (hj := (by decide)) (hn := (by decide)) (r := ?_)
      refine tL_hasMajority_16 (r := ?_)
      refine tL_hasMajority_22  (r := ?_)
      refine tL_hasMajority_23  (hP := ?_)
      exact ⟨_, rfl, q⟩
    · refine tL_hasMajority_7  (kt := fun c_ => by exfalso; (simp (disch := first | omega | decide) only [ci_lt, ci_le, ci_eq, ci_lt0, ci_ge0, ci_gt0, ci_le0, ci_eq0, ci_m1_lt, ci_m1_le, ci_lt_m1, ci_le_m1, ci_eq_m1, ci_m1_eq, not_true, not_false_iff, Nat.not_lt, Nat.not_le] at c_ <;> omega)) (kf := fun _ => ?_)
      refine tL_hasMajority_10  (r := ?_)
      refine tL_hasMajority_11 (r := ?_)
      refine tL_hasMajority_15 (ha := (by first | assumption | (repeat (first | assumption | exact At.set_eq2 (by first | omega | (simp only [hset, hnew]; omega) | rfl | decide) | exact At.new_eq2 _ _ (by first | omega | (simp only [hset, hnew]; omega) | rfl | decide) | refine At.set_ne ?_ (by first | omega | (simp only [hset, hnew]; omega) | rfl | decide) | refine At.new_ne ?_)))) (hx := rfl) (hj := (by decide)) (hn := (by decide)) (r := ?_)
      refine tL_hasMajority_16 (r := ?_)
      refine tL_hasMajority_22  (r := ?_)
      refine tL_hasMajority_23  (hP := ?_)
      exact ⟨_, rfl, q⟩
  · refine tL_hasMajority_4x0 (Q := fun h2 => h2 = h1) (hd := hd) (ha := ax) (call := ⟨_, _, r1, rfl, rfl⟩) (k := ?_)
    rintro _ rfl
    refine tL_hasMajority_20  (r := ?_)
    refine tL_hasMajority_21  (hP := ?_)
    exact ⟨_, rfl, q⟩

set_option maxHeartbeats 4000000 in
set_option maxRecDepth 100000 in
theorem w_jarOfLid {d2 x out : Nat} {a0 : Int32} {vs : List Value} {Pc : OC → AH → Prop} {Q : Int32 → AH → Prop} (hd : d2 + 1 ≤ d) (ax : At h x (.inr (8, vs))) (call : RQ G mX10_jarOfLid d2 0 [some (.ref x), some (.int a0)] [] h Pc) (hP : ∀ o h1, Pc o h1 → (∃ (v : Int32) (f : Nat → Int64), o = .inl (some (.int v)) ∧ At h1 out (.inl (2, 1, .inr (.inl f))) ∧ Q (nI 0) (hset h1 out (.inl (2, 1, .inr (.inl (vp_updL f 0 v.toInt64)))))) ∨ (o = .inr "java/lang/IndexOutOfBoundsException" ∧ Q (nI 1) h1)) : RQ G mL_jarOfLid d 0 [some (.ref x), some (.int a0), some (.ref out), none] [] h (Ri Q) := by
  obtain ⟨o1, h1, r1, p1⟩ := call
  refine tL_jarOfLid_0  (r := ?_)
  refine tL_jarOfLid_1  (r := ?_)
  refine tL_jarOfLid_2  (r := ?_)
  refine tL_jarOfLid_3  (r := ?_)
  rcases hP _ _ p1 with ⟨v, f, rfl, ao, q⟩ | ⟨rfl, q⟩
  · refine tL_jarOfLid_4 (Q := fun v2 h2 => v2 = v ∧ h2 = h1) (hd := hd) (ha := ax) (call := ⟨_, _, r1, v, rfl, rfl, rfl⟩) (k := ?_)
    rintro _ _ ⟨rfl, rfl⟩
    refine tL_jarOfLid_7  (r := ?_)
    refine tL_jarOfLid_8 (ha := (by first | assumption | (repeat (first | assumption | exact At.set_eq2 (by first | omega | (simp only [hset, hnew]; omega) | rfl | decide) | exact At.new_eq2 _ _ (by first | omega | (simp only [hset, hnew]; omega) | rfl | decide) | refine At.set_ne ?_ (by first | omega | (simp only [hset, hnew]; omega) | rfl | decide) | refine At.new_ne ?_)))) (hx := rfl) (hj := (by decide)) (hn := (by decide)) (r := ?_)
    refine tL_jarOfLid_9 (r := ?_)
    refine tL_jarOfLid_15  (r := ?_)
    refine tL_jarOfLid_16  (hP := ?_)
    exact ⟨_, rfl, q⟩
  · refine tL_jarOfLid_4x0 (Q := fun h2 => h2 = h1) (hd := hd) (ha := ax) (call := ⟨_, _, r1, rfl, rfl⟩) (k := ?_)
    rintro _ rfl
    refine tL_jarOfLid_13  (r := ?_)
    refine tL_jarOfLid_14  (hP := ?_)
    exact ⟨_, rfl, q⟩

set_option maxHeartbeats 4000000 in
set_option maxRecDepth 100000 in
theorem w_labelOfLid {d2 x out : Nat} {a0 : Int32} {vs : List Value} {Pc : OC → AH → Prop} {Q : Int32 → AH → Prop} (hd : d2 + 1 ≤ d) (ax : At h x (.inr (8, vs))) (call : RQ G mX10_labelOfLid d2 0 [some (.ref x), some (.int a0)] [] h Pc) (hP : ∀ o h1, Pc o h1 → (∃ (v : Int32) (f : Nat → Int64), o = .inl (some (.int v)) ∧ At h1 out (.inl (2, 1, .inr (.inl f))) ∧ Q (nI 0) (hset h1 out (.inl (2, 1, .inr (.inl (vp_updL f 0 v.toInt64)))))) ∨ (o = .inr "java/lang/IndexOutOfBoundsException" ∧ Q (nI 1) h1)) : RQ G mL_labelOfLid d 0 [some (.ref x), some (.int a0), some (.ref out), none] [] h (Ri Q) := by
  obtain ⟨o1, h1, r1, p1⟩ := call
  refine tL_labelOfLid_0  (r := ?_)
  refine tL_labelOfLid_1  (r := ?_)
  refine tL_labelOfLid_2  (r := ?_)
  refine tL_labelOfLid_3  (r := ?_)
  rcases hP _ _ p1 with ⟨v, f, rfl, ao, q⟩ | ⟨rfl, q⟩
  · refine tL_labelOfLid_4 (Q := fun v2 h2 => v2 = v ∧ h2 = h1) (hd := hd) (ha := ax) (call := ⟨_, _, r1, v, rfl, rfl, rfl⟩) (k := ?_)
    rintro _ _ ⟨rfl, rfl⟩
    refine tL_labelOfLid_7  (r := ?_)
    refine tL_labelOfLid_8 (ha := (by first | assumption | (repeat (first | assumption | exact At.set_eq2 (by first | omega | (simp only [hset, hnew]; omega) | rfl | decide) | exact At.new_eq2 _ _ (by first | omega | (simp only [hset, hnew]; omega) | rfl | decide) | refine At.set_ne ?_ (by first | omega | (simp only [hset, hnew]; omega) | rfl | decide) | refine At.new_ne ?_)))) (hx := rfl) (hj := (by decide)) (hn := (by decide)) (r := ?_)
    refine tL_labelOfLid_9 (r := ?_)
    refine tL_labelOfLid_15  (r := ?_)
    refine tL_labelOfLid_16  (hP := ?_)
    exact ⟨_, rfl, q⟩
  · refine tL_labelOfLid_4x0 (Q := fun h2 => h2 = h1) (hd := hd) (ha := ax) (call := ⟨_, _, r1, rfl, rfl⟩) (k := ?_)
    rintro _ rfl
    refine tL_labelOfLid_13  (r := ?_)
    refine tL_labelOfLid_14  (hP := ?_)
    exact ⟨_, rfl, q⟩

set_option maxHeartbeats 4000000 in
set_option maxRecDepth 100000 in
theorem w_ruleOfLid {d2 x out : Nat} {a0 : Int32} {vs : List Value} {Pc : OC → AH → Prop} {Q : Int32 → AH → Prop} (hd : d2 + 1 ≤ d) (ax : At h x (.inr (8, vs))) (call : RQ G mX10_ruleOfLid d2 0 [some (.ref x), some (.int a0), none] [] h Pc) (hP : ∀ o h1, Pc o h1 → (∃ (v : Int32) (f : Nat → Int64), o = .inl (some (.int v)) ∧ At h1 out (.inl (2, 1, .inr (.inl f))) ∧ Q (nI 0) (hset h1 out (.inl (2, 1, .inr (.inl (vp_updL f 0 v.toInt64)))))) ∨ (o = .inr "java/lang/IndexOutOfBoundsException" ∧ Q (nI 1) h1)) : RQ G mL_ruleOfLid d 0 [some (.ref x), some (.int a0), some (.ref out), none] [] h (Ri Q) := by
  obtain ⟨o1, h1, r1, p1⟩ := call
  refine tL_ruleOfLid_0  (r := ?_)
  refine tL_ruleOfLid_1  (r := ?_)
  refine tL_ruleOfLid_2  (r := ?_)
  refine tL_ruleOfLid_3  (r := ?_)
  rcases hP _ _ p1 with ⟨v, f, rfl, ao, q⟩ | ⟨rfl, q⟩
  · refine tL_ruleOfLid_4 (Q := fun v2 h2 => v2 = v ∧ h2 = h1) (hd := hd) (ha := ax) (call := ⟨_, _, r1, v, rfl, rfl, rfl⟩) (k := ?_)
    rintro _ _ ⟨rfl, rfl⟩
    refine tL_ruleOfLid_7  (r := ?_)
    refine tL_ruleOfLid_8 (ha := (by first | assumption | (repeat (first | assumption | exact At.set_eq2 (by first | omega | (simp only [hset, hnew]; omega) | rfl | decide) | exact At.new_eq2 _ _ (by first | omega | (simp only [hset, hnew]; omega) | rfl | decide) | refine At.set_ne ?_ (by first | omega | (simp only [hset, hnew]; omega) | rfl | decide) | refine At.new_ne ?_)))) (hx := rfl) (hj := (by decide)) (hn := (by decide)) (r := ?_)
    refine tL_ruleOfLid_9 (r := ?_)
    refine tL_ruleOfLid_15  (r := ?_)
    refine tL_ruleOfLid_16  (hP := ?_)
    exact ⟨_, rfl, q⟩
  · refine tL_ruleOfLid_4x0 (Q := fun h2 => h2 = h1) (hd := hd) (ha := ax) (call := ⟨_, _, r1, rfl, rfl⟩) (k := ?_)
    rintro _ rfl
    refine tL_ruleOfLid_13  (r := ?_)
    refine tL_ruleOfLid_14  (hP := ?_)
    exact ⟨_, rfl, q⟩

set_option maxHeartbeats 4000000 in
set_option maxRecDepth 100000 in
theorem w_pour {d2 x out : Nat} {a0 a1 a2 a3 : Int32} {vs : List Value} {Pc : OC → AH → Prop} {Q : Int32 → AH → Prop} (hd : d2 + 1 ≤ d) (ax : At h x (.inr (8, vs))) (call : RQ G mX10_pour d2 0 [some (.ref x), some (.int a0), some (.int a1), some (.int a2), some (.int a3)] [] h Pc) (hP : ∀ o h1, Pc o h1 → (∃ (v : Int32) (f : Nat → Int64), o = .inl (some (.int v)) ∧ At h1 out (.inl (2, 1, .inr (.inl f))) ∧ Q (nI 0) (hset h1 out (.inl (2, 1, .inr (.inl (vp_updL f 0 v.toInt64)))))) ∨ (o = .inr "java/lang/IndexOutOfBoundsException" ∧ Q (nI 1) h1) ∨ (o = .inr "java/lang/IllegalArgumentException" ∧ Q (nI 2) h1)) : RQ G mL_pour d 0 [some (.ref x), some (.int a0), some (.int a1), some (.int a2), some (.int a3), some (.ref out), none] [] h (Ri Q) := by
  obtain ⟨o1, h1, r1, p1⟩ := call
  refine tL_pour_0  (r := ?_)
  refine tL_pour_2  (r := ?_)
  refine tL_pour_3  (r := ?_)
  refine tL_pour_4  (r := ?_)
  refine tL_pour_5  (r := ?_)
  refine tL_pour_6  (r := ?_)
  refine tL_pour_7  (r := ?_)
  rcases hP _ _ p1 with ⟨v, f, rfl, ao, q⟩ | ⟨rfl, q⟩ | ⟨rfl, q⟩
  · refine tL_pour_9 (Q := fun v2 h2 => v2 = v ∧ h2 = h1) (hd := hd) (ha := ax) (call := ⟨_, _, r1, v, rfl, rfl, rfl⟩) (k := ?_)
    rintro _ _ ⟨rfl, rfl⟩
    refine tL_pour_12  (r := ?_)
    refine tL_pour_13 (ha := (by first | assumption | (repeat (first | assumption | exact At.set_eq2 (by first | omega | (simp only [hset, hnew]; omega) | rfl | decide) | exact At.new_eq2 _ _ (by first | omega | (simp only [hset, hnew]; omega) | rfl | decide) | refine At.set_ne ?_ (by first | omega | (simp only [hset, hnew]; omega) | rfl | decide) | refine At.new_ne ?_)))) (hx := rfl) (hj := (by decide)) (hn := (by decide)) (r := ?_)
    refine tL_pour_14 (r := ?_)
    refine tL_pour_25  (r := ?_)
    refine tL_pour_26  (hP := ?_)
    exact ⟨_, rfl, q⟩
  · refine tL_pour_9x0 (Q := fun h2 => h2 = h1) (hd := hd) (ha := ax) (call := ⟨_, _, r1, rfl, rfl⟩) (k := ?_)
    rintro _ rfl
    refine tL_pour_19  (r := ?_)
    refine tL_pour_20  (hP := ?_)
    exact ⟨_, rfl, q⟩
  · refine tL_pour_9x1 (Q := fun h2 => h2 = h1) (hd := hd) (ha := ax) (call := ⟨_, _, r1, rfl, rfl⟩) (k := ?_)
    rintro _ rfl
    refine tL_pour_23  (r := ?_)
    refine tL_pour_24  (hP := ?_)
    exact ⟨_, rfl, q⟩

set_option maxHeartbeats 4000000 in
set_option maxRecDepth 100000 in
theorem w_shake {d2 x out : Nat} {a0 : Int32} {vs : List Value} {Pc : OC → AH → Prop} {Q : Int32 → AH → Prop} (hd : d2 + 1 ≤ d) (ax : At h x (.inr (8, vs))) (call : RQ G mX10_shake d2 0 [some (.ref x), some (.int a0)] [] h Pc) (hP : ∀ o h1, Pc o h1 → (∃ (v : Int32) (f : Nat → Int64), o = .inl (some (.int v)) ∧ At h1 out (.inl (2, 1, .inr (.inl f))) ∧ Q (nI 0) (hset h1 out (.inl (2, 1, .inr (.inl (vp_updL f 0 v.toInt64)))))) ∨ (o = .inr "java/lang/IndexOutOfBoundsException" ∧ Q (nI 1) h1)) : RQ G mL_shake d 0 [some (.ref x), some (.int a0), some (.ref out), none] [] h (Ri Q) := by
  obtain ⟨o1, h1, r1, p1⟩ := call
  refine tL_shake_0  (r := ?_)
  refine tL_shake_1  (r := ?_)
  refine tL_shake_2  (r := ?_)
  refine tL_shake_3  (r := ?_)
  rcases hP _ _ p1 with ⟨v, f, rfl, ao, q⟩ | ⟨rfl, q⟩
  · refine tL_shake_4 (Q := fun v2 h2 => v2 = v ∧ h2 = h1) (hd := hd) (ha := ax) (call := ⟨_, _, r1, v, rfl, rfl, rfl⟩) (k := ?_)
    rintro _ _ ⟨rfl, rfl⟩
    refine tL_shake_7  (r := ?_)
    refine tL_shake_8 (ha := (by first | assumption | (repeat (first | assumption | exact At.set_eq2 (by first | omega | (simp only [hset, hnew]; omega) | rfl | decide) | exact At.new_eq2 _ _ (by first | omega | (simp only [hset, hnew]; omega) | rfl | decide) | refine At.set_ne ?_ (by first | omega | (simp only [hset, hnew]; omega) | rfl | decide) | refine At.new_ne ?_)))) (hx := rfl) (hj := (by decide)) (hn := (by decide)) (r := ?_)
    refine tL_shake_9 (r := ?_)
    refine tL_shake_15  (r := ?_)
    refine tL_shake_16  (hP := ?_)
    exact ⟨_, rfl, q⟩
  · refine tL_shake_4x0 (Q := fun h2 => h2 = h1) (hd := hd) (ha := ax) (call := ⟨_, _, r1, rfl, rfl⟩) (k := ?_)
    rintro _ rfl
    refine tL_shake_13  (r := ?_)
    refine tL_shake_14  (hP := ?_)
    exact ⟨_, rfl, q⟩

set_option maxHeartbeats 4000000 in
set_option maxRecDepth 100000 in
theorem w_putLid {d2 x out : Nat} {a0 a1 : Int32} {vs : List Value} {Pc : OC → AH → Prop} {Q : Int32 → AH → Prop} (hd : d2 + 1 ≤ d) (ax : At h x (.inr (8, vs))) (call : RQ G mX10_putLid d2 0 [some (.ref x), some (.int a0), some (.int a1), none] [] h Pc) (hP : ∀ o h1, Pc o h1 → (∃ (v : Int32) (f : Nat → Int64), o = .inl (some (.int v)) ∧ At h1 out (.inl (2, 1, .inr (.inl f))) ∧ Q (nI 0) (hset h1 out (.inl (2, 1, .inr (.inl (vp_updL f 0 v.toInt64)))))) ∨ (o = .inr "java/lang/IndexOutOfBoundsException" ∧ Q (nI 1) h1)) : RQ G mL_putLid d 0 [some (.ref x), some (.int a0), some (.int a1), some (.ref out), none] [] h (Ri Q) := by
  obtain ⟨o1, h1, r1, p1⟩ := call
  refine tL_putLid_0  (r := ?_)
  refine tL_putLid_1  (r := ?_)
  refine tL_putLid_2  (r := ?_)
  refine tL_putLid_3  (r := ?_)
  refine tL_putLid_4  (r := ?_)
  rcases hP _ _ p1 with ⟨v, f, rfl, ao, q⟩ | ⟨rfl, q⟩
  · refine tL_putLid_5 (Q := fun v2 h2 => v2 = v ∧ h2 = h1) (hd := hd) (ha := ax) (call := ⟨_, _, r1, v, rfl, rfl, rfl⟩) (k := ?_)
    rintro _ _ ⟨rfl, rfl⟩
    refine tL_putLid_8  (r := ?_)
    refine tL_putLid_9 (ha := (by first | assumption | (repeat (first | assumption | exact At.set_eq2 (by first | omega | (simp only [hset, hnew]; omega) | rfl | decide) | exact At.new_eq2 _ _ (by first | omega | (simp only [hset, hnew]; omega) | rfl | decide) | refine At.set_ne ?_ (by first | omega | (simp only [hset, hnew]; omega) | rfl | decide) | refine At.new_ne ?_)))) (hx := rfl) (hj := (by decide)) (hn := (by decide)) (r := ?_)
    refine tL_putLid_10 (r := ?_)
    refine tL_putLid_17  (r := ?_)
    refine tL_putLid_18  (hP := ?_)
    exact ⟨_, rfl, q⟩
  · refine tL_putLid_5x0 (Q := fun h2 => h2 = h1) (hd := hd) (ha := ax) (call := ⟨_, _, r1, rfl, rfl⟩) (k := ?_)
    rintro _ rfl
    refine tL_putLid_15  (r := ?_)
    refine tL_putLid_16  (hP := ?_)
    exact ⟨_, rfl, q⟩

set_option maxHeartbeats 4000000 in
set_option maxRecDepth 100000 in
theorem w_join {d2 x out : Nat} {a0 a1 : Int32} {vs : List Value} {Pc : OC → AH → Prop} {Q : Int32 → AH → Prop} (hd : d2 + 1 ≤ d) (ax : At h x (.inr (8, vs))) (call : RQ G mX10_join d2 0 [some (.ref x), some (.int a0), some (.int a1)] [] h Pc) (hP : ∀ o h1, Pc o h1 → (∃ (v : Int32) (f : Nat → Int64), o = .inl (some (.int v)) ∧ At h1 out (.inl (2, 1, .inr (.inl f))) ∧ Q (nI 0) (hset h1 out (.inl (2, 1, .inr (.inl (vp_updL f 0 v.toInt64)))))) ∨ (o = .inr "java/lang/IndexOutOfBoundsException" ∧ Q (nI 1) h1) ∨ (o = .inr "java/lang/IllegalStateException" ∧ Q (nI 2) h1)) : RQ G mL_join d 0 [some (.ref x), some (.int a0), some (.int a1), some (.ref out), none] [] h (Ri Q) := by
  obtain ⟨o1, h1, r1, p1⟩ := call
  refine tL_join_0  (r := ?_)
  refine tL_join_1  (r := ?_)
  refine tL_join_2  (r := ?_)
  refine tL_join_3  (r := ?_)
  refine tL_join_4  (r := ?_)
  rcases hP _ _ p1 with ⟨v, f, rfl, ao, q⟩ | ⟨rfl, q⟩ | ⟨rfl, q⟩
  · refine tL_join_5 (Q := fun v2 h2 => v2 = v ∧ h2 = h1) (hd := hd) (ha := ax) (call := ⟨_, _, r1, v, rfl, rfl, rfl⟩) (k := ?_)
    rintro _ _ ⟨rfl, rfl⟩
    refine tL_join_8  (r := ?_)
    refine tL_join_9 (ha := (by first | assumption | (repeat (first | assumption | exact At.set_eq2 (by first | omega | (simp only [hset, hnew]; omega) | rfl | decide) | exact At.new_eq2 _ _ (by first | omega | (simp only [hset, hnew]; omega) | rfl | decide) | refine At.set_ne ?_ (by first | omega | (simp only [hset, hnew]; omega) | rfl | decide) | refine At.new_ne ?_)))) (hx := rfl) (hj := (by decide)) (hn := (by decide)) (r := ?_)
    refine tL_join_10 (r := ?_)
    refine tL_join_21  (r := ?_)
    refine tL_join_22  (hP := ?_)
    exact ⟨_, rfl, q⟩
  · refine tL_join_5x0 (Q := fun h2 => h2 = h1) (hd := hd) (ha := ax) (call := ⟨_, _, r1, rfl, rfl⟩) (k := ?_)
    rintro _ rfl
    refine tL_join_15  (r := ?_)
    refine tL_join_16  (hP := ?_)
    exact ⟨_, rfl, q⟩
  · refine tL_join_5x1 (Q := fun h2 => h2 = h1) (hd := hd) (ha := ax) (call := ⟨_, _, r1, rfl, rfl⟩) (k := ?_)
    rintro _ rfl
    refine tL_join_19  (r := ?_)
    refine tL_join_20  (hP := ?_)
    exact ⟨_, rfl, q⟩

set_option maxHeartbeats 4000000 in
set_option maxRecDepth 100000 in
theorem w_leave {d2 x out : Nat} {a0 : Int32} {vs : List Value} {Pc : OC → AH → Prop} {Q : Int32 → AH → Prop} (hd : d2 + 1 ≤ d) (ax : At h x (.inr (8, vs))) (call : RQ G mX10_leave d2 0 [some (.ref x), some (.int a0), none] [] h Pc) (hP : ∀ o h1, Pc o h1 → (∃ (v : Int32) (f : Nat → Int64), o = .inl (some (.int v)) ∧ At h1 out (.inl (2, 1, .inr (.inl f))) ∧ Q (nI 0) (hset h1 out (.inl (2, 1, .inr (.inl (vp_updL f 0 v.toInt64)))))) ∨ (o = .inr "java/lang/IndexOutOfBoundsException" ∧ Q (nI 1) h1) ∨ (o = .inr "java/lang/IllegalStateException" ∧ Q (nI 2) h1)) : RQ G mL_leave d 0 [some (.ref x), some (.int a0), some (.ref out), none] [] h (Ri Q) := by
  obtain ⟨o1, h1, r1, p1⟩ := call
  refine tL_leave_0  (r := ?_)
  refine tL_leave_1  (r := ?_)
  refine tL_leave_2  (r := ?_)
  refine tL_leave_3  (r := ?_)
  rcases hP _ _ p1 with ⟨v, f, rfl, ao, q⟩ | ⟨rfl, q⟩ | ⟨rfl, q⟩
  · refine tL_leave_4 (Q := fun v2 h2 => v2 = v ∧ h2 = h1) (hd := hd) (ha := ax) (call := ⟨_, _, r1, v, rfl, rfl, rfl⟩) (k := ?_)
    rintro _ _ ⟨rfl, rfl⟩
    refine tL_leave_7  (r := ?_)
    refine tL_leave_8 (ha := (by first | assumption | (repeat (first | assumption | exact At.set_eq2 (by first | omega | (simp only [hset, hnew]; omega) | rfl | decide) | exact At.new_eq2 _ _ (by first | omega | (simp only [hset, hnew]; omega) | rfl | decide) | refine At.set_ne ?_ (by first | omega | (simp only [hset, hnew]; omega) | rfl | decide) | refine At.new_ne ?_)))) (hx := rfl) (hj := (by decide)) (hn := (by decide)) (r := ?_)
    refine tL_leave_9 (r := ?_)
    refine tL_leave_18  (r := ?_)
    refine tL_leave_19  (hP := ?_)
    exact ⟨_, rfl, q⟩
  · refine tL_leave_4x0 (Q := fun h2 => h2 = h1) (hd := hd) (ha := ax) (call := ⟨_, _, r1, rfl, rfl⟩) (k := ?_)
    rintro _ rfl
    refine tL_leave_13  (r := ?_)
    refine tL_leave_14  (hP := ?_)
    exact ⟨_, rfl, q⟩
  · refine tL_leave_4x1 (Q := fun h2 => h2 = h1) (hd := hd) (ha := ax) (call := ⟨_, _, r1, rfl, rfl⟩) (k := ?_)
    rintro _ rfl
    refine tL_leave_16  (r := ?_)
    refine tL_leave_17  (hP := ?_)
    exact ⟨_, rfl, q⟩

set_option maxHeartbeats 4000000 in
set_option maxRecDepth 100000 in
theorem w_pass {d2 x out : Nat} {a0 : Int32} {vs : List Value} {Pc : OC → AH → Prop} {Q : Int32 → AH → Prop} (hd : d2 + 1 ≤ d) (ax : At h x (.inr (8, vs))) (call : RQ G mX10_pass d2 0 [some (.ref x), some (.int a0), none, none] [] h Pc) (hP : ∀ o h1, Pc o h1 → (∃ (v : Int32) (f : Nat → Int64), o = .inl (some (.int v)) ∧ At h1 out (.inl (2, 1, .inr (.inl f))) ∧ Q (nI 0) (hset h1 out (.inl (2, 1, .inr (.inl (vp_updL f 0 v.toInt64)))))) ∨ (o = .inr "java/lang/IllegalArgumentException" ∧ Q (nI 1) h1)) : RQ G mL_pass d 0 [some (.ref x), some (.int a0), some (.ref out), none] [] h (Ri Q) := by
  obtain ⟨o1, h1, r1, p1⟩ := call
  refine tL_pass_0  (r := ?_)
  refine tL_pass_1  (r := ?_)
  refine tL_pass_2  (r := ?_)
  refine tL_pass_3  (r := ?_)
  rcases hP _ _ p1 with ⟨v, f, rfl, ao, q⟩ | ⟨rfl, q⟩
  · refine tL_pass_4 (Q := fun v2 h2 => v2 = v ∧ h2 = h1) (hd := hd) (ha := ax) (call := ⟨_, _, r1, v, rfl, rfl, rfl⟩) (k := ?_)
    rintro _ _ ⟨rfl, rfl⟩
    refine tL_pass_7  (r := ?_)
    refine tL_pass_8 (ha := (by first | assumption | (repeat (first | assumption | exact At.set_eq2 (by first | omega | (simp only [hset, hnew]; omega) | rfl | decide) | exact At.new_eq2 _ _ (by first | omega | (simp only [hset, hnew]; omega) | rfl | decide) | refine At.set_ne ?_ (by first | omega | (simp only [hset, hnew]; omega) | rfl | decide) | refine At.new_ne ?_)))) (hx := rfl) (hj := (by decide)) (hn := (by decide)) (r := ?_)
    refine tL_pass_9 (r := ?_)
    refine tL_pass_15  (r := ?_)
    refine tL_pass_16  (hP := ?_)
    exact ⟨_, rfl, q⟩
  · refine tL_pass_4x0 (Q := fun h2 => h2 = h1) (hd := hd) (ha := ax) (call := ⟨_, _, r1, rfl, rfl⟩) (k := ?_)
    rintro _ rfl
    refine tL_pass_13  (r := ?_)
    refine tL_pass_14  (hP := ?_)
    exact ⟨_, rfl, q⟩

set_option maxHeartbeats 4000000 in
set_option maxRecDepth 100000 in
theorem w_seatsAfter {d2 x out : Nat} {a0 a1 : Int32} {vs : List Value} {Pc : OC → AH → Prop} {Q : Int32 → AH → Prop} (hd : d2 + 1 ≤ d) (ax : At h x (.inr (8, vs))) (call : RQ G mX10_seatsAfter d2 0 [some (.ref x), some (.int a0), some (.int a1), none] [] h Pc) (hP : ∀ o h1, Pc o h1 → (∃ (v : Int32) (f : Nat → Int64), o = .inl (some (.int v)) ∧ At h1 out (.inl (2, 1, .inr (.inl f))) ∧ Q (nI 0) (hset h1 out (.inl (2, 1, .inr (.inl (vp_updL f 0 v.toInt64)))))) ∨ (o = .inr "java/lang/IndexOutOfBoundsException" ∧ Q (nI 1) h1) ∨ (o = .inr "java/lang/IllegalArgumentException" ∧ Q (nI 2) h1)) : RQ G mL_seatsAfter d 0 [some (.ref x), some (.int a0), some (.int a1), some (.ref out), none] [] h (Ri Q) := by
  obtain ⟨o1, h1, r1, p1⟩ := call
  refine tL_seatsAfter_0  (r := ?_)
  refine tL_seatsAfter_1  (r := ?_)
  refine tL_seatsAfter_2  (r := ?_)
  refine tL_seatsAfter_3  (r := ?_)
  refine tL_seatsAfter_4  (r := ?_)
  rcases hP _ _ p1 with ⟨v, f, rfl, ao, q⟩ | ⟨rfl, q⟩ | ⟨rfl, q⟩
  · refine tL_seatsAfter_5 (Q := fun v2 h2 => v2 = v ∧ h2 = h1) (hd := hd) (ha := ax) (call := ⟨_, _, r1, v, rfl, rfl, rfl⟩) (k := ?_)
    rintro _ _ ⟨rfl, rfl⟩
    refine tL_seatsAfter_8  (r := ?_)
    refine tL_seatsAfter_9 (ha := (by first | assumption | (repeat (first | assumption | exact At.set_eq2 (by first | omega | (simp only [hset, hnew]; omega) | rfl | decide) | exact At.new_eq2 _ _ (by first | omega | (simp only [hset, hnew]; omega) | rfl | decide) | refine At.set_ne ?_ (by first | omega | (simp only [hset, hnew]; omega) | rfl | decide) | refine At.new_ne ?_)))) (hx := rfl) (hj := (by decide)) (hn := (by decide)) (r := ?_)
    refine tL_seatsAfter_10 (r := ?_)
    refine tL_seatsAfter_21  (r := ?_)
    refine tL_seatsAfter_22  (hP := ?_)
    exact ⟨_, rfl, q⟩
  · refine tL_seatsAfter_5x0 (Q := fun h2 => h2 = h1) (hd := hd) (ha := ax) (call := ⟨_, _, r1, rfl, rfl⟩) (k := ?_)
    rintro _ rfl
    refine tL_seatsAfter_15  (r := ?_)
    refine tL_seatsAfter_16  (hP := ?_)
    exact ⟨_, rfl, q⟩
  · refine tL_seatsAfter_5x1 (Q := fun h2 => h2 = h1) (hd := hd) (ha := ax) (call := ⟨_, _, r1, rfl, rfl⟩) (k := ?_)
    rintro _ rfl
    refine tL_seatsAfter_19  (r := ?_)
    refine tL_seatsAfter_20  (hP := ?_)
    exact ⟨_, rfl, q⟩

set_option maxHeartbeats 4000000 in
set_option maxRecDepth 100000 in
theorem w_daysUntilMajority {d2 x out : Nat} {a0 : Int32} {vs : List Value} {Pc : OC → AH → Prop} {Q : Int32 → AH → Prop} (hd : d2 + 1 ≤ d) (ax : At h x (.inr (8, vs))) (call : RQ G mX10_daysUntilMajority d2 0 [some (.ref x), some (.int a0), none] [] h Pc) (hP : ∀ o h1, Pc o h1 → (∃ (v : Int32) (f : Nat → Int64), o = .inl (some (.int v)) ∧ At h1 out (.inl (2, 1, .inr (.inl f))) ∧ Q (nI 0) (hset h1 out (.inl (2, 1, .inr (.inl (vp_updL f 0 v.toInt64)))))) ∨ (o = .inr "java/lang/IndexOutOfBoundsException" ∧ Q (nI 1) h1)) : RQ G mL_daysUntilMajority d 0 [some (.ref x), some (.int a0), some (.ref out), none] [] h (Ri Q) := by
  obtain ⟨o1, h1, r1, p1⟩ := call
  refine tL_daysUntilMajority_0  (r := ?_)
  refine tL_daysUntilMajority_1  (r := ?_)
  refine tL_daysUntilMajority_2  (r := ?_)
  refine tL_daysUntilMajority_3  (r := ?_)
  rcases hP _ _ p1 with ⟨v, f, rfl, ao, q⟩ | ⟨rfl, q⟩
  · refine tL_daysUntilMajority_4 (Q := fun v2 h2 => v2 = v ∧ h2 = h1) (hd := hd) (ha := ax) (call := ⟨_, _, r1, v, rfl, rfl, rfl⟩) (k := ?_)
    rintro _ _ ⟨rfl, rfl⟩
    refine tL_daysUntilMajority_7  (r := ?_)
    refine tL_daysUntilMajority_8 (ha := (by first | assumption | (repeat (first | assumption | exact At.set_eq2 (by first | omega | (simp only [hset, hnew]; omega) | rfl | decide) | exact At.new_eq2 _ _ (by first | omega | (simp only [hset, hnew]; omega) | rfl | decide) | refine At.set_ne ?_ (by first | omega | (simp only [hset, hnew]; omega) | rfl | decide) | refine At.new_ne ?_)))) (hx := rfl) (hj := (by decide)) (hn := (by decide)) (r := ?_)
    refine tL_daysUntilMajority_9 (r := ?_)
    refine tL_daysUntilMajority_15  (r := ?_)
    refine tL_daysUntilMajority_16  (hP := ?_)
    exact ⟨_, rfl, q⟩
  · refine tL_daysUntilMajority_4x0 (Q := fun h2 => h2 = h1) (hd := hd) (ha := ax) (call := ⟨_, _, r1, rfl, rfl⟩) (k := ?_)
    rintro _ rfl
    refine tL_daysUntilMajority_13  (r := ?_)
    refine tL_daysUntilMajority_14  (hP := ?_)
    exact ⟨_, rfl, q⟩

set_option maxHeartbeats 4000000 in
set_option maxRecDepth 100000 in
theorem w_beansToWin {d2 x out : Nat} {a0 a1 : Int32} {vs : List Value} {Pc : OC → AH → Prop} {Q : Int32 → AH → Prop} (hd : d2 + 1 ≤ d) (ax : At h x (.inr (8, vs))) (call : RQ G mX10_beansToWin d2 0 [some (.ref x), some (.int a0), some (.int a1)] [] h Pc) (hP : ∀ o h1, Pc o h1 → (∃ (v : Int32) (f : Nat → Int64), o = .inl (some (.int v)) ∧ At h1 out (.inl (2, 1, .inr (.inl f))) ∧ Q (nI 0) (hset h1 out (.inl (2, 1, .inr (.inl (vp_updL f 0 v.toInt64)))))) ∨ (o = .inr "java/lang/IndexOutOfBoundsException" ∧ Q (nI 1) h1)) : RQ G mL_beansToWin d 0 [some (.ref x), some (.int a0), some (.int a1), some (.ref out), none] [] h (Ri Q) := by
  obtain ⟨o1, h1, r1, p1⟩ := call
  refine tL_beansToWin_0  (r := ?_)
  refine tL_beansToWin_1  (r := ?_)
  refine tL_beansToWin_2  (r := ?_)
  refine tL_beansToWin_3  (r := ?_)
  refine tL_beansToWin_4  (r := ?_)
  rcases hP _ _ p1 with ⟨v, f, rfl, ao, q⟩ | ⟨rfl, q⟩
  · refine tL_beansToWin_5 (Q := fun v2 h2 => v2 = v ∧ h2 = h1) (hd := hd) (ha := ax) (call := ⟨_, _, r1, v, rfl, rfl, rfl⟩) (k := ?_)
    rintro _ _ ⟨rfl, rfl⟩
    refine tL_beansToWin_8  (r := ?_)
    refine tL_beansToWin_9 (ha := (by first | assumption | (repeat (first | assumption | exact At.set_eq2 (by first | omega | (simp only [hset, hnew]; omega) | rfl | decide) | exact At.new_eq2 _ _ (by first | omega | (simp only [hset, hnew]; omega) | rfl | decide) | refine At.set_ne ?_ (by first | omega | (simp only [hset, hnew]; omega) | rfl | decide) | refine At.new_ne ?_)))) (hx := rfl) (hj := (by decide)) (hn := (by decide)) (r := ?_)
    refine tL_beansToWin_10 (r := ?_)
    refine tL_beansToWin_17  (r := ?_)
    refine tL_beansToWin_18  (hP := ?_)
    exact ⟨_, rfl, q⟩
  · refine tL_beansToWin_5x0 (Q := fun h2 => h2 = h1) (hd := hd) (ha := ax) (call := ⟨_, _, r1, rfl, rfl⟩) (k := ?_)
    rintro _ rfl
    refine tL_beansToWin_15  (r := ?_)
    refine tL_beansToWin_16  (hP := ?_)
    exact ⟨_, rfl, q⟩

set_option maxHeartbeats 4000000 in
set_option maxRecDepth 100000 in
theorem w_bestJarFor {d2 x out : Nat} {a0 : Int32} {vs : List Value} {Pc : OC → AH → Prop} {Q : Int32 → AH → Prop} (hd : d2 + 1 ≤ d) (ax : At h x (.inr (8, vs))) (call : RQ G mX10_bestJarFor d2 0 [some (.ref x), some (.int a0), none, none, none, none] [] h Pc) (hP : ∀ o h1, Pc o h1 → (∃ (v : Int32) (f : Nat → Int64), o = .inl (some (.int v)) ∧ At h1 out (.inl (2, 1, .inr (.inl f))) ∧ Q (nI 0) (hset h1 out (.inl (2, 1, .inr (.inl (vp_updL f 0 v.toInt64)))))) ∨ (o = .inr "java/lang/IndexOutOfBoundsException" ∧ Q (nI 1) h1)) : RQ G mL_bestJarFor d 0 [some (.ref x), some (.int a0), some (.ref out), none] [] h (Ri Q) := by
  obtain ⟨o1, h1, r1, p1⟩ := call
  refine tL_bestJarFor_0  (r := ?_)
  refine tL_bestJarFor_1  (r := ?_)
  refine tL_bestJarFor_2  (r := ?_)
  refine tL_bestJarFor_3  (r := ?_)
  rcases hP _ _ p1 with ⟨v, f, rfl, ao, q⟩ | ⟨rfl, q⟩
  · refine tL_bestJarFor_4 (Q := fun v2 h2 => v2 = v ∧ h2 = h1) (hd := hd) (ha := ax) (call := ⟨_, _, r1, v, rfl, rfl, rfl⟩) (k := ?_)
    rintro _ _ ⟨rfl, rfl⟩
    refine tL_bestJarFor_7  (r := ?_)
    refine tL_bestJarFor_8 (ha := (by first | assumption | (repeat (first | assumption | exact At.set_eq2 (by first | omega | (simp only [hset, hnew]; omega) | rfl | decide) | exact At.new_eq2 _ _ (by first | omega | (simp only [hset, hnew]; omega) | rfl | decide) | refine At.set_ne ?_ (by first | omega | (simp only [hset, hnew]; omega) | rfl | decide) | refine At.new_ne ?_)))) (hx := rfl) (hj := (by decide)) (hn := (by decide)) (r := ?_)
    refine tL_bestJarFor_9 (r := ?_)
    refine tL_bestJarFor_15  (r := ?_)
    refine tL_bestJarFor_16  (hP := ?_)
    exact ⟨_, rfl, q⟩
  · refine tL_bestJarFor_4x0 (Q := fun h2 => h2 = h1) (hd := hd) (ha := ax) (call := ⟨_, _, r1, rfl, rfl⟩) (k := ?_)
    rintro _ rfl
    refine tL_bestJarFor_13  (r := ?_)
    refine tL_bestJarFor_14  (hP := ?_)
    exact ⟨_, rfl, q⟩

set_option maxHeartbeats 4000000 in
set_option maxRecDepth 100000 in
theorem w_firstShaken {d2 x out : Nat} {a0 : Int32} {vs : List Value} {Pc : OC → AH → Prop} {Q : Int32 → AH → Prop} (hd : d2 + 1 ≤ d) (ax : At h x (.inr (8, vs))) (call : RQ G mX10_firstShaken d2 0 [some (.ref x), some (.int a0)] [] h Pc) (hP : ∀ o h1, Pc o h1 → (∃ (v : Int32) (f : Nat → Int64), o = .inl (some (.int v)) ∧ At h1 out (.inl (2, 1, .inr (.inl f))) ∧ Q (nI 0) (hset h1 out (.inl (2, 1, .inr (.inl (vp_updL f 0 v.toInt64)))))) ∨ (o = .inr "java/lang/IndexOutOfBoundsException" ∧ Q (nI 1) h1)) : RQ G mL_firstShaken d 0 [some (.ref x), some (.int a0), some (.ref out), none] [] h (Ri Q) := by
  obtain ⟨o1, h1, r1, p1⟩ := call
  refine tL_firstShaken_0  (r := ?_)
  refine tL_firstShaken_1  (r := ?_)
  refine tL_firstShaken_2  (r := ?_)
  refine tL_firstShaken_3  (r := ?_)
  rcases hP _ _ p1 with ⟨v, f, rfl, ao, q⟩ | ⟨rfl, q⟩
  · refine tL_firstShaken_4 (Q := fun v2 h2 => v2 = v ∧ h2 = h1) (hd := hd) (ha := ax) (call := ⟨_, _, r1, v, rfl, rfl, rfl⟩) (k := ?_)
    rintro _ _ ⟨rfl, rfl⟩
    refine tL_firstShaken_7  (r := ?_)
    refine tL_firstShaken_8 (ha := (by first | assumption | (repeat (first | assumption | exact At.set_eq2 (by first | omega | (simp only [hset, hnew]; omega) | rfl | decide) | exact At.new_eq2 _ _ (by first | omega | (simp only [hset, hnew]; omega) | rfl | decide) | refine At.set_ne ?_ (by first | omega | (simp only [hset, hnew]; omega) | rfl | decide) | refine At.new_ne ?_)))) (hx := rfl) (hj := (by decide)) (hn := (by decide)) (r := ?_)
    refine tL_firstShaken_9 (r := ?_)
    refine tL_firstShaken_15  (r := ?_)
    refine tL_firstShaken_16  (hP := ?_)
    exact ⟨_, rfl, q⟩
  · refine tL_firstShaken_4x0 (Q := fun h2 => h2 = h1) (hd := hd) (ha := ax) (call := ⟨_, _, r1, rfl, rfl⟩) (k := ?_)
    rintro _ rfl
    refine tL_firstShaken_13  (r := ?_)
    refine tL_firstShaken_14  (hP := ?_)
    exact ⟨_, rfl, q⟩

end WR
