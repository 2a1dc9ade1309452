/-! the campaign's stack; what a step looks up and reckons -/
/-- the stack, its top first -/
def CamR (h : AH) (b : Nat) (S : List Int32) (ac : Int32) : Prop := At h b (.inr (1, [.ref (b + 1), .int (nI S.length), .int ac])) ∧ S.length ≤ 400 ∧ ∃ f : Nat → Int32, At h (b + 1) (.inl (0, 400, .inl f)) ∧ ∀ k, k < S.length → f k = S.getD (S.length - 1 - k) 0
theorem CamR.E {h : AH} {b : Nat} {S : List Int32} {ac : Int32} (q : CamR h b S ac) : CamE h b := ⟨⟨_, _, q.1⟩, q.2.2.choose, q.2.2.choose_spec.1⟩
theorem CamR.sm {h h1 : AH} {b : Nat} {S : List Int32} {ac : Int32} {lo hi : Nat} (q : CamR h b S ac) (sm : Sm h h1 lo hi) (e : b + 2 ≤ lo ∨ hi ≤ b) : CamR h1 b S ac := by
  obtain ⟨a, l, f, a1, c⟩ := q
  exact ⟨sm.at a (by omega), l, f, sm.at a1 (by omega), c⟩
section CAM
variable {G : GT} {d : Nat} {h : AH} {b c : Nat} {B : BK} {D : DY} {S : List Int32} {ac : Int32}

set_option maxHeartbeats 4000000 in
set_option maxRecDepth 100000 in
theorem s_push (cr : CamR h b S ac) (hl : S.length < 400) {x : Int32} : RQ G mX2_push d 0 [some (.ref b), some (.int x)] [] h (Rv fun h1 => CamR h1 b (x :: S) ac ∧ Sm h h1 b (b + 2)) := by
  obtain ⟨a0, hl4, f, a1, hf⟩ := id cr
  have l0 := a0.1
  have l1 := a1.1
  refine tX2_push_0  (r := ?_)
  refine tX2_push_1 (ha := (by first | assumption | (repeat (first | assumption | exact At.set_eq2 (by first | omega | (simp only [hset, hnew]; omega) | rfl | decide) | exact At.new_eq2 _ _ (by first | omega | (simp only [hset, hnew]; omega) | rfl | decide) | refine At.set_ne ?_ (by first | omega | (simp only [hset, hnew]; omega) | rfl | decide) | refine At.new_ne ?_)))) (hv := rfl) (r := ?_)
  refine tX2_push_4  (r := ?_)
  refine tX2_push_5 (ha := (by first | assumption | (repeat (first | assumption | exact At.set_eq2 (by first | omega | (simp only [hset, hnew]; omega) | rfl | decide) | exact At.new_eq2 _ _ (by first | omega | (simp only [hset, hnew]; omega) | rfl | decide) | refine At.set_ne ?_ (by first | omega | (simp only [hset, hnew]; omega) | rfl | decide) | refine At.new_ne ?_)))) (hv := rfl) (r := ?_)
  refine tX2_push_8 (ha := (by first | assumption | (repeat (first | assumption | exact At.set_eq2 (by first | omega | (simp only [hset, hnew]; omega) | rfl | decide) | exact At.new_eq2 _ _ (by first | omega | (simp only [hset, hnew]; omega) | rfl | decide) | refine At.set_ne ?_ (by first | omega | (simp only [hset, hnew]; omega) | rfl | decide) | refine At.new_ne ?_)))) (r := ?_)
  refine tX2_push_9  (kt := fun c_ => by exfalso; exact absurd ((nI_leI (by decide) (by omega)).mp c_) (by omega)) (kf := fun _ => ?_)
  refine tX2_push_12  (r := ?_)
  refine tX2_push_13 (ha := (by first | assumption | (repeat (first | assumption | exact At.set_eq2 (by first | omega | (simp only [hset, hnew]; omega) | rfl | decide) | exact At.new_eq2 _ _ (by first | omega | (simp only [hset, hnew]; omega) | rfl | decide) | refine At.set_ne ?_ (by first | omega | (simp only [hset, hnew]; omega) | rfl | decide) | refine At.new_ne ?_)))) (hv := rfl) (r := ?_)
  refine tX2_push_16  (r := ?_)
  refine tX2_push_17 (ha := (by first | assumption | (repeat (first | assumption | exact At.set_eq2 (by first | omega | (simp only [hset, hnew]; omega) | rfl | decide) | exact At.new_eq2 _ _ (by first | omega | (simp only [hset, hnew]; omega) | rfl | decide) | refine At.set_ne ?_ (by first | omega | (simp only [hset, hnew]; omega) | rfl | decide) | refine At.new_ne ?_)))) (hv := rfl) (r := ?_)
  refine tX2_push_20  (r := ?_)
  refine tX2_push_21 (ha := (by first | assumption | (repeat (first | assumption | exact At.set_eq2 (by first | omega | (simp only [hset, hnew]; omega) | rfl | decide) | exact At.new_eq2 _ _ (by first | omega | (simp only [hset, hnew]; omega) | rfl | decide) | refine At.set_ne ?_ (by first | omega | (simp only [hset, hnew]; omega) | rfl | decide) | refine At.new_ne ?_)))) (hx := rfl) (hj := hl) (hn := (by decide)) (r := ?_)
  refine tX2_push_22  (r := ?_)
  refine tX2_push_23  (r := ?_)
  refine tX2_push_24 (ha := (by first | assumption | (repeat (first | assumption | exact At.set_eq2 (by first | omega | (simp only [hset, hnew]; omega) | rfl | decide) | exact At.new_eq2 _ _ (by first | omega | (simp only [hset, hnew]; omega) | rfl | decide) | refine At.set_ne ?_ (by first | omega | (simp only [hset, hnew]; omega) | rfl | decide) | refine At.new_ne ?_)))) (hv := rfl) (r := ?_)
  refine tX2_push_27  (r := ?_)
  refine tX2_push_28  (r := ?_)
  rw [nI_add]
  refine tX2_push_29 (ha := (by first | assumption | (repeat (first | assumption | exact At.set_eq2 (by first | omega | (simp only [hset, hnew]; omega) | rfl | decide) | exact At.new_eq2 _ _ (by first | omega | (simp only [hset, hnew]; omega) | rfl | decide) | refine At.set_ne ?_ (by first | omega | (simp only [hset, hnew]; omega) | rfl | decide) | refine At.new_ne ?_)))) (hlen := rfl) (r := ?_)
  refine tX2_push_32  (hP := ?_)
  refine ⟨rfl, ⟨At.set_eq2 l0, hl, _, At.set_ne (At.set_eq2 l1) (by omega), fun k hk => ?_⟩, ((Sm.rf h b (b + 2)).set (by omega) (by omega)).set (by omega) (by omega)⟩
  have hk : k < S.length + 1 := hk
  show (if k = S.length then x else f k) = (x :: S).getD (S.length + 1 - 1 - k) 0
  by_cases e : k = S.length
  · rw [if_pos e, show S.length + 1 - 1 - k = 0 by omega]
    rfl
  · rw [if_neg e, show S.length + 1 - 1 - k = (S.length - 1 - k) + 1 by omega]
    exact hf k (by omega)

set_option maxHeartbeats 4000000 in
set_option maxRecDepth 100000 in
theorem s_pop {x : Int32} (cr : CamR h b (x :: S) ac) : RQ G mX2_pop d 0 [some (.ref b)] [] h (Ri fun v h1 => v = x ∧ CamR h1 b S ac ∧ Sm h h1 b (b + 2)) := by
  obtain ⟨a0, hl4, f, a1, hf⟩ := id cr
  have l0 := a0.1
  have l1 := a1.1
  have hl5 : S.length + 1 ≤ 400 := hl4
  have hx0 : f S.length = x := by
    rw [hf S.length (Nat.lt_succ_self _), show (x :: S).length - 1 - S.length = 0 from by show S.length + 1 - 1 - S.length = 0; omega]
    rfl
  refine tX2_pop_0  (r := ?_)
  refine tX2_pop_1 (ha := (by first | assumption | (repeat (first | assumption | exact At.set_eq2 (by first | omega | (simp only [hset, hnew]; omega) | rfl | decide) | exact At.new_eq2 _ _ (by first | omega | (simp only [hset, hnew]; omega) | rfl | decide) | refine At.set_ne ?_ (by first | omega | (simp only [hset, hnew]; omega) | rfl | decide) | refine At.new_ne ?_)))) (hv := rfl) (r := ?_)
  show RQ _ _ _ _ _ (.int (nI (S.length + 1)) :: _) _ _
  refine tX2_pop_4  (r := ?_)
  refine tX2_pop_5  (kf := fun c_ => by exfalso; exact c_ ((nI_leI (by decide) (by omega)).mpr (by omega))) (kt := fun _ => ?_)
  refine tX2_pop_10  (r := ?_)
  refine tX2_pop_11  (r := ?_)
  refine tX2_pop_12 (ha := (by first | assumption | (repeat (first | assumption | exact At.set_eq2 (by first | omega | (simp only [hset, hnew]; omega) | rfl | decide) | exact At.new_eq2 _ _ (by first | omega | (simp only [hset, hnew]; omega) | rfl | decide) | refine At.set_ne ?_ (by first | omega | (simp only [hset, hnew]; omega) | rfl | decide) | refine At.new_ne ?_)))) (hv := rfl) (r := ?_)
  show RQ _ _ _ _ _ (.int (nI (S.length + 1)) :: _) _ _
  refine tX2_pop_15  (r := ?_)
  refine tX2_pop_16  (r := ?_)
  rw [nI_subN (by omega) (by omega), Nat.add_sub_cancel]
  refine tX2_pop_17 (ha := (by first | assumption | (repeat (first | assumption | exact At.set_eq2 (by first | omega | (simp only [hset, hnew]; omega) | rfl | decide) | exact At.new_eq2 _ _ (by first | omega | (simp only [hset, hnew]; omega) | rfl | decide) | refine At.set_ne ?_ (by first | omega | (simp only [hset, hnew]; omega) | rfl | decide) | refine At.new_ne ?_)))) (hlen := rfl) (r := ?_)
  refine tX2_pop_20  (r := ?_)
  refine tX2_pop_21 (ha := (by first | assumption | (repeat (first | assumption | exact At.set_eq2 (by first | omega | (simp only [hset, hnew]; omega) | rfl | decide) | exact At.new_eq2 _ _ (by first | omega | (simp only [hset, hnew]; omega) | rfl | decide) | refine At.set_ne ?_ (by first | omega | (simp only [hset, hnew]; omega) | rfl | decide) | refine At.new_ne ?_)))) (hv := rfl) (r := ?_)
  refine tX2_pop_24  (r := ?_)
  refine tX2_pop_25 (ha := (by first | assumption | (repeat (first | assumption | exact At.set_eq2 (by first | omega | (simp only [hset, hnew]; omega) | rfl | decide) | exact At.new_eq2 _ _ (by first | omega | (simp only [hset, hnew]; omega) | rfl | decide) | refine At.set_ne ?_ (by first | omega | (simp only [hset, hnew]; omega) | rfl | decide) | refine At.new_ne ?_)))) (hv := rfl) (r := ?_)
  refine tX2_pop_28 (ha := (by first | assumption | (repeat (first | assumption | exact At.set_eq2 (by first | omega | (simp only [hset, hnew]; omega) | rfl | decide) | exact At.new_eq2 _ _ (by first | omega | (simp only [hset, hnew]; omega) | rfl | decide) | refine At.set_ne ?_ (by first | omega | (simp only [hset, hnew]; omega) | rfl | decide) | refine At.new_ne ?_)))) (hx := rfl) (hj := (by omega)) (hn := (by decide)) (r := ?_)
  rw [hx0]
  refine tX2_pop_29  (hP := ?_)
  refine ⟨_, rfl, rfl, ⟨At.set_eq2 l0, by omega, f, At.set_ne a1 (by omega), fun k hk => ?_⟩, (Sm.rf h b (b + 2)).set (by omega) (by omega)⟩
  rw [hf k (Nat.lt_succ_of_lt hk)]
  show (x :: S).getD (S.length + 1 - 1 - k) 0 = _
  rw [show S.length + 1 - 1 - k = (S.length - 1 - k) + 1 by omega]
  rfl

theorem isJn_or {kd : Nat} (h : isJn kd = true) : kd = 16 ∨ kd = 17 ∨ kd = 33 ∨ kd = 34 ∨ kd = 35 ∨ kd = 36 ∨ kd = 37 ∨ kd = 38 := by
  simp only [isJn, Bool.or_eq_true, beq_iff_eq] at h
  omega
theorem isLk_or {kd : Nat} (h : isLk kd = true) : kd = 2 ∨ kd = 18 ∨ kd = 19 ∨ kd = 20 ∨ kd = 21 ∨ kd = 22 ∨ kd = 23 := by
  simp only [isLk, Bool.or_eq_true, beq_iff_eq] at h
  omega
theorem isAc_or {kd : Nat} (h : isAc kd = true) : kd = 9 ∨ kd = 11 ∨ kd = 12 ∨ kd = 13 ∨ kd = 14 := by
  simp only [isAc, Bool.or_eq_true, beq_iff_eq] at h
  omega

set_option maxHeartbeats 4000000 in
set_option maxRecDepth 100000 in
theorem s_reckon16 (hd : 1 ≤ d) {l r : Int32} : RQ G mX2_reckon d 0 [some (.ref b), some (.ref (OLD + 16)), some (.int l), some (.int r)] [] h (Ri fun v h1 => v = jnV 16 l r ∧ h1 = h) := by
  refine tX2_reckon_0  (r := ?_)
  refine tX2_reckon_3  (r := ?_)
  refine tX2_reckon_4 (hi := (by decide)) (hd := (by omega)) (r := ?_)
  refine uX2_reckon_7 (hx := rfl) (hj := (by decide)) (r := ?_)
  refine tX2_reckon_8 (n := SMk 16) (hn := (by decide)) (r := ?_)
  show RQ _ _ _ 97 _ _ _ _
  refine tX2_reckon_97  (r := ?_)
  refine tX2_reckon_98  (r := ?_)
  refine tX2_reckon_99  (r := ?_)
  refine tX2_reckon_100  (hP := ?_)
  exact ⟨_, rfl, rfl, rfl⟩

set_option maxHeartbeats 4000000 in
set_option maxRecDepth 100000 in
theorem s_reckon17 (hd : 1 ≤ d) {l r : Int32} : RQ G mX2_reckon d 0 [some (.ref b), some (.ref (OLD + 17)), some (.int l), some (.int r)] [] h (Ri fun v h1 => v = jnV 17 l r ∧ h1 = h) := by
  refine tX2_reckon_0  (r := ?_)
  refine tX2_reckon_3  (r := ?_)
  refine tX2_reckon_4 (hi := (by decide)) (hd := (by omega)) (r := ?_)
  refine uX2_reckon_7 (hx := rfl) (hj := (by decide)) (r := ?_)
  refine tX2_reckon_8 (n := SMk 17) (hn := (by decide)) (r := ?_)
  show RQ _ _ _ 101 _ _ _ _
  refine tX2_reckon_101  (r := ?_)
  refine tX2_reckon_102  (r := ?_)
  refine tX2_reckon_103  (r := ?_)
  refine tX2_reckon_104  (hP := ?_)
  exact ⟨_, rfl, rfl, rfl⟩

set_option maxHeartbeats 4000000 in
set_option maxRecDepth 100000 in
theorem s_reckon33 (hd : 1 ≤ d) {l r : Int32} : RQ G mX2_reckon d 0 [some (.ref b), some (.ref (OLD + 33)), some (.int l), some (.int r)] [] h (Ri fun v h1 => v = jnV 33 l r ∧ h1 = h) := by
  refine tX2_reckon_0  (r := ?_)
  refine tX2_reckon_3  (r := ?_)
  refine tX2_reckon_4 (hi := (by decide)) (hd := (by omega)) (r := ?_)
  refine uX2_reckon_7 (hx := rfl) (hj := (by decide)) (r := ?_)
  refine tX2_reckon_8 (n := SMk 33) (hn := (by decide)) (r := ?_)
  show RQ _ _ _ 64 _ _ _ _
  refine tX2_reckon_64  (r := ?_)
  refine tX2_reckon_65  (r := ?_)
  refine tX2_reckon_66  (kt := fun c_66 => ?_) (kf := fun c_66 => ?_)
  · have e : jnV 33 l r = nI 0 := if_neg (Int32.not_lt.mpr c_66)
    refine tX2_reckon_73  (r := ?_)
    refine tX2_reckon_74  (hP := ?_)
    exact ⟨_, rfl, e.symm, rfl⟩
  · have e : jnV 33 l r = nI 1 := if_pos (Int32.not_le.mp c_66)
    refine tX2_reckon_69  (r := ?_)
    refine tX2_reckon_70 (r := ?_)
    refine tX2_reckon_74  (hP := ?_)
    exact ⟨_, rfl, e.symm, rfl⟩

set_option maxHeartbeats 4000000 in
set_option maxRecDepth 100000 in
theorem s_reckon34 (hd : 1 ≤ d) {l r : Int32} : RQ G mX2_reckon d 0 [some (.ref b), some (.ref (OLD + 34)), some (.int l), some (.int r)] [] h (Ri fun v h1 => v = jnV 34 l r ∧ h1 = h) := by
  refine tX2_reckon_0  (r := ?_)
  refine tX2_reckon_3  (r := ?_)
  refine tX2_reckon_4 (hi := (by decide)) (hd := (by omega)) (r := ?_)
  refine uX2_reckon_7 (hx := rfl) (hj := (by decide)) (r := ?_)
  refine tX2_reckon_8 (n := SMk 34) (hn := (by decide)) (r := ?_)
  show RQ _ _ _ 75 _ _ _ _
  refine tX2_reckon_75  (r := ?_)
  refine tX2_reckon_76  (r := ?_)
  refine tX2_reckon_77  (kt := fun c_77 => ?_) (kf := fun c_77 => ?_)
  · have e : jnV 34 l r = nI 0 := if_neg (Int32.not_lt.mpr c_77)
    refine tX2_reckon_84  (r := ?_)
    refine tX2_reckon_85  (hP := ?_)
    exact ⟨_, rfl, e.symm, rfl⟩
  · have e : jnV 34 l r = nI 1 := if_pos (Int32.not_le.mp c_77)
    refine tX2_reckon_80  (r := ?_)
    refine tX2_reckon_81 (r := ?_)
    refine tX2_reckon_85  (hP := ?_)
    exact ⟨_, rfl, e.symm, rfl⟩

set_option maxHeartbeats 4000000 in
set_option maxRecDepth 100000 in
theorem s_reckon35 (hd : 1 ≤ d) {l r : Int32} : RQ G mX2_reckon d 0 [some (.ref b), some (.ref (OLD + 35)), some (.int l), some (.int r)] [] h (Ri fun v h1 => v = jnV 35 l r ∧ h1 = h) := by
  refine tX2_reckon_0  (r := ?_)
  refine tX2_reckon_3  (r := ?_)
  refine tX2_reckon_4 (hi := (by decide)) (hd := (by omega)) (r := ?_)
  refine uX2_reckon_7 (hx := rfl) (hj := (by decide)) (r := ?_)
  refine tX2_reckon_8 (n := SMk 35) (hn := (by decide)) (r := ?_)
  show RQ _ _ _ 86 _ _ _ _
  refine tX2_reckon_86  (r := ?_)
  refine tX2_reckon_87  (r := ?_)
  refine tX2_reckon_88  (kt := fun c_88 => ?_) (kf := fun c_88 => ?_)
  · have e : jnV 35 l r = nI 0 := if_neg c_88
    refine tX2_reckon_95  (r := ?_)
    refine tX2_reckon_96  (hP := ?_)
    exact ⟨_, rfl, e.symm, rfl⟩
  · have e : jnV 35 l r = nI 1 := if_pos c_88
    refine tX2_reckon_91  (r := ?_)
    refine tX2_reckon_92 (r := ?_)
    refine tX2_reckon_96  (hP := ?_)
    exact ⟨_, rfl, e.symm, rfl⟩

set_option maxHeartbeats 4000000 in
set_option maxRecDepth 100000 in
theorem s_reckon36 (hd : 1 ≤ d) {l r : Int32} : RQ G mX2_reckon d 0 [some (.ref b), some (.ref (OLD + 36)), some (.int l), some (.int r)] [] h (Ri fun v h1 => v = jnV 36 l r ∧ h1 = h) := by
  refine tX2_reckon_0  (r := ?_)
  refine tX2_reckon_3  (r := ?_)
  refine tX2_reckon_4 (hi := (by decide)) (hd := (by omega)) (r := ?_)
  refine uX2_reckon_7 (hx := rfl) (hj := (by decide)) (r := ?_)
  refine tX2_reckon_8 (n := SMk 36) (hn := (by decide)) (r := ?_)
  show RQ _ _ _ 52 _ _ _ _
  refine tX2_reckon_52  (r := ?_)
  refine tX2_reckon_53  (r := ?_)
  refine tX2_reckon_54  (r := ?_)
  refine tX2_reckon_55  (hP := ?_)
  exact ⟨_, rfl, rfl, rfl⟩

set_option maxHeartbeats 4000000 in
set_option maxRecDepth 100000 in
theorem s_reckon37 (hd : 1 ≤ d) {l r : Int32} : RQ G mX2_reckon d 0 [some (.ref b), some (.ref (OLD + 37)), some (.int l), some (.int r)] [] h (Ri fun v h1 => v = jnV 37 l r ∧ h1 = h) := by
  refine tX2_reckon_0  (r := ?_)
  refine tX2_reckon_3  (r := ?_)
  refine tX2_reckon_4 (hi := (by decide)) (hd := (by omega)) (r := ?_)
  refine uX2_reckon_7 (hx := rfl) (hj := (by decide)) (r := ?_)
  refine tX2_reckon_8 (n := SMk 37) (hn := (by decide)) (r := ?_)
  show RQ _ _ _ 56 _ _ _ _
  refine tX2_reckon_56  (r := ?_)
  refine tX2_reckon_57  (r := ?_)
  refine tX2_reckon_58  (r := ?_)
  refine tX2_reckon_59  (hP := ?_)
  exact ⟨_, rfl, rfl, rfl⟩

set_option maxHeartbeats 4000000 in
set_option maxRecDepth 100000 in
theorem s_reckon38 (hd : 1 ≤ d) {l r : Int32} : RQ G mX2_reckon d 0 [some (.ref b), some (.ref (OLD + 38)), some (.int l), some (.int r)] [] h (Ri fun v h1 => v = jnV 38 l r ∧ h1 = h) := by
  refine tX2_reckon_0  (r := ?_)
  refine tX2_reckon_3  (r := ?_)
  refine tX2_reckon_4 (hi := (by decide)) (hd := (by omega)) (r := ?_)
  refine uX2_reckon_7 (hx := rfl) (hj := (by decide)) (r := ?_)
  refine tX2_reckon_8 (n := SMk 38) (hn := (by decide)) (r := ?_)
  show RQ _ _ _ 60 _ _ _ _
  refine tX2_reckon_60  (r := ?_)
  refine tX2_reckon_61  (r := ?_)
  refine tX2_reckon_62  (r := ?_)
  refine tX2_reckon_63  (hP := ?_)
  exact ⟨_, rfl, rfl, rfl⟩

theorem s_reckon (hd : 1 ≤ d) {kd : Nat} (hk : isJn kd = true) {l r : Int32} : RQ G mX2_reckon d 0 [some (.ref b), some (.ref (OLD + kd)), some (.int l), some (.int r)] [] h (Ri fun v h1 => v = jnV kd l r ∧ h1 = h) := by
  rcases isJn_or hk with e | e | e | e | e | e | e | e
  · subst e
    exact s_reckon16 hd
  · subst e
    exact s_reckon17 hd
  · subst e
    exact s_reckon33 hd
  · subst e
    exact s_reckon34 hd
  · subst e
    exact s_reckon35 hd
  · subst e
    exact s_reckon36 hd
  · subst e
    exact s_reckon37 hd
  · subst e
    exact s_reckon38 hd

set_option maxHeartbeats 4000000 in
set_option maxRecDepth 100000 in
theorem s_look20 (hd : 4 ≤ d) (cu : CuR h c B D) (hb : BDok B D) {i : Nat} (hi : i < bLi B) {n : Nat} : RQ G mX2_look d 0 [some (.ref b), some (.ref (OLD + 20)), some (.int (nI n)), some (.ref c), some (.int (nI (dL D i))), some (.int (nI (bLl B i)))] [] h (Ri fun v h1 => v = lkV B D i 20 n ∧ CuR h1 c B D ∧ Sm h h1 c (c + 45)) := by
  obtain ⟨jf, lj, fo, le, u0, u1, u2, u3, u4, u5, u6, u7, u8, u9⟩ := id cu
  have l1 := hb.1
  have l2 := hb.2.1
  obtain ⟨b1_, b2_⟩ := hb.2.2.2.2.2.2.2.1 i hi
  obtain ⟨bf, p, w, l, tu, fi, ma, co, ⟨b0, b1, b2, b3, b4⟩, hb2, hb3⟩ := u9 (dL D i) (by omega)
  refine tX2_look_0  (r := ?_)
  refine tX2_look_3  (r := ?_)
  refine tX2_look_4 (hi := (by decide)) (hd := (by omega)) (r := ?_)
  refine uX2_look_7 (hx := rfl) (hj := (by decide)) (r := ?_)
  refine tX2_look_8 (n := SMk 20) (hn := (by decide)) (r := ?_)
  show RQ _ _ _ 52 _ _ _ _
  refine tX2_look_52  (r := ?_)
  refine tX2_look_53 (ha := (by first | assumption | (repeat (first | assumption | exact At.set_eq2 (by first | omega | (simp only [hset, hnew]; omega) | rfl | decide) | exact At.new_eq2 _ _ (by first | omega | (simp only [hset, hnew]; omega) | rfl | decide) | refine At.set_ne ?_ (by first | omega | (simp only [hset, hnew]; omega) | rfl | decide) | refine At.new_ne ?_)))) (hv := rfl) (r := ?_)
  refine tX2_look_56  (hP := ?_)
  exact ⟨_, rfl, rfl, cu, Sm.rf _ _ _⟩

set_option maxHeartbeats 4000000 in
set_option maxRecDepth 100000 in
theorem s_look21 (hd : 4 ≤ d) (cu : CuR h c B D) (hb : BDok B D) {i : Nat} (hi : i < bLi B) {n : Nat} (hn : n < bLa B) : RQ G mX2_look d 0 [some (.ref b), some (.ref (OLD + 21)), some (.int (nI n)), some (.ref c), some (.int (nI (dL D i))), some (.int (nI (bLl B i)))] [] h (Ri fun v h1 => v = lkV B D i 21 n ∧ CuR h1 c B D ∧ Sm h h1 c (c + 45)) := by
  obtain ⟨jf, lj, fo, le, u0, u1, u2, u3, u4, u5, u6, u7, u8, u9⟩ := id cu
  have l1 := hb.1
  have l2 := hb.2.1
  obtain ⟨b1_, b2_⟩ := hb.2.2.2.2.2.2.2.1 i hi
  obtain ⟨bf, p, w, l, tu, fi, ma, co, ⟨b0, b1, b2, b3, b4⟩, hb2, hb3⟩ := u9 (dL D i) (by omega)
  refine tX2_look_0  (r := ?_)
  refine tX2_look_3  (r := ?_)
  refine tX2_look_4 (hi := (by decide)) (hd := (by omega)) (r := ?_)
  refine uX2_look_7 (hx := rfl) (hj := (by decide)) (r := ?_)
  refine tX2_look_8 (n := SMk 21) (hn := (by decide)) (r := ?_)
  show RQ _ _ _ 57 _ _ _ _
  refine tX2_look_57  (r := ?_)
  refine tX2_look_58 (ha := (by first | assumption | (repeat (first | assumption | exact At.set_eq2 (by first | omega | (simp only [hset, hnew]; omega) | rfl | decide) | exact At.new_eq2 _ _ (by first | omega | (simp only [hset, hnew]; omega) | rfl | decide) | refine At.set_ne ?_ (by first | omega | (simp only [hset, hnew]; omega) | rfl | decide) | refine At.new_ne ?_)))) (hv := rfl) (r := ?_)
  refine tX2_look_61  (r := ?_)
  refine tX2_look_63 (ha := (by first | assumption | (repeat (first | assumption | exact At.set_eq2 (by first | omega | (simp only [hset, hnew]; omega) | rfl | decide) | exact At.new_eq2 _ _ (by first | omega | (simp only [hset, hnew]; omega) | rfl | decide) | refine At.set_ne ?_ (by first | omega | (simp only [hset, hnew]; omega) | rfl | decide) | refine At.new_ne ?_)))) (hx := rfl) (hj := (by omega)) (hn := (by decide)) (hf := (u5 _ (by omega))) (r := ?_)
  refine tX2_look_64 (ha := (by first | assumption | (repeat (first | assumption | exact At.set_eq2 (by first | omega | (simp only [hset, hnew]; omega) | rfl | decide) | exact At.new_eq2 _ _ (by first | omega | (simp only [hset, hnew]; omega) | rfl | decide) | refine At.set_ne ?_ (by first | omega | (simp only [hset, hnew]; omega) | rfl | decide) | refine At.new_ne ?_)))) (hv := rfl) (r := ?_)
  refine tX2_look_67  (r := ?_)
  refine tX2_look_68 (ha := (by first | assumption | (repeat (first | assumption | exact At.set_eq2 (by first | omega | (simp only [hset, hnew]; omega) | rfl | decide) | exact At.new_eq2 _ _ (by first | omega | (simp only [hset, hnew]; omega) | rfl | decide) | refine At.set_ne ?_ (by first | omega | (simp only [hset, hnew]; omega) | rfl | decide) | refine At.new_ne ?_)))) (hx := rfl) (hj := (by omega)) (hn := (by decide)) (r := ?_)
  rw [hb2 _ (by omega)]
  refine tX2_look_69  (hP := ?_)
  exact ⟨_, rfl, rfl, cu, Sm.rf _ _ _⟩

set_option maxHeartbeats 4000000 in
set_option maxRecDepth 100000 in
theorem s_look2 (hd : 4 ≤ d) (cu : CuR h c B D) (hb : BDok B D) {i : Nat} (hi : i < bLi B) {n : Nat} (hn : n < bLa B) : RQ G mX2_look d 0 [some (.ref b), some (.ref (OLD + 2)), some (.int (nI n)), some (.ref c), some (.int (nI (dL D i))), some (.int (nI (bLl B i)))] [] h (Ri fun v h1 => v = lkV B D i 2 n ∧ CuR h1 c B D ∧ Sm h h1 c (c + 45)) := by
  obtain ⟨jf, lj, fo, le, u0, u1, u2, u3, u4, u5, u6, u7, u8, u9⟩ := id cu
  have l1 := hb.1
  have l2 := hb.2.1
  obtain ⟨b1_, b2_⟩ := hb.2.2.2.2.2.2.2.1 i hi
  obtain ⟨bf, p, w, l, tu, fi, ma, co, ⟨b0, b1, b2, b3, b4⟩, hb2, hb3⟩ := u9 (dL D i) (by omega)
  refine tX2_look_0  (r := ?_)
  refine tX2_look_3  (r := ?_)
  refine tX2_look_4 (hi := (by decide)) (hd := (by omega)) (r := ?_)
  refine uX2_look_7 (hx := rfl) (hj := (by decide)) (r := ?_)
  refine tX2_look_8 (n := SMk 2) (hn := (by decide)) (r := ?_)
  show RQ _ _ _ 70 _ _ _ _
  refine tX2_look_70  (r := ?_)
  refine tX2_look_71  (r := ?_)
  refine tX2_look_72 (hd := (by omega)) (ha := (by first | assumption | (repeat (first | assumption | exact At.set_eq2 (by first | omega | (simp only [hset, hnew]; omega) | rfl | decide) | exact At.new_eq2 _ _ (by first | omega | (simp only [hset, hnew]; omega) | rfl | decide) | refine At.set_ne ?_ (by first | omega | (simp only [hset, hnew]; omega) | rfl | decide) | refine At.new_ne ?_)))) (call := s_allSeats (d := 3) (by decide) hb (show n < 6 by omega) cu) (k := ?_)
  rintro v h1 ⟨rfl, cu1, sm⟩
  refine tX2_look_75  (hP := ?_)
  exact ⟨_, rfl, rfl, cu1, sm⟩

set_option maxHeartbeats 4000000 in
set_option maxRecDepth 100000 in
theorem s_look22 (hd : 4 ≤ d) (cu : CuR h c B D) (hb : BDok B D) {i : Nat} (hi : i < bLi B) {n : Nat} : RQ G mX2_look d 0 [some (.ref b), some (.ref (OLD + 22)), some (.int (nI n)), some (.ref c), some (.int (nI (dL D i))), some (.int (nI (bLl B i)))] [] h (Ri fun v h1 => v = lkV B D i 22 n ∧ CuR h1 c B D ∧ Sm h h1 c (c + 45)) := by
  obtain ⟨jf, lj, fo, le, u0, u1, u2, u3, u4, u5, u6, u7, u8, u9⟩ := id cu
  have l1 := hb.1
  have l2 := hb.2.1
  obtain ⟨b1_, b2_⟩ := hb.2.2.2.2.2.2.2.1 i hi
  obtain ⟨bf, p, w, l, tu, fi, ma, co, ⟨b0, b1, b2, b3, b4⟩, hb2, hb3⟩ := u9 (dL D i) (by omega)
  refine tX2_look_0  (r := ?_)
  refine tX2_look_3  (r := ?_)
  refine tX2_look_4 (hi := (by decide)) (hd := (by omega)) (r := ?_)
  refine uX2_look_7 (hx := rfl) (hj := (by decide)) (r := ?_)
  refine tX2_look_8 (n := SMk 22) (hn := (by decide)) (r := ?_)
  show RQ _ _ _ 76 _ _ _ _
  refine tX2_look_76  (r := ?_)
  refine tX2_look_77  (r := ?_)
  refine tX2_look_79 (hd := (by omega)) (ha := (by first | assumption | (repeat (first | assumption | exact At.set_eq2 (by first | omega | (simp only [hset, hnew]; omega) | rfl | decide) | exact At.new_eq2 _ _ (by first | omega | (simp only [hset, hnew]; omega) | rfl | decide) | refine At.set_ne ?_ (by first | omega | (simp only [hset, hnew]; omega) | rfl | decide) | refine At.new_ne ?_)))) (call := (s_counted (d := 3) (by decide) cu hb (show dL D i < 8 by omega)).imp (fun o9 h9 q9 => (⟨_, q9.1, rfl, q9.2⟩ : Rr (fun r h1 => r = c + 5 + 5 * dL D i ∧ JaC h1 (c + 5 + 5 * dL D i) (dB D (dL D i)) (bSe B (dL D i)) (bWy B (dL D i)) (rt (dF D)) ∧ CuR h1 c B D ∧ Sm h h1 (c + 5 + 5 * dL D i) (c + 5 + 5 * dL D i + 5)) o9 h9))) (k := ?_)
  rintro jj h1 ⟨rfl, q9⟩
  obtain ⟨jc, cu1, sm⟩ := q9
  have smc := sm.sub (lo2 := c) (hi2 := c + 45) (by omega) (by omega)
  obtain ⟨bf_, p_, w_, l_, tu_, fi_, ma_, ⟨d0, d1, d2, d3, d4⟩, hb2_, cp, cw_, ct, cf, cm⟩ := jc
  obtain ⟨jf1, lj1, fo1, le1, v0, v1, v2, v3, v4, v5, v6, v7, v8, v9⟩ := id cu1
  refine tX2_look_82 (ha := (by first | assumption | (repeat (first | assumption | exact At.set_eq2 (by first | omega | (simp only [hset, hnew]; omega) | rfl | decide) | exact At.new_eq2 _ _ (by first | omega | (simp only [hset, hnew]; omega) | rfl | decide) | refine At.set_ne ?_ (by first | omega | (simp only [hset, hnew]; omega) | rfl | decide) | refine At.new_ne ?_)))) (hv := rfl) (r := ?_)
  rw [cm]
  refine tX2_look_85  (hP := ?_)
  exact ⟨_, rfl, rfl, cu1, smc⟩

set_option maxHeartbeats 4000000 in
set_option maxRecDepth 100000 in
theorem s_look23 (hd : 4 ≤ d) (cu : CuR h c B D) (hb : BDok B D) {i : Nat} (hi : i < bLi B) {n : Nat} : RQ G mX2_look d 0 [some (.ref b), some (.ref (OLD + 23)), some (.int (nI n)), some (.ref c), some (.int (nI (dL D i))), some (.int (nI (bLl B i)))] [] h (Ri fun v h1 => v = lkV B D i 23 n ∧ CuR h1 c B D ∧ Sm h h1 c (c + 45)) := by
  obtain ⟨jf, lj, fo, le, u0, u1, u2, u3, u4, u5, u6, u7, u8, u9⟩ := id cu
  have l1 := hb.1
  have l2 := hb.2.1
  obtain ⟨b1_, b2_⟩ := hb.2.2.2.2.2.2.2.1 i hi
  obtain ⟨bf, p, w, l, tu, fi, ma, co, ⟨b0, b1, b2, b3, b4⟩, hb2, hb3⟩ := u9 (dL D i) (by omega)
  refine tX2_look_0  (r := ?_)
  refine tX2_look_3  (r := ?_)
  refine tX2_look_4 (hi := (by decide)) (hd := (by omega)) (r := ?_)
  refine uX2_look_7 (hx := rfl) (hj := (by decide)) (r := ?_)
  refine tX2_look_8 (n := SMk 23) (hn := (by decide)) (r := ?_)
  show RQ _ _ _ 86 _ _ _ _
  refine tX2_look_86  (r := ?_)
  refine tX2_look_87  (r := ?_)
  refine tX2_look_89 (hd := (by omega)) (ha := (by first | assumption | (repeat (first | assumption | exact At.set_eq2 (by first | omega | (simp only [hset, hnew]; omega) | rfl | decide) | exact At.new_eq2 _ _ (by first | omega | (simp only [hset, hnew]; omega) | rfl | decide) | refine At.set_ne ?_ (by first | omega | (simp only [hset, hnew]; omega) | rfl | decide) | refine At.new_ne ?_)))) (call := (s_counted (d := 3) (by decide) cu hb (show dL D i < 8 by omega)).imp (fun o9 h9 q9 => (⟨_, q9.1, rfl, q9.2⟩ : Rr (fun r h1 => r = c + 5 + 5 * dL D i ∧ JaC h1 (c + 5 + 5 * dL D i) (dB D (dL D i)) (bSe B (dL D i)) (bWy B (dL D i)) (rt (dF D)) ∧ CuR h1 c B D ∧ Sm h h1 (c + 5 + 5 * dL D i) (c + 5 + 5 * dL D i + 5)) o9 h9))) (k := ?_)
  rintro jj h1 ⟨rfl, q9⟩
  obtain ⟨jc, cu1, sm⟩ := q9
  have smc := sm.sub (lo2 := c) (hi2 := c + 45) (by omega) (by omega)
  obtain ⟨bf_, p_, w_, l_, tu_, fi_, ma_, ⟨d0, d1, d2, d3, d4⟩, hb2_, cp, cw_, ct, cf, cm⟩ := jc
  obtain ⟨jf1, lj1, fo1, le1, v0, v1, v2, v3, v4, v5, v6, v7, v8, v9⟩ := id cu1
  refine tX2_look_92 (ha := (by first | assumption | (repeat (first | assumption | exact At.set_eq2 (by first | omega | (simp only [hset, hnew]; omega) | rfl | decide) | exact At.new_eq2 _ _ (by first | omega | (simp only [hset, hnew]; omega) | rfl | decide) | refine At.set_ne ?_ (by first | omega | (simp only [hset, hnew]; omega) | rfl | decide) | refine At.new_ne ?_)))) (hv := rfl) (r := ?_)
  rw [ct]
  refine tX2_look_95  (hP := ?_)
  exact ⟨_, rfl, rfl, cu1, smc⟩

set_option maxHeartbeats 4000000 in
set_option maxRecDepth 100000 in
theorem s_look18 (hd : 4 ≤ d) (cu : CuR h c B D) (hb : BDok B D) {i : Nat} (hi : i < bLi B) {n : Nat} (hn : n < bLa B) : RQ G mX2_look d 0 [some (.ref b), some (.ref (OLD + 18)), some (.int (nI n)), some (.ref c), some (.int (nI (dL D i))), some (.int (nI (bLl B i)))] [] h (Ri fun v h1 => v = lkV B D i 18 n ∧ CuR h1 c B D ∧ Sm h h1 c (c + 45)) := by
  obtain ⟨jf, lj, fo, le, u0, u1, u2, u3, u4, u5, u6, u7, u8, u9⟩ := id cu
  have l1 := hb.1
  have l2 := hb.2.1
  obtain ⟨b1_, b2_⟩ := hb.2.2.2.2.2.2.2.1 i hi
  obtain ⟨bf, p, w, l, tu, fi, ma, co, ⟨b0, b1, b2, b3, b4⟩, hb2, hb3⟩ := u9 (dL D i) (by omega)
  have r6 := rt_lt6 hb n (by omega)
  refine tX2_look_0  (r := ?_)
  refine tX2_look_3  (r := ?_)
  refine tX2_look_4 (hi := (by decide)) (hd := (by omega)) (r := ?_)
  refine uX2_look_7 (hx := rfl) (hj := (by decide)) (r := ?_)
  refine tX2_look_8 (n := SMk 18) (hn := (by decide)) (r := ?_)
  show RQ _ _ _ 96 _ _ _ _
  refine tX2_look_96  (r := ?_)
  refine tX2_look_97  (r := ?_)
  refine tX2_look_99 (hd := (by omega)) (ha := (by first | assumption | (repeat (first | assumption | exact At.set_eq2 (by first | omega | (simp only [hset, hnew]; omega) | rfl | decide) | exact At.new_eq2 _ _ (by first | omega | (simp only [hset, hnew]; omega) | rfl | decide) | refine At.set_ne ?_ (by first | omega | (simp only [hset, hnew]; omega) | rfl | decide) | refine At.new_ne ?_)))) (call := (s_counted (d := 3) (by decide) cu hb (show dL D i < 8 by omega)).imp (fun o9 h9 q9 => (⟨_, q9.1, rfl, q9.2⟩ : Rr (fun r h1 => r = c + 5 + 5 * dL D i ∧ JaC h1 (c + 5 + 5 * dL D i) (dB D (dL D i)) (bSe B (dL D i)) (bWy B (dL D i)) (rt (dF D)) ∧ CuR h1 c B D ∧ Sm h h1 (c + 5 + 5 * dL D i) (c + 5 + 5 * dL D i + 5)) o9 h9))) (k := ?_)
  rintro jj h1 ⟨rfl, q9⟩
  obtain ⟨jc, cu1, sm⟩ := q9
  have smc := sm.sub (lo2 := c) (hi2 := c + 45) (by omega) (by omega)
  obtain ⟨bf_, p_, w_, l_, tu_, fi_, ma_, ⟨d0, d1, d2, d3, d4⟩, hb2_, cp, cw_, ct, cf, cm⟩ := jc
  obtain ⟨jf1, lj1, fo1, le1, v0, v1, v2, v3, v4, v5, v6, v7, v8, v9⟩ := id cu1
  refine tX2_look_102 (ha := (by first | assumption | (repeat (first | assumption | exact At.set_eq2 (by first | omega | (simp only [hset, hnew]; omega) | rfl | decide) | exact At.new_eq2 _ _ (by first | omega | (simp only [hset, hnew]; omega) | rfl | decide) | refine At.set_ne ?_ (by first | omega | (simp only [hset, hnew]; omega) | rfl | decide) | refine At.new_ne ?_)))) (hv := rfl) (r := ?_)
  rw [cf]
  refine tX2_look_105  (r := ?_)
  refine tX2_look_106 (ha := (by first | assumption | (repeat (first | assumption | exact At.set_eq2 (by first | omega | (simp only [hset, hnew]; omega) | rfl | decide) | exact At.new_eq2 _ _ (by first | omega | (simp only [hset, hnew]; omega) | rfl | decide) | refine At.set_ne ?_ (by first | omega | (simp only [hset, hnew]; omega) | rfl | decide) | refine At.new_ne ?_)))) (hv := rfl) (r := ?_)
  refine tX2_look_109  (r := ?_)
  refine tX2_look_110 (ha := (by first | assumption | (repeat (first | assumption | exact At.set_eq2 (by first | omega | (simp only [hset, hnew]; omega) | rfl | decide) | exact At.new_eq2 _ _ (by first | omega | (simp only [hset, hnew]; omega) | rfl | decide) | refine At.set_ne ?_ (by first | omega | (simp only [hset, hnew]; omega) | rfl | decide) | refine At.new_ne ?_)))) (hx := rfl) (hj := (by omega)) (hn := (by decide)) (r := ?_)
  rw [v8 _ (by omega)]
  refine tX2_look_111  (kt := fun c_111 => ?_) (kf := fun c_111 => ?_)
  · have e : lkV B D i 18 n = nI 0 := if_neg (c := fiN (po (rt (dF D)) (dB D (dL D i))) 6 = some (rt (dF D) n)) (fun z => c_111 (by rw [z]; rfl))
    refine tX2_look_118  (r := ?_)
    refine tX2_look_119  (hP := ?_)
    exact ⟨_, rfl, e.symm, cu1, smc⟩
  · have e : lkV B D i 18 n = nI 1 := if_pos (c := fiN (po (rt (dF D)) (dB D (dL D i))) 6 = some (rt (dF D) n)) ((oI_eq (by omega) (fun k z => by have := fi_lt _ _ _ z; omega)).mp c_111.symm)
    refine tX2_look_114  (r := ?_)
    refine tX2_look_115 (r := ?_)
    refine tX2_look_119  (hP := ?_)
    exact ⟨_, rfl, e.symm, cu1, smc⟩

set_option maxHeartbeats 4000000 in
set_option maxRecDepth 100000 in
theorem s_look19 (hd : 4 ≤ d) (cu : CuR h c B D) (hb : BDok B D) {i : Nat} (hi : i < bLi B) {n : Nat} (hn : n < bLa B) : RQ G mX2_look d 0 [some (.ref b), some (.ref (OLD + 19)), some (.int (nI n)), some (.ref c), some (.int (nI (dL D i))), some (.int (nI (bLl B i)))] [] h (Ri fun v h1 => v = lkV B D i 19 n ∧ CuR h1 c B D ∧ Sm h h1 c (c + 45)) := by
  obtain ⟨jf, lj, fo, le, u0, u1, u2, u3, u4, u5, u6, u7, u8, u9⟩ := id cu
  have l1 := hb.1
  have l2 := hb.2.1
  obtain ⟨b1_, b2_⟩ := hb.2.2.2.2.2.2.2.1 i hi
  obtain ⟨bf, p, w, l, tu, fi, ma, co, ⟨b0, b1, b2, b3, b4⟩, hb2, hb3⟩ := u9 (dL D i) (by omega)
  have r6 := rt_lt6 hb n (by omega)
  have r7 := rt_lt6 hb (bLl B i) (by omega)
  refine tX2_look_0  (r := ?_)
  refine tX2_look_3  (r := ?_)
  refine tX2_look_4 (hi := (by decide)) (hd := (by omega)) (r := ?_)
  refine uX2_look_7 (hx := rfl) (hj := (by decide)) (r := ?_)
  refine tX2_look_8 (n := SMk 19) (hn := (by decide)) (r := ?_)
  show RQ _ _ _ 120 _ _ _ _
  refine tX2_look_120  (r := ?_)
  refine tX2_look_121 (ha := (by first | assumption | (repeat (first | assumption | exact At.set_eq2 (by first | omega | (simp only [hset, hnew]; omega) | rfl | decide) | exact At.new_eq2 _ _ (by first | omega | (simp only [hset, hnew]; omega) | rfl | decide) | refine At.set_ne ?_ (by first | omega | (simp only [hset, hnew]; omega) | rfl | decide) | refine At.new_ne ?_)))) (hv := rfl) (r := ?_)
  refine tX2_look_124  (r := ?_)
  refine tX2_look_126 (ha := (by first | assumption | (repeat (first | assumption | exact At.set_eq2 (by first | omega | (simp only [hset, hnew]; omega) | rfl | decide) | exact At.new_eq2 _ _ (by first | omega | (simp only [hset, hnew]; omega) | rfl | decide) | refine At.set_ne ?_ (by first | omega | (simp only [hset, hnew]; omega) | rfl | decide) | refine At.new_ne ?_)))) (hx := rfl) (hj := (by omega)) (hn := (by decide)) (r := ?_)
  rw [u8 _ (by omega)]
  refine tX2_look_127  (r := ?_)
  refine tX2_look_128 (ha := (by first | assumption | (repeat (first | assumption | exact At.set_eq2 (by first | omega | (simp only [hset, hnew]; omega) | rfl | decide) | exact At.new_eq2 _ _ (by first | omega | (simp only [hset, hnew]; omega) | rfl | decide) | refine At.set_ne ?_ (by first | omega | (simp only [hset, hnew]; omega) | rfl | decide) | refine At.new_ne ?_)))) (hv := rfl) (r := ?_)
  refine tX2_look_131  (r := ?_)
  refine tX2_look_132 (ha := (by first | assumption | (repeat (first | assumption | exact At.set_eq2 (by first | omega | (simp only [hset, hnew]; omega) | rfl | decide) | exact At.new_eq2 _ _ (by first | omega | (simp only [hset, hnew]; omega) | rfl | decide) | refine At.set_ne ?_ (by first | omega | (simp only [hset, hnew]; omega) | rfl | decide) | refine At.new_ne ?_)))) (hx := rfl) (hj := (by omega)) (hn := (by decide)) (r := ?_)
  rw [u8 _ (by omega)]
  refine tX2_look_133  (kt := fun c_133 => ?_) (kf := fun c_133 => ?_)
  · have e : lkV B D i 19 n = nI 0 := if_neg (c := rt (dF D) (bLl B i) = rt (dF D) n) (fun z => c_133 (by rw [z]))
    refine tX2_look_140  (r := ?_)
    refine tX2_look_141  (hP := ?_)
    exact ⟨_, rfl, e.symm, cu, Sm.rf _ _ _⟩
  · have e : lkV B D i 19 n = nI 1 := if_pos (c := rt (dF D) (bLl B i) = rt (dF D) n) ((nI_eq (by omega) (by omega)).mp c_133)
    refine tX2_look_136  (r := ?_)
    refine tX2_look_137 (r := ?_)
    refine tX2_look_141  (hP := ?_)
    exact ⟨_, rfl, e.symm, cu, Sm.rf _ _ _⟩

set_option maxHeartbeats 4000000 in
set_option maxRecDepth 100000 in
theorem s_look40 (hd : 4 ≤ d) (cu : CuR h c B D) (hb : BDok B D) {i : Nat} (hi : i < bLi B) {n : Nat} : RQ G mX2_look d 0 [some (.ref b), some (.ref (OLD + 40)), some (.int (nI n)), some (.ref c), some (.int (nI (dL D i))), some (.int (nI (bLl B i)))] [] h (Ri fun v h1 => v = nI n ∧ CuR h1 c B D ∧ Sm h h1 c (c + 45)) := by
  obtain ⟨jf, lj, fo, le, u0, u1, u2, u3, u4, u5, u6, u7, u8, u9⟩ := id cu
  have l1 := hb.1
  have l2 := hb.2.1
  obtain ⟨b1_, b2_⟩ := hb.2.2.2.2.2.2.2.1 i hi
  obtain ⟨bf, p, w, l, tu, fi, ma, co, ⟨b0, b1, b2, b3, b4⟩, hb2, hb3⟩ := u9 (dL D i) (by omega)
  refine tX2_look_0  (r := ?_)
  refine tX2_look_3  (r := ?_)
  refine tX2_look_4 (hi := (by decide)) (hd := (by omega)) (r := ?_)
  refine uX2_look_7 (hx := rfl) (hj := (by decide)) (r := ?_)
  refine tX2_look_8 (n := SMk 40) (hn := (by decide)) (r := ?_)
  show RQ _ _ _ 142 _ _ _ _
  refine tX2_look_142  (r := ?_)
  refine tX2_look_143  (hP := ?_)
  exact ⟨_, rfl, rfl, cu, Sm.rf _ _ _⟩

theorem s_look (hd : 4 ≤ d) (cu : CuR h c B D) (hb : BDok B D) {i : Nat} (hi : i < bLi B) {n : Nat} {kd : Nat} (hk : isLk kd = true) (ok : okS B kd n) : RQ G mX2_look d 0 [some (.ref b), some (.ref (OLD + kd)), some (.int (nI n)), some (.ref c), some (.int (nI (dL D i))), some (.int (nI (bLl B i)))] [] h (Ri fun v h1 => v = lkV B D i kd n ∧ CuR h1 c B D ∧ Sm h h1 c (c + 45)) := by
  have hn := ok.2.2.1
  rcases isLk_or hk with e | e | e | e | e | e | e
  · subst e
    exact s_look2 hd cu hb hi (hn (by decide))
  · subst e
    exact s_look18 hd cu hb hi (hn (by decide))
  · subst e
    exact s_look19 hd cu hb hi (hn (by decide))
  · subst e
    exact s_look20 hd cu hb hi
  · subst e
    exact s_look21 hd cu hb hi (hn (by decide))
  · subst e
    exact s_look22 hd cu hb hi
  · subst e
    exact s_look23 hd cu hb hi

set_option maxHeartbeats 4000000 in
set_option maxRecDepth 100000 in
theorem s_kindAt {q : Nat} (sc : ScrR h q B) (hr : 0 < bRs B) (h4 : cSt B ≤ 400) {k : Nat} (hk : k < cSt B) : RQ G mX7_kindAt d 0 [some (.ref q), some (.int (nI k)), none] [] h (Rr fun r h1 => r = OLD + cKd B k ∧ h1 = h) := by
  obtain ⟨⟨st, ru, acc, a0, c0⟩, ⟨f1, a1, c1⟩, -⟩ := sc
  have hst := c0 hr
  subst hst
  refine tX7_kindAt_0  (r := ?_)
  refine tX7_kindAt_1  (kt := fun c_ => by exfalso; exact absurd c_ (nI_pos (by omega))) (kf := fun _ => ?_)
  refine tX7_kindAt_4  (r := ?_)
  refine tX7_kindAt_5  (r := ?_)
  refine tX7_kindAt_6 (ha := (by first | assumption | (repeat (first | assumption | exact At.set_eq2 (by first | omega | (simp only [hset, hnew]; omega) | rfl | decide) | exact At.new_eq2 _ _ (by first | omega | (simp only [hset, hnew]; omega) | rfl | decide) | refine At.set_ne ?_ (by first | omega | (simp only [hset, hnew]; omega) | rfl | decide) | refine At.new_ne ?_)))) (hv := rfl) (r := ?_)
  refine tX7_kindAt_9  (kt := fun c_ => by exfalso; exact absurd ((nI_leI (by omega) (by omega)).mp c_) (by omega)) (kf := fun _ => ?_)
  refine tX7_kindAt_12  (r := ?_)
  refine tX7_kindAt_13 (ha := (by first | assumption | (repeat (first | assumption | exact At.set_eq2 (by first | omega | (simp only [hset, hnew]; omega) | rfl | decide) | exact At.new_eq2 _ _ (by first | omega | (simp only [hset, hnew]; omega) | rfl | decide) | refine At.set_ne ?_ (by first | omega | (simp only [hset, hnew]; omega) | rfl | decide) | refine At.new_ne ?_)))) (hv := rfl) (r := ?_)
  refine tX7_kindAt_16  (r := ?_)
  refine tX7_kindAt_17 (ha := (by first | assumption | (repeat (first | assumption | exact At.set_eq2 (by first | omega | (simp only [hset, hnew]; omega) | rfl | decide) | exact At.new_eq2 _ _ (by first | omega | (simp only [hset, hnew]; omega) | rfl | decide) | refine At.set_ne ?_ (by first | omega | (simp only [hset, hnew]; omega) | rfl | decide) | refine At.new_ne ?_)))) (hx := rfl) (hj := (by omega)) (hn := (by decide)) (r := ?_)
  rw [c1 k hk]
  refine tX7_kindAt_18 (r := ?_)
  refine tX7_kindAt_24q (r0 := some (OLD + cKd B k)) (r := ?_)
  refine tX7_kindAt_25q (r := ?_)
  refine tX7_kindAt_26 (kt := fun _ => ?_) (kf := fun z => nomatch z)
  refine tX7_kindAt_35 (k := OLD + cKd B k) (r := ?_)
  refine tX7_kindAt_36 (hP := ?_)
  exact ⟨_, rfl, rfl, rfl⟩

set_option maxHeartbeats 4000000 in
set_option maxRecDepth 100000 in
theorem s_numAt {q : Nat} (sc : ScrR h q B) (hr : 0 < bRs B) (h4 : cSt B ≤ 400) {k : Nat} (hk : k < cSt B) : RQ G mX7_numberAt d 0 [some (.ref q), some (.int (nI k))] [] h (Ri fun v h1 => v = nI (cNu B k) ∧ h1 = h) := by
  obtain ⟨⟨st, ru, acc, a0, c0⟩, -, ⟨f2, a2, c2⟩, -⟩ := sc
  have hst := c0 hr
  subst hst
  refine tX7_numberAt_0  (r := ?_)
  refine tX7_numberAt_1  (kt := fun c_ => by exfalso; exact absurd c_ (nI_pos (by omega))) (kf := fun _ => ?_)
  refine tX7_numberAt_4  (r := ?_)
  refine tX7_numberAt_5  (r := ?_)
  refine tX7_numberAt_6 (ha := (by first | assumption | (repeat (first | assumption | exact At.set_eq2 (by first | omega | (simp only [hset, hnew]; omega) | rfl | decide) | exact At.new_eq2 _ _ (by first | omega | (simp only [hset, hnew]; omega) | rfl | decide) | refine At.set_ne ?_ (by first | omega | (simp only [hset, hnew]; omega) | rfl | decide) | refine At.new_ne ?_)))) (hv := rfl) (r := ?_)
  refine tX7_numberAt_9  (kt := fun c_ => by exfalso; exact absurd ((nI_leI (by omega) (by omega)).mp c_) (by omega)) (kf := fun _ => ?_)
  refine tX7_numberAt_12  (r := ?_)
  refine tX7_numberAt_13 (ha := (by first | assumption | (repeat (first | assumption | exact At.set_eq2 (by first | omega | (simp only [hset, hnew]; omega) | rfl | decide) | exact At.new_eq2 _ _ (by first | omega | (simp only [hset, hnew]; omega) | rfl | decide) | refine At.set_ne ?_ (by first | omega | (simp only [hset, hnew]; omega) | rfl | decide) | refine At.new_ne ?_)))) (hv := rfl) (r := ?_)
  refine tX7_numberAt_16  (r := ?_)
  refine tX7_numberAt_17 (ha := (by first | assumption | (repeat (first | assumption | exact At.set_eq2 (by first | omega | (simp only [hset, hnew]; omega) | rfl | decide) | exact At.new_eq2 _ _ (by first | omega | (simp only [hset, hnew]; omega) | rfl | decide) | refine At.set_ne ?_ (by first | omega | (simp only [hset, hnew]; omega) | rfl | decide) | refine At.new_ne ?_)))) (hx := rfl) (hj := (by omega)) (hn := (by decide)) (r := ?_)
  rw [c2 k hk]
  refine tX7_numberAt_18 (r := ?_)
  refine tX7_numberAt_22  (hP := ?_)
  exact ⟨_, rfl, rfl, rfl⟩

end CAM
