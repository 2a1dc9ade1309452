/-! a campaign runs steps -/
theorem stV_len {B : BK} {D : DY} {i kd n : Nat} {S S' : List Int32} (h : stV B D i kd n S = some S') : S'.length ≤ S.length + 1 := by
  unfold stV at h
  by_cases h1 : kd = 15
  · rw [if_pos h1] at h
    cases S with
    | nil => exact nomatch h
    | cons x s =>
      cases h
      simp only [List.length_cons] <;> omega
  · rw [if_neg h1] at h
    by_cases h2 : kd = 40
    · rw [if_pos h2] at h
      cases h
      show S.length + 1 ≤ S.length + 1
      omega
    · rw [if_neg h2] at h
      by_cases h3 : isLk kd = true
      · rw [if_pos h3] at h
        cases h
        show S.length + 1 ≤ S.length + 1
        omega
      · rw [if_neg h3] at h
        by_cases h4 : isJn kd = true
        · rw [if_pos h4] at h
          match S, h with
          | [], h => exact nomatch h
          | [_], h => exact nomatch h
          | b :: a :: s, h =>
            cases h
            simp only [List.length_cons] <;> omega
        · rw [if_neg h4] at h
          exact nomatch h
theorem acV_len {B : BK} {D D' : DY} {i kd n : Nat} {S S' : List Int32} (h : acV B i kd n D S = some (D', S')) : S'.length ≤ S.length + 1 := by
  unfold acV at h
  by_cases h1 : isAc kd = true
  · rw [if_pos h1] at h
    by_cases h2 : kd = 9
    · rw [if_pos h2] at h
      cases S with
      | nil => exact nomatch h
      | cons x s =>
        cases h
        simp only [List.length_cons] <;> omega
    · rw [if_neg h2] at h
      cases h
      exact Nat.le_succ _
  · rw [if_neg h1] at h
    cases e : stV B D i kd n S with
    | none =>
      rw [e] at h
      exact nomatch h
    | some s =>
      rw [e] at h
      cases h
      exact stV_len e
theorem SMk_ac {kd : Nat} (h : isAc kd = true) : sw_X2_run (SMk kd) = 116 := by
  rcases isAc_or h with e | e | e | e | e <;> (subst e; rfl)
theorem SMk_lk {kd : Nat} (h : isLk kd = true ∨ kd = 40) : sw_X2_run (SMk kd) = 159 := by
  rcases h with h | e
  · rcases isLk_or h with e | e | e | e | e | e | e <;> (subst e; rfl)
  · subst e
    rfl
theorem SMk_jn {kd : Nat} (h : isJn kd = true) : sw_X2_run (SMk kd) = 187 := by
  rcases isJn_or h with e | e | e | e | e | e | e | e <;> (subst e; rfl)
/-- a step that is no act, apart -/
theorem stV_cases {B : BK} {D : DY} {i kd n : Nat} {S S' : List Int32} (h : stV B D i kd n S = some S') : (kd = 15 ∧ ∃ x s, S = x :: s ∧ S' = (if x = 0 then nI 1 else nI 0) :: s) ∨ (kd = 40 ∧ S' = nI n :: S) ∨ (isLk kd = true ∧ S' = lkV B D i kd n :: S) ∨ (isJn kd = true ∧ ∃ b a s, S = b :: a :: s ∧ S' = jnV kd a b :: s) := by
  unfold stV at h
  by_cases h1 : kd = 15
  · rw [if_pos h1] at h
    cases S with
    | nil => exact nomatch h
    | cons x s =>
      cases h
      exact Or.inl ⟨h1, x, s, rfl, rfl⟩
  · rw [if_neg h1] at h
    by_cases h2 : kd = 40
    · rw [if_pos h2] at h
      cases h
      exact Or.inr (Or.inl ⟨h2, rfl⟩)
    · rw [if_neg h2] at h
      by_cases h3 : isLk kd = true
      · rw [if_pos h3] at h
        cases h
        exact Or.inr (Or.inr (Or.inl ⟨h3, rfl⟩))
      · rw [if_neg h3] at h
        by_cases h4 : isJn kd = true
        · rw [if_pos h4] at h
          match S, h with
          | [], h => exact nomatch h
          | [_], h => exact nomatch h
          | b :: a :: s, h =>
            cases h
            exact Or.inr (Or.inr (Or.inr ⟨h4, b, a, s, rfl, rfl⟩))
        · rw [if_neg h4] at h
          exact nomatch h
section RUN
variable {G : GT} {d : Nat} {h0 h : AH} {b c bk : Nat} {B : BK} {D : DY} {S : List Int32} {ac : Int32}
theorem s_act (hd : 4 ≤ d) (hcb : c + 45 ≤ b) (bo : BoR h bk B) (cu : CuR h c B D) (hb : BDok B D) {i : Nat} (hi : i < bLi B) {kd n : Nat} (hk : isAc kd = true) (ok : okD B kd n) {D' : DY} {S' : List Int32} (e : acV B i kd n D S = some (D', S')) (cr : CamR h b S ac) : RQ G mX2_act d 0 [some (.ref b), some (.ref (OLD + kd)), some (.int (nI n)), some (.ref bk), some (.ref c), some (.int (nI i)), none, none] [] h (Rv fun h1 => CuR h1 c B D' ∧ BDok B D' ∧ CamR h1 b S' ac ∧ Sd h h1 c b) := by
  unfold acV at e
  rw [if_pos hk] at e
  by_cases h9 : kd = 9
  · rw [if_pos h9] at e
    cases S with
    | nil => exact nomatch e
    | cons x s =>
      cases e
      have ok2 := doV_ok (x := x) hb hi ok
      subst h9
      exact (s_act9 hd hcb bo cu hb hi (ok.1 (Or.inl rfl)) cr).imp (fun o9 h9 q9 => ⟨q9.1, q9.2.1, ok2, q9.2.2.1, q9.2.2.2⟩)
  · rw [if_neg h9] at e
    cases e
    have ok2 := doV_ok (x := 0) hb hi ok
    rcases isAc_or hk with e | e | e | e | e
    · exact absurd e h9
    · subst e
      exact (s_act11 hd hcb bo cu hb hi (ok.2 rfl) cr).imp (fun o9 h9 q9 => ⟨q9.1, q9.2.1, ok2, q9.2.2.1, q9.2.2.2⟩)
    · subst e
      exact (s_act12 hd hcb bo cu hb hi cr).imp (fun o9 h9 q9 => ⟨q9.1, q9.2.1, ok2, q9.2.2.1, q9.2.2.2⟩)
    · subst e
      exact (s_act13 hd hcb bo cu hb hi (ok.1 (Or.inr rfl)) cr).imp (fun o9 h9 q9 => ⟨q9.1, q9.2.1, ok2, q9.2.2.1, q9.2.2.2⟩)
    · subst e
      exact (s_act14 hd hcb bo cu hb hi cr).imp (fun o9 h9 q9 => ⟨q9.1, q9.2.1, ok2, q9.2.2.1, q9.2.2.2⟩)

set_option maxHeartbeats 4000000 in
set_option maxRecDepth 100000 in
theorem s_run_ac (hd : 6 ≤ d) (hcb : c + 45 ≤ b) (hbk : bk + 58 ≤ c ∨ b + 2 ≤ bk) (hw : WFs B) (hr : 0 < bRs B) {i : Nat} (hi : i < bLi B) {fr to a : Nat} (hto : to ≤ cSt B) (ha : a < to) (bo : BoR h bk B) (cu : CuR h c B D) (hb : BDok B D) (hlS : S.length < 400) {n0 : Nat} {x7 x8 x9 : Option Value} (o6 : ok1 x7 = true) (o7 : ok1 x8 = true) (o8 : ok1 x9 = true) {P : OC → AH → Prop} (cr : CamR h b S (nI n0)) (hk : isAc (cKd B a) = true) {D2 : DY} {S2 : List Int32} (e : acV B i (cKd B a) (cNu B a) D S = some (D2, S2)) (kk : ∀ (h1 : AH) (y7 y8 y9 : Option Value), ok1 y7 = true → ok1 y8 = true → ok1 y9 = true → BoR h1 bk B → CuR h1 c B D2 → BDok B D2 → CamR h1 b S2 (nI (n0 + 1)) → Sd h h1 c b → RQ G mX2_run d 9 [some (.ref b), some (.ref bk), some (.ref c), some (.int (nI i)), some (.int (nI fr)), some (.int (nI to)), some (.int (nI (a + 1))), y7, y8, y9] [] h1 P) : RQ G mX2_run d 9 [some (.ref b), some (.ref bk), some (.ref c), some (.int (nI i)), some (.int (nI fr)), some (.int (nI to)), some (.int (nI a)), x7, x8, x9] [] h P := by
  have hc4 : cSt B ≤ 400 := hw.1
  have hkd := (hw.2.2.2.2.1 a (by omega)).1
  obtain ⟨a0, hl4, f, a1, hf⟩ := id cr
  have bo0 := bo.1
  obtain ⟨-, -, -, -, ⟨y3, y4, y5⟩, -, -, -, sc⟩ := id bo
  obtain ⟨⟨st_, ru_, acc_, sc0, -⟩, -⟩ := id sc
  obtain ⟨jf, lj, fo, le, u0, u1, u2, u3, u4, u5, u6, u7, u8, u9⟩ := id cu
  have rb := cr.room
  refine tX2_run_9  (r := ?_)
  refine tX2_run_11  (r := ?_)
  refine tX2_run_13  (kt := fun c_ => by exfalso; exact absurd ((nI_leI (by omega) (by omega)).mp c_) (by omega)) (kf := fun _ => ?_)
  refine tX2_run_16  (r := ?_)
  refine tX2_run_17 (ha := (by first | assumption | (repeat (first | assumption | exact At.set_eq2 (by first | omega | (simp only [hset, hnew]; omega) | rfl | decide) | exact At.new_eq2 _ _ (by first | omega | (simp only [hset, hnew]; omega) | rfl | decide) | refine At.set_ne ?_ (by first | omega | (simp only [hset, hnew]; omega) | rfl | decide) | refine At.new_ne ?_)))) (hv := rfl) (r := ?_)
  refine tX2_run_20  (r := ?_)
  refine tX2_run_22 (hd := (by omega)) (ha := (by first | assumption | (repeat (first | assumption | exact At.set_eq2 (by first | omega | (simp only [hset, hnew]; omega) | rfl | decide) | exact At.new_eq2 _ _ (by first | omega | (simp only [hset, hnew]; omega) | rfl | decide) | refine At.set_ne ?_ (by first | omega | (simp only [hset, hnew]; omega) | rfl | decide) | refine At.new_ne ?_)))) (call := s_kindAt (d := 4) sc hr hw.1 (k := a) (by omega)) (k := ?_)
  rintro r_ h_ ⟨rfl, e9⟩
  rw [e9]
  refine tX2_run_25  (r := ?_)
  refine tX2_run_27  (r := ?_)
  refine tX2_run_28 (ha := (by first | assumption | (repeat (first | assumption | exact At.set_eq2 (by first | omega | (simp only [hset, hnew]; omega) | rfl | decide) | exact At.new_eq2 _ _ (by first | omega | (simp only [hset, hnew]; omega) | rfl | decide) | refine At.set_ne ?_ (by first | omega | (simp only [hset, hnew]; omega) | rfl | decide) | refine At.new_ne ?_)))) (hv := rfl) (r := ?_)
  refine tX2_run_31  (r := ?_)
  refine tX2_run_33 (hd := (by omega)) (ha := (by first | assumption | (repeat (first | assumption | exact At.set_eq2 (by first | omega | (simp only [hset, hnew]; omega) | rfl | decide) | exact At.new_eq2 _ _ (by first | omega | (simp only [hset, hnew]; omega) | rfl | decide) | refine At.set_ne ?_ (by first | omega | (simp only [hset, hnew]; omega) | rfl | decide) | refine At.new_ne ?_)))) (call := s_numAt (d := 4) sc hr hw.1 (k := a) (by omega)) (k := ?_)
  rintro v_ h_ ⟨rfl, e9⟩
  rw [e9]
  refine tX2_run_36 (ho := (by rfl)) (r := ?_)
  refine tX2_run_38  (r := ?_)
  refine tX2_run_41  (r := ?_)
  refine tX2_run_43 (hi := hkd) (hd := (by omega)) (r := ?_)
  refine uX2_run_46 (hx := rfl) (hj := hkd) (r := ?_)
  refine tX2_run_47 (n := SMk (cKd B a)) (hn := (Nat.lt_of_lt_of_le (SMk_lt _ hkd) (by decide))) (r := ?_)
  rw [SMk_ac hk]
  refine tX2_run_116  (r := ?_)
  refine tX2_run_117  (r := ?_)
  refine tX2_run_119  (r := ?_)
  refine tX2_run_121  (r := ?_)
  refine tX2_run_122  (r := ?_)
  refine tX2_run_123  (r := ?_)
  refine tX2_run_124 (hd := (by omega)) (ha := (by first | assumption | (repeat (first | assumption | exact At.set_eq2 (by first | omega | (simp only [hset, hnew]; omega) | rfl | decide) | exact At.new_eq2 _ _ (by first | omega | (simp only [hset, hnew]; omega) | rfl | decide) | refine At.set_ne ?_ (by first | omega | (simp only [hset, hnew]; omega) | rfl | decide) | refine At.new_ne ?_)))) (call := s_act (d := 4) (by decide) hcb bo cu hb hi hk ⟨fun z => (hw.2.2.2.2.1 a (by omega)).2.2.1 (by omega), fun z => (hw.2.2.2.2.1 a (by omega)).2.2.2 z⟩ e cr) (k := ?_)
  intro h1 hq
  obtain ⟨cu1, hb1, cr1, sd1⟩ := hq
  obtain ⟨e0, hl5, f1, e1, hf1⟩ := id cr1
  have le0 := e0.1
  refine tX2_run_127  (r := ?_)
  refine tX2_run_128  (r := ?_)
  refine tX2_run_129 (ha := (by first | assumption | (repeat (first | assumption | exact At.set_eq2 (by first | omega | (simp only [hset, hnew]; omega) | rfl | decide) | exact At.new_eq2 _ _ (by first | omega | (simp only [hset, hnew]; omega) | rfl | decide) | refine At.set_ne ?_ (by first | omega | (simp only [hset, hnew]; omega) | rfl | decide) | refine At.new_ne ?_)))) (hv := rfl) (r := ?_)
  refine tX2_run_132  (r := ?_)
  refine tX2_run_133  (r := ?_)
  rw [nI_add]
  refine tX2_run_134 (ha := (by first | assumption | (repeat (first | assumption | exact At.set_eq2 (by first | omega | (simp only [hset, hnew]; omega) | rfl | decide) | exact At.new_eq2 _ _ (by first | omega | (simp only [hset, hnew]; omega) | rfl | decide) | refine At.set_ne ?_ (by first | omega | (simp only [hset, hnew]; omega) | rfl | decide) | refine At.new_ne ?_)))) (hlen := rfl) (r := ?_)
  refine tX2_run_137 (r := ?_)
  have sm2 := (Sm.rf h1 b (b + 2)).set (i := b) (c := .inr (1, [.ref (b + 1), .int (nI S2.length), .int (nI (n0 + 1))])) (by omega) (by omega)
  refine tX2_run_209 (r := ?_)
  rw [nI_add]
  refine tX2_run_212 (r := ?_)
  exact kk _ _ _ _ rfl rfl o8 ((bo.sd sd1 hbk).sd (Sd.ofB sm2 hcb) hbk) (cu1.sm sm2 (by omega)) hb1 ⟨At.set_eq2 le0, hl5, f1, At.set_ne e1 (by omega), hf1⟩ (sd1.trans (Sd.ofB sm2 hcb))

set_option maxHeartbeats 4000000 in
set_option maxRecDepth 100000 in
theorem s_run_no (hd : 6 ≤ d) (hcb : c + 45 ≤ b) (hbk : bk + 58 ≤ c ∨ b + 2 ≤ bk) (hw : WFs B) (hr : 0 < bRs B) {i : Nat} (hi : i < bLi B) {fr to a : Nat} (hto : to ≤ cSt B) (ha : a < to) (bo : BoR h bk B) (cu : CuR h c B D) (hb : BDok B D) (hlS : S.length < 400) {x : Int32} {n0 : Nat} {x7 x8 x9 : Option Value} (o6 : ok1 x7 = true) (o7 : ok1 x8 = true) (o8 : ok1 x9 = true) {P : OC → AH → Prop} (cr : CamR h b (x :: S) (nI n0)) (hk : cKd B a = 15) (kk : ∀ (h1 : AH) (y7 y8 y9 : Option Value), ok1 y7 = true → ok1 y8 = true → ok1 y9 = true → BoR h1 bk B → CuR h1 c B D → BDok B D → CamR h1 b ((if x = 0 then nI 1 else nI 0) :: S) (nI n0) → Sd h h1 c b → RQ G mX2_run d 9 [some (.ref b), some (.ref bk), some (.ref c), some (.int (nI i)), some (.int (nI fr)), some (.int (nI to)), some (.int (nI (a + 1))), y7, y8, y9] [] h1 P) : RQ G mX2_run d 9 [some (.ref b), some (.ref bk), some (.ref c), some (.int (nI i)), some (.int (nI fr)), some (.int (nI to)), some (.int (nI a)), x7, x8, x9] [] h P := by
  have hc4 : cSt B ≤ 400 := hw.1
  have hkd := (hw.2.2.2.2.1 a (by omega)).1
  obtain ⟨a0, hl4, f, a1, hf⟩ := id cr
  have bo0 := bo.1
  obtain ⟨-, -, -, -, ⟨y3, y4, y5⟩, -, -, -, sc⟩ := id bo
  obtain ⟨⟨st_, ru_, acc_, sc0, -⟩, -⟩ := id sc
  obtain ⟨jf, lj, fo, le, u0, u1, u2, u3, u4, u5, u6, u7, u8, u9⟩ := id cu
  have rb := cr.room
  refine tX2_run_9  (r := ?_)
  refine tX2_run_11  (r := ?_)
  refine tX2_run_13  (kt := fun c_ => by exfalso; exact absurd ((nI_leI (by omega) (by omega)).mp c_) (by omega)) (kf := fun _ => ?_)
  refine tX2_run_16  (r := ?_)
  refine tX2_run_17 (ha := (by first | assumption | (repeat (first | assumption | exact At.set_eq2 (by first | omega | (simp only [hset, hnew]; omega) | rfl | decide) | exact At.new_eq2 _ _ (by first | omega | (simp only [hset, hnew]; omega) | rfl | decide) | refine At.set_ne ?_ (by first | omega | (simp only [hset, hnew]; omega) | rfl | decide) | refine At.new_ne ?_)))) (hv := rfl) (r := ?_)
  refine tX2_run_20  (r := ?_)
  refine tX2_run_22 (hd := (by omega)) (ha := (by first | assumption | (repeat (first | assumption | exact At.set_eq2 (by first | omega | (simp only [hset, hnew]; omega) | rfl | decide) | exact At.new_eq2 _ _ (by first | omega | (simp only [hset, hnew]; omega) | rfl | decide) | refine At.set_ne ?_ (by first | omega | (simp only [hset, hnew]; omega) | rfl | decide) | refine At.new_ne ?_)))) (call := s_kindAt (d := 4) sc hr hw.1 (k := a) (by omega)) (k := ?_)
  rintro r_ h_ ⟨rfl, e9⟩
  rw [e9]
  refine tX2_run_25  (r := ?_)
  refine tX2_run_27  (r := ?_)
  refine tX2_run_28 (ha := (by first | assumption | (repeat (first | assumption | exact At.set_eq2 (by first | omega | (simp only [hset, hnew]; omega) | rfl | decide) | exact At.new_eq2 _ _ (by first | omega | (simp only [hset, hnew]; omega) | rfl | decide) | refine At.set_ne ?_ (by first | omega | (simp only [hset, hnew]; omega) | rfl | decide) | refine At.new_ne ?_)))) (hv := rfl) (r := ?_)
  refine tX2_run_31  (r := ?_)
  refine tX2_run_33 (hd := (by omega)) (ha := (by first | assumption | (repeat (first | assumption | exact At.set_eq2 (by first | omega | (simp only [hset, hnew]; omega) | rfl | decide) | exact At.new_eq2 _ _ (by first | omega | (simp only [hset, hnew]; omega) | rfl | decide) | refine At.set_ne ?_ (by first | omega | (simp only [hset, hnew]; omega) | rfl | decide) | refine At.new_ne ?_)))) (call := s_numAt (d := 4) sc hr hw.1 (k := a) (by omega)) (k := ?_)
  rintro v_ h_ ⟨rfl, e9⟩
  rw [e9]
  refine tX2_run_36 (ho := (by rfl)) (r := ?_)
  refine tX2_run_38  (r := ?_)
  refine tX2_run_41  (r := ?_)
  refine tX2_run_43 (hi := hkd) (hd := (by omega)) (r := ?_)
  refine uX2_run_46 (hx := rfl) (hj := hkd) (r := ?_)
  refine tX2_run_47 (n := SMk (cKd B a)) (hn := (Nat.lt_of_lt_of_le (SMk_lt _ hkd) (by decide))) (r := ?_)
  rw [(show sw_X2_run (SMk (cKd B a)) = 140 by rw [hk]; rfl)]
  refine tX2_run_140  (r := ?_)
  refine tX2_run_141  (r := ?_)
  refine tX2_run_142 (hd := (by omega)) (ha := (by first | assumption | (repeat (first | assumption | exact At.set_eq2 (by first | omega | (simp only [hset, hnew]; omega) | rfl | decide) | exact At.new_eq2 _ _ (by first | omega | (simp only [hset, hnew]; omega) | rfl | decide) | refine At.set_ne ?_ (by first | omega | (simp only [hset, hnew]; omega) | rfl | decide) | refine At.new_ne ?_)))) (call := s_pop (d := 4) cr) (k := ?_)
  rintro v h1 ⟨hv_, cr1, sm1⟩
  subst v
  obtain ⟨e0, hl5, f1, e1, hf1⟩ := id cr1
  refine tX2_run_145  (kt := fun c_145 => ?_) (kf := fun c_145 => ?_)
  · have ev : (if x = 0 then nI 1 else nI 0) = nI 0 := if_neg c_145
    rw [ev] at kk
    refine tX2_run_152  (r := ?_)
    refine tX2_run_153 (hd := (by omega)) (ha := (by first | assumption | (repeat (first | assumption | exact At.set_eq2 (by first | omega | (simp only [hset, hnew]; omega) | rfl | decide) | exact At.new_eq2 _ _ (by first | omega | (simp only [hset, hnew]; omega) | rfl | decide) | refine At.set_ne ?_ (by first | omega | (simp only [hset, hnew]; omega) | rfl | decide) | refine At.new_ne ?_)))) (call := s_push (d := 4) cr1 (by omega)) (k := ?_)
    intro h2 hq
    obtain ⟨cr2, sm2⟩ := hq
    have sd2 := (Sd.ofB sm1 hcb).trans (Sd.ofB sm2 hcb)
    refine tX2_run_156 (r := ?_)
    refine tX2_run_209 (r := ?_)
    rw [nI_add]
    refine tX2_run_212 (r := ?_)
    exact kk h2 _ _ _ rfl rfl o8 (bo.sd sd2 hbk) ((cu.sm sm1 (by omega)).sm sm2 (by omega)) hb cr2 sd2
  · have ev : (if x = 0 then nI 1 else nI 0) = nI 1 := if_pos c_145
    rw [ev] at kk
    refine tX2_run_148  (r := ?_)
    refine tX2_run_149 (r := ?_)
    refine tX2_run_153 (hd := (by omega)) (ha := (by first | assumption | (repeat (first | assumption | exact At.set_eq2 (by first | omega | (simp only [hset, hnew]; omega) | rfl | decide) | exact At.new_eq2 _ _ (by first | omega | (simp only [hset, hnew]; omega) | rfl | decide) | refine At.set_ne ?_ (by first | omega | (simp only [hset, hnew]; omega) | rfl | decide) | refine At.new_ne ?_)))) (call := s_push (d := 4) cr1 (by omega)) (k := ?_)
    intro h2 hq
    obtain ⟨cr2, sm2⟩ := hq
    have sd2 := (Sd.ofB sm1 hcb).trans (Sd.ofB sm2 hcb)
    refine tX2_run_156 (r := ?_)
    refine tX2_run_209 (r := ?_)
    rw [nI_add]
    refine tX2_run_212 (r := ?_)
    exact kk h2 _ _ _ rfl rfl o8 (bo.sd sd2 hbk) ((cu.sm sm1 (by omega)).sm sm2 (by omega)) hb cr2 sd2

set_option maxHeartbeats 4000000 in
set_option maxRecDepth 100000 in
theorem s_run_lk (hd : 6 ≤ d) (hcb : c + 45 ≤ b) (hbk : bk + 58 ≤ c ∨ b + 2 ≤ bk) (hw : WFs B) (hr : 0 < bRs B) {i : Nat} (hi : i < bLi B) {fr to a : Nat} (hto : to ≤ cSt B) (ha : a < to) (bo : BoR h bk B) (cu : CuR h c B D) (hb : BDok B D) (hlS : S.length < 400) {n0 : Nat} {x7 x8 x9 : Option Value} (o6 : ok1 x7 = true) (o7 : ok1 x8 = true) (o8 : ok1 x9 = true) {P : OC → AH → Prop} (cr : CamR h b S (nI n0)) (hk : isLk (cKd B a) = true) (kk : ∀ (h1 : AH) (y7 y8 y9 : Option Value), ok1 y7 = true → ok1 y8 = true → ok1 y9 = true → BoR h1 bk B → CuR h1 c B D → BDok B D → CamR h1 b ((lkV B D i (cKd B a) (cNu B a)) :: S) (nI n0) → Sd h h1 c b → RQ G mX2_run d 9 [some (.ref b), some (.ref bk), some (.ref c), some (.int (nI i)), some (.int (nI fr)), some (.int (nI to)), some (.int (nI (a + 1))), y7, y8, y9] [] h1 P) : RQ G mX2_run d 9 [some (.ref b), some (.ref bk), some (.ref c), some (.int (nI i)), some (.int (nI fr)), some (.int (nI to)), some (.int (nI a)), x7, x8, x9] [] h P := by
  have hc4 : cSt B ≤ 400 := hw.1
  have hkd := (hw.2.2.2.2.1 a (by omega)).1
  obtain ⟨a0, hl4, f, a1, hf⟩ := id cr
  have bo0 := bo.1
  obtain ⟨-, -, -, -, ⟨y3, y4, y5⟩, -, -, -, sc⟩ := id bo
  obtain ⟨⟨st_, ru_, acc_, sc0, -⟩, -⟩ := id sc
  obtain ⟨jf, lj, fo, le, u0, u1, u2, u3, u4, u5, u6, u7, u8, u9⟩ := id cu
  have rb := cr.room
  refine tX2_run_9  (r := ?_)
  refine tX2_run_11  (r := ?_)
  refine tX2_run_13  (kt := fun c_ => by exfalso; exact absurd ((nI_leI (by omega) (by omega)).mp c_) (by omega)) (kf := fun _ => ?_)
  refine tX2_run_16  (r := ?_)
  refine tX2_run_17 (ha := (by first | assumption | (repeat (first | assumption | exact At.set_eq2 (by first | omega | (simp only [hset, hnew]; omega) | rfl | decide) | exact At.new_eq2 _ _ (by first | omega | (simp only [hset, hnew]; omega) | rfl | decide) | refine At.set_ne ?_ (by first | omega | (simp only [hset, hnew]; omega) | rfl | decide) | refine At.new_ne ?_)))) (hv := rfl) (r := ?_)
  refine tX2_run_20  (r := ?_)
  refine tX2_run_22 (hd := (by omega)) (ha := (by first | assumption | (repeat (first | assumption | exact At.set_eq2 (by first | omega | (simp only [hset, hnew]; omega) | rfl | decide) | exact At.new_eq2 _ _ (by first | omega | (simp only [hset, hnew]; omega) | rfl | decide) | refine At.set_ne ?_ (by first | omega | (simp only [hset, hnew]; omega) | rfl | decide) | refine At.new_ne ?_)))) (call := s_kindAt (d := 4) sc hr hw.1 (k := a) (by omega)) (k := ?_)
  rintro r_ h_ ⟨rfl, e9⟩
  rw [e9]
  refine tX2_run_25  (r := ?_)
  refine tX2_run_27  (r := ?_)
  refine tX2_run_28 (ha := (by first | assumption | (repeat (first | assumption | exact At.set_eq2 (by first | omega | (simp only [hset, hnew]; omega) | rfl | decide) | exact At.new_eq2 _ _ (by first | omega | (simp only [hset, hnew]; omega) | rfl | decide) | refine At.set_ne ?_ (by first | omega | (simp only [hset, hnew]; omega) | rfl | decide) | refine At.new_ne ?_)))) (hv := rfl) (r := ?_)
  refine tX2_run_31  (r := ?_)
  refine tX2_run_33 (hd := (by omega)) (ha := (by first | assumption | (repeat (first | assumption | exact At.set_eq2 (by first | omega | (simp only [hset, hnew]; omega) | rfl | decide) | exact At.new_eq2 _ _ (by first | omega | (simp only [hset, hnew]; omega) | rfl | decide) | refine At.set_ne ?_ (by first | omega | (simp only [hset, hnew]; omega) | rfl | decide) | refine At.new_ne ?_)))) (call := s_numAt (d := 4) sc hr hw.1 (k := a) (by omega)) (k := ?_)
  rintro v_ h_ ⟨rfl, e9⟩
  rw [e9]
  refine tX2_run_36 (ho := (by rfl)) (r := ?_)
  refine tX2_run_38  (r := ?_)
  refine tX2_run_41  (r := ?_)
  refine tX2_run_43 (hi := hkd) (hd := (by omega)) (r := ?_)
  refine uX2_run_46 (hx := rfl) (hj := hkd) (r := ?_)
  refine tX2_run_47 (n := SMk (cKd B a)) (hn := (Nat.lt_of_lt_of_le (SMk_lt _ hkd) (by decide))) (r := ?_)
  rw [SMk_lk (Or.inl hk)]
  refine tX2_run_159  (r := ?_)
  refine tX2_run_160  (r := ?_)
  refine tX2_run_161  (r := ?_)
  refine tX2_run_163  (r := ?_)
  refine tX2_run_165  (r := ?_)
  refine tX2_run_166  (r := ?_)
  refine tX2_run_167 (ha := (by first | assumption | (repeat (first | assumption | exact At.set_eq2 (by first | omega | (simp only [hset, hnew]; omega) | rfl | decide) | exact At.new_eq2 _ _ (by first | omega | (simp only [hset, hnew]; omega) | rfl | decide) | refine At.set_ne ?_ (by first | omega | (simp only [hset, hnew]; omega) | rfl | decide) | refine At.new_ne ?_)))) (hv := rfl) (r := ?_)
  refine tX2_run_170  (r := ?_)
  refine tX2_run_171 (ha := (by first | assumption | (repeat (first | assumption | exact At.set_eq2 (by first | omega | (simp only [hset, hnew]; omega) | rfl | decide) | exact At.new_eq2 _ _ (by first | omega | (simp only [hset, hnew]; omega) | rfl | decide) | refine At.set_ne ?_ (by first | omega | (simp only [hset, hnew]; omega) | rfl | decide) | refine At.new_ne ?_)))) (hx := rfl) (hj := (by have := hb.2.2.1; omega)) (hn := (by decide)) (r := ?_)
  rw [u6 _ (by have := hb.2.2.1; omega)]
  refine tX2_run_172  (r := ?_)
  refine tX2_run_173 (ha := (by first | assumption | (repeat (first | assumption | exact At.set_eq2 (by first | omega | (simp only [hset, hnew]; omega) | rfl | decide) | exact At.new_eq2 _ _ (by first | omega | (simp only [hset, hnew]; omega) | rfl | decide) | refine At.set_ne ?_ (by first | omega | (simp only [hset, hnew]; omega) | rfl | decide) | refine At.new_ne ?_)))) (hv := rfl) (r := ?_)
  refine tX2_run_176  (r := ?_)
  refine tX2_run_177 (ha := (by first | assumption | (repeat (first | assumption | exact At.set_eq2 (by first | omega | (simp only [hset, hnew]; omega) | rfl | decide) | exact At.new_eq2 _ _ (by first | omega | (simp only [hset, hnew]; omega) | rfl | decide) | refine At.set_ne ?_ (by first | omega | (simp only [hset, hnew]; omega) | rfl | decide) | refine At.new_ne ?_)))) (hx := rfl) (hj := (by have := hb.2.2.1; omega)) (hn := (by decide)) (r := ?_)
  rw [y5 _ hi]
  refine tX2_run_178 (hd := (by omega)) (ha := (by first | assumption | (repeat (first | assumption | exact At.set_eq2 (by first | omega | (simp only [hset, hnew]; omega) | rfl | decide) | exact At.new_eq2 _ _ (by first | omega | (simp only [hset, hnew]; omega) | rfl | decide) | refine At.set_ne ?_ (by first | omega | (simp only [hset, hnew]; omega) | rfl | decide) | refine At.new_ne ?_)))) (call := s_look (d := 4) (by decide) cu hb hi hk (hw.2.2.2.2.1 a (by omega))) (k := ?_)
  rintro v h1 ⟨rfl, cu1, sm1⟩
  have cr1 := cr.sm sm1 (by omega)
  obtain ⟨e0, hl5, f1, e1, hf1⟩ := id cr1
  have sd1 := Sd.ofC sm1 hcb rb
  refine tX2_run_181 (hd := (by omega)) (ha := (by first | assumption | (repeat (first | assumption | exact At.set_eq2 (by first | omega | (simp only [hset, hnew]; omega) | rfl | decide) | exact At.new_eq2 _ _ (by first | omega | (simp only [hset, hnew]; omega) | rfl | decide) | refine At.set_ne ?_ (by first | omega | (simp only [hset, hnew]; omega) | rfl | decide) | refine At.new_ne ?_)))) (call := s_push (d := 4) cr1 hlS) (k := ?_)
  intro h2 hq
  obtain ⟨cr2, sm2⟩ := hq
  have sd2 := sd1.trans (Sd.ofB sm2 hcb)
  refine tX2_run_184 (r := ?_)
  refine tX2_run_209 (r := ?_)
  rw [nI_add]
  refine tX2_run_212 (r := ?_)
  exact kk h2 _ _ _ rfl rfl o8 (bo.sd sd2 hbk) (cu1.sm sm2 (by omega)) hb cr2 sd2

set_option maxHeartbeats 4000000 in
set_option maxRecDepth 100000 in
theorem s_run_nu (hd : 6 ≤ d) (hcb : c + 45 ≤ b) (hbk : bk + 58 ≤ c ∨ b + 2 ≤ bk) (hw : WFs B) (hr : 0 < bRs B) {i : Nat} (hi : i < bLi B) {fr to a : Nat} (hto : to ≤ cSt B) (ha : a < to) (bo : BoR h bk B) (cu : CuR h c B D) (hb : BDok B D) (hlS : S.length < 400) {n0 : Nat} {x7 x8 x9 : Option Value} (o6 : ok1 x7 = true) (o7 : ok1 x8 = true) (o8 : ok1 x9 = true) {P : OC → AH → Prop} (cr : CamR h b S (nI n0)) (hk : cKd B a = 40) (kk : ∀ (h1 : AH) (y7 y8 y9 : Option Value), ok1 y7 = true → ok1 y8 = true → ok1 y9 = true → BoR h1 bk B → CuR h1 c B D → BDok B D → CamR h1 b ((nI (cNu B a)) :: S) (nI n0) → Sd h h1 c b → RQ G mX2_run d 9 [some (.ref b), some (.ref bk), some (.ref c), some (.int (nI i)), some (.int (nI fr)), some (.int (nI to)), some (.int (nI (a + 1))), y7, y8, y9] [] h1 P) : RQ G mX2_run d 9 [some (.ref b), some (.ref bk), some (.ref c), some (.int (nI i)), some (.int (nI fr)), some (.int (nI to)), some (.int (nI a)), x7, x8, x9] [] h P := by
  have hc4 : cSt B ≤ 400 := hw.1
  have hkd := (hw.2.2.2.2.1 a (by omega)).1
  obtain ⟨a0, hl4, f, a1, hf⟩ := id cr
  have bo0 := bo.1
  obtain ⟨-, -, -, -, ⟨y3, y4, y5⟩, -, -, -, sc⟩ := id bo
  obtain ⟨⟨st_, ru_, acc_, sc0, -⟩, -⟩ := id sc
  obtain ⟨jf, lj, fo, le, u0, u1, u2, u3, u4, u5, u6, u7, u8, u9⟩ := id cu
  have rb := cr.room
  refine tX2_run_9  (r := ?_)
  refine tX2_run_11  (r := ?_)
  refine tX2_run_13  (kt := fun c_ => by exfalso; exact absurd ((nI_leI (by omega) (by omega)).mp c_) (by omega)) (kf := fun _ => ?_)
  refine tX2_run_16  (r := ?_)
  refine tX2_run_17 (ha := (by first | assumption | (repeat (first | assumption | exact At.set_eq2 (by first | omega | (simp only [hset, hnew]; omega) | rfl | decide) | exact At.new_eq2 _ _ (by first | omega | (simp only [hset, hnew]; omega) | rfl | decide) | refine At.set_ne ?_ (by first | omega | (simp only [hset, hnew]; omega) | rfl | decide) | refine At.new_ne ?_)))) (hv := rfl) (r := ?_)
  refine tX2_run_20  (r := ?_)
  refine tX2_run_22 (hd := (by omega)) (ha := (by first | assumption | (repeat (first | assumption | exact At.set_eq2 (by first | omega | (simp only [hset, hnew]; omega) | rfl | decide) | exact At.new_eq2 _ _ (by first | omega | (simp only [hset, hnew]; omega) | rfl | decide) | refine At.set_ne ?_ (by first | omega | (simp only [hset, hnew]; omega) | rfl | decide) | refine At.new_ne ?_)))) (call := s_kindAt (d := 4) sc hr hw.1 (k := a) (by omega)) (k := ?_)
  rintro r_ h_ ⟨rfl, e9⟩
  rw [e9]
  refine tX2_run_25  (r := ?_)
  refine tX2_run_27  (r := ?_)
  refine tX2_run_28 (ha := (by first | assumption | (repeat (first | assumption | exact At.set_eq2 (by first | omega | (simp only [hset, hnew]; omega) | rfl | decide) | exact At.new_eq2 _ _ (by first | omega | (simp only [hset, hnew]; omega) | rfl | decide) | refine At.set_ne ?_ (by first | omega | (simp only [hset, hnew]; omega) | rfl | decide) | refine At.new_ne ?_)))) (hv := rfl) (r := ?_)
  refine tX2_run_31  (r := ?_)
  refine tX2_run_33 (hd := (by omega)) (ha := (by first | assumption | (repeat (first | assumption | exact At.set_eq2 (by first | omega | (simp only [hset, hnew]; omega) | rfl | decide) | exact At.new_eq2 _ _ (by first | omega | (simp only [hset, hnew]; omega) | rfl | decide) | refine At.set_ne ?_ (by first | omega | (simp only [hset, hnew]; omega) | rfl | decide) | refine At.new_ne ?_)))) (call := s_numAt (d := 4) sc hr hw.1 (k := a) (by omega)) (k := ?_)
  rintro v_ h_ ⟨rfl, e9⟩
  rw [e9]
  refine tX2_run_36 (ho := (by rfl)) (r := ?_)
  refine tX2_run_38  (r := ?_)
  refine tX2_run_41  (r := ?_)
  refine tX2_run_43 (hi := hkd) (hd := (by omega)) (r := ?_)
  refine uX2_run_46 (hx := rfl) (hj := hkd) (r := ?_)
  refine tX2_run_47 (n := SMk (cKd B a)) (hn := (Nat.lt_of_lt_of_le (SMk_lt _ hkd) (by decide))) (r := ?_)
  rw [SMk_lk (Or.inr hk)]
  refine tX2_run_159  (r := ?_)
  refine tX2_run_160  (r := ?_)
  refine tX2_run_161  (r := ?_)
  refine tX2_run_163  (r := ?_)
  refine tX2_run_165  (r := ?_)
  refine tX2_run_166  (r := ?_)
  refine tX2_run_167 (ha := (by first | assumption | (repeat (first | assumption | exact At.set_eq2 (by first | omega | (simp only [hset, hnew]; omega) | rfl | decide) | exact At.new_eq2 _ _ (by first | omega | (simp only [hset, hnew]; omega) | rfl | decide) | refine At.set_ne ?_ (by first | omega | (simp only [hset, hnew]; omega) | rfl | decide) | refine At.new_ne ?_)))) (hv := rfl) (r := ?_)
  refine tX2_run_170  (r := ?_)
  refine tX2_run_171 (ha := (by first | assumption | (repeat (first | assumption | exact At.set_eq2 (by first | omega | (simp only [hset, hnew]; omega) | rfl | decide) | exact At.new_eq2 _ _ (by first | omega | (simp only [hset, hnew]; omega) | rfl | decide) | refine At.set_ne ?_ (by first | omega | (simp only [hset, hnew]; omega) | rfl | decide) | refine At.new_ne ?_)))) (hx := rfl) (hj := (by have := hb.2.2.1; omega)) (hn := (by decide)) (r := ?_)
  rw [u6 _ (by have := hb.2.2.1; omega)]
  refine tX2_run_172  (r := ?_)
  refine tX2_run_173 (ha := (by first | assumption | (repeat (first | assumption | exact At.set_eq2 (by first | omega | (simp only [hset, hnew]; omega) | rfl | decide) | exact At.new_eq2 _ _ (by first | omega | (simp only [hset, hnew]; omega) | rfl | decide) | refine At.set_ne ?_ (by first | omega | (simp only [hset, hnew]; omega) | rfl | decide) | refine At.new_ne ?_)))) (hv := rfl) (r := ?_)
  refine tX2_run_176  (r := ?_)
  refine tX2_run_177 (ha := (by first | assumption | (repeat (first | assumption | exact At.set_eq2 (by first | omega | (simp only [hset, hnew]; omega) | rfl | decide) | exact At.new_eq2 _ _ (by first | omega | (simp only [hset, hnew]; omega) | rfl | decide) | refine At.set_ne ?_ (by first | omega | (simp only [hset, hnew]; omega) | rfl | decide) | refine At.new_ne ?_)))) (hx := rfl) (hj := (by have := hb.2.2.1; omega)) (hn := (by decide)) (r := ?_)
  rw [y5 _ hi]
  refine tX2_run_178 (hd := (by omega)) (ha := (by first | assumption | (repeat (first | assumption | exact At.set_eq2 (by first | omega | (simp only [hset, hnew]; omega) | rfl | decide) | exact At.new_eq2 _ _ (by first | omega | (simp only [hset, hnew]; omega) | rfl | decide) | refine At.set_ne ?_ (by first | omega | (simp only [hset, hnew]; omega) | rfl | decide) | refine At.new_ne ?_)))) (call := (by rw [hk]; exact s_look40 (d := 5) (by decide) cu hb hi)) (k := ?_)
  rintro v h1 ⟨rfl, cu1, sm1⟩
  have cr1 := cr.sm sm1 (by omega)
  obtain ⟨e0, hl5, f1, e1, hf1⟩ := id cr1
  have sd1 := Sd.ofC sm1 hcb rb
  refine tX2_run_181 (hd := (by omega)) (ha := (by first | assumption | (repeat (first | assumption | exact At.set_eq2 (by first | omega | (simp only [hset, hnew]; omega) | rfl | decide) | exact At.new_eq2 _ _ (by first | omega | (simp only [hset, hnew]; omega) | rfl | decide) | refine At.set_ne ?_ (by first | omega | (simp only [hset, hnew]; omega) | rfl | decide) | refine At.new_ne ?_)))) (call := s_push (d := 4) cr1 hlS) (k := ?_)
  intro h2 hq
  obtain ⟨cr2, sm2⟩ := hq
  have sd2 := sd1.trans (Sd.ofB sm2 hcb)
  refine tX2_run_184 (r := ?_)
  refine tX2_run_209 (r := ?_)
  rw [nI_add]
  refine tX2_run_212 (r := ?_)
  exact kk h2 _ _ _ rfl rfl o8 (bo.sd sd2 hbk) (cu1.sm sm2 (by omega)) hb cr2 sd2

set_option maxHeartbeats 4000000 in
set_option maxRecDepth 100000 in
theorem s_run_jn (hd : 6 ≤ d) (hcb : c + 45 ≤ b) (hbk : bk + 58 ≤ c ∨ b + 2 ≤ bk) (hw : WFs B) (hr : 0 < bRs B) {i : Nat} (hi : i < bLi B) {fr to a : Nat} (hto : to ≤ cSt B) (ha : a < to) (bo : BoR h bk B) (cu : CuR h c B D) (hb : BDok B D) (hlS : S.length < 400) {x y : Int32} {n0 : Nat} {x7 x8 x9 : Option Value} (o6 : ok1 x7 = true) (o7 : ok1 x8 = true) (o8 : ok1 x9 = true) {P : OC → AH → Prop} (cr : CamR h b (y :: x :: S) (nI n0)) (hk : isJn (cKd B a) = true) (kk : ∀ (h1 : AH) (y7 y8 y9 : Option Value), ok1 y7 = true → ok1 y8 = true → ok1 y9 = true → BoR h1 bk B → CuR h1 c B D → BDok B D → CamR h1 b (jnV (cKd B a) x y :: S) (nI n0) → Sd h h1 c b → RQ G mX2_run d 9 [some (.ref b), some (.ref bk), some (.ref c), some (.int (nI i)), some (.int (nI fr)), some (.int (nI to)), some (.int (nI (a + 1))), y7, y8, y9] [] h1 P) : RQ G mX2_run d 9 [some (.ref b), some (.ref bk), some (.ref c), some (.int (nI i)), some (.int (nI fr)), some (.int (nI to)), some (.int (nI a)), x7, x8, x9] [] h P := by
  have hc4 : cSt B ≤ 400 := hw.1
  have hkd := (hw.2.2.2.2.1 a (by omega)).1
  obtain ⟨a0, hl4, f, a1, hf⟩ := id cr
  have bo0 := bo.1
  obtain ⟨-, -, -, -, ⟨y3, y4, y5⟩, -, -, -, sc⟩ := id bo
  obtain ⟨⟨st_, ru_, acc_, sc0, -⟩, -⟩ := id sc
  obtain ⟨jf, lj, fo, le, u0, u1, u2, u3, u4, u5, u6, u7, u8, u9⟩ := id cu
  have rb := cr.room
  refine tX2_run_9  (r := ?_)
  refine tX2_run_11  (r := ?_)
  refine tX2_run_13  (kt := fun c_ => by exfalso; exact absurd ((nI_leI (by omega) (by omega)).mp c_) (by omega)) (kf := fun _ => ?_)
  refine tX2_run_16  (r := ?_)
  refine tX2_run_17 (ha := (by first | assumption | (repeat (first | assumption | exact At.set_eq2 (by first | omega | (simp only [hset, hnew]; omega) | rfl | decide) | exact At.new_eq2 _ _ (by first | omega | (simp only [hset, hnew]; omega) | rfl | decide) | refine At.set_ne ?_ (by first | omega | (simp only [hset, hnew]; omega) | rfl | decide) | refine At.new_ne ?_)))) (hv := rfl) (r := ?_)
  refine tX2_run_20  (r := ?_)
  refine tX2_run_22 (hd := (by omega)) (ha := (by first | assumption | (repeat (first | assumption | exact At.set_eq2 (by first | omega | (simp only [hset, hnew]; omega) | rfl | decide) | exact At.new_eq2 _ _ (by first | omega | (simp only [hset, hnew]; omega) | rfl | decide) | refine At.set_ne ?_ (by first | omega | (simp only [hset, hnew]; omega) | rfl | decide) | refine At.new_ne ?_)))) (call := s_kindAt (d := 4) sc hr hw.1 (k := a) (by omega)) (k := ?_)
  rintro r_ h_ ⟨rfl, e9⟩
  rw [e9]
  refine tX2_run_25  (r := ?_)
  refine tX2_run_27  (r := ?_)
  refine tX2_run_28 (ha := (by first | assumption | (repeat (first | assumption | exact At.set_eq2 (by first | omega | (simp only [hset, hnew]; omega) | rfl | decide) | exact At.new_eq2 _ _ (by first | omega | (simp only [hset, hnew]; omega) | rfl | decide) | refine At.set_ne ?_ (by first | omega | (simp only [hset, hnew]; omega) | rfl | decide) | refine At.new_ne ?_)))) (hv := rfl) (r := ?_)
  refine tX2_run_31  (r := ?_)
  refine tX2_run_33 (hd := (by omega)) (ha := (by first | assumption | (repeat (first | assumption | exact At.set_eq2 (by first | omega | (simp only [hset, hnew]; omega) | rfl | decide) | exact At.new_eq2 _ _ (by first | omega | (simp only [hset, hnew]; omega) | rfl | decide) | refine At.set_ne ?_ (by first | omega | (simp only [hset, hnew]; omega) | rfl | decide) | refine At.new_ne ?_)))) (call := s_numAt (d := 4) sc hr hw.1 (k := a) (by omega)) (k := ?_)
  rintro v_ h_ ⟨rfl, e9⟩
  rw [e9]
  refine tX2_run_36 (ho := (by rfl)) (r := ?_)
  refine tX2_run_38  (r := ?_)
  refine tX2_run_41  (r := ?_)
  refine tX2_run_43 (hi := hkd) (hd := (by omega)) (r := ?_)
  refine uX2_run_46 (hx := rfl) (hj := hkd) (r := ?_)
  refine tX2_run_47 (n := SMk (cKd B a)) (hn := (Nat.lt_of_lt_of_le (SMk_lt _ hkd) (by decide))) (r := ?_)
  rw [SMk_jn hk]
  refine tX2_run_187  (r := ?_)
  refine tX2_run_188 (hd := (by omega)) (ha := (by first | assumption | (repeat (first | assumption | exact At.set_eq2 (by first | omega | (simp only [hset, hnew]; omega) | rfl | decide) | exact At.new_eq2 _ _ (by first | omega | (simp only [hset, hnew]; omega) | rfl | decide) | refine At.set_ne ?_ (by first | omega | (simp only [hset, hnew]; omega) | rfl | decide) | refine At.new_ne ?_)))) (call := s_pop (d := 4) cr) (k := ?_)
  rintro v h1 ⟨hv_, cr1, sm1⟩
  subst v
  obtain ⟨e0, hl5, f1, e1, hf1⟩ := id cr1
  refine tX2_run_191  (r := ?_)
  refine tX2_run_193  (r := ?_)
  refine tX2_run_194  (r := ?_)
  refine tX2_run_195  (r := ?_)
  refine tX2_run_197  (r := ?_)
  refine tX2_run_198 (hd := (by omega)) (ha := (by first | assumption | (repeat (first | assumption | exact At.set_eq2 (by first | omega | (simp only [hset, hnew]; omega) | rfl | decide) | exact At.new_eq2 _ _ (by first | omega | (simp only [hset, hnew]; omega) | rfl | decide) | refine At.set_ne ?_ (by first | omega | (simp only [hset, hnew]; omega) | rfl | decide) | refine At.new_ne ?_)))) (call := s_pop (d := 4) cr1) (k := ?_)
  rintro v h2 ⟨hv_, cr2, sm2⟩
  subst v
  obtain ⟨e02, hl6, f2, e2, hf2⟩ := id cr2
  refine tX2_run_201  (r := ?_)
  refine tX2_run_203 (hd := (by omega)) (ha := (by first | assumption | (repeat (first | assumption | exact At.set_eq2 (by first | omega | (simp only [hset, hnew]; omega) | rfl | decide) | exact At.new_eq2 _ _ (by first | omega | (simp only [hset, hnew]; omega) | rfl | decide) | refine At.set_ne ?_ (by first | omega | (simp only [hset, hnew]; omega) | rfl | decide) | refine At.new_ne ?_)))) (call := s_reckon (d := 4) (by decide) hk) (k := ?_)
  rintro v h_ ⟨rfl, e9⟩
  rw [e9]
  refine tX2_run_206 (hd := (by omega)) (ha := (by first | assumption | (repeat (first | assumption | exact At.set_eq2 (by first | omega | (simp only [hset, hnew]; omega) | rfl | decide) | exact At.new_eq2 _ _ (by first | omega | (simp only [hset, hnew]; omega) | rfl | decide) | refine At.set_ne ?_ (by first | omega | (simp only [hset, hnew]; omega) | rfl | decide) | refine At.new_ne ?_)))) (call := s_push (d := 4) cr2 (by omega)) (k := ?_)
  intro h3 hq
  obtain ⟨cr3, sm3⟩ := hq
  have sd3 := ((Sd.ofB sm1 hcb).trans (Sd.ofB sm2 hcb)).trans (Sd.ofB sm3 hcb)
  refine tX2_run_209 (r := ?_)
  rw [nI_add]
  refine tX2_run_212 (r := ?_)
  exact kk h3 _ _ _ rfl rfl rfl (bo.sd sd3 hbk) (((cu.sm sm1 (by omega)).sm sm2 (by omega)).sm sm3 (by omega)) hb cr3 sd3

end RUN
