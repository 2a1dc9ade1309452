/-! a campaign: runs, the rule of a lid, a day -/
theorem stV_ac {B : BK} {D : DY} {i kd n : Nat} {S S' : List Int32} (h : stV B D i kd n S = some S') : ¬ isAc kd = true := by
  intro z
  rcases stV_cases h with ⟨e, -⟩ | ⟨e, -⟩ | ⟨e, -⟩ | ⟨e, -⟩
  · rw [e] at z
    exact absurd z (by decide)
  · rw [e] at z
    exact absurd z (by decide)
  · rcases isLk_or e with q | q | q | q | q | q | q <;> (rw [q] at z; exact absurd z (by decide))
  · rcases isJn_or e with q | q | q | q | q | q | q | q <;> (rw [q] at z; exact absurd z (by decide))
theorem rn_ra {B : BK} {D : DY} {i : Nat} : ∀ (m a : Nat) (S S' : List Int32), rnV B D i a m S = some S' → raV B i a m D S = some (D, S') ∧ acC B a m = 0
  | 0, a, S, S', h => by
    cases h
    exact ⟨rfl, rfl⟩
  | m + 1, a, S, S', h => by
    unfold rnV at h
    cases e : stV B D i (cKd B a) (cNu B a) S with
    | none =>
      rw [e] at h
      exact nomatch h
    | some S2 =>
      rw [e] at h
      have hk := stV_ac e
      obtain ⟨h1, h2⟩ := rn_ra m (a + 1) S2 S' h
      have e2 : acV B i (cKd B a) (cNu B a) D S = some (D, S2) := by
        unfold acV
        rw [if_neg hk, e]
      refine ⟨?_, ?_⟩
      · unfold raV
        rw [e2]
        exact h1
      · unfold acC
        rw [if_neg hk, h2]
/-- what a rule's test comes to -/
def tvV (B : BK) (D : DY) (i r : Nat) : Int32 := match rnV B D i (cTe B r) (cTn B r - cTe B r) [] with
  | some [x] => x
  | _ => 0
/-- the first of m rules from a on whose test is true -/
def rfN (B : BK) (D : DY) (i : Nat) : Nat → Nat → Option Nat
  | _, 0 => none
  | a, m + 1 => if tvV B D i a = 0 then rfN B D i (a + 1) m else some a
def rfD (B : BK) (D : DY) (i : Nat) : Option Nat := rfN B D i (bRu B i).1 ((bRu B i).2 - (bRu B i).1)
theorem rfN_lt {B : BK} {D : DY} {i : Nat} : ∀ (m a r : Nat), rfN B D i a m = some r → a ≤ r ∧ r < a + m
  | 0, _, _, h => nomatch h
  | m + 1, a, r, h => by
    unfold rfN at h
    by_cases z : tvV B D i a = 0
    · rw [if_pos z] at h
      have := rfN_lt m (a + 1) r h
      omega
    · rw [if_neg z] at h
      cases h
      omega
/-- a lid's turn: what is then, and how many acts -/
def ldV (B : BK) (i : Nat) (D : DY) : DY × Nat := match rfD B D i with
  | none => (D, 0)
  | some r => match raV B i (cTn B r) (cAe B r - cTn B r) D [] with
    | none => (D, 0)
    | some q => (q.1, acC B (cTn B r) (cAe B r - cTn B r))
/-- turns of the first n lids -/
def dsN (B : BK) (D : DY) : Nat → DY × Nat
  | 0 => (D, 0)
  | n + 1 => ((ldV B n (dsN B D n).1).1, (dsN B D n).2 + (ldV B n (dsN B D n).1).2)
theorem ldV_none {B : BK} {i : Nat} {D : DY} (e : rfD B D i = none) : ldV B i D = (D, 0) := by
  unfold ldV
  rw [e]
theorem ldV_some {B : BK} {i r : Nat} {D D' : DY} {S : List Int32} (e : rfD B D i = some r) (e2 : raV B i (cTn B r) (cAe B r - cTn B r) D [] = some (D', S)) : ldV B i D = (D', acC B (cTn B r) (cAe B r - cTn B r)) := by
  unfold ldV
  rw [e]
  show (match raV B i (cTn B r) (cAe B r - cTn B r) D [] with | none => (D, 0) | some q => (q.1, acC B (cTn B r) (cAe B r - cTn B r))) = _
  rw [e2]
theorem BDok.dy {B : BK} {D : DY} (hb : BDok B D) : BDok B (dyD D) := hb
/-- a campaign: how many acts it counts -/
def CamW (h : AH) (b : Nat) (ac : Int32) : Prop := ∃ (he : Int32) (f : Nat → Int32), At h b (.inr (1, [.ref (b + 1), .int he, .int ac])) ∧ At h (b + 1) (.inl (0, 400, .inl f))
theorem CamR.w {h : AH} {b : Nat} {S : List Int32} {ac : Int32} (q : CamR h b S ac) : CamW h b ac := ⟨_, q.2.2.choose, q.1, q.2.2.choose_spec.1⟩
theorem CamE.w {h : AH} {b : Nat} (q : CamE h b) : ∃ ac, CamW h b ac := by
  obtain ⟨⟨he, ac, a⟩, ⟨f, c⟩⟩ := q
  exact ⟨ac, he, f, a, c⟩
theorem CamW.e {h : AH} {b : Nat} {ac : Int32} (q : CamW h b ac) : CamE h b := by
  obtain ⟨he, f, a, c⟩ := q
  exact ⟨⟨he, ac, a⟩, ⟨f, c⟩⟩
theorem CamW.room {h : AH} {b : Nat} {ac : Int32} (q : CamW h b ac) : b + 2 ≤ h.1 := by
  obtain ⟨he, f, a, c⟩ := q
  have := c.1
  omega
theorem CamW.sm {h h1 : AH} {b : Nat} {ac : Int32} {lo hi : Nat} (q : CamW h b ac) (sm : Sm h h1 lo hi) (e : b + 2 ≤ lo ∨ hi ≤ b) : CamW h1 b ac := by
  obtain ⟨he, f, a, c⟩ := q
  exact ⟨he, f, sm.at a (by omega), sm.at c (by omega)⟩
section CMP
variable {G : GT} {d : Nat} {h0 h : AH} {b c bk : Nat} {B : BK} {D : DY} {S : List Int32}

set_option maxHeartbeats 4000000 in
set_option maxRecDepth 100000 in
theorem s_run_l (hd : 6 ≤ d) (hcb : c + 45 ≤ b) (hbk : bk + 58 ≤ c ∨ b + 2 ≤ bk) (hw : WFs B) (hr : 0 < bRs B) {i : Nat} (hi : i < bLi B) {fr to : Nat} (hto : to ≤ cSt B) {D9 : DY} {S9 : List Int32} : ∀ (m a : Nat) (h : AH) (D : DY) (S : List Int32) (n0 : Nat) (x7 x8 x9 : Option Value), ok1 x7 = true → ok1 x8 = true → ok1 x9 = true → a + m = to → S.length + fr ≤ a → raV B i a m D S = some (D9, S9) → BoR h bk B → CuR h c B D → BDok B D → CamR h b S (nI n0) → Sd h0 h c b → RQ G mX2_run d 9 [some (.ref b), some (.ref bk), some (.ref c), some (.int (nI i)), some (.int (nI fr)), some (.int (nI to)), some (.int (nI a)), x7, x8, x9] [] h (Rv fun h1 => BoR h1 bk B ∧ CuR h1 c B D9 ∧ BDok B D9 ∧ CamR h1 b S9 (nI (n0 + acC B a m)) ∧ Sd h0 h1 c b) := by
  have h400 := hw.1
  intro m
  induction m with
  | zero =>
    intro a h D S n0 x7 x8 x9 o7 o8 o9 e1 e2 e3 bo cu hb cr sd
    cases e3
    refine tX2_run_9  (r := ?_)
    refine tX2_run_11  (r := ?_)
    refine tX2_run_13  (kf := fun c_ => by exfalso; exact c_ ((nI_leI (by omega) (by omega)).mpr (by omega))) (kt := fun _ => ?_)
    refine tX2_run_215  (hP := ?_)
    exact ⟨rfl, bo, cu, hb, cr, sd⟩
  | succ m ih =>
    intro a h D S n0 x7 x8 x9 o7 o8 o9 e1 e2 e3 bo cu hb cr sd
    cases e : acV B i (cKd B a) (cNu B a) D S with
    | none =>
      unfold raV at e3
      rw [e] at e3
      exact nomatch e3
    | some q =>
      obtain ⟨D2, S2⟩ := q
      have e4 : raV B i (a + 1) m D2 S2 = some (D9, S9) := by
        unfold raV at e3
        rw [e] at e3
        exact e3
      have l2 := acV_len e
      by_cases hk : isAc (cKd B a) = true
      · refine s_run_ac hd hcb hbk hw hr hi hto (by omega) bo cu hb (by omega) o7 o8 o9 cr hk e (fun h1 y7 y8 y9 p7 p8 p9 bo1 cu1 hb1 cr1 sd1 => ?_)
        have key := ih (a + 1) h1 D2 S2 (n0 + 1) y7 y8 y9 p7 p8 p9 (by omega) (by omega) e4 bo1 cu1 hb1 cr1 (sd.trans sd1)
        have ec : n0 + 1 + acC B (a + 1) m = n0 + acC B a (m + 1) := by
          show _ = n0 + ((if isAc (cKd B a) = true then 1 else 0) + acC B (a + 1) m)
          rw [if_pos hk]
          omega
        rw [ec] at key
        exact key
      · have ec : n0 + acC B (a + 1) m = n0 + acC B a (m + 1) := by
          show _ = n0 + ((if isAc (cKd B a) = true then 1 else 0) + acC B (a + 1) m)
          rw [if_neg hk]
          omega
        cases es : stV B D i (cKd B a) (cNu B a) S with
        | none =>
          unfold acV at e
          rw [if_neg hk, es] at e
          exact nomatch e
        | some S3 =>
          unfold acV at e
          rw [if_neg hk, es] at e
          cases e
          have go : ∀ (h1 : AH) (y7 y8 y9 : Option Value), ok1 y7 = true → ok1 y8 = true → ok1 y9 = true → BoR h1 bk B → CuR h1 c B D → BDok B D → CamR h1 b S2 (nI n0) → Sd h h1 c b → RQ G mX2_run d 9 [some (.ref b), some (.ref bk), some (.ref c), some (.int (nI i)), some (.int (nI fr)), some (.int (nI to)), some (.int (nI (a + 1))), y7, y8, y9] [] h1 (Rv fun h1 => BoR h1 bk B ∧ CuR h1 c B D9 ∧ BDok B D9 ∧ CamR h1 b S9 (nI (n0 + acC B a (m + 1))) ∧ Sd h0 h1 c b) := by
            intro h1 y7 y8 y9 p7 p8 p9 bo1 cu1 hb1 cr1 sd1
            have key := ih (a + 1) h1 D S2 n0 y7 y8 y9 p7 p8 p9 (by omega) (by omega) e4 bo1 cu1 hb1 cr1 (sd.trans sd1)
            rw [ec] at key
            exact key
          rcases stV_cases es with ⟨q1, x, s, rfl, rfl⟩ | ⟨q1, rfl⟩ | ⟨q1, rfl⟩ | ⟨q1, y, x, s, rfl, rfl⟩
          · exact s_run_no hd hcb hbk hw hr hi hto (by omega) bo cu hb (by have e2 : s.length + 1 + fr ≤ a := e2; omega) o7 o8 o9 cr q1 go
          · exact s_run_nu hd hcb hbk hw hr hi hto (by omega) bo cu hb (by omega) o7 o8 o9 cr q1 go
          · exact s_run_lk hd hcb hbk hw hr hi hto (by omega) bo cu hb (by omega) o7 o8 o9 cr q1 go
          · exact s_run_jn hd hcb hbk hw hr hi hto (by omega) bo cu hb (by have e2 : s.length + 1 + 1 + fr ≤ a := e2; omega) o7 o8 o9 cr q1 go


set_option maxHeartbeats 4000000 in
set_option maxRecDepth 100000 in
theorem s_run (hd : 6 ≤ d) (hcb : c + 45 ≤ b) (hbk : bk + 58 ≤ c ∨ b + 2 ≤ bk) (hw : WFs B) (hr : 0 < bRs B) {i : Nat} (hi : i < bLi B) {fr to : Nat} (hft : fr ≤ to) (hto : to ≤ cSt B) {D9 : DY} {S9 : List Int32} (e : raV B i fr (to - fr) D [] = some (D9, S9)) (bo : BoR h bk B) (cu : CuR h c B D) (hb : BDok B D) {n0 : Nat} (cr : CamW h b (nI n0)) : RQ G mX2_run d 0 [some (.ref b), some (.ref bk), some (.ref c), some (.int (nI i)), some (.int (nI fr)), some (.int (nI to)), none, none, none, none] [] h (Rv fun h1 => BoR h1 bk B ∧ CuR h1 c B D9 ∧ BDok B D9 ∧ CamR h1 b S9 (nI (n0 + acC B fr (to - fr))) ∧ Sd h h1 c b) := by
  obtain ⟨he_, f, a0, a1⟩ := id cr
  have l0 := a0.1
  refine tX2_run_0  (r := ?_)
  refine tX2_run_1  (r := ?_)
  refine tX2_run_2 (ha := (by first | assumption | (repeat (first | assumption | exact At.set_eq2 (by first | omega | (simp only [hset, hnew]; omega) | rfl | decide) | exact At.new_eq2 _ _ (by first | omega | (simp only [hset, hnew]; omega) | rfl | decide) | refine At.set_ne ?_ (by first | omega | (simp only [hset, hnew]; omega) | rfl | decide) | refine At.new_ne ?_)))) (hlen := rfl) (r := ?_)
  refine tX2_run_5  (r := ?_)
  refine tX2_run_7  (r := ?_)
  have sm := (Sm.rf h b (b + 2)).set (i := b) (c := .inr (1, [.ref (b + 1), .int (nI 0), .int (nI n0)])) (by omega) (by omega)
  exact s_run_l (h0 := h) hd hcb hbk hw hr hi hto (to - fr) fr _ D [] n0 none none none rfl rfl rfl (by omega) (by show 0 + fr ≤ fr; omega) e (bo.sd (Sd.ofB sm hcb) hbk) (cu.sm sm (by omega)) hb ⟨At.set_eq2 l0, by decide, f, At.set_ne a1 (by omega), fun k hk => absurd hk (Nat.not_lt_zero k)⟩ (Sd.ofB sm hcb)

set_option maxHeartbeats 4000000 in
set_option maxRecDepth 100000 in
theorem s_ruleFor_l (hd : 7 ≤ d) (hcb : c + 45 ≤ b) (hbk : bk + 58 ≤ c ∨ b + 2 ≤ bk) (hb : BDok B D) {i : Nat} (hi : i < bLi B) {n0 : Nat} : ∀ (m a : Nat) (h : AH), (bRu B i).1 ≤ a → a + m = (bRu B i).2 → BoR h bk B → CuR h c B D → CamW h b (nI n0) → Sd h0 h c b → RQ G mX2_ruleFor d 8 [some (.ref b), some (.ref bk), some (.ref c), some (.int (nI i)), some (.int (nI a))] [] h (Ri fun v h1 => v = oI (rfN B D i a m) ∧ BoR h1 bk B ∧ CuR h1 c B D ∧ CamW h1 b (nI n0) ∧ Sd h0 h1 c b) := by
  obtain ⟨hw, hs⟩ := hb.bs
  have h400 := hw.1
  have h24 := hw.2.1
  have hl := hw.2.2.2.2.2.2.1 i hi
  have l3 := hb.2.2.1
  intro m
  induction m with
  | zero =>
    intro a h e1 e2 bo cu cr sd
    obtain ⟨he_, f, a0, a1⟩ := id cr
    have bo0 := bo.1
    obtain ⟨-, -, -, -, -, ⟨z3, z4, z5⟩, ⟨w3, w4, w5⟩, -, sc⟩ := id bo
    obtain ⟨⟨st_, ru_, acc_, sc0, -⟩, -, -, ⟨t1, t2, t3⟩, ⟨e1_, e2_, e3_⟩, -⟩ := id sc
    refine tX2_ruleFor_8  (r := ?_)
    refine tX2_ruleFor_10  (r := ?_)
    refine tX2_ruleFor_11 (ha := (by first | assumption | (repeat (first | assumption | exact At.set_eq2 (by first | omega | (simp only [hset, hnew]; omega) | rfl | decide) | exact At.new_eq2 _ _ (by first | omega | (simp only [hset, hnew]; omega) | rfl | decide) | refine At.set_ne ?_ (by first | omega | (simp only [hset, hnew]; omega) | rfl | decide) | refine At.new_ne ?_)))) (hv := rfl) (r := ?_)
    refine tX2_ruleFor_14  (r := ?_)
    refine tX2_ruleFor_15 (ha := (by first | assumption | (repeat (first | assumption | exact At.set_eq2 (by first | omega | (simp only [hset, hnew]; omega) | rfl | decide) | exact At.new_eq2 _ _ (by first | omega | (simp only [hset, hnew]; omega) | rfl | decide) | refine At.set_ne ?_ (by first | omega | (simp only [hset, hnew]; omega) | rfl | decide) | refine At.new_ne ?_)))) (hx := rfl) (hj := (by omega)) (hn := (by decide)) (r := ?_)
    rw [w5 _ hi]
    refine tX2_ruleFor_16  (kf := fun c_ => by exfalso; exact c_ ((nI_leI (by omega) (by omega)).mpr (by omega))) (kt := fun _ => ?_)
    refine tX2_ruleFor_62  (r := ?_)
    refine tX2_ruleFor_63  (hP := ?_)
    exact ⟨_, rfl, rfl, bo, cu, cr, sd⟩
  | succ m ih =>
    intro a h e1 e2 bo cu cr sd
    obtain ⟨he_, f, a0, a1⟩ := id cr
    have bo0 := bo.1
    obtain ⟨-, -, -, -, -, ⟨z3, z4, z5⟩, ⟨w3, w4, w5⟩, -, sc⟩ := id bo
    obtain ⟨⟨st_, ru_, acc_, sc0, -⟩, -, -, ⟨t1, t2, t3⟩, ⟨e1_, e2_, e3_⟩, -⟩ := id sc
    obtain ⟨⟨w1_, w2_, w3_⟩, -⟩ := hw.2.2.2.2.2.2.2 a (by omega)
    obtain ⟨⟨x, hx01, hx1, -⟩, -⟩ := hs i D hi hb.nine a e1 (by omega)
    obtain ⟨ra1, ra2⟩ := rn_ra _ _ _ _ hx1
    have ev : tvV B D i a = x := by
      unfold tvV
      rw [hx1]
    refine tX2_ruleFor_8  (r := ?_)
    refine tX2_ruleFor_10  (r := ?_)
    refine tX2_ruleFor_11 (ha := (by first | assumption | (repeat (first | assumption | exact At.set_eq2 (by first | omega | (simp only [hset, hnew]; omega) | rfl | decide) | exact At.new_eq2 _ _ (by first | omega | (simp only [hset, hnew]; omega) | rfl | decide) | refine At.set_ne ?_ (by first | omega | (simp only [hset, hnew]; omega) | rfl | decide) | refine At.new_ne ?_)))) (hv := rfl) (r := ?_)
    refine tX2_ruleFor_14  (r := ?_)
    refine tX2_ruleFor_15 (ha := (by first | assumption | (repeat (first | assumption | exact At.set_eq2 (by first | omega | (simp only [hset, hnew]; omega) | rfl | decide) | exact At.new_eq2 _ _ (by first | omega | (simp only [hset, hnew]; omega) | rfl | decide) | refine At.set_ne ?_ (by first | omega | (simp only [hset, hnew]; omega) | rfl | decide) | refine At.new_ne ?_)))) (hx := rfl) (hj := (by omega)) (hn := (by decide)) (r := ?_)
    rw [w5 _ hi]
    refine tX2_ruleFor_16  (kt := fun c_ => by exfalso; exact absurd ((nI_leI (by omega) (by omega)).mp c_) (by omega)) (kf := fun _ => ?_)
    refine tX2_ruleFor_19  (r := ?_)
    refine tX2_ruleFor_20  (r := ?_)
    refine tX2_ruleFor_21  (r := ?_)
    refine tX2_ruleFor_22  (r := ?_)
    refine tX2_ruleFor_23  (r := ?_)
    refine tX2_ruleFor_24 (ha := (by first | assumption | (repeat (first | assumption | exact At.set_eq2 (by first | omega | (simp only [hset, hnew]; omega) | rfl | decide) | exact At.new_eq2 _ _ (by first | omega | (simp only [hset, hnew]; omega) | rfl | decide) | refine At.set_ne ?_ (by first | omega | (simp only [hset, hnew]; omega) | rfl | decide) | refine At.new_ne ?_)))) (hv := rfl) (r := ?_)
    refine tX2_ruleFor_27 (ha := (by first | assumption | (repeat (first | assumption | exact At.set_eq2 (by first | omega | (simp only [hset, hnew]; omega) | rfl | decide) | exact At.new_eq2 _ _ (by first | omega | (simp only [hset, hnew]; omega) | rfl | decide) | refine At.set_ne ?_ (by first | omega | (simp only [hset, hnew]; omega) | rfl | decide) | refine At.new_ne ?_)))) (hv := rfl) (r := ?_)
    refine tX2_ruleFor_30  (r := ?_)
    refine tX2_ruleFor_32 (ha := (by first | assumption | (repeat (first | assumption | exact At.set_eq2 (by first | omega | (simp only [hset, hnew]; omega) | rfl | decide) | exact At.new_eq2 _ _ (by first | omega | (simp only [hset, hnew]; omega) | rfl | decide) | refine At.set_ne ?_ (by first | omega | (simp only [hset, hnew]; omega) | rfl | decide) | refine At.new_ne ?_)))) (hx := rfl) (hj := (by omega)) (hn := (by decide)) (r := ?_)
    rw [t3 _ (by omega)]
    refine tX2_ruleFor_33  (r := ?_)
    refine tX2_ruleFor_34 (ha := (by first | assumption | (repeat (first | assumption | exact At.set_eq2 (by first | omega | (simp only [hset, hnew]; omega) | rfl | decide) | exact At.new_eq2 _ _ (by first | omega | (simp only [hset, hnew]; omega) | rfl | decide) | refine At.set_ne ?_ (by first | omega | (simp only [hset, hnew]; omega) | rfl | decide) | refine At.new_ne ?_)))) (hv := rfl) (r := ?_)
    refine tX2_ruleFor_37 (ha := (by first | assumption | (repeat (first | assumption | exact At.set_eq2 (by first | omega | (simp only [hset, hnew]; omega) | rfl | decide) | exact At.new_eq2 _ _ (by first | omega | (simp only [hset, hnew]; omega) | rfl | decide) | refine At.set_ne ?_ (by first | omega | (simp only [hset, hnew]; omega) | rfl | decide) | refine At.new_ne ?_)))) (hv := rfl) (r := ?_)
    refine tX2_ruleFor_40  (r := ?_)
    refine tX2_ruleFor_42 (ha := (by first | assumption | (repeat (first | assumption | exact At.set_eq2 (by first | omega | (simp only [hset, hnew]; omega) | rfl | decide) | exact At.new_eq2 _ _ (by first | omega | (simp only [hset, hnew]; omega) | rfl | decide) | refine At.set_ne ?_ (by first | omega | (simp only [hset, hnew]; omega) | rfl | decide) | refine At.new_ne ?_)))) (hx := rfl) (hj := (by omega)) (hn := (by decide)) (r := ?_)
    rw [e3_ _ (by omega)]
    refine tX2_ruleFor_43 (hd := (by omega)) (ha := (by first | assumption | (repeat (first | assumption | exact At.set_eq2 (by first | omega | (simp only [hset, hnew]; omega) | rfl | decide) | exact At.new_eq2 _ _ (by first | omega | (simp only [hset, hnew]; omega) | rfl | decide) | refine At.set_ne ?_ (by first | omega | (simp only [hset, hnew]; omega) | rfl | decide) | refine At.new_ne ?_)))) (call := s_run (d := 6) (by decide) hcb hbk hw (by omega) hi w1_ (by omega) ra1 bo cu hb cr) (k := ?_)
    intro h1 hq
    obtain ⟨bo1, cu1, hb1, cr1, sd1⟩ := hq
    rw [ra2] at cr1
    obtain ⟨b0_, b1_, b2_, b3_, b4_⟩ := id cr1
    refine tX2_ruleFor_46  (r := ?_)
    refine tX2_ruleFor_47 (hd := (by omega)) (ha := (by first | assumption | (repeat (first | assumption | exact At.set_eq2 (by first | omega | (simp only [hset, hnew]; omega) | rfl | decide) | exact At.new_eq2 _ _ (by first | omega | (simp only [hset, hnew]; omega) | rfl | decide) | refine At.set_ne ?_ (by first | omega | (simp only [hset, hnew]; omega) | rfl | decide) | refine At.new_ne ?_)))) (call := s_pop (d := 6) cr1) (k := ?_)
    rintro v h2 ⟨rfl, cr2, sm2⟩
    have sd2 := sd1.trans (Sd.ofB sm2 hcb)
    refine tX2_ruleFor_50  (kt := fun c_50 => ?_) (kf := fun c_50 => ?_)
    · have er : rfN B D i a (m + 1) = rfN B D i (a + 1) m := if_pos (ev.trans c_50)
      refine tX2_ruleFor_56  (r := ?_)
      rw [nI_add]
      refine tX2_ruleFor_59 (r := ?_)
      rw [er]
      exact ih (a + 1) h2 (by omega) (by omega) (bo1.sd (Sd.ofB sm2 hcb) hbk) (cu1.sm sm2 (by omega)) cr2.w (sd.trans sd2)
    · have er : rfN B D i a (m + 1) = some a := if_neg (fun z => c_50 (ev.symm.trans z))
      refine tX2_ruleFor_53  (r := ?_)
      refine tX2_ruleFor_55  (hP := ?_)
      exact ⟨_, rfl, by rw [er]; rfl, bo1.sd (Sd.ofB sm2 hcb) hbk, cu1.sm sm2 (by omega), cr2.w, sd.trans sd2⟩

set_option maxHeartbeats 4000000 in
set_option maxRecDepth 100000 in
theorem s_ruleFor (hd : 7 ≤ d) (hcb : c + 45 ≤ b) (hbk : bk + 58 ≤ c ∨ b + 2 ≤ bk) (hb : BDok B D) {i : Nat} (hi : i < bLi B) (bo : BoR h0 bk B) (cu : CuR h0 c B D) {n0 : Nat} (cr : CamW h0 b (nI n0)) : RQ G mX2_ruleFor d 0 [some (.ref b), some (.ref bk), some (.ref c), some (.int (nI i)), none] [] h0 (Ri fun v h1 => v = oI (rfD B D i) ∧ BoR h1 bk B ∧ CuR h1 c B D ∧ CamW h1 b (nI n0) ∧ Sd h0 h1 c b) := by
  have bo0 := bo.1
  obtain ⟨-, -, -, -, -, ⟨z3, z4, z5⟩, -⟩ := id bo
  have l3 := hb.2.2.1
  have hl := hb.bs.1.2.2.2.2.2.2.1 i hi
  refine tX2_ruleFor_0  (r := ?_)
  refine tX2_ruleFor_1 (ha := (by first | assumption | (repeat (first | assumption | exact At.set_eq2 (by first | omega | (simp only [hset, hnew]; omega) | rfl | decide) | exact At.new_eq2 _ _ (by first | omega | (simp only [hset, hnew]; omega) | rfl | decide) | refine At.set_ne ?_ (by first | omega | (simp only [hset, hnew]; omega) | rfl | decide) | refine At.new_ne ?_)))) (hv := rfl) (r := ?_)
  refine tX2_ruleFor_4  (r := ?_)
  refine tX2_ruleFor_5 (ha := (by first | assumption | (repeat (first | assumption | exact At.set_eq2 (by first | omega | (simp only [hset, hnew]; omega) | rfl | decide) | exact At.new_eq2 _ _ (by first | omega | (simp only [hset, hnew]; omega) | rfl | decide) | refine At.set_ne ?_ (by first | omega | (simp only [hset, hnew]; omega) | rfl | decide) | refine At.new_ne ?_)))) (hx := rfl) (hj := (by omega)) (hn := (by decide)) (r := ?_)
  rw [z5 _ hi]
  refine tX2_ruleFor_6  (r := ?_)
  exact s_ruleFor_l hd hcb hbk hb hi _ _ h0 (Nat.le_refl _) (by omega) bo cu cr (Sd.rf _ _ _)

set_option maxHeartbeats 4000000 in
set_option maxRecDepth 100000 in
theorem s_day_l (hd : 8 ≤ d) (hcb : c + 45 ≤ b) (hbk : bk + 58 ≤ c ∨ b + 2 ≤ bk) : ∀ (n i : Nat) (h : AH) (x4 : Option Value), bLi B ≤ i + n → i ≤ bLi B → BoR h bk B → CuR h c B (dsN B D i).1 → BDok B (dsN B D i).1 → CamW h b (nI (dsN B D i).2) → Sd h0 h c b → RQ G mX2_spendDay d 7 [some (.ref b), some (.ref bk), some (.ref c), some (.int (nI i)), x4] [] h (Ri fun v h1 => v = nI (dsN B D (bLi B)).2 ∧ BoR h1 bk B ∧ CuR h1 c B (dyD (dsN B D (bLi B)).1) ∧ BDok B (dyD (dsN B D (bLi B)).1) ∧ (∃ n, CamW h1 b (nI n)) ∧ Sd h0 h1 c b) := by
  have ex : ∀ (i : Nat) (h : AH) (x4 : Option Value), i = bLi B → BoR h bk B → CuR h c B (dsN B D i).1 → BDok B (dsN B D i).1 → CamW h b (nI (dsN B D i).2) → Sd h0 h c b → RQ G mX2_spendDay d 7 [some (.ref b), some (.ref bk), some (.ref c), some (.int (nI i)), x4] [] h (Ri fun v h1 => v = nI (dsN B D (bLi B)).2 ∧ BoR h1 bk B ∧ CuR h1 c B (dyD (dsN B D (bLi B)).1) ∧ BDok B (dyD (dsN B D (bLi B)).1) ∧ (∃ n, CamW h1 b (nI n)) ∧ Sd h0 h1 c b) := by
    intro i h x4 hi bo cu hb cr sd
    subst hi
    obtain ⟨he_, f, a0, a1⟩ := id cr
    have bo0 := bo.1
    obtain ⟨-, -, -, -, -, -, -, -, sc⟩ := id bo
    obtain ⟨⟨st_, ru_, acc_, sc0, -⟩, -, -, -, ⟨e1_, e2_, e3_⟩, ⟨f1_, f2_, f3_⟩⟩ := id sc
    obtain ⟨jf, lj, fo, le, u0, u1, u2, u3, u4, u5, u6, u7, u8, u9⟩ := id cu
    have ul := u0.1
    have rb := cr.room
    refine tX2_spendDay_7  (r := ?_)
    refine tX2_spendDay_8  (r := ?_)
    refine tX2_spendDay_9 (ha := (by first | assumption | (repeat (first | assumption | exact At.set_eq2 (by first | omega | (simp only [hset, hnew]; omega) | rfl | decide) | exact At.new_eq2 _ _ (by first | omega | (simp only [hset, hnew]; omega) | rfl | decide) | refine At.set_ne ?_ (by first | omega | (simp only [hset, hnew]; omega) | rfl | decide) | refine At.new_ne ?_)))) (hv := rfl) (r := ?_)
    refine tX2_spendDay_12  (kf := fun c_ => by exfalso; exact c_ ((nI_leI (by have := hb.2.2.1; omega) (by have := hb.2.2.1; omega)).mpr (Nat.le_refl _))) (kt := fun _ => ?_)
    refine tX2_spendDay_63  (r := ?_)
    refine tX2_spendDay_64  (r := ?_)
    refine tX2_spendDay_65 (ha := (by first | assumption | (repeat (first | assumption | exact At.set_eq2 (by first | omega | (simp only [hset, hnew]; omega) | rfl | decide) | exact At.new_eq2 _ _ (by first | omega | (simp only [hset, hnew]; omega) | rfl | decide) | refine At.set_ne ?_ (by first | omega | (simp only [hset, hnew]; omega) | rfl | decide) | refine At.new_ne ?_)))) (hv := rfl) (r := ?_)
    refine tX2_spendDay_68  (r := ?_)
    refine tX2_spendDay_69  (r := ?_)
    refine tX2_spendDay_70 (ha := (by first | assumption | (repeat (first | assumption | exact At.set_eq2 (by first | omega | (simp only [hset, hnew]; omega) | rfl | decide) | exact At.new_eq2 _ _ (by first | omega | (simp only [hset, hnew]; omega) | rfl | decide) | refine At.set_ne ?_ (by first | omega | (simp only [hset, hnew]; omega) | rfl | decide) | refine At.new_ne ?_)))) (hlen := rfl) (r := ?_)
    refine tX2_spendDay_73  (r := ?_)
    refine tX2_spendDay_74 (ha := (by first | assumption | (repeat (first | assumption | exact At.set_eq2 (by first | omega | (simp only [hset, hnew]; omega) | rfl | decide) | exact At.new_eq2 _ _ (by first | omega | (simp only [hset, hnew]; omega) | rfl | decide) | refine At.set_ne ?_ (by first | omega | (simp only [hset, hnew]; omega) | rfl | decide) | refine At.new_ne ?_)))) (hv := rfl) (r := ?_)
    refine tX2_spendDay_77  (hP := ?_)
    have sm := (Sm.rf h c (c + 45)).set (i := c) (c := .inr (2, [.ref (c + 1), .ref (c + 2), .ref (c + 3), .ref (c + 4), .int (dDay (dsN B D (bLi B)).1 + nI 1)])) (by omega) (by omega)
    have sd1 := Sd.ofC sm hcb rb
    refine ⟨_, rfl, rfl, bo.sd sd1 hbk, ⟨jf, lj, fo, le, At.set_eq2 ul, At.set_ne u1 (by omega), At.set_ne u2 (by omega), At.set_ne u3 (by omega), At.set_ne u4 (by omega), u5, u6, u7, u8, fun q hq => (u9 q hq).keep (Nat.le_refl _) (Un.set (Un.rf _ _ _) (by omega))⟩, hb.dy, ⟨_, cr.sm sm (by omega)⟩, sd.trans sd1⟩
  intro n
  induction n with
  | zero => exact fun i h x4 h1_ h2_ => ex i h x4 (by omega)
  | succ n ih =>
    intro i h x4 h1_ h2_ bo cu hb cr sd
    by_cases hi : i = bLi B
    · exact ex i h x4 hi bo cu hb cr sd
    have hi2 : i < bLi B := by omega
    obtain ⟨he_, f, a0, a1⟩ := id cr
    have bo0 := bo.1
    obtain ⟨-, -, -, -, -, -, -, -, sc⟩ := id bo
    obtain ⟨⟨st_, ru_, acc_, sc0, -⟩, -, -, -, ⟨e1_, e2_, e3_⟩, ⟨f1_, f2_, f3_⟩⟩ := id sc
    obtain ⟨jf, lj, fo, le, u0, u1, u2, u3, u4, u5, u6, u7, u8, u9⟩ := id cu
    have ul := u0.1
    have rb := cr.room
    refine tX2_spendDay_7  (r := ?_)
    refine tX2_spendDay_8  (r := ?_)
    refine tX2_spendDay_9 (ha := (by first | assumption | (repeat (first | assumption | exact At.set_eq2 (by first | omega | (simp only [hset, hnew]; omega) | rfl | decide) | exact At.new_eq2 _ _ (by first | omega | (simp only [hset, hnew]; omega) | rfl | decide) | refine At.set_ne ?_ (by first | omega | (simp only [hset, hnew]; omega) | rfl | decide) | refine At.new_ne ?_)))) (hv := rfl) (r := ?_)
    refine tX2_spendDay_12  (kt := fun c_ => by exfalso; exact absurd ((nI_leI (by have := hb.2.2.1; omega) (by have := hb.2.2.1; omega)).mp c_) (by omega)) (kf := fun _ => ?_)
    refine tX2_spendDay_15  (r := ?_)
    refine tX2_spendDay_16  (r := ?_)
    refine tX2_spendDay_17  (r := ?_)
    refine tX2_spendDay_18  (r := ?_)
    refine tX2_spendDay_19 (hd := (by omega)) (ha := (by first | assumption | (repeat (first | assumption | exact At.set_eq2 (by first | omega | (simp only [hset, hnew]; omega) | rfl | decide) | exact At.new_eq2 _ _ (by first | omega | (simp only [hset, hnew]; omega) | rfl | decide) | refine At.set_ne ?_ (by first | omega | (simp only [hset, hnew]; omega) | rfl | decide) | refine At.new_ne ?_)))) (call := s_ruleFor (d := 7) (by decide) hcb hbk hb hi2 bo cu cr) (k := ?_)
    rintro v h1 ⟨rfl, bo1, cu1, cr1, sd1⟩
    obtain ⟨b0_, b1_, b2_, b3_⟩ := id cr1
    obtain ⟨hw, hs⟩ := hb.bs
    have h24 := hw.2.1
    have hl := hw.2.2.2.2.2.2.1 i hi2
    refine tX2_spendDay_22  (r := ?_)
    refine tX2_spendDay_24  (r := ?_)
    refine tX2_spendDay_26  (r := ?_)
    refine tX2_spendDay_27  (kt := fun c_27 => ?_) (kf := fun c_27 => ?_)
    · have en : rfD B (dsN B D i).1 i = none := (oI_m1 (fun k z => by have := rfN_lt _ _ _ z; omega)).mp c_27
      have ed : dsN B D (i + 1) = dsN B D i := by
        show ((ldV B i (dsN B D i).1).1, (dsN B D i).2 + (ldV B i (dsN B D i).1).2) = _
        rw [ldV_none en]
        rfl
      refine tX2_spendDay_57  (r := ?_)
      rw [nI_add]
      refine tX2_spendDay_60 (r := ?_)
      have key := fun x_ => ih (i + 1) h1 x_ (by omega) (by omega)
      rw [ed] at key
      exact key _ bo1 cu1 hb cr1 (sd.trans sd1)
    · obtain ⟨r, en⟩ : ∃ r, rfD B (dsN B D i).1 i = some r := by
        cases z : rfD B (dsN B D i).1 i with
        | none =>
          rw [z] at c_27
          exact absurd rfl c_27
        | some r => exact ⟨r, rfl⟩
      obtain ⟨r1, r2⟩ := rfN_lt _ _ _ en
      obtain ⟨⟨w1_, w2_, w3_⟩, -⟩ := hw.2.2.2.2.2.2.2 r (by omega)
      obtain ⟨-, ⟨D', hra, hac, -⟩⟩ := hs i (dsN B D i).1 hi2 hb.nine r r1 (by omega)
      have ed : dsN B D (i + 1) = (D', (dsN B D i).2 + acC B (cTn B r) (cAe B r - cTn B r)) := by
        show ((ldV B i (dsN B D i).1).1, (dsN B D i).2 + (ldV B i (dsN B D i).1).2) = _
        rw [ldV_some en hra]
      rw [en]
      have bo0 := bo1.1
      obtain ⟨-, -, -, -, -, -, -, -, sc⟩ := id bo1
      obtain ⟨⟨st_, ru_, acc_, sc0, -⟩, -, -, -, ⟨e1_, e2_, e3_⟩, ⟨f1_, f2_, f3_⟩⟩ := id sc
      refine tX2_spendDay_30  (r := ?_)
      refine tX2_spendDay_31  (r := ?_)
      refine tX2_spendDay_32  (r := ?_)
      refine tX2_spendDay_33  (r := ?_)
      refine tX2_spendDay_34  (r := ?_)
      refine tX2_spendDay_35 (ha := (by first | assumption | (repeat (first | assumption | exact At.set_eq2 (by first | omega | (simp only [hset, hnew]; omega) | rfl | decide) | exact At.new_eq2 _ _ (by first | omega | (simp only [hset, hnew]; omega) | rfl | decide) | refine At.set_ne ?_ (by first | omega | (simp only [hset, hnew]; omega) | rfl | decide) | refine At.new_ne ?_)))) (hv := rfl) (r := ?_)
      refine tX2_spendDay_38 (ha := (by first | assumption | (repeat (first | assumption | exact At.set_eq2 (by first | omega | (simp only [hset, hnew]; omega) | rfl | decide) | exact At.new_eq2 _ _ (by first | omega | (simp only [hset, hnew]; omega) | rfl | decide) | refine At.set_ne ?_ (by first | omega | (simp only [hset, hnew]; omega) | rfl | decide) | refine At.new_ne ?_)))) (hv := rfl) (r := ?_)
      refine tX2_spendDay_41  (r := ?_)
      refine tX2_spendDay_43 (ha := (by first | assumption | (repeat (first | assumption | exact At.set_eq2 (by first | omega | (simp only [hset, hnew]; omega) | rfl | decide) | exact At.new_eq2 _ _ (by first | omega | (simp only [hset, hnew]; omega) | rfl | decide) | refine At.set_ne ?_ (by first | omega | (simp only [hset, hnew]; omega) | rfl | decide) | refine At.new_ne ?_)))) (hx := rfl) (hj := (by omega)) (hn := (by decide)) (r := ?_)
      rw [e3_ _ (by omega)]
      refine tX2_spendDay_44  (r := ?_)
      refine tX2_spendDay_45 (ha := (by first | assumption | (repeat (first | assumption | exact At.set_eq2 (by first | omega | (simp only [hset, hnew]; omega) | rfl | decide) | exact At.new_eq2 _ _ (by first | omega | (simp only [hset, hnew]; omega) | rfl | decide) | refine At.set_ne ?_ (by first | omega | (simp only [hset, hnew]; omega) | rfl | decide) | refine At.new_ne ?_)))) (hv := rfl) (r := ?_)
      refine tX2_spendDay_48 (ha := (by first | assumption | (repeat (first | assumption | exact At.set_eq2 (by first | omega | (simp only [hset, hnew]; omega) | rfl | decide) | exact At.new_eq2 _ _ (by first | omega | (simp only [hset, hnew]; omega) | rfl | decide) | refine At.set_ne ?_ (by first | omega | (simp only [hset, hnew]; omega) | rfl | decide) | refine At.new_ne ?_)))) (hv := rfl) (r := ?_)
      refine tX2_spendDay_51  (r := ?_)
      refine tX2_spendDay_53 (ha := (by first | assumption | (repeat (first | assumption | exact At.set_eq2 (by first | omega | (simp only [hset, hnew]; omega) | rfl | decide) | exact At.new_eq2 _ _ (by first | omega | (simp only [hset, hnew]; omega) | rfl | decide) | refine At.set_ne ?_ (by first | omega | (simp only [hset, hnew]; omega) | rfl | decide) | refine At.new_ne ?_)))) (hx := rfl) (hj := (by omega)) (hn := (by decide)) (r := ?_)
      rw [f3_ _ (by omega)]
      refine tX2_spendDay_54 (hd := (by omega)) (ha := (by first | assumption | (repeat (first | assumption | exact At.set_eq2 (by first | omega | (simp only [hset, hnew]; omega) | rfl | decide) | exact At.new_eq2 _ _ (by first | omega | (simp only [hset, hnew]; omega) | rfl | decide) | refine At.set_ne ?_ (by first | omega | (simp only [hset, hnew]; omega) | rfl | decide) | refine At.new_ne ?_)))) (call := s_run (d := 6) (by decide) hcb hbk hw (by omega) hi2 w2_ w3_ hra bo1 cu1 hb cr1) (k := ?_)
      intro h2 hq
      obtain ⟨bo2, cu2, hb2, cr2, sd2⟩ := hq
      refine tX2_spendDay_57  (r := ?_)
      rw [nI_add]
      refine tX2_spendDay_60 (r := ?_)
      have key := fun x_ => ih (i + 1) h2 x_ (by omega) (by omega)
      rw [ed] at key
      exact key _ bo2 cu2 hb2 cr2.w ((sd.trans sd1).trans sd2)

set_option maxHeartbeats 4000000 in
set_option maxRecDepth 100000 in
theorem s_day (hd : 8 ≤ d) (hcb : c + 45 ≤ b) (hbk : bk + 58 ≤ c ∨ b + 2 ≤ bk) (hb : BDok B D) (bo : BoR h0 bk B) (cu : CuR h0 c B D) {ac : Int32} (cr : CamW h0 b ac) : RQ G mX2_spendDay d 0 [some (.ref b), some (.ref bk), some (.ref c), none, none] [] h0 (Ri fun v h1 => v = nI (dsN B D (bLi B)).2 ∧ BoR h1 bk B ∧ CuR h1 c B (dyD (dsN B D (bLi B)).1) ∧ BDok B (dyD (dsN B D (bLi B)).1) ∧ (∃ n, CamW h1 b (nI n)) ∧ Sd h0 h1 c b) := by
  obtain ⟨he_, f, a0, a1⟩ := id cr
  have l0 := a0.1
  refine tX2_spendDay_0  (r := ?_)
  refine tX2_spendDay_1  (r := ?_)
  refine tX2_spendDay_2 (ha := (by first | assumption | (repeat (first | assumption | exact At.set_eq2 (by first | omega | (simp only [hset, hnew]; omega) | rfl | decide) | exact At.new_eq2 _ _ (by first | omega | (simp only [hset, hnew]; omega) | rfl | decide) | refine At.set_ne ?_ (by first | omega | (simp only [hset, hnew]; omega) | rfl | decide) | refine At.new_ne ?_)))) (hlen := rfl) (r := ?_)
  refine tX2_spendDay_5  (r := ?_)
  refine tX2_spendDay_6  (r := ?_)
  have sm := (Sm.rf h0 b (b + 2)).set (i := b) (c := .inr (1, [.ref (b + 1), .int he_, .int (nI 0)])) (by omega) (by omega)
  exact s_day_l (D := D) hd hcb hbk (bLi B) 0 _ none (by omega) (by omega) (bo.sd (Sd.ofB sm hcb) hbk) (cu.sm sm (by omega)) hb ⟨he_, f, At.set_eq2 l0, At.set_ne a1 (by omega)⟩ (Sd.ofB sm hcb)

end CMP
