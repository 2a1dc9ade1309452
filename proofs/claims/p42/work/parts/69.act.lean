/-! what an act does -/
/-- changes in a cupboard at c and in a campaign at b alone -/
def Sd (h h1 : AH) (c b : Nat) : Prop := h1.1 = h.1 ∧ h1.2.1 = h.2.1 ∧ Un h h1 0 c ∧ Un h h1 (c + 45) b ∧ Un h h1 (b + 2) h.1
theorem Sd.rf (h : AH) (c b : Nat) : Sd h h c b := ⟨rfl, rfl, Un.rf _ _ _, Un.rf _ _ _, Un.rf _ _ _⟩
theorem Sd.trans {h h1 h2 : AH} {c b : Nat} (p : Sd h h1 c b) (q : Sd h1 h2 c b) : Sd h h2 c b := ⟨q.1.trans p.1, q.2.1.trans p.2.1, p.2.2.1.trans q.2.2.1, p.2.2.2.1.trans q.2.2.2.1, p.2.2.2.2.trans (q.2.2.2.2.sub (Nat.le_refl _) (by rw [p.1]; exact Nat.le_refl _))⟩
theorem Sd.ofC {h h1 : AH} {c b : Nat} (sm : Sm h h1 c (c + 45)) (e : c + 45 ≤ b) (e2 : b + 2 ≤ h.1) : Sd h h1 c b := ⟨sm.1, sm.2.1, sm.2.2.1, sm.2.2.2.sub (Nat.le_refl _) (by omega), sm.2.2.2.sub (by omega) (Nat.le_refl _)⟩
theorem Sd.ofB {h h1 : AH} {c b : Nat} (sm : Sm h h1 b (b + 2)) (e : c + 45 ≤ b) : Sd h h1 c b := ⟨sm.1, sm.2.1, sm.2.2.1.sub (Nat.le_refl _) (by omega), sm.2.2.1.sub (Nat.zero_le _) (Nat.le_refl _), sm.2.2.2⟩
theorem BoR.sd {h h1 : AH} {bk c b : Nat} {B : BK} (q : BoR h bk B) (sd : Sd h h1 c b) (e : bk + 58 ≤ c ∨ b + 2 ≤ bk) : BoR h1 bk B := by
  have l := q.room
  refine q.keep (Nat.le_of_eq sd.1.symm) ?_
  rcases e with e | e
  · exact sd.2.2.1.sub (Nat.zero_le _) e
  · exact sd.2.2.2.2.sub e l
theorem CamR.room {h : AH} {b : Nat} {S : List Int32} {ac : Int32} (q : CamR h b S ac) : b + 2 ≤ h.1 := by
  obtain ⟨a, l, f, a1, c⟩ := q
  have := a1.1
  omega
theorem thB_iff {F : Nat → Option Nat} {l k : Nat} (e6 : itn F 6 k = none) : thB F l k = true ↔ thr F l k := by
  unfold thB
  rw [List.any_eq_true]
  constructor
  · intro h
    obtain ⟨n, h1, h2⟩ := h
    exact ⟨n, of_decide_eq_true (by simpa using h2)⟩
  · intro h
    obtain ⟨n, h⟩ := h
    have hn : n < 7 := Nat.lt_of_not_le (fun z => by
      rw [itn_mono e6 n (by omega)] at h
      exact nomatch h)
    exact ⟨n, List.mem_range.mpr hn, by simp [h]⟩
theorem BDok.ho {B : BK} {D : DY} (hb : BDok B D) {i n : Nat} (hn : n < bJa B) : BDok B (hoD D i n) := ⟨hb.1, hb.2.1, hb.2.2.1, hb.2.2.2.1, hb.2.2.2.2.1, hb.2.2.2.2.2.1, hb.2.2.2.2.2.2.1, fun q hq => ⟨(hb.2.2.2.2.2.2.2.1 q hq).1, (by
  show (if q = i then n else dL D q) < bJa B
  split
  · exact hn
  · exact (hb.2.2.2.2.2.2.2.1 q hq).2)⟩, hb.2.2.2.2.2.2.2.2⟩
/-- a label, a jar that an act may name -/
def okD (B : BK) (kd n : Nat) : Prop := ((kd = 9 ∨ kd = 13) → n < bLa B) ∧ (kd = 11 → n < bJa B)
theorem doV_ok {B : BK} {D : DY} (hb : BDok B D) {i : Nat} (hi : i < bLi B) {kd n : Nat} {x : Int32} (ok : okD B kd n) : BDok B (doV B i kd n x D) := by
  obtain ⟨b1, b2⟩ := hb.2.2.2.2.2.2.2.1 i hi
  unfold doV
  by_cases h9 : kd = 9
  · rw [if_pos h9]
    exact hb.mv b2 (ok.1 (Or.inl h9)) b1 (mvN_le _ _)
  · rw [if_neg h9]
    by_cases h11 : kd = 11
    · rw [if_pos h11]
      exact hb.ho (ok.2 h11)
    · rw [if_neg h11]
      by_cases h12 : kd = 12
      · rw [if_pos h12]
        exact hb.st b2
      · rw [if_neg h12]
        by_cases h13 : kd = 13
        · rw [if_pos h13]
          have hn := ok.1 (Or.inr h13)
          have l1 := hb.1
          by_cases z : thB (dF D) (bLl B i) n = true
          · rw [if_pos z]
            exact hb
          · rw [if_neg z]
            exact hb.fw b1 (fun j e => by cases e; exact ⟨hn, fun y => z ((thB_iff (hb.end6 (by omega))).mpr y)⟩)
        · rw [if_neg h13]
          exact hb.fw b1 (fun j e => nomatch e)
section ACT
variable {G : GT} {d : Nat} {h : AH} {b c bk : Nat} {B : BK} {D : DY} {S : List Int32} {ac : Int32}

set_option maxHeartbeats 4000000 in
set_option maxRecDepth 100000 in
theorem s_act9 (hd : 4 ≤ d) (hcb : c + 45 ≤ b) (bo : BoR h bk B) (cu : CuR h c B D) (hb : BDok B D) {i : Nat} (hi : i < bLi B) {n : Nat} (hn : n < bLa B) {x : Int32} (cr : CamR h b (x :: S) ac) : RQ G mX2_act d 0 [some (.ref b), some (.ref (OLD + 9)), some (.int (nI n)), some (.ref bk), some (.ref c), some (.int (nI i)), none, none] [] h (Rv fun h1 => CuR h1 c B (doV B i 9 n x D) ∧ CamR h1 b S ac ∧ Sd h h1 c b) := by
  obtain ⟨jf, lj, fo, le, u0, u1, u2, u3, u4, u5, u6, u7, u8, u9⟩ := id cu
  have l1 := hb.1
  have l2 := hb.2.1
  have l3 := hb.2.2.1
  obtain ⟨b1_, b2_⟩ := hb.2.2.2.2.2.2.2.1 i hi
  have bo0 := bo.1
  obtain ⟨-, -, -, -, ⟨y3, y4, y5⟩, -⟩ := id bo
  obtain ⟨bf, p, w, l, tu, fi, ma, co, ⟨b0, b1, b2, b3, b4⟩, hb2, hb3⟩ := u9 (dL D i) (by omega)
  have rb := cr.room
  refine tX2_act_0  (r := ?_)
  refine tX2_act_1 (ha := (by first | assumption | (repeat (first | assumption | exact At.set_eq2 (by first | omega | (simp only [hset, hnew]; omega) | rfl | decide) | exact At.new_eq2 _ _ (by first | omega | (simp only [hset, hnew]; omega) | rfl | decide) | refine At.set_ne ?_ (by first | omega | (simp only [hset, hnew]; omega) | rfl | decide) | refine At.new_ne ?_)))) (hv := rfl) (r := ?_)
  refine tX2_act_4  (r := ?_)
  refine tX2_act_6 (ha := (by first | assumption | (repeat (first | assumption | exact At.set_eq2 (by first | omega | (simp only [hset, hnew]; omega) | rfl | decide) | exact At.new_eq2 _ _ (by first | omega | (simp only [hset, hnew]; omega) | rfl | decide) | refine At.set_ne ?_ (by first | omega | (simp only [hset, hnew]; omega) | rfl | decide) | refine At.new_ne ?_)))) (hx := rfl) (hj := (by omega)) (hn := (by decide)) (r := ?_)
  rw [y5 _ hi]
  refine tX2_act_7  (r := ?_)
  refine tX2_act_9  (r := ?_)
  refine tX2_act_11 (ha := (by first | assumption | (repeat (first | assumption | exact At.set_eq2 (by first | omega | (simp only [hset, hnew]; omega) | rfl | decide) | exact At.new_eq2 _ _ (by first | omega | (simp only [hset, hnew]; omega) | rfl | decide) | refine At.set_ne ?_ (by first | omega | (simp only [hset, hnew]; omega) | rfl | decide) | refine At.new_ne ?_)))) (hv := rfl) (r := ?_)
  refine tX2_act_14  (r := ?_)
  refine tX2_act_16 (ha := (by first | assumption | (repeat (first | assumption | exact At.set_eq2 (by first | omega | (simp only [hset, hnew]; omega) | rfl | decide) | exact At.new_eq2 _ _ (by first | omega | (simp only [hset, hnew]; omega) | rfl | decide) | refine At.set_ne ?_ (by first | omega | (simp only [hset, hnew]; omega) | rfl | decide) | refine At.new_ne ?_)))) (hv := rfl) (r := ?_)
  refine tX2_act_19  (r := ?_)
  refine tX2_act_21 (ha := (by first | assumption | (repeat (first | assumption | exact At.set_eq2 (by first | omega | (simp only [hset, hnew]; omega) | rfl | decide) | exact At.new_eq2 _ _ (by first | omega | (simp only [hset, hnew]; omega) | rfl | decide) | refine At.set_ne ?_ (by first | omega | (simp only [hset, hnew]; omega) | rfl | decide) | refine At.new_ne ?_)))) (hx := rfl) (hj := (by omega)) (hn := (by decide)) (r := ?_)
  rw [u6 _ (by omega)]
  refine tX2_act_22 (ha := (by first | assumption | (repeat (first | assumption | exact At.set_eq2 (by first | omega | (simp only [hset, hnew]; omega) | rfl | decide) | exact At.new_eq2 _ _ (by first | omega | (simp only [hset, hnew]; omega) | rfl | decide) | refine At.set_ne ?_ (by first | omega | (simp only [hset, hnew]; omega) | rfl | decide) | refine At.new_ne ?_)))) (hx := rfl) (hj := (by omega)) (hn := (by decide)) (hf := (u5 _ (by omega))) (r := ?_)
  refine tX2_act_23  (r := ?_)
  refine tX2_act_25  (r := ?_)
  refine tX2_act_28  (r := ?_)
  refine tX2_act_29 (hi := (by decide)) (hd := (by omega)) (r := ?_)
  refine uX2_act_32 (hx := rfl) (hj := (by decide)) (r := ?_)
  refine tX2_act_33 (n := SMk 9) (hn := (by decide)) (r := ?_)
  show RQ _ _ _ 64 _ _ _ _
  refine tX2_act_64  (r := ?_)
  refine tX2_act_66  (r := ?_)
  refine tX2_act_67  (r := ?_)
  refine tX2_act_69  (r := ?_)
  refine tX2_act_70 (hd := (by omega)) (ha := cr.1) (call := s_pop (d := 3) cr) (k := ?_)
  rintro x h1 ⟨rfl, cr1, sm1⟩
  have cu1 := cu.sm sm1 (by omega)
  obtain ⟨jf1, lj1, fo1, le1, v0, v1, v2, v3, v4, v5, v6, v7, v8, v9⟩ := id cu1
  obtain ⟨bf_, p_, w_, l_, tu_, fi_, ma_, co_, ⟨d0, d1, d2, d3, d4⟩, hb2_, hb3_⟩ := v9 (dL D i) (by omega)
  refine tX2_act_73 (hd := (by omega)) (ha := (by first | assumption | (repeat (first | assumption | exact At.set_eq2 (by first | omega | (simp only [hset, hnew]; omega) | rfl | decide) | exact At.new_eq2 _ _ (by first | omega | (simp only [hset, hnew]; omega) | rfl | decide) | refine At.set_ne ?_ (by first | omega | (simp only [hset, hnew]; omega) | rfl | decide) | refine At.new_ne ?_)))) (call := s_move (d := 3) (by decide) (v9 (dL D i) (by omega)) (hb.2.2.2.2.2.2.1 (dL D i) (by omega)) (show n < 6 by omega) (show bLl B i < 6 by omega)) (k := ?_)
  rintro v h2 ⟨rfl, jr, sm2⟩
  refine tX2_act_76  (r := ?_)
  refine tX2_act_77 (r := ?_)
  refine tX2_act_134  (hP := ?_)
  have sm2c := sm2.sub (lo2 := c) (hi2 := c + 45) (by omega) (by omega)
  exact ⟨rfl, cu1.setB (by omega) jr sm2, cr1.sm sm2c (by omega), (Sd.ofB sm1 hcb).trans (Sd.ofC sm2c hcb (by rw [sm1.1]; exact rb))⟩

set_option maxHeartbeats 4000000 in
set_option maxRecDepth 100000 in
theorem s_act11 (hd : 4 ≤ d) (hcb : c + 45 ≤ b) (bo : BoR h bk B) (cu : CuR h c B D) (hb : BDok B D) {i : Nat} (hi : i < bLi B) {n : Nat} (hn : n < bJa B) (cr : CamR h b S ac) : RQ G mX2_act d 0 [some (.ref b), some (.ref (OLD + 11)), some (.int (nI n)), some (.ref bk), some (.ref c), some (.int (nI i)), none, none] [] h (Rv fun h1 => CuR h1 c B (doV B i 11 n 0 D) ∧ CamR h1 b S ac ∧ Sd h h1 c b) := by
  obtain ⟨jf, lj, fo, le, u0, u1, u2, u3, u4, u5, u6, u7, u8, u9⟩ := id cu
  have l1 := hb.1
  have l2 := hb.2.1
  have l3 := hb.2.2.1
  obtain ⟨b1_, b2_⟩ := hb.2.2.2.2.2.2.2.1 i hi
  have bo0 := bo.1
  obtain ⟨-, -, -, -, ⟨y3, y4, y5⟩, -⟩ := id bo
  obtain ⟨bf, p, w, l, tu, fi, ma, co, ⟨b0, b1, b2, b3, b4⟩, hb2, hb3⟩ := u9 (dL D i) (by omega)
  have rb := cr.room
  refine tX2_act_0  (r := ?_)
  refine tX2_act_1 (ha := (by first | assumption | (repeat (first | assumption | exact At.set_eq2 (by first | omega | (simp only [hset, hnew]; omega) | rfl | decide) | exact At.new_eq2 _ _ (by first | omega | (simp only [hset, hnew]; omega) | rfl | decide) | refine At.set_ne ?_ (by first | omega | (simp only [hset, hnew]; omega) | rfl | decide) | refine At.new_ne ?_)))) (hv := rfl) (r := ?_)
  refine tX2_act_4  (r := ?_)
  refine tX2_act_6 (ha := (by first | assumption | (repeat (first | assumption | exact At.set_eq2 (by first | omega | (simp only [hset, hnew]; omega) | rfl | decide) | exact At.new_eq2 _ _ (by first | omega | (simp only [hset, hnew]; omega) | rfl | decide) | refine At.set_ne ?_ (by first | omega | (simp only [hset, hnew]; omega) | rfl | decide) | refine At.new_ne ?_)))) (hx := rfl) (hj := (by omega)) (hn := (by decide)) (r := ?_)
  rw [y5 _ hi]
  refine tX2_act_7  (r := ?_)
  refine tX2_act_9  (r := ?_)
  refine tX2_act_11 (ha := (by first | assumption | (repeat (first | assumption | exact At.set_eq2 (by first | omega | (simp only [hset, hnew]; omega) | rfl | decide) | exact At.new_eq2 _ _ (by first | omega | (simp only [hset, hnew]; omega) | rfl | decide) | refine At.set_ne ?_ (by first | omega | (simp only [hset, hnew]; omega) | rfl | decide) | refine At.new_ne ?_)))) (hv := rfl) (r := ?_)
  refine tX2_act_14  (r := ?_)
  refine tX2_act_16 (ha := (by first | assumption | (repeat (first | assumption | exact At.set_eq2 (by first | omega | (simp only [hset, hnew]; omega) | rfl | decide) | exact At.new_eq2 _ _ (by first | omega | (simp only [hset, hnew]; omega) | rfl | decide) | refine At.set_ne ?_ (by first | omega | (simp only [hset, hnew]; omega) | rfl | decide) | refine At.new_ne ?_)))) (hv := rfl) (r := ?_)
  refine tX2_act_19  (r := ?_)
  refine tX2_act_21 (ha := (by first | assumption | (repeat (first | assumption | exact At.set_eq2 (by first | omega | (simp only [hset, hnew]; omega) | rfl | decide) | exact At.new_eq2 _ _ (by first | omega | (simp only [hset, hnew]; omega) | rfl | decide) | refine At.set_ne ?_ (by first | omega | (simp only [hset, hnew]; omega) | rfl | decide) | refine At.new_ne ?_)))) (hx := rfl) (hj := (by omega)) (hn := (by decide)) (r := ?_)
  rw [u6 _ (by omega)]
  refine tX2_act_22 (ha := (by first | assumption | (repeat (first | assumption | exact At.set_eq2 (by first | omega | (simp only [hset, hnew]; omega) | rfl | decide) | exact At.new_eq2 _ _ (by first | omega | (simp only [hset, hnew]; omega) | rfl | decide) | refine At.set_ne ?_ (by first | omega | (simp only [hset, hnew]; omega) | rfl | decide) | refine At.new_ne ?_)))) (hx := rfl) (hj := (by omega)) (hn := (by decide)) (hf := (u5 _ (by omega))) (r := ?_)
  refine tX2_act_23  (r := ?_)
  refine tX2_act_25  (r := ?_)
  refine tX2_act_28  (r := ?_)
  refine tX2_act_29 (hi := (by decide)) (hd := (by omega)) (r := ?_)
  refine uX2_act_32 (hx := rfl) (hj := (by decide)) (r := ?_)
  refine tX2_act_33 (n := SMk 11) (hn := (by decide)) (r := ?_)
  show RQ _ _ _ 80 _ _ _ _
  refine tX2_act_80  (r := ?_)
  refine tX2_act_82 (ha := (by first | assumption | (repeat (first | assumption | exact At.set_eq2 (by first | omega | (simp only [hset, hnew]; omega) | rfl | decide) | exact At.new_eq2 _ _ (by first | omega | (simp only [hset, hnew]; omega) | rfl | decide) | refine At.set_ne ?_ (by first | omega | (simp only [hset, hnew]; omega) | rfl | decide) | refine At.new_ne ?_)))) (hv := rfl) (r := ?_)
  refine tX2_act_85  (r := ?_)
  refine tX2_act_87  (r := ?_)
  refine tX2_act_88 (ha := (by first | assumption | (repeat (first | assumption | exact At.set_eq2 (by first | omega | (simp only [hset, hnew]; omega) | rfl | decide) | exact At.new_eq2 _ _ (by first | omega | (simp only [hset, hnew]; omega) | rfl | decide) | refine At.set_ne ?_ (by first | omega | (simp only [hset, hnew]; omega) | rfl | decide) | refine At.new_ne ?_)))) (hx := rfl) (hj := (by omega)) (hn := (by decide)) (r := ?_)
  refine tX2_act_89 (r := ?_)
  refine tX2_act_134  (hP := ?_)
  have sm : Sm h (hset h (c + 2) (.inl (0, 6, .inl (upd lj i (nI n))))) (c + 2) (c + 3) := (Sm.rf _ _ _).set (Nat.le_refl _) (by omega)
  have smc := sm.sub (lo2 := c) (hi2 := c + 45) (by omega) (by omega)
  refine ⟨rfl, ⟨jf, upd lj i (nI n), fo, le, sm.at u0 (by omega), sm.at u1 (by omega), At.set_eq2 u2.1, sm.at u3 (by omega), sm.at u4 (by omega), u5, fun q hq => ?_, u7, u8, fun q hq => (u9 q hq).sm sm (by omega)⟩, cr.sm smc (by omega), Sd.ofC smc hcb rb⟩
  show (if q = i then nI n else lj q) = nI (if q = i then n else dL D q)
  by_cases e : q = i
  · rw [if_pos e, if_pos e]
  · rw [if_neg e, if_neg e, u6 q hq]

set_option maxHeartbeats 4000000 in
set_option maxRecDepth 100000 in
theorem s_act12 (hd : 4 ≤ d) (hcb : c + 45 ≤ b) (bo : BoR h bk B) (cu : CuR h c B D) (hb : BDok B D) {i : Nat} (hi : i < bLi B) {n : Nat} (cr : CamR h b S ac) : RQ G mX2_act d 0 [some (.ref b), some (.ref (OLD + 12)), some (.int (nI n)), some (.ref bk), some (.ref c), some (.int (nI i)), none, none] [] h (Rv fun h1 => CuR h1 c B (doV B i 12 n 0 D) ∧ CamR h1 b S ac ∧ Sd h h1 c b) := by
  obtain ⟨jf, lj, fo, le, u0, u1, u2, u3, u4, u5, u6, u7, u8, u9⟩ := id cu
  have l1 := hb.1
  have l2 := hb.2.1
  have l3 := hb.2.2.1
  obtain ⟨b1_, b2_⟩ := hb.2.2.2.2.2.2.2.1 i hi
  have bo0 := bo.1
  obtain ⟨-, -, -, -, ⟨y3, y4, y5⟩, -⟩ := id bo
  obtain ⟨bf, p, w, l, tu, fi, ma, co, ⟨b0, b1, b2, b3, b4⟩, hb2, hb3⟩ := u9 (dL D i) (by omega)
  have rb := cr.room
  refine tX2_act_0  (r := ?_)
  refine tX2_act_1 (ha := (by first | assumption | (repeat (first | assumption | exact At.set_eq2 (by first | omega | (simp only [hset, hnew]; omega) | rfl | decide) | exact At.new_eq2 _ _ (by first | omega | (simp only [hset, hnew]; omega) | rfl | decide) | refine At.set_ne ?_ (by first | omega | (simp only [hset, hnew]; omega) | rfl | decide) | refine At.new_ne ?_)))) (hv := rfl) (r := ?_)
  refine tX2_act_4  (r := ?_)
  refine tX2_act_6 (ha := (by first | assumption | (repeat (first | assumption | exact At.set_eq2 (by first | omega | (simp only [hset, hnew]; omega) | rfl | decide) | exact At.new_eq2 _ _ (by first | omega | (simp only [hset, hnew]; omega) | rfl | decide) | refine At.set_ne ?_ (by first | omega | (simp only [hset, hnew]; omega) | rfl | decide) | refine At.new_ne ?_)))) (hx := rfl) (hj := (by omega)) (hn := (by decide)) (r := ?_)
  rw [y5 _ hi]
  refine tX2_act_7  (r := ?_)
  refine tX2_act_9  (r := ?_)
  refine tX2_act_11 (ha := (by first | assumption | (repeat (first | assumption | exact At.set_eq2 (by first | omega | (simp only [hset, hnew]; omega) | rfl | decide) | exact At.new_eq2 _ _ (by first | omega | (simp only [hset, hnew]; omega) | rfl | decide) | refine At.set_ne ?_ (by first | omega | (simp only [hset, hnew]; omega) | rfl | decide) | refine At.new_ne ?_)))) (hv := rfl) (r := ?_)
  refine tX2_act_14  (r := ?_)
  refine tX2_act_16 (ha := (by first | assumption | (repeat (first | assumption | exact At.set_eq2 (by first | omega | (simp only [hset, hnew]; omega) | rfl | decide) | exact At.new_eq2 _ _ (by first | omega | (simp only [hset, hnew]; omega) | rfl | decide) | refine At.set_ne ?_ (by first | omega | (simp only [hset, hnew]; omega) | rfl | decide) | refine At.new_ne ?_)))) (hv := rfl) (r := ?_)
  refine tX2_act_19  (r := ?_)
  refine tX2_act_21 (ha := (by first | assumption | (repeat (first | assumption | exact At.set_eq2 (by first | omega | (simp only [hset, hnew]; omega) | rfl | decide) | exact At.new_eq2 _ _ (by first | omega | (simp only [hset, hnew]; omega) | rfl | decide) | refine At.set_ne ?_ (by first | omega | (simp only [hset, hnew]; omega) | rfl | decide) | refine At.new_ne ?_)))) (hx := rfl) (hj := (by omega)) (hn := (by decide)) (r := ?_)
  rw [u6 _ (by omega)]
  refine tX2_act_22 (ha := (by first | assumption | (repeat (first | assumption | exact At.set_eq2 (by first | omega | (simp only [hset, hnew]; omega) | rfl | decide) | exact At.new_eq2 _ _ (by first | omega | (simp only [hset, hnew]; omega) | rfl | decide) | refine At.set_ne ?_ (by first | omega | (simp only [hset, hnew]; omega) | rfl | decide) | refine At.new_ne ?_)))) (hx := rfl) (hj := (by omega)) (hn := (by decide)) (hf := (u5 _ (by omega))) (r := ?_)
  refine tX2_act_23  (r := ?_)
  refine tX2_act_25  (r := ?_)
  refine tX2_act_28  (r := ?_)
  refine tX2_act_29 (hi := (by decide)) (hd := (by omega)) (r := ?_)
  refine uX2_act_32 (hx := rfl) (hj := (by decide)) (r := ?_)
  refine tX2_act_33 (n := SMk 12) (hn := (by decide)) (r := ?_)
  show RQ _ _ _ 92 _ _ _ _
  refine tX2_act_92  (r := ?_)
  refine tX2_act_94  (r := ?_)
  refine tX2_act_95 (ha := (by first | assumption | (repeat (first | assumption | exact At.set_eq2 (by first | omega | (simp only [hset, hnew]; omega) | rfl | decide) | exact At.new_eq2 _ _ (by first | omega | (simp only [hset, hnew]; omega) | rfl | decide) | refine At.set_ne ?_ (by first | omega | (simp only [hset, hnew]; omega) | rfl | decide) | refine At.new_ne ?_)))) (hv := rfl) (r := ?_)
  refine tX2_act_98 (hd := (by omega)) (ha := (by first | assumption | (repeat (first | assumption | exact At.set_eq2 (by first | omega | (simp only [hset, hnew]; omega) | rfl | decide) | exact At.new_eq2 _ _ (by first | omega | (simp only [hset, hnew]; omega) | rfl | decide) | refine At.set_ne ?_ (by first | omega | (simp only [hset, hnew]; omega) | rfl | decide) | refine At.new_ne ?_)))) (call := s_stir (d := 3) (u9 (dL D i) (by omega)) (hb.2.2.2.2.2.2.1 (dL D i) (by omega)) hb.1) (k := ?_)
  intro h2 hq
  obtain ⟨jr, sm2⟩ := hq
  refine tX2_act_101 (r := ?_)
  refine tX2_act_134  (hP := ?_)
  have sm2c := sm2.sub (lo2 := c) (hi2 := c + 45) (by omega) (by omega)
  exact ⟨rfl, cu.setB (by omega) jr sm2, cr.sm sm2c (by omega), Sd.ofC sm2c hcb rb⟩

set_option maxHeartbeats 4000000 in
set_option maxRecDepth 100000 in
theorem s_act13 (hd : 4 ≤ d) (hcb : c + 45 ≤ b) (bo : BoR h bk B) (cu : CuR h c B D) (hb : BDok B D) {i : Nat} (hi : i < bLi B) {n : Nat} (hn : n < bLa B) (cr : CamR h b S ac) : RQ G mX2_act d 0 [some (.ref b), some (.ref (OLD + 13)), some (.int (nI n)), some (.ref bk), some (.ref c), some (.int (nI i)), none, none] [] h (Rv fun h1 => CuR h1 c B (doV B i 13 n 0 D) ∧ CamR h1 b S ac ∧ Sd h h1 c b) := by
  obtain ⟨jf, lj, fo, le, u0, u1, u2, u3, u4, u5, u6, u7, u8, u9⟩ := id cu
  have l1 := hb.1
  have l2 := hb.2.1
  have l3 := hb.2.2.1
  obtain ⟨b1_, b2_⟩ := hb.2.2.2.2.2.2.2.1 i hi
  have bo0 := bo.1
  obtain ⟨-, -, -, -, ⟨y3, y4, y5⟩, -⟩ := id bo
  obtain ⟨bf, p, w, l, tu, fi, ma, co, ⟨b0, b1, b2, b3, b4⟩, hb2, hb3⟩ := u9 (dL D i) (by omega)
  have rb := cr.room
  refine tX2_act_0  (r := ?_)
  refine tX2_act_1 (ha := (by first | assumption | (repeat (first | assumption | exact At.set_eq2 (by first | omega | (simp only [hset, hnew]; omega) | rfl | decide) | exact At.new_eq2 _ _ (by first | omega | (simp only [hset, hnew]; omega) | rfl | decide) | refine At.set_ne ?_ (by first | omega | (simp only [hset, hnew]; omega) | rfl | decide) | refine At.new_ne ?_)))) (hv := rfl) (r := ?_)
  refine tX2_act_4  (r := ?_)
  refine tX2_act_6 (ha := (by first | assumption | (repeat (first | assumption | exact At.set_eq2 (by first | omega | (simp only [hset, hnew]; omega) | rfl | decide) | exact At.new_eq2 _ _ (by first | omega | (simp only [hset, hnew]; omega) | rfl | decide) | refine At.set_ne ?_ (by first | omega | (simp only [hset, hnew]; omega) | rfl | decide) | refine At.new_ne ?_)))) (hx := rfl) (hj := (by omega)) (hn := (by decide)) (r := ?_)
  rw [y5 _ hi]
  refine tX2_act_7  (r := ?_)
  refine tX2_act_9  (r := ?_)
  refine tX2_act_11 (ha := (by first | assumption | (repeat (first | assumption | exact At.set_eq2 (by first | omega | (simp only [hset, hnew]; omega) | rfl | decide) | exact At.new_eq2 _ _ (by first | omega | (simp only [hset, hnew]; omega) | rfl | decide) | refine At.set_ne ?_ (by first | omega | (simp only [hset, hnew]; omega) | rfl | decide) | refine At.new_ne ?_)))) (hv := rfl) (r := ?_)
  refine tX2_act_14  (r := ?_)
  refine tX2_act_16 (ha := (by first | assumption | (repeat (first | assumption | exact At.set_eq2 (by first | omega | (simp only [hset, hnew]; omega) | rfl | decide) | exact At.new_eq2 _ _ (by first | omega | (simp only [hset, hnew]; omega) | rfl | decide) | refine At.set_ne ?_ (by first | omega | (simp only [hset, hnew]; omega) | rfl | decide) | refine At.new_ne ?_)))) (hv := rfl) (r := ?_)
  refine tX2_act_19  (r := ?_)
  refine tX2_act_21 (ha := (by first | assumption | (repeat (first | assumption | exact At.set_eq2 (by first | omega | (simp only [hset, hnew]; omega) | rfl | decide) | exact At.new_eq2 _ _ (by first | omega | (simp only [hset, hnew]; omega) | rfl | decide) | refine At.set_ne ?_ (by first | omega | (simp only [hset, hnew]; omega) | rfl | decide) | refine At.new_ne ?_)))) (hx := rfl) (hj := (by omega)) (hn := (by decide)) (r := ?_)
  rw [u6 _ (by omega)]
  refine tX2_act_22 (ha := (by first | assumption | (repeat (first | assumption | exact At.set_eq2 (by first | omega | (simp only [hset, hnew]; omega) | rfl | decide) | exact At.new_eq2 _ _ (by first | omega | (simp only [hset, hnew]; omega) | rfl | decide) | refine At.set_ne ?_ (by first | omega | (simp only [hset, hnew]; omega) | rfl | decide) | refine At.new_ne ?_)))) (hx := rfl) (hj := (by omega)) (hn := (by decide)) (hf := (u5 _ (by omega))) (r := ?_)
  refine tX2_act_23  (r := ?_)
  refine tX2_act_25  (r := ?_)
  refine tX2_act_28  (r := ?_)
  refine tX2_act_29 (hi := (by decide)) (hd := (by omega)) (r := ?_)
  refine uX2_act_32 (hx := rfl) (hj := (by decide)) (r := ?_)
  refine tX2_act_33 (n := SMk 13) (hn := (by decide)) (r := ?_)
  show RQ _ _ _ 104 _ _ _ _
  refine tX2_act_104  (r := ?_)
  refine tX2_act_106  (r := ?_)
  refine tX2_act_108  (r := ?_)
  refine tX2_act_109 (hd := (by omega)) (ha := (by first | assumption | (repeat (first | assumption | exact At.set_eq2 (by first | omega | (simp only [hset, hnew]; omega) | rfl | decide) | exact At.new_eq2 _ _ (by first | omega | (simp only [hset, hnew]; omega) | rfl | decide) | refine At.set_ne ?_ (by first | omega | (simp only [hset, hnew]; omega) | rfl | decide) | refine At.new_ne ?_)))) (call := s_may (d := 3) cu hb (show bLl B i < 6 by omega) (show n < 6 by omega)) (k := ?_)
  rintro v_ h_ ⟨my, e9⟩
  rw [e9]
  have tI := thB_iff (F := dF D) (l := bLl B i) (k := n) (hb.end6 (by omega))
  refine tX2_act_112  (kt := fun c_112 => ?_) (kf := fun c_112 => ?_)
  · have th_ : thB (dF D) (bLl B i) n = true := tI.mpr (Or.elim my (fun z => by rw [z.1] at c_112; exact absurd c_112 (by decide)) (fun z => z.2))
    have e : doV B i 13 n 0 D = D := if_pos th_
    refine tX2_act_134  (hP := ?_)
    exact ⟨rfl, by rw [e]; exact cu, cr, Sd.rf _ _ _⟩
  · have nt_ : ¬ thr (dF D) (bLl B i) n := Or.elim my (fun z => z.2) (fun z => absurd (by rw [z.1]; decide) c_112)
    have e : doV B i 13 n 0 D = fwD D (bLl B i) (some n) := if_neg (fun z => nt_ (tI.mp z))
    refine tX2_act_115  (r := ?_)
    refine tX2_act_117  (r := ?_)
    refine tX2_act_119  (r := ?_)
    refine tX2_act_120 (hd := (by omega)) (ha := (by first | assumption | (repeat (first | assumption | exact At.set_eq2 (by first | omega | (simp only [hset, hnew]; omega) | rfl | decide) | exact At.new_eq2 _ _ (by first | omega | (simp only [hset, hnew]; omega) | rfl | decide) | refine At.set_ne ?_ (by first | omega | (simp only [hset, hnew]; omega) | rfl | decide) | refine At.new_ne ?_)))) (call := s_follow (d := 3) (t := some n) cu hb b1_ (fun j z => by cases z; exact ⟨hn, nt_⟩)) (k := ?_)
    intro h2 hq
    obtain ⟨cu2, sm2⟩ := hq
    refine tX2_act_123 (r := ?_)
    refine tX2_act_134  (hP := ?_)
    exact ⟨rfl, by rw [e]; exact cu2, cr.sm sm2 (by omega), Sd.ofC sm2 hcb rb⟩

set_option maxHeartbeats 4000000 in
set_option maxRecDepth 100000 in
theorem s_act14 (hd : 4 ≤ d) (hcb : c + 45 ≤ b) (bo : BoR h bk B) (cu : CuR h c B D) (hb : BDok B D) {i : Nat} (hi : i < bLi B) {n : Nat} (cr : CamR h b S ac) : RQ G mX2_act d 0 [some (.ref b), some (.ref (OLD + 14)), some (.int (nI n)), some (.ref bk), some (.ref c), some (.int (nI i)), none, none] [] h (Rv fun h1 => CuR h1 c B (doV B i 14 n 0 D) ∧ CamR h1 b S ac ∧ Sd h h1 c b) := by
  obtain ⟨jf, lj, fo, le, u0, u1, u2, u3, u4, u5, u6, u7, u8, u9⟩ := id cu
  have l1 := hb.1
  have l2 := hb.2.1
  have l3 := hb.2.2.1
  obtain ⟨b1_, b2_⟩ := hb.2.2.2.2.2.2.2.1 i hi
  have bo0 := bo.1
  obtain ⟨-, -, -, -, ⟨y3, y4, y5⟩, -⟩ := id bo
  obtain ⟨bf, p, w, l, tu, fi, ma, co, ⟨b0, b1, b2, b3, b4⟩, hb2, hb3⟩ := u9 (dL D i) (by omega)
  have rb := cr.room
  refine tX2_act_0  (r := ?_)
  refine tX2_act_1 (ha := (by first | assumption | (repeat (first | assumption | exact At.set_eq2 (by first | omega | (simp only [hset, hnew]; omega) | rfl | decide) | exact At.new_eq2 _ _ (by first | omega | (simp only [hset, hnew]; omega) | rfl | decide) | refine At.set_ne ?_ (by first | omega | (simp only [hset, hnew]; omega) | rfl | decide) | refine At.new_ne ?_)))) (hv := rfl) (r := ?_)
  refine tX2_act_4  (r := ?_)
  refine tX2_act_6 (ha := (by first | assumption | (repeat (first | assumption | exact At.set_eq2 (by first | omega | (simp only [hset, hnew]; omega) | rfl | decide) | exact At.new_eq2 _ _ (by first | omega | (simp only [hset, hnew]; omega) | rfl | decide) | refine At.set_ne ?_ (by first | omega | (simp only [hset, hnew]; omega) | rfl | decide) | refine At.new_ne ?_)))) (hx := rfl) (hj := (by omega)) (hn := (by decide)) (r := ?_)
  rw [y5 _ hi]
  refine tX2_act_7  (r := ?_)
  refine tX2_act_9  (r := ?_)
  refine tX2_act_11 (ha := (by first | assumption | (repeat (first | assumption | exact At.set_eq2 (by first | omega | (simp only [hset, hnew]; omega) | rfl | decide) | exact At.new_eq2 _ _ (by first | omega | (simp only [hset, hnew]; omega) | rfl | decide) | refine At.set_ne ?_ (by first | omega | (simp only [hset, hnew]; omega) | rfl | decide) | refine At.new_ne ?_)))) (hv := rfl) (r := ?_)
  refine tX2_act_14  (r := ?_)
  refine tX2_act_16 (ha := (by first | assumption | (repeat (first | assumption | exact At.set_eq2 (by first | omega | (simp only [hset, hnew]; omega) | rfl | decide) | exact At.new_eq2 _ _ (by first | omega | (simp only [hset, hnew]; omega) | rfl | decide) | refine At.set_ne ?_ (by first | omega | (simp only [hset, hnew]; omega) | rfl | decide) | refine At.new_ne ?_)))) (hv := rfl) (r := ?_)
  refine tX2_act_19  (r := ?_)
  refine tX2_act_21 (ha := (by first | assumption | (repeat (first | assumption | exact At.set_eq2 (by first | omega | (simp only [hset, hnew]; omega) | rfl | decide) | exact At.new_eq2 _ _ (by first | omega | (simp only [hset, hnew]; omega) | rfl | decide) | refine At.set_ne ?_ (by first | omega | (simp only [hset, hnew]; omega) | rfl | decide) | refine At.new_ne ?_)))) (hx := rfl) (hj := (by omega)) (hn := (by decide)) (r := ?_)
  rw [u6 _ (by omega)]
  refine tX2_act_22 (ha := (by first | assumption | (repeat (first | assumption | exact At.set_eq2 (by first | omega | (simp only [hset, hnew]; omega) | rfl | decide) | exact At.new_eq2 _ _ (by first | omega | (simp only [hset, hnew]; omega) | rfl | decide) | refine At.set_ne ?_ (by first | omega | (simp only [hset, hnew]; omega) | rfl | decide) | refine At.new_ne ?_)))) (hx := rfl) (hj := (by omega)) (hn := (by decide)) (hf := (u5 _ (by omega))) (r := ?_)
  refine tX2_act_23  (r := ?_)
  refine tX2_act_25  (r := ?_)
  refine tX2_act_28  (r := ?_)
  refine tX2_act_29 (hi := (by decide)) (hd := (by omega)) (r := ?_)
  refine uX2_act_32 (hx := rfl) (hj := (by decide)) (r := ?_)
  refine tX2_act_33 (n := SMk 14) (hn := (by decide)) (r := ?_)
  show RQ _ _ _ 126 _ _ _ _
  refine tX2_act_126  (r := ?_)
  refine tX2_act_128  (r := ?_)
  refine tX2_act_130  (r := ?_)
  refine tX2_act_131 (hd := (by omega)) (ha := (by first | assumption | (repeat (first | assumption | exact At.set_eq2 (by first | omega | (simp only [hset, hnew]; omega) | rfl | decide) | exact At.new_eq2 _ _ (by first | omega | (simp only [hset, hnew]; omega) | rfl | decide) | refine At.set_ne ?_ (by first | omega | (simp only [hset, hnew]; omega) | rfl | decide) | refine At.new_ne ?_)))) (call := s_follow (d := 3) (t := none) cu hb b1_ (fun j z => nomatch z)) (k := ?_)
  intro h2 hq
  obtain ⟨cu2, sm2⟩ := hq
  refine tX2_act_134  (hP := ?_)
  exact ⟨rfl, cu2, cr.sm sm2 (by omega), Sd.ofC sm2 hcb rb⟩

end ACT
