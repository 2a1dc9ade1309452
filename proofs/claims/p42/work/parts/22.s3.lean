section S3
variable {G : GT} {d : Nat} {h : AH}

set_option maxHeartbeats 4000000 in
set_option maxRecDepth 100000 in
theorem s_Book_init (hd : 3 ≤ d) {b : Nat} (a0 : At h b (.inr (0, [.null, .null, .null, .null, .null, .null, .null, .null, .int 0, .int 0, .int 0]))) (hj : h.1 = b + 1) : RQ G mX1_init d 0 [some (.ref b)] [] h (Rv fun h2 => BookE h2 b 0 0 0 ∧ Gw h h2 b 57 1221) := by
  refine tX1_init_0  (r := ?_)
  refine tX1_init_1 (hd := (by omega)) (r := ?_)
  refine tX1_init_4  (r := ?_)
  refine tX1_init_5  (r := ?_)
  refine tX1_init_7 (hx := (by first | rfl | assumption | exact nI_add _ _)) (hn := (by decide)) (r := ?_)
  refine RQ.refId (k' := b + 1) (by (first | omega | (simp only [hset, hnew]; omega) | rfl | decide)) ?_
  refine tX1_init_9 (ha := (by first | assumption | (repeat (first | assumption | exact At.set_eq2 (by first | omega | (simp only [hset, hnew]; omega) | rfl | decide) | exact At.new_eq2 _ _ (by first | omega | (simp only [hset, hnew]; omega) | rfl | decide) | refine At.set_ne ?_ (by first | omega | (simp only [hset, hnew]; omega) | rfl | decide) | refine At.new_ne ?_)))) (hlen := rfl) (r := ?_)
  refine tX1_init_12  (r := ?_)
  refine tX1_init_13  (r := ?_)
  refine tX1_init_15 (hx := (by first | rfl | assumption | exact nI_add _ _)) (hn := (by decide)) (r := ?_)
  refine RQ.refId (k' := b + 2) (by (first | omega | (simp only [hset, hnew]; omega) | rfl | decide)) ?_
  refine tX1_init_17 (ha := (by first | assumption | (repeat (first | assumption | exact At.set_eq2 (by first | omega | (simp only [hset, hnew]; omega) | rfl | decide) | exact At.new_eq2 _ _ (by first | omega | (simp only [hset, hnew]; omega) | rfl | decide) | refine At.set_ne ?_ (by first | omega | (simp only [hset, hnew]; omega) | rfl | decide) | refine At.new_ne ?_)))) (hlen := rfl) (r := ?_)
  refine tX1_init_20  (r := ?_)
  refine tX1_init_21  (r := ?_)
  refine tX1_init_23 (hx := (by first | rfl | assumption | exact nI_add _ _)) (hn := (by decide)) (r := ?_)
  refine RQ.refId (k' := b + 3) (by (first | omega | (simp only [hset, hnew]; omega) | rfl | decide)) ?_
  refine tX1_init_25 (ha := (by first | assumption | (repeat (first | assumption | exact At.set_eq2 (by first | omega | (simp only [hset, hnew]; omega) | rfl | decide) | exact At.new_eq2 _ _ (by first | omega | (simp only [hset, hnew]; omega) | rfl | decide) | refine At.set_ne ?_ (by first | omega | (simp only [hset, hnew]; omega) | rfl | decide) | refine At.new_ne ?_)))) (hlen := rfl) (r := ?_)
  refine tX1_init_28  (r := ?_)
  refine tX1_init_29  (r := ?_)
  refine tX1_init_31 (hx := (by first | rfl | assumption | exact nI_add _ _)) (hn := (by decide)) (r := ?_)
  refine RQ.refId (k' := b + 4) (by (first | omega | (simp only [hset, hnew]; omega) | rfl | decide)) ?_
  refine tX1_init_33 (ha := (by first | assumption | (repeat (first | assumption | exact At.set_eq2 (by first | omega | (simp only [hset, hnew]; omega) | rfl | decide) | exact At.new_eq2 _ _ (by first | omega | (simp only [hset, hnew]; omega) | rfl | decide) | refine At.set_ne ?_ (by first | omega | (simp only [hset, hnew]; omega) | rfl | decide) | refine At.new_ne ?_)))) (hlen := rfl) (r := ?_)
  refine tX1_init_36  (r := ?_)
  refine tX1_init_37  (r := ?_)
  refine tX1_init_39 (hx := (by first | rfl | assumption | exact nI_add _ _)) (hn := (by decide)) (r := ?_)
  refine RQ.refId (k' := b + 5) (by (first | omega | (simp only [hset, hnew]; omega) | rfl | decide)) ?_
  refine tX1_init_41 (ha := (by first | assumption | (repeat (first | assumption | exact At.set_eq2 (by first | omega | (simp only [hset, hnew]; omega) | rfl | decide) | exact At.new_eq2 _ _ (by first | omega | (simp only [hset, hnew]; omega) | rfl | decide) | refine At.set_ne ?_ (by first | omega | (simp only [hset, hnew]; omega) | rfl | decide) | refine At.new_ne ?_)))) (hlen := rfl) (r := ?_)
  refine tX1_init_44  (r := ?_)
  refine tX1_init_45  (r := ?_)
  refine tX1_init_47 (hx := (by first | rfl | assumption | exact nI_add _ _)) (hn := (by decide)) (r := ?_)
  refine RQ.refId (k' := b + 6) (by (first | omega | (simp only [hset, hnew]; omega) | rfl | decide)) ?_
  refine tX1_init_49 (ha := (by first | assumption | (repeat (first | assumption | exact At.set_eq2 (by first | omega | (simp only [hset, hnew]; omega) | rfl | decide) | exact At.new_eq2 _ _ (by first | omega | (simp only [hset, hnew]; omega) | rfl | decide) | refine At.set_ne ?_ (by first | omega | (simp only [hset, hnew]; omega) | rfl | decide) | refine At.new_ne ?_)))) (hlen := rfl) (r := ?_)
  refine tX1_init_52  (r := ?_)
  refine tX1_init_53  (r := ?_)
  refine RQ.refId (k' := b + 7) (by (first | omega | (simp only [hset, hnew]; omega) | rfl | decide)) ?_
  refine tX1_init_56  (r := ?_)
  refine tX1_init_57 (hd := (by omega)) (call := s_Cup_init (d := 2) (Nat.le_refl 2) (At.new_eq2 _ _ (by (first | omega | (simp only [hset, hnew]; omega) | rfl | decide))) (by (first | omega | (simp only [hset, hnew]; omega) | rfl | decide))) (k := ?_)
  intro h2 hq
  obtain ⟨q1, q2, q3, q4⟩ := hq
  have q1 := q1.S
  have q2 : h2.1 = b + 52 := q2.trans (by (first | omega | (simp only [hset, hnew]; omega) | rfl | decide))
  have q3 : h2.2.1 = h.2.1 + 38 + 303 := q3.trans (by (first | omega | (simp only [hset, hnew]; omega) | rfl | decide))
  have a0 : At h2 (b) (.inr (0, [.ref (b + 1), .ref (b + 2), .ref (b + 3), .ref (b + 4), .ref (b + 5), .ref (b + 6), .null, .null, .int 0, .int 0, .int 0])) := At.keep (by (first | assumption | (repeat (first | assumption | exact At.set_eq2 (by (first | omega | (simp only [hset, hnew]; omega) | rfl | decide)) | exact At.new_eq2 _ _ (by (first | omega | (simp only [hset, hnew]; omega) | rfl | decide)) | refine At.set_ne ?_ (by (first | omega | (simp only [hset, hnew]; omega) | rfl | decide)) | refine At.new_ne ?_)))) (by (first | omega | (simp only [hset, hnew]; omega) | rfl | decide)) (q4 _ (by omega) (by omega))
  have a1 : ArJ h2 (b + 1) 6 := ⟨_, At.keep (by (first | assumption | (repeat (first | assumption | exact At.set_eq2 (by (first | omega | (simp only [hset, hnew]; omega) | rfl | decide)) | exact At.new_eq2 _ _ (by (first | omega | (simp only [hset, hnew]; omega) | rfl | decide)) | refine At.set_ne ?_ (by (first | omega | (simp only [hset, hnew]; omega) | rfl | decide)) | refine At.new_ne ?_)))) (by (first | omega | (simp only [hset, hnew]; omega) | rfl | decide)) (q4 _ (by omega) (by omega))⟩
  have a2 : ArJ h2 (b + 2) 8 := ⟨_, At.keep (by (first | assumption | (repeat (first | assumption | exact At.set_eq2 (by (first | omega | (simp only [hset, hnew]; omega) | rfl | decide)) | exact At.new_eq2 _ _ (by (first | omega | (simp only [hset, hnew]; omega) | rfl | decide)) | refine At.set_ne ?_ (by (first | omega | (simp only [hset, hnew]; omega) | rfl | decide)) | refine At.new_ne ?_)))) (by (first | omega | (simp only [hset, hnew]; omega) | rfl | decide)) (q4 _ (by omega) (by omega))⟩
  have a3 : ArJ h2 (b + 3) 6 := ⟨_, At.keep (by (first | assumption | (repeat (first | assumption | exact At.set_eq2 (by (first | omega | (simp only [hset, hnew]; omega) | rfl | decide)) | exact At.new_eq2 _ _ (by (first | omega | (simp only [hset, hnew]; omega) | rfl | decide)) | refine At.set_ne ?_ (by (first | omega | (simp only [hset, hnew]; omega) | rfl | decide)) | refine At.new_ne ?_)))) (by (first | omega | (simp only [hset, hnew]; omega) | rfl | decide)) (q4 _ (by omega) (by omega))⟩
  have a4 : ArI h2 (b + 4) 6 := ⟨_, At.keep (by (first | assumption | (repeat (first | assumption | exact At.set_eq2 (by (first | omega | (simp only [hset, hnew]; omega) | rfl | decide)) | exact At.new_eq2 _ _ (by (first | omega | (simp only [hset, hnew]; omega) | rfl | decide)) | refine At.set_ne ?_ (by (first | omega | (simp only [hset, hnew]; omega) | rfl | decide)) | refine At.new_ne ?_)))) (by (first | omega | (simp only [hset, hnew]; omega) | rfl | decide)) (q4 _ (by omega) (by omega))⟩
  have a5 : ArI h2 (b + 5) 6 := ⟨_, At.keep (by (first | assumption | (repeat (first | assumption | exact At.set_eq2 (by (first | omega | (simp only [hset, hnew]; omega) | rfl | decide)) | exact At.new_eq2 _ _ (by (first | omega | (simp only [hset, hnew]; omega) | rfl | decide)) | refine At.set_ne ?_ (by (first | omega | (simp only [hset, hnew]; omega) | rfl | decide)) | refine At.new_ne ?_)))) (by (first | omega | (simp only [hset, hnew]; omega) | rfl | decide)) (q4 _ (by omega) (by omega))⟩
  have a6 : ArI h2 (b + 6) 6 := ⟨_, At.keep (by (first | assumption | (repeat (first | assumption | exact At.set_eq2 (by (first | omega | (simp only [hset, hnew]; omega) | rfl | decide)) | exact At.new_eq2 _ _ (by (first | omega | (simp only [hset, hnew]; omega) | rfl | decide)) | refine At.set_ne ?_ (by (first | omega | (simp only [hset, hnew]; omega) | rfl | decide)) | refine At.new_ne ?_)))) (by (first | omega | (simp only [hset, hnew]; omega) | rfl | decide)) (q4 _ (by omega) (by omega))⟩
  have u1 : Un h h2 0 b := Un.trans (by (repeat (first | assumption | exact Un.rf _ _ _ | refine Un.set ?_ (by (first | omega | (simp only [hset, hnew]; omega) | rfl | decide)) | refine Un.new ?_ (by (first | omega | (simp only [hset, hnew]; omega) | rfl | decide))))) (q4.sub (by omega) (by omega))
  clear q4
  refine tX1_init_60 (ha := (by first | assumption | (repeat (first | assumption | exact At.set_eq2 (by first | omega | (simp only [hset, hnew]; omega) | rfl | decide) | exact At.new_eq2 _ _ (by first | omega | (simp only [hset, hnew]; omega) | rfl | decide) | refine At.set_ne ?_ (by first | omega | (simp only [hset, hnew]; omega) | rfl | decide) | refine At.new_ne ?_)))) (hlen := rfl) (r := ?_)
  refine tX1_init_63  (r := ?_)
  refine tX1_init_64  (r := ?_)
  refine RQ.refId (k' := b + 52) (by (first | omega | (simp only [hset, hnew]; omega) | rfl | decide)) ?_
  refine tX1_init_67  (r := ?_)
  refine tX1_init_68 (hd := (by omega)) (call := s_Script_init (d := 1) (Nat.le_refl 1) (At.new_eq2 _ _ (by (first | omega | (simp only [hset, hnew]; omega) | rfl | decide))) (by (first | omega | (simp only [hset, hnew]; omega) | rfl | decide))) (k := ?_)
  intro h3 hq
  obtain ⟨p1, p2, p3, p4⟩ := hq
  have p2 : h3.1 = b + 58 := p2.trans (by (first | omega | (simp only [hset, hnew]; omega) | rfl | decide))
  have p3 : h3.2.1 = h.2.1 + 38 + 303 + 880 := p3.trans (by (first | omega | (simp only [hset, hnew]; omega) | rfl | decide))
  have a0 : At h3 b (.inr (0, [.ref (b + 1), .ref (b + 2), .ref (b + 3), .ref (b + 4), .ref (b + 5), .ref (b + 6), .ref (b + 7), .null, .int 0, .int 0, .int 0])) := At.keep (by (first | assumption | (repeat (first | assumption | exact At.set_eq2 (by (first | omega | (simp only [hset, hnew]; omega) | rfl | decide)) | exact At.new_eq2 _ _ (by (first | omega | (simp only [hset, hnew]; omega) | rfl | decide)) | refine At.set_ne ?_ (by (first | omega | (simp only [hset, hnew]; omega) | rfl | decide)) | refine At.new_ne ?_)))) (by (first | omega | (simp only [hset, hnew]; omega) | rfl | decide)) (p4 _ (by omega) (by omega))
  have u2 : Un h2 h3 (b + 1) (b + 52) := Un.trans (by (repeat (first | assumption | exact Un.rf _ _ _ | refine Un.set ?_ (by (first | omega | (simp only [hset, hnew]; omega) | rfl | decide)) | refine Un.new ?_ (by (first | omega | (simp only [hset, hnew]; omega) | rfl | decide))))) (p4.sub (by omega) (by omega))
  have u1 : Un h h3 0 b := u1.trans (Un.trans (by (repeat (first | assumption | exact Un.rf _ _ _ | refine Un.set ?_ (by (first | omega | (simp only [hset, hnew]; omega) | rfl | decide)) | refine Un.new ?_ (by (first | omega | (simp only [hset, hnew]; omega) | rfl | decide))))) (p4.sub (by omega) (by omega)))
  have a1 := a1.keep (h' := h3) (by omega) (u2 _ (by omega) (by omega))
  have a2 := a2.keep (h' := h3) (by omega) (u2 _ (by omega) (by omega))
  have a3 := a3.keep (h' := h3) (by omega) (u2 _ (by omega) (by omega))
  have a4 := a4.keep (h' := h3) (by omega) (u2 _ (by omega) (by omega))
  have a5 := a5.keep (h' := h3) (by omega) (u2 _ (by omega) (by omega))
  have a6 := a6.keep (h' := h3) (by omega) (u2 _ (by omega) (by omega))
  have q1 := q1.keep (h' := h3) (by omega) (u2.sub (by omega) (by omega))
  refine tX1_init_71 (ha := (by first | assumption | (repeat (first | assumption | exact At.set_eq2 (by first | omega | (simp only [hset, hnew]; omega) | rfl | decide) | exact At.new_eq2 _ _ (by first | omega | (simp only [hset, hnew]; omega) | rfl | decide) | refine At.set_ne ?_ (by first | omega | (simp only [hset, hnew]; omega) | rfl | decide) | refine At.new_ne ?_)))) (hlen := rfl) (r := ?_)
  refine tX1_init_74  (hP := ?_)
  have u9 : Un h3 (hset h3 b (.inr (0, [.ref (b + 1), .ref (b + 2), .ref (b + 3), .ref (b + 4), .ref (b + 5), .ref (b + 6), .ref (b + 7), .ref (b + 52), .int 0, .int 0, .int 0]))) (b + 1) (b + 58) := Un.set (Un.rf _ _ _) (by omega)
  refine ⟨rfl, ⟨?_, a1.keep (Nat.le_refl _) (u9 _ (by omega) (by omega)), a2.keep (Nat.le_refl _) (u9 _ (by omega) (by omega)), a3.keep (Nat.le_refl _) (u9 _ (by omega) (by omega)), a4.keep (Nat.le_refl _) (u9 _ (by omega) (by omega)), a5.keep (Nat.le_refl _) (u9 _ (by omega) (by omega)), a6.keep (Nat.le_refl _) (u9 _ (by omega) (by omega)), q1.keep (Nat.le_refl _) (u9.sub (by omega) (by omega)), p1.keep (Nat.le_refl _) (u9.sub (by omega) (by omega))⟩, by (first | omega | (simp only [hset, hnew]; omega) | rfl | decide), by (first | omega | (simp only [hset, hnew]; omega) | rfl | decide), Un.set u1 (by omega)⟩
  exact At.set_eq2 (by (first | omega | (simp only [hset, hnew]; omega) | rfl | decide))

def TokE (h : AH) (b : Nat) : Prop := (∃ c : Int32, At h b (.inr (7, [.ref (b + 1), .ref (b + 2), .ref (b + 3), .int c]))) ∧ ArK h (b + 1) 401 ∧ ArI h (b + 2) 401 ∧ ArJ h (b + 3) 401
theorem TokE.keep {h h' : AH} {b : Nat} (q : TokE h b) (e : h.1 ≤ h'.1) (u : Un h h' b (b + 4)) : TokE h' b := by
  obtain ⟨⟨c, a0⟩, a1, a2, a3⟩ := q
  exact ⟨⟨c, a0.keep e (u _ (by omega) (by omega))⟩, a1.keep e (u _ (by omega) (by omega)), a2.keep e (u _ (by omega) (by omega)), a3.keep e (u _ (by omega) (by omega))⟩
def ReaO (b dr : Nat) (ne : Int32) (kd : Nat) (er et ea : Int32) : AC := .inr (4, [.ref (b + 1), .ref dr, .int ne, .ref (OLD + kd), .int er, .int et, .int ea])
def ReaE (h : AH) (b dr : Nat) : Prop := (∃ ne kd er et ea, kd < 43 ∧ At h b (ReaO b dr ne kd er et ea)) ∧ TokE h (b + 1)
theorem ReaE.keep {h h' : AH} {b dr : Nat} (q : ReaE h b dr) (e : h.1 ≤ h'.1) (u : Un h h' b (b + 5)) : ReaE h' b dr := by
  obtain ⟨⟨ne, kd, er, et, ea, hk, a0⟩, a1⟩ := q
  exact ⟨⟨ne, kd, er, et, ea, hk, a0.keep e (u _ (by omega) (by omega))⟩, a1.keep e (u.sub (by omega) (by omega))⟩

set_option maxHeartbeats 4000000 in
set_option maxRecDepth 100000 in
theorem s_Reader_init (hd : 4 ≤ d) {b : Nat} (a0 : At h b (.inr (4, [.null, .null, .int 0, .null, .int 0, .int 0, .int 0]))) (hj : h.1 = b + 1) : RQ G mX6_init d 0 [some (.ref b)] [] h (Rv fun h2 => ReaE h2 b (b + 5) ∧ BookE h2 (b + 5) 0 0 0 ∧ Gw h h2 b 62 2439) := by
  refine tX6_init_0  (r := ?_)
  refine tX6_init_1 (hd := (by omega)) (r := ?_)
  refine tX6_init_4  (r := ?_)
  refine tX6_init_5  (r := ?_)
  refine RQ.refId (k' := b + 1) (by (first | omega | (simp only [hset, hnew]; omega) | rfl | decide)) ?_
  refine tX6_init_8  (r := ?_)
  refine tX6_init_9 (hd := (by omega)) (call := s_Tokens_init (d := 1) (Nat.le_refl 1) (At.new_eq2 _ _ (by (first | omega | (simp only [hset, hnew]; omega) | rfl | decide))) (by (first | omega | (simp only [hset, hnew]; omega) | rfl | decide))) (k := ?_)
  intro h2 hq
  obtain ⟨qa, qb, qc, qd, q2, q3, q4⟩ := hq
  have q2 : h2.1 = b + 5 := q2.trans (by (first | omega | (simp only [hset, hnew]; omega) | rfl | decide))
  have q3 : h2.2.1 = h.2.1 + 1207 := q3.trans (by (first | omega | (simp only [hset, hnew]; omega) | rfl | decide))
  have a0 : At h2 (b) (.inr (4, [.null, .null, .int 0, .null, .int 0, .int 0, .int 0])) := At.keep (by (first | assumption | (repeat (first | assumption | exact At.set_eq2 (by (first | omega | (simp only [hset, hnew]; omega) | rfl | decide)) | exact At.new_eq2 _ _ (by (first | omega | (simp only [hset, hnew]; omega) | rfl | decide)) | refine At.set_ne ?_ (by (first | omega | (simp only [hset, hnew]; omega) | rfl | decide)) | refine At.new_ne ?_)))) (by (first | omega | (simp only [hset, hnew]; omega) | rfl | decide)) (q4 _ (by omega) (by omega))
  have q1 : TokE h2 (b + 1) := ⟨⟨_, qa⟩, qb, qc, qd⟩
  have u1 : Un h h2 0 b := Un.trans (by (repeat (first | assumption | exact Un.rf _ _ _ | refine Un.set ?_ (by (first | omega | (simp only [hset, hnew]; omega) | rfl | decide)) | refine Un.new ?_ (by (first | omega | (simp only [hset, hnew]; omega) | rfl | decide))))) (q4.sub (by omega) (by omega))
  clear q4 qa qb qc qd
  refine tX6_init_12 (ha := (by first | assumption | (repeat (first | assumption | exact At.set_eq2 (by first | omega | (simp only [hset, hnew]; omega) | rfl | decide) | exact At.new_eq2 _ _ (by first | omega | (simp only [hset, hnew]; omega) | rfl | decide) | refine At.set_ne ?_ (by first | omega | (simp only [hset, hnew]; omega) | rfl | decide) | refine At.new_ne ?_)))) (hlen := rfl) (r := ?_)
  refine tX6_init_15  (r := ?_)
  refine tX6_init_16  (r := ?_)
  refine RQ.refId (k' := b + 5) (by (first | omega | (simp only [hset, hnew]; omega) | rfl | decide)) ?_
  refine tX6_init_19  (r := ?_)
  refine tX6_init_20 (hd := (by omega)) (call := s_Book_init (d := 3) (Nat.le_refl 3) (At.new_eq2 _ _ (by (first | omega | (simp only [hset, hnew]; omega) | rfl | decide))) (by (first | omega | (simp only [hset, hnew]; omega) | rfl | decide))) (k := ?_)
  intro h3 hq
  obtain ⟨p1, p2, p3, p4⟩ := hq
  have p2 : h3.1 = b + 63 := p2.trans (by (first | omega | (simp only [hset, hnew]; omega) | rfl | decide))
  have p3 : h3.2.1 = h.2.1 + 1207 + 1232 := p3.trans (by (first | omega | (simp only [hset, hnew]; omega) | rfl | decide))
  have a0 : At h3 b (.inr (4, [.ref (b + 1), .null, .int 0, .null, .int 0, .int 0, .int 0])) := At.keep (by (first | assumption | (repeat (first | assumption | exact At.set_eq2 (by (first | omega | (simp only [hset, hnew]; omega) | rfl | decide)) | exact At.new_eq2 _ _ (by (first | omega | (simp only [hset, hnew]; omega) | rfl | decide)) | refine At.set_ne ?_ (by (first | omega | (simp only [hset, hnew]; omega) | rfl | decide)) | refine At.new_ne ?_)))) (by (first | omega | (simp only [hset, hnew]; omega) | rfl | decide)) (p4 _ (by omega) (by omega))
  have u2 : Un h2 h3 (b + 1) (b + 5) := Un.trans (by (repeat (first | assumption | exact Un.rf _ _ _ | refine Un.set ?_ (by (first | omega | (simp only [hset, hnew]; omega) | rfl | decide)) | refine Un.new ?_ (by (first | omega | (simp only [hset, hnew]; omega) | rfl | decide))))) (p4.sub (by omega) (by omega))
  have u1 : Un h h3 0 b := u1.trans (Un.trans (by (repeat (first | assumption | exact Un.rf _ _ _ | refine Un.set ?_ (by (first | omega | (simp only [hset, hnew]; omega) | rfl | decide)) | refine Un.new ?_ (by (first | omega | (simp only [hset, hnew]; omega) | rfl | decide))))) (p4.sub (by omega) (by omega)))
  have q1 := q1.keep (h' := h3) (by omega) (u2.sub (by omega) (by omega))
  clear p4
  refine tX6_init_23 (ha := (by first | assumption | (repeat (first | assumption | exact At.set_eq2 (by first | omega | (simp only [hset, hnew]; omega) | rfl | decide) | exact At.new_eq2 _ _ (by first | omega | (simp only [hset, hnew]; omega) | rfl | decide) | refine At.set_ne ?_ (by first | omega | (simp only [hset, hnew]; omega) | rfl | decide) | refine At.new_ne ?_)))) (hlen := rfl) (r := ?_)
  refine tX6_init_26  (r := ?_)
  refine tX6_init_27  (r := ?_)
  refine tX6_init_30 (ha := (by first | assumption | (repeat (first | assumption | exact At.set_eq2 (by first | omega | (simp only [hset, hnew]; omega) | rfl | decide) | exact At.new_eq2 _ _ (by first | omega | (simp only [hset, hnew]; omega) | rfl | decide) | refine At.set_ne ?_ (by first | omega | (simp only [hset, hnew]; omega) | rfl | decide) | refine At.new_ne ?_)))) (hlen := rfl) (r := ?_)
  refine tX6_init_33  (r := ?_)
  refine tX6_init_34  (r := ?_)
  refine tX6_init_35 (ha := (by first | assumption | (repeat (first | assumption | exact At.set_eq2 (by first | omega | (simp only [hset, hnew]; omega) | rfl | decide) | exact At.new_eq2 _ _ (by first | omega | (simp only [hset, hnew]; omega) | rfl | decide) | refine At.set_ne ?_ (by first | omega | (simp only [hset, hnew]; omega) | rfl | decide) | refine At.new_ne ?_)))) (hlen := rfl) (r := ?_)
  refine tX6_init_38  (hP := ?_)
  refine ⟨rfl, ⟨⟨0, 41, 0, 0, -1, by decide, ?_⟩, q1.keep (Nat.le_refl _) (by (repeat (first | assumption | exact Un.rf _ _ _ | refine Un.set ?_ (by (first | omega | (simp only [hset, hnew]; omega) | rfl | decide)) | refine Un.new ?_ (by (first | omega | (simp only [hset, hnew]; omega) | rfl | decide)))))⟩, p1.keep (Nat.le_refl _) (by (repeat (first | assumption | exact Un.rf _ _ _ | refine Un.set ?_ (by (first | omega | (simp only [hset, hnew]; omega) | rfl | decide)) | refine Un.new ?_ (by (first | omega | (simp only [hset, hnew]; omega) | rfl | decide))))), by (first | omega | (simp only [hset, hnew]; omega) | rfl | decide), by (first | omega | (simp only [hset, hnew]; omega) | rfl | decide), by (repeat (first | assumption | exact Un.rf _ _ _ | refine Un.set ?_ (by (first | omega | (simp only [hset, hnew]; omega) | rfl | decide)) | refine Un.new ?_ (by (first | omega | (simp only [hset, hnew]; omega) | rfl | decide))))⟩
  exact At.set_eq2 (by (first | omega | (simp only [hset, hnew]; omega) | rfl | decide))

def PolO (x bk : Nat) (le : Int32) : AC := .inr (8, [.ref (x + 1), .ref (x + 3), .ref (x + 66), .ref (x + 111), .ref (x + 156), .ref bk, .int le])
def TapE (h : AH) (b : Nat) (len : Int32) : Prop := At h b (.inr (6, [.ref (b + 1), .int len])) ∧ ArB h (b + 1) 1600
theorem TapE.keep {h h' : AH} {b : Nat} {len : Int32} (q : TapE h b len) (e : h.1 ≤ h'.1) (u : Un h h' b (b + 2)) : TapE h' b len := ⟨q.1.keep e (u _ (by omega) (by omega)), q.2.keep e (u _ (by omega) (by omega))⟩
def CamE (h : AH) (b : Nat) : Prop := (∃ he ac : Int32, At h b (.inr (1, [.ref (b + 1), .int he, .int ac]))) ∧ ArI h (b + 1) 400
theorem CamE.keep {h h' : AH} {b : Nat} (q : CamE h b) (e : h.1 ≤ h'.1) (u : Un h h' b (b + 2)) : CamE h' b := by
  obtain ⟨⟨he, ac, a0⟩, a1⟩ := q
  exact ⟨⟨he, ac, a0.keep e (u _ (by omega) (by omega))⟩, a1.keep e (u _ (by omega) (by omega))⟩
/-- a cupboard with the book at bk and the draft at dr -/
def PolE (h : AH) (x bk dr : Nat) (len la ja li le : Int32) : Prop := At h x (PolO x bk le) ∧ TapE h (x + 1) len ∧ ReaE h (x + 3) dr ∧ (∃ a b c, BookE h dr a b c) ∧ CupZ h (x + 66) ∧ (∃ dy, CupE h (x + 111) dy) ∧ CamE h (x + 156) ∧ BookE h bk la ja li

set_option maxHeartbeats 4000000 in
set_option maxRecDepth 100000 in
theorem s_Poll_init (hd : 5 ≤ d) {x : Nat} (a0 : At h x (.inr (8, [.null, .null, .null, .null, .null, .null, .int 0]))) (hj : h.1 = x + 1) : RQ G mX10_init d 0 [some (.ref x)] [] h (Rv fun h2 => PolE h2 x (x + 158) (x + 8) 0 0 0 0 (-1) ∧ Gw h h2 x 215 6289) := by
  refine tX10_init_0  (r := ?_)
  refine tX10_init_1 (hd := (by omega)) (r := ?_)
  refine tX10_init_4  (r := ?_)
  refine tX10_init_5  (r := ?_)
  refine RQ.refId (k' := x + 1) (by (first | omega | (simp only [hset, hnew]; omega) | rfl | decide)) ?_
  refine tX10_init_8  (r := ?_)
  refine tX10_init_9 (hd := (by omega)) (call := s_Tape_init (d := 1) (Nat.le_refl 1) (At.new_eq2 _ _ (by (first | omega | (simp only [hset, hnew]; omega) | rfl | decide))) (by (first | omega | (simp only [hset, hnew]; omega) | rfl | decide))) (k := ?_)
  intro h1 hq
  obtain ⟨z1, z2, g2, g3, g4⟩ := hq
  have tp : TapE h1 (x + 1) 0 := ⟨z1, z2⟩
  have e2_0 : h1.1 = x + 3 := g2.trans (by (first | omega | (simp only [hset, hnew]; omega) | rfl | decide))
  have e3_0 : h1.2.1 = h.2.1 + 1602 := g3.trans (by (first | omega | (simp only [hset, hnew]; omega) | rfl | decide))
  have a0 : At h1 x (.inr (8, [.null, .null, .null, .null, .null, .null, .int 0])) := At.keep (by (first | assumption | (repeat (first | assumption | exact At.set_eq2 (by (first | omega | (simp only [hset, hnew]; omega) | rfl | decide)) | exact At.new_eq2 _ _ (by (first | omega | (simp only [hset, hnew]; omega) | rfl | decide)) | refine At.set_ne ?_ (by (first | omega | (simp only [hset, hnew]; omega) | rfl | decide)) | refine At.new_ne ?_)))) (by (first | omega | (simp only [hset, hnew]; omega) | rfl | decide)) (g4 _ (by omega) (by omega))
  have w0 : Un h h1 0 x := Un.trans (by (repeat (first | assumption | exact Un.rf _ _ _ | refine Un.set ?_ (by (first | omega | (simp only [hset, hnew]; omega) | rfl | decide)) | refine Un.new ?_ (by (first | omega | (simp only [hset, hnew]; omega) | rfl | decide))))) (g4.sub (by omega) (by omega))
  clear g4
  refine tX10_init_12 (ha := (by first | assumption | (repeat (first | assumption | exact At.set_eq2 (by first | omega | (simp only [hset, hnew]; omega) | rfl | decide) | exact At.new_eq2 _ _ (by first | omega | (simp only [hset, hnew]; omega) | rfl | decide) | refine At.set_ne ?_ (by first | omega | (simp only [hset, hnew]; omega) | rfl | decide) | refine At.new_ne ?_)))) (hlen := rfl) (r := ?_)
  refine tX10_init_15  (r := ?_)
  refine tX10_init_16  (r := ?_)
  refine RQ.refId (k' := x + 3) (by (first | omega | (simp only [hset, hnew]; omega) | rfl | decide)) ?_
  refine tX10_init_19  (r := ?_)
  refine tX10_init_20 (hd := (by omega)) (call := s_Reader_init (d := 4) (Nat.le_refl 4) (At.new_eq2 _ _ (by (first | omega | (simp only [hset, hnew]; omega) | rfl | decide))) (by (first | omega | (simp only [hset, hnew]; omega) | rfl | decide))) (k := ?_)
  intro h2 hq
  obtain ⟨re, db, g2, g3, g4⟩ := hq
  have e2_1 : h2.1 = x + 66 := g2.trans (by (first | omega | (simp only [hset, hnew]; omega) | rfl | decide))
  have e3_1 : h2.2.1 = h.2.1 + 4048 := g3.trans (by (first | omega | (simp only [hset, hnew]; omega) | rfl | decide))
  have a0 : At h2 x (.inr (8, [.ref (x + 1), .null, .null, .null, .null, .null, .int 0])) := At.keep (by (first | assumption | (repeat (first | assumption | exact At.set_eq2 (by (first | omega | (simp only [hset, hnew]; omega) | rfl | decide)) | exact At.new_eq2 _ _ (by (first | omega | (simp only [hset, hnew]; omega) | rfl | decide)) | refine At.set_ne ?_ (by (first | omega | (simp only [hset, hnew]; omega) | rfl | decide)) | refine At.new_ne ?_)))) (by (first | omega | (simp only [hset, hnew]; omega) | rfl | decide)) (g4 _ (by omega) (by omega))
  have w1 : Un h1 h2 0 x := Un.trans (by (repeat (first | assumption | exact Un.rf _ _ _ | refine Un.set ?_ (by (first | omega | (simp only [hset, hnew]; omega) | rfl | decide)) | refine Un.new ?_ (by (first | omega | (simp only [hset, hnew]; omega) | rfl | decide))))) (g4.sub (by omega) (by omega))
  have v1 : Un h1 h2 (x + 1) (x + 3) := Un.trans (by (repeat (first | assumption | exact Un.rf _ _ _ | refine Un.set ?_ (by (first | omega | (simp only [hset, hnew]; omega) | rfl | decide)) | refine Un.new ?_ (by (first | omega | (simp only [hset, hnew]; omega) | rfl | decide))))) (g4.sub (by omega) (by omega))
  have tp := tp.keep (h' := h2) (by omega) (v1.sub (by omega) (by omega))
  clear g4
  refine tX10_init_23 (ha := (by first | assumption | (repeat (first | assumption | exact At.set_eq2 (by first | omega | (simp only [hset, hnew]; omega) | rfl | decide) | exact At.new_eq2 _ _ (by first | omega | (simp only [hset, hnew]; omega) | rfl | decide) | refine At.set_ne ?_ (by first | omega | (simp only [hset, hnew]; omega) | rfl | decide) | refine At.new_ne ?_)))) (hlen := rfl) (r := ?_)
  refine tX10_init_26  (r := ?_)
  refine tX10_init_27  (r := ?_)
  refine RQ.refId (k' := x + 66) (by (first | omega | (simp only [hset, hnew]; omega) | rfl | decide)) ?_
  refine tX10_init_30  (r := ?_)
  refine tX10_init_31 (hd := (by omega)) (call := s_Cup_init (d := 2) (Nat.le_refl 2) (At.new_eq2 _ _ (by (first | omega | (simp only [hset, hnew]; omega) | rfl | decide))) (by (first | omega | (simp only [hset, hnew]; omega) | rfl | decide))) (k := ?_)
  intro h3 hq
  obtain ⟨nw, g2, g3, g4⟩ := hq
  have e2_2 : h3.1 = x + 111 := g2.trans (by (first | omega | (simp only [hset, hnew]; omega) | rfl | decide))
  have e3_2 : h3.2.1 = h.2.1 + 4351 := g3.trans (by (first | omega | (simp only [hset, hnew]; omega) | rfl | decide))
  have a0 : At h3 x (.inr (8, [.ref (x + 1), .ref (x + 3), .null, .null, .null, .null, .int 0])) := At.keep (by (first | assumption | (repeat (first | assumption | exact At.set_eq2 (by (first | omega | (simp only [hset, hnew]; omega) | rfl | decide)) | exact At.new_eq2 _ _ (by (first | omega | (simp only [hset, hnew]; omega) | rfl | decide)) | refine At.set_ne ?_ (by (first | omega | (simp only [hset, hnew]; omega) | rfl | decide)) | refine At.new_ne ?_)))) (by (first | omega | (simp only [hset, hnew]; omega) | rfl | decide)) (g4 _ (by omega) (by omega))
  have w2 : Un h2 h3 0 x := Un.trans (by (repeat (first | assumption | exact Un.rf _ _ _ | refine Un.set ?_ (by (first | omega | (simp only [hset, hnew]; omega) | rfl | decide)) | refine Un.new ?_ (by (first | omega | (simp only [hset, hnew]; omega) | rfl | decide))))) (g4.sub (by omega) (by omega))
  have v2 : Un h2 h3 (x + 1) (x + 66) := Un.trans (by (repeat (first | assumption | exact Un.rf _ _ _ | refine Un.set ?_ (by (first | omega | (simp only [hset, hnew]; omega) | rfl | decide)) | refine Un.new ?_ (by (first | omega | (simp only [hset, hnew]; omega) | rfl | decide))))) (g4.sub (by omega) (by omega))
  have tp := tp.keep (h' := h3) (by omega) (v2.sub (by omega) (by omega))
  have re := re.keep (h' := h3) (by omega) (v2.sub (by omega) (by omega))
  have db := db.keep (h' := h3) (by omega) (v2.sub (by omega) (by omega))
  clear g4
  refine tX10_init_34 (ha := (by first | assumption | (repeat (first | assumption | exact At.set_eq2 (by first | omega | (simp only [hset, hnew]; omega) | rfl | decide) | exact At.new_eq2 _ _ (by first | omega | (simp only [hset, hnew]; omega) | rfl | decide) | refine At.set_ne ?_ (by first | omega | (simp only [hset, hnew]; omega) | rfl | decide) | refine At.new_ne ?_)))) (hlen := rfl) (r := ?_)
  refine tX10_init_37  (r := ?_)
  refine tX10_init_38  (r := ?_)
  refine RQ.refId (k' := x + 111) (by (first | omega | (simp only [hset, hnew]; omega) | rfl | decide)) ?_
  refine tX10_init_41  (r := ?_)
  refine tX10_init_42 (hd := (by omega)) (call := s_Cup_init (d := 2) (Nat.le_refl 2) (At.new_eq2 _ _ (by (first | omega | (simp only [hset, hnew]; omega) | rfl | decide))) (by (first | omega | (simp only [hset, hnew]; omega) | rfl | decide))) (k := ?_)
  intro h4 hq
  obtain ⟨lt, g2, g3, g4⟩ := hq
  have e2_3 : h4.1 = x + 156 := g2.trans (by (first | omega | (simp only [hset, hnew]; omega) | rfl | decide))
  have e3_3 : h4.2.1 = h.2.1 + 4654 := g3.trans (by (first | omega | (simp only [hset, hnew]; omega) | rfl | decide))
  have a0 : At h4 x (.inr (8, [.ref (x + 1), .ref (x + 3), .ref (x + 66), .null, .null, .null, .int 0])) := At.keep (by (first | assumption | (repeat (first | assumption | exact At.set_eq2 (by (first | omega | (simp only [hset, hnew]; omega) | rfl | decide)) | exact At.new_eq2 _ _ (by (first | omega | (simp only [hset, hnew]; omega) | rfl | decide)) | refine At.set_ne ?_ (by (first | omega | (simp only [hset, hnew]; omega) | rfl | decide)) | refine At.new_ne ?_)))) (by (first | omega | (simp only [hset, hnew]; omega) | rfl | decide)) (g4 _ (by omega) (by omega))
  have w3 : Un h3 h4 0 x := Un.trans (by (repeat (first | assumption | exact Un.rf _ _ _ | refine Un.set ?_ (by (first | omega | (simp only [hset, hnew]; omega) | rfl | decide)) | refine Un.new ?_ (by (first | omega | (simp only [hset, hnew]; omega) | rfl | decide))))) (g4.sub (by omega) (by omega))
  have v3 : Un h3 h4 (x + 1) (x + 111) := Un.trans (by (repeat (first | assumption | exact Un.rf _ _ _ | refine Un.set ?_ (by (first | omega | (simp only [hset, hnew]; omega) | rfl | decide)) | refine Un.new ?_ (by (first | omega | (simp only [hset, hnew]; omega) | rfl | decide))))) (g4.sub (by omega) (by omega))
  have tp := tp.keep (h' := h4) (by omega) (v3.sub (by omega) (by omega))
  have re := re.keep (h' := h4) (by omega) (v3.sub (by omega) (by omega))
  have db := db.keep (h' := h4) (by omega) (v3.sub (by omega) (by omega))
  have nw := nw.keep (h' := h4) (by omega) (v3.sub (by omega) (by omega))
  clear g4
  refine tX10_init_45 (ha := (by first | assumption | (repeat (first | assumption | exact At.set_eq2 (by first | omega | (simp only [hset, hnew]; omega) | rfl | decide) | exact At.new_eq2 _ _ (by first | omega | (simp only [hset, hnew]; omega) | rfl | decide) | refine At.set_ne ?_ (by first | omega | (simp only [hset, hnew]; omega) | rfl | decide) | refine At.new_ne ?_)))) (hlen := rfl) (r := ?_)
  refine tX10_init_48  (r := ?_)
  refine tX10_init_49  (r := ?_)
  refine RQ.refId (k' := x + 156) (by (first | omega | (simp only [hset, hnew]; omega) | rfl | decide)) ?_
  refine tX10_init_52  (r := ?_)
  refine tX10_init_53 (hd := (by omega)) (call := s_Campaign_init (d := 1) (Nat.le_refl 1) (At.new_eq2 _ _ (by (first | omega | (simp only [hset, hnew]; omega) | rfl | decide))) (by (first | omega | (simp only [hset, hnew]; omega) | rfl | decide))) (k := ?_)
  intro h5 hq
  obtain ⟨z1, z2, g2, g3, g4⟩ := hq
  have cm : CamE h5 (x + 156) := ⟨⟨_, _, z1⟩, z2⟩
  have e2_4 : h5.1 = x + 158 := g2.trans (by (first | omega | (simp only [hset, hnew]; omega) | rfl | decide))
  have e3_4 : h5.2.1 = h.2.1 + 5057 := g3.trans (by (first | omega | (simp only [hset, hnew]; omega) | rfl | decide))
  have a0 : At h5 x (.inr (8, [.ref (x + 1), .ref (x + 3), .ref (x + 66), .ref (x + 111), .null, .null, .int 0])) := At.keep (by (first | assumption | (repeat (first | assumption | exact At.set_eq2 (by (first | omega | (simp only [hset, hnew]; omega) | rfl | decide)) | exact At.new_eq2 _ _ (by (first | omega | (simp only [hset, hnew]; omega) | rfl | decide)) | refine At.set_ne ?_ (by (first | omega | (simp only [hset, hnew]; omega) | rfl | decide)) | refine At.new_ne ?_)))) (by (first | omega | (simp only [hset, hnew]; omega) | rfl | decide)) (g4 _ (by omega) (by omega))
  have w4 : Un h4 h5 0 x := Un.trans (by (repeat (first | assumption | exact Un.rf _ _ _ | refine Un.set ?_ (by (first | omega | (simp only [hset, hnew]; omega) | rfl | decide)) | refine Un.new ?_ (by (first | omega | (simp only [hset, hnew]; omega) | rfl | decide))))) (g4.sub (by omega) (by omega))
  have v4 : Un h4 h5 (x + 1) (x + 156) := Un.trans (by (repeat (first | assumption | exact Un.rf _ _ _ | refine Un.set ?_ (by (first | omega | (simp only [hset, hnew]; omega) | rfl | decide)) | refine Un.new ?_ (by (first | omega | (simp only [hset, hnew]; omega) | rfl | decide))))) (g4.sub (by omega) (by omega))
  have tp := tp.keep (h' := h5) (by omega) (v4.sub (by omega) (by omega))
  have re := re.keep (h' := h5) (by omega) (v4.sub (by omega) (by omega))
  have db := db.keep (h' := h5) (by omega) (v4.sub (by omega) (by omega))
  have nw := nw.keep (h' := h5) (by omega) (v4.sub (by omega) (by omega))
  have lt := lt.keep (h' := h5) (by omega) (v4.sub (by omega) (by omega))
  clear g4
  refine tX10_init_56 (ha := (by first | assumption | (repeat (first | assumption | exact At.set_eq2 (by first | omega | (simp only [hset, hnew]; omega) | rfl | decide) | exact At.new_eq2 _ _ (by first | omega | (simp only [hset, hnew]; omega) | rfl | decide) | refine At.set_ne ?_ (by first | omega | (simp only [hset, hnew]; omega) | rfl | decide) | refine At.new_ne ?_)))) (hlen := rfl) (r := ?_)
  refine tX10_init_59  (r := ?_)
  refine tX10_init_60  (r := ?_)
  refine RQ.refId (k' := x + 158) (by (first | omega | (simp only [hset, hnew]; omega) | rfl | decide)) ?_
  refine tX10_init_63  (r := ?_)
  refine tX10_init_64 (hd := (by omega)) (call := s_Book_init (d := 3) (Nat.le_refl 3) (At.new_eq2 _ _ (by (first | omega | (simp only [hset, hnew]; omega) | rfl | decide))) (by (first | omega | (simp only [hset, hnew]; omega) | rfl | decide))) (k := ?_)
  intro h6 hq
  obtain ⟨bk, g2, g3, g4⟩ := hq
  have e2_5 : h6.1 = x + 216 := g2.trans (by (first | omega | (simp only [hset, hnew]; omega) | rfl | decide))
  have e3_5 : h6.2.1 = h.2.1 + 6289 := g3.trans (by (first | omega | (simp only [hset, hnew]; omega) | rfl | decide))
  have a0 : At h6 x (.inr (8, [.ref (x + 1), .ref (x + 3), .ref (x + 66), .ref (x + 111), .ref (x + 156), .null, .int 0])) := At.keep (by (first | assumption | (repeat (first | assumption | exact At.set_eq2 (by (first | omega | (simp only [hset, hnew]; omega) | rfl | decide)) | exact At.new_eq2 _ _ (by (first | omega | (simp only [hset, hnew]; omega) | rfl | decide)) | refine At.set_ne ?_ (by (first | omega | (simp only [hset, hnew]; omega) | rfl | decide)) | refine At.new_ne ?_)))) (by (first | omega | (simp only [hset, hnew]; omega) | rfl | decide)) (g4 _ (by omega) (by omega))
  have w5 : Un h5 h6 0 x := Un.trans (by (repeat (first | assumption | exact Un.rf _ _ _ | refine Un.set ?_ (by (first | omega | (simp only [hset, hnew]; omega) | rfl | decide)) | refine Un.new ?_ (by (first | omega | (simp only [hset, hnew]; omega) | rfl | decide))))) (g4.sub (by omega) (by omega))
  have v5 : Un h5 h6 (x + 1) (x + 158) := Un.trans (by (repeat (first | assumption | exact Un.rf _ _ _ | refine Un.set ?_ (by (first | omega | (simp only [hset, hnew]; omega) | rfl | decide)) | refine Un.new ?_ (by (first | omega | (simp only [hset, hnew]; omega) | rfl | decide))))) (g4.sub (by omega) (by omega))
  have tp := tp.keep (h' := h6) (by omega) (v5.sub (by omega) (by omega))
  have re := re.keep (h' := h6) (by omega) (v5.sub (by omega) (by omega))
  have db := db.keep (h' := h6) (by omega) (v5.sub (by omega) (by omega))
  have nw := nw.keep (h' := h6) (by omega) (v5.sub (by omega) (by omega))
  have lt := lt.keep (h' := h6) (by omega) (v5.sub (by omega) (by omega))
  have cm := cm.keep (h' := h6) (by omega) (v5.sub (by omega) (by omega))
  clear g4
  refine tX10_init_67 (ha := (by first | assumption | (repeat (first | assumption | exact At.set_eq2 (by first | omega | (simp only [hset, hnew]; omega) | rfl | decide) | exact At.new_eq2 _ _ (by first | omega | (simp only [hset, hnew]; omega) | rfl | decide) | refine At.set_ne ?_ (by first | omega | (simp only [hset, hnew]; omega) | rfl | decide) | refine At.new_ne ?_)))) (hlen := rfl) (r := ?_)
  refine tX10_init_70  (r := ?_)
  refine tX10_init_71  (r := ?_)
  refine tX10_init_72 (ha := (by first | assumption | (repeat (first | assumption | exact At.set_eq2 (by first | omega | (simp only [hset, hnew]; omega) | rfl | decide) | exact At.new_eq2 _ _ (by first | omega | (simp only [hset, hnew]; omega) | rfl | decide) | refine At.set_ne ?_ (by first | omega | (simp only [hset, hnew]; omega) | rfl | decide) | refine At.new_ne ?_)))) (hlen := rfl) (r := ?_)
  refine tX10_init_75  (hP := ?_)
  have v9 : Un h6 (hset (hset h6 x (.inr (8, [.ref (x + 1), .ref (x + 3), .ref (x + 66), .ref (x + 111), .ref (x + 156), .ref (x + 158), .int 0]))) x (PolO x (x + 158) (-1))) (x + 1) (x + 216) := by (repeat (first | assumption | exact Un.rf _ _ _ | refine Un.set ?_ (by (first | omega | (simp only [hset, hnew]; omega) | rfl | decide)) | refine Un.new ?_ (by (first | omega | (simp only [hset, hnew]; omega) | rfl | decide))))
  refine ⟨rfl, ⟨?_, tp.keep (Nat.le_refl _) (v9.sub (by omega) (by omega)), re.keep (Nat.le_refl _) (v9.sub (by omega) (by omega)), ⟨_, _, _, db.keep (Nat.le_refl _) (v9.sub (by omega) (by omega))⟩, nw.keep (Nat.le_refl _) (v9.sub (by omega) (by omega)), ⟨_, lt.S.E.keep (Nat.le_refl _) (v9.sub (by omega) (by omega))⟩, cm.keep (Nat.le_refl _) (v9.sub (by omega) (by omega)), bk.keep (Nat.le_refl _) (v9.sub (by omega) (by omega))⟩, by (first | omega | (simp only [hset, hnew]; omega) | rfl | decide), by (first | omega | (simp only [hset, hnew]; omega) | rfl | decide), Un.set (Un.set (((((w0.trans w1).trans w2).trans w3).trans w4).trans w5) (by omega)) (by omega)⟩
  exact At.set_eq2 (by (first | omega | (simp only [hset, hnew]; omega) | rfl | decide))

end S3
