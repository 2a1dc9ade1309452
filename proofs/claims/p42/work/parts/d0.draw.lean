/-! drawing: dice and a text together -/
def NDb (c : AC) : Prop := (∀ v, c ≠ .inr (11, v)) ∧ (∀ v, c ≠ .inr (17, v)) ∧ ∀ v, c ≠ .inl (1, v)
theorem nd_r {k : Nat} {v : List Value} (h : k ≠ 11 ∧ k ≠ 17) : NDb (.inr (k, v)) := ⟨fun w e => by injection e with e; injection e with e; exact h.1 e, fun w e => by injection e with e; injection e with e; exact h.2 e, (fun w e => nomatch e)⟩
theorem nd_a {k : Nat} {v : vp_A} (h : k ≠ 1) : NDb (.inl (k, v)) := ⟨(fun w e => nomatch e), (fun w e => nomatch e), fun w e => by injection e with e; injection e with e; exact h e⟩
/-- all but dice, builders and rows of bytes is kept -/
def KpD (h h1 : AH) : Prop := h.1 ≤ h1.1 ∧ ∀ j c, At h j c → NDb c → At h1 j c
theorem KpD.rf (h : AH) : KpD h h := ⟨Nat.le_refl _, fun _ _ a _ => a⟩
theorem KpD.trans {h h1 h2 : AH} (a : KpD h h1) (b : KpD h1 h2) : KpD h h2 := ⟨Nat.le_trans a.1 b.1, fun j c x n => b.2 j c (a.2 j c x n) n⟩
theorem KpD.at {h h1 : AH} {j : Nat} {c : AC} (k : KpD h h1) (a : At h j c) (n : NDb c) : At h1 j c := k.2 j c a n
theorem KpD.new {h : AH} {n : Nat} {c : AC} : KpD h (hnew h n c) := ⟨Nat.le_succ _, fun _ _ a _ => At.new_ne a⟩
theorem Ch.kd {h h1 : AH} {ck sk : Nat} (x : Ch h h1 0 0 ck sk) : KpD h h1 := ⟨x.1, fun _ _ a _ => Ch0.at x a⟩
theorem imm_nd {c : AC} (h : Imm c) : NDb c := by
  rcases h with ⟨v, e⟩ | ⟨v, e⟩ | ⟨v, e⟩ | ⟨v, e⟩ | ⟨v, e⟩ <;> rw [e]
  · exact nd_r ⟨by decide, by decide⟩
  · exact nd_r ⟨by decide, by decide⟩
  · exact nd_r ⟨by decide, by decide⟩
  · exact nd_a (by decide)
  · exact nd_a (by decide)
theorem KpD.i {h h1 : AH} (k : KpD h h1) : KpI h h1 := fun _ _ _ a m => k.at a (imm_nd m)
theorem JhR.kd {h h1 : AH} {x be n se wy : Nat} {b : Nat → Nat} (q : JhR h x be n se wy b) (k : KpD h h1) : JhR h1 x be n se wy b := by
  obtain ⟨q1, q2, q3, bf, q4, q5⟩ := q
  exact ⟨q1, q2, k.at q3 (nd_r ⟨by decide, by decide⟩), bf, k.at q4 (nd_a (by decide)), q5⟩
theorem LhR.kd {h h1 : AH} {y ru jar lab : Nat} {rs : List ERu} (q : LhR h y ru jar lab rs) (k : KpD h h1) : LhR h1 y ru jar lab rs := by
  obtain ⟨q1, q2, q3, f, q4, q5⟩ := q
  exact ⟨q1, q2, k.at q3 (nd_r ⟨by decide, by decide⟩), f, k.at q4 (nd_a (by decide)), fun j hj => (q5 j hj).imp (fun z w => ⟨w.1, w.2.kp k.i⟩)⟩
/-- since h0, dice di and a builder b with a text -/
def Dw (h0 h : AH) (di b : Nat) (t : List Nat) (ck sk : Nat) : Prop := BldR h0 h b t ck sk ∧ DiR h di ∧ h0.1 ≤ di ∧ 216 ≤ h0.1
section DW
variable {G : GT} {d di b ck sk : Nat} {h0 h h1 : AH} {t : List Nat}
theorem Dw.dc (w : Dw h0 h di b t ck sk) : DiR h di := w.2.1
theorem Dw.at (w : Dw h0 h di b t ck sk) : ∃ vs, At h b (.inr (17, vs)) := w.1.at
theorem Dw.ge (w : Dw h0 h di b t ck sk) : h0.1 ≤ h.1 := w.1.c.1
theorem Dw.g216 (w : Dw h0 h di b t ck sk) : 216 ≤ h.1 := Nat.le_trans w.2.2.2 w.ge
theorem Dw.sub {ck2 sk2 : Nat} (w : Dw h0 h di b t ck sk) (e1 : ck ≤ ck2) (e2 : sk ≤ sk2) : Dw h0 h di b t ck2 sk2 := by
  obtain ⟨⟨v, x1, x2, x3, x4⟩, w2⟩ := w
  exact ⟨⟨v, x1, x2, x3, x4.sub (Nat.le_refl _) (Nat.le_refl _) e1 e2⟩, w2⟩
theorem Dw.keep {ck2 sk2 : Nat} (w : Dw h0 h di b t ck sk) (c : Ch h h1 0 0 ck2 sk2) : Dw h0 h1 di b t (ck + ck2) (sk + sk2) := ⟨w.1.keep c, w.2.1.imp (fun _ a => Ch0.at c a), w.2.2⟩
theorem Dw.new {n : Nat} {c : AC} (w : Dw h0 h di b t ck sk) : Dw h0 (hnew h n c) di b t (ck + 1) (sk + n) := w.keep (Ch0.new h n c)
theorem Dw.set {i : Nat} {o c : AC} (w : Dw h0 h di b t ck sk) (a : At h i o) (n : NDb o) (e : h0.1 ≤ i) : Dw h0 (hset h i c) di b t ck sk := by
  obtain ⟨⟨v, ⟨⟨cap, f, mb, ⟨y1, y2, y3⟩, y4⟩, y5⟩, x2, x3, x4⟩, ⟨x, w2⟩, w3⟩ := w
  have n1 : b ≠ i := y1.ne a (fun e => n.2.1 _ e.symm)
  have n2 : v ≠ i := y2.ne a (fun e => n.2.2 _ e.symm)
  have n3 : di ≠ i := w2.ne a (fun e => n.1 _ e.symm)
  exact ⟨⟨v, ⟨⟨cap, f, mb, ⟨At.set_ne y1 n1, At.set_ne y2 n2, y3⟩, y4⟩, y5⟩, x2, x3, Ch0.set x4 e⟩, ⟨x, At.set_ne w2 n3⟩, w3⟩
theorem KpD.set {h2 : AH} {i : Nat} {c : AC} (k : KpD h h2) (e : h.1 ≤ i) : KpD h (hset h2 i c) := ⟨k.1, fun j x a n => At.set_ne (k.2 j x a n) (by have := a.1; omega)⟩
/-- the dice are thrown -/
theorem s_dNext (hd : 1 ≤ d) {n : Nat} (w : Dw h0 h di b t ck sk) (h1 : 0 < n) (h2 : n < 2147483648) : RQ G mX13_next d 0 [some (.ref di), some (.int (nI n))] [] h (Ri fun r h1 => (∃ k, k < n ∧ r = nI k) ∧ Dw h0 h1 di b t ck sk ∧ KpD h h1 ∧ h1.1 = h.1) := by
  refine RQ.imp (s_next hd w.2.1 h1 h2) ?_
  rintro o h3 ⟨r, e, ⟨k, hk, ek⟩, q1, q2⟩
  refine ⟨r, e, ⟨k, hk, ek⟩, ?_, ?_, ?_⟩
  · obtain ⟨⟨v, ⟨⟨cap, f, mb, ⟨y1, y2, y3⟩, y4⟩, y5⟩, x2, x3, x4⟩, ⟨x, w2⟩, w3, w4⟩ := w
    have n1 : b ≠ di := y1.ne w2 (by simp)
    have n2 : v ≠ di := y2.ne w2 (by simp)
    refine ⟨⟨v, ⟨⟨cap, f, mb, ⟨q2.at y1 n1, q2.at y2 n2, y3⟩, y4⟩, y5⟩, x2, x3, ?_⟩, q1, w3, w4⟩
    obtain ⟨z1, z2, z3, z4, z5⟩ := x4
    obtain ⟨p1, p2, p3, p4⟩ := q2
    exact ⟨by omega, by omega, by omega, fun j _ j2 => absurd j2 (Nat.not_lt_zero j), fun j j1 j2 => (p4 j (by omega) (by omega)).trans (z5 j j1 j2)⟩
  · obtain ⟨x, w2⟩ := w.2.1
    exact ⟨q2.1, fun j c a n => q2.at a (a.ne w2 (fun e => n.1 _ e))⟩
  · have := q2.1
    have := q2.2.1
    omega
theorem KpD.fb {v ck2 sk2 : Nat} {t2 : List Nat} (x : SbV h b v t2) (q : Fb h h1 b v ck2 sk2) : KpD h h1 := by
  obtain ⟨⟨cap, f, mb, ⟨y1, y2, -⟩, -⟩, -⟩ := x
  exact ⟨q.1, fun j c a n => a.keep q.1 (q.2.2.2 j a.1 (a.ne y1 (fun e => n.2.1 _ e)) (a.ne y2 (fun e => n.2.2 _ e)))⟩
theorem DiR.fb {v ck2 sk2 : Nat} {t2 : List Nat} (q0 : DiR h di) (x : SbV h b v t2) (q : Fb h h1 b v ck2 sk2) : DiR h1 di := by
  obtain ⟨⟨cap, f, mb, ⟨y1, y2, -⟩, -⟩, -⟩ := x
  exact q0.imp (fun _ w => w.keep q.1 (q.2.2.2 di w.1 (w.ne y1 (by simp)) (w.ne y2 (by simp))))
theorem s_dApp (hd : 5 ≤ d) {k : Nat} {s : List Nat} (w : Dw h0 h di b t ck sk) (y : StR h k s) (hB : t.length + s.length ≤ 1300) : RQ G mJ4_append_15ec4 d 0 [some (.ref b), some (.ref k)] [] h (Rr fun r h1 => r = b ∧ Dw h0 h1 di b (t ++ s) (ck + 1) (sk + 2602) ∧ KpD h h1) := by
  obtain ⟨⟨v, x1, x2, x3, x4⟩, w2, w3⟩ := w
  refine RQ.imp (s_appStr hd x1 y (by omega)) ?_
  rintro o h3 ⟨r, e, er, v1, p1, p2, p3⟩
  exact ⟨r, e, er, ⟨⟨v1, p1, x2, by have := x4.1; omega, (BldR.fb x2 x3 x4 p3).sub (Nat.le_refl _) (Nat.le_refl _) (Nat.le_refl _) (by omega)⟩, w2.fb x1 p3, w3⟩, KpD.fb x1 p3⟩
theorem s_dAppI (hd : 5 ≤ d) {n : Nat} (w : Dw h0 h di b t ck sk) (hn : n < 10000) (hB : t.length + 4 ≤ 1300) : RQ G mJ4_append_bf812 d 0 [some (.ref b), some (.int (nI n))] [] h (Rr fun r h1 => r = b ∧ Dw h0 h1 di b (t ++ dgs n) (ck + 1) (sk + 2602) ∧ KpD h h1) := by
  obtain ⟨⟨v, x1, x2, x3, x4⟩, w2, w3⟩ := w
  refine RQ.imp (s_appI hd x1 hn (by omega)) ?_
  rintro o h3 ⟨r, e, er, v1, p1, p2, p3⟩
  exact ⟨r, e, er, ⟨⟨v1, p1, x2, by have := x4.1; omega, (BldR.fb x2 x3 x4 p3).sub (Nat.le_refl _) (Nat.le_refl _) (Nat.le_refl _) (by have := dgs_le n; omega)⟩, w2.fb x1 p3, w3⟩, KpD.fb x1 p3⟩
theorem s_dName (hd : 7 ≤ d) {k : Nat} (w : Dw h0 h di b t ck sk) (hk : k < 20) : RQ G mL_name d 0 [some (.int (nI k))] [] h (Rr fun r h1 => StR h1 r (nam k) ∧ Dw h0 h1 di b t (ck + 7) (sk + 200) ∧ KpD h h1) := by
  refine RQ.imp (s_name hd hk) ?_
  rintro o h3 ⟨r, e, p1, p2⟩
  exact ⟨r, e, p1, w.keep p2, p2.kd⟩
/-- a rule is drawn -/
theorem s_dRule {la ja : Nat} (l1 : 0 < la) (l2 : la ≤ 6) (j1 : 0 < ja) (j2 : ja ≤ 8) (hd : 7 ≤ d) (w : Dw h0 h di b t ck sk) : RQ G mX17_init d 0 [some (.ref h.1), some (.ref di), some (.int (nI la)), some (.int (nI ja)), none] [] (hnew h 2 (.inr (15, [.null, .null]))) (Rv fun h1 => ∃ r, okRu la ja r ∧ RuR h1 h.1 r ∧ Dw h0 h1 di b t (ck + 25) (sk + 94) ∧ KpD h h1) := by
  have g := w.g216
  have w1 := w.new (n := 2) (c := .inr (15, [.null, .null]))
  refine RQ.imp (s_ruInit l1 l2 j1 j2 hd g (by show 216 ≤ h.1 + 1; omega) w1.2.1 (At.new_eq h 2 _)) ?_
  rintro o h3 ⟨e, r, p1, p2, p3, p4⟩
  refine ⟨e, r, p1, p2, ?_, ?_⟩
  · obtain ⟨⟨v, ⟨⟨cap, f, mb, ⟨y1, y2, y3⟩, y4⟩, y5⟩, x2, x3, x4⟩, ⟨x, w2⟩, w3, w4⟩ := w1
    have a9 := At.new_eq h 2 (.inr (15, [.null, .null]))
    have n1 : b ≠ di := y1.ne w2 (by simp)
    have n2 : v ≠ di := y2.ne w2 (by simp)
    have n3 : b ≠ h.1 := y1.ne a9 (by simp)
    have n4 : v ≠ h.1 := y2.ne a9 (by simp)
    obtain ⟨z1, z2, z3, z4, z5⟩ := x4
    obtain ⟨q1, q2, q3, q4⟩ := p4
    have gh : h0.1 ≤ h.1 := w.ge
    refine ⟨⟨v, ⟨⟨cap, f, mb, ⟨y1.keep q1 (q4 b y1.1 n3 n1), y2.keep q1 (q4 v y2.1 n4 n2), y3⟩, y4⟩, y5⟩, x2, x3, ?_⟩, p3, w3, w4⟩
    exact ⟨by omega, by omega, by omega, fun j _ j2 => absurd j2 (Nat.not_lt_zero j), fun j j1 j2 => (q4 j (by omega) (by omega) (by omega)).trans (z5 j j1 j2)⟩
  · obtain ⟨x, w2⟩ := w1.2.1
    refine ⟨by have := p4.1; have : h.1 + 1 ≤ h3.1 := this; omega, fun j c a n => ?_⟩
    have a1 := At.new_ne (n := 2) (c := .inr (15, [.null, .null])) a
    exact a1.keep p4.1 (p4.2.2.2 j a1.1 (Nat.ne_of_lt a.1) (a1.ne w2 (fun e => n.1 _ e)))
end DW
