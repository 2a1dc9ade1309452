/-! a text is put together: since h0 a builder b holds t -/
def BldR (h0 h : AH) (b : Nat) (t : List Nat) (ck sk : Nat) : Prop := ∃ v, SbV h b v t ∧ h0.1 ≤ b ∧ h0.1 ≤ v ∧ Ch h0 h 0 0 ck sk
theorem SbV.keep {h h1 : AH} {b v ck sk : Nat} {t : List Nat} (x : SbV h b v t) (c : Ch h h1 0 0 ck sk) : SbV h1 b v t := by
  obtain ⟨⟨cap, f, mb, ⟨a1, a2, a3, a4, a5⟩, hc, hf⟩, tl, tb⟩ := x
  exact ⟨⟨cap, f, mb, ⟨a1.keep c.1 (c.2.2.2.2 _ (Nat.zero_le _) a1.1), a2.keep c.1 (c.2.2.2.2 _ (Nat.zero_le _) a2.1), a3, a4, a5⟩, hc, hf⟩, tl, tb⟩
theorem BldR.keep {h0 h h1 : AH} {b ck sk ck2 sk2 : Nat} {t : List Nat} (x : BldR h0 h b t ck sk) (c : Ch h h1 0 0 ck2 sk2) : BldR h0 h1 b t (ck + ck2) (sk + sk2) := by
  obtain ⟨v, x1, x2, x3, x4⟩ := x
  exact ⟨v, x1.keep c, x2, x3, x4.trans c⟩
theorem BldR.at {h0 h : AH} {b ck sk : Nat} {t : List Nat} (x : BldR h0 h b t ck sk) : ∃ vs, At h b (.inr (17, vs)) := by
  obtain ⟨v, ⟨⟨cap, f, mb, ⟨a1, -⟩, -⟩, -⟩, -⟩ := x
  exact ⟨_, a1⟩
theorem BldR.kp {h0 h : AH} {b ck sk : Nat} {t : List Nat} (x : BldR h0 h b t ck sk) : KpI h0 h := by
  obtain ⟨v, x1, x2, x3, x4⟩ := x
  exact x4.kp0
theorem BldR.c {h0 h : AH} {b ck sk : Nat} {t : List Nat} (x : BldR h0 h b t ck sk) : Ch h0 h 0 0 ck sk := by
  obtain ⟨v, x1, x2, x3, x4⟩ := x
  exact x4
theorem BldR.fb {h0 h h1 : AH} {b v ck sk ck2 sk2 : Nat} (x2 : h0.1 ≤ b) (x3 : h0.1 ≤ v) (x4 : Ch h0 h 0 0 ck sk) (q : Fb h h1 b v ck2 sk2) : Ch h0 h1 0 0 (ck + ck2) (sk + sk2) := by
  obtain ⟨a1, a2, a3, a4, a5⟩ := x4
  obtain ⟨b1, b2, b3, b4⟩ := q
  exact ⟨by omega, by omega, by omega, fun i c1 c2 => absurd c2 (Nat.not_lt_zero i), fun i c1 c2 => (b4 i (by omega) (by omega) (by omega)).trans (a5 i c1 c2)⟩
def nam (k : Nat) : List Nat := [113, 97 + k]
section BL
variable {G : GT} {d : Nat} {h0 h : AH} {b ck sk : Nat} {t : List Nat}
theorem s_bApp (B : Nat) (hd : 5 ≤ d) {k : Nat} {s : List Nat} (x : BldR h0 h b t ck sk) (y : StR h k s) (hB : t.length + s.length ≤ B) (hB2 : B ≤ 4000) : RQ G mJ4_append_15ec4 d 0 [some (.ref b), some (.ref k)] [] h (Rr fun r h1 => r = b ∧ BldR h0 h1 b (t ++ s) (ck + 1) (sk + (2 * B + 2))) := by
  obtain ⟨v, x1, x2, x3, x4⟩ := x
  refine RQ.imp (s_appStr hd x1 y (by omega)) ?_
  rintro o h1 ⟨r, rfl, e, v1, q1, q2, q3⟩
  have c1 := BldR.fb x2 x3 x4 q3
  have := x4.1
  exact ⟨r, rfl, e, v1, q1, x2, by omega, c1.sub (Nat.le_refl _) (Nat.le_refl _) (Nat.le_refl _) (by omega)⟩
theorem s_bAppC (B : Nat) (hd : 5 ≤ d) {c : Nat} (x : BldR h0 h b t ck sk) (hc : c < 128) (hB : t.length + 1 ≤ B) (hB2 : B ≤ 4000) : RQ G mJ4_append_cf468 d 0 [some (.ref b), some (.int (nI c))] [] h (Rr fun r h1 => r = b ∧ BldR h0 h1 b (t ++ [c]) (ck + 1) (sk + (2 * B + 2))) := by
  obtain ⟨v, x1, x2, x3, x4⟩ := x
  refine RQ.imp (s_appCh hd x1 hc (by omega)) ?_
  rintro o h1 ⟨r, rfl, e, v1, q1, q2, q3⟩
  have c1 := BldR.fb x2 x3 x4 q3
  have := x4.1
  exact ⟨r, rfl, e, v1, q1, x2, by omega, c1.sub (Nat.le_refl _) (Nat.le_refl _) (Nat.le_refl _) (by omega)⟩
theorem s_bAppI (B : Nat) (hd : 5 ≤ d) {n : Nat} (x : BldR h0 h b t ck sk) (hn : n < 10000) (hB : t.length + 4 ≤ B) (hB2 : B ≤ 4000) : RQ G mJ4_append_bf812 d 0 [some (.ref b), some (.int (nI n))] [] h (Rr fun r h1 => r = b ∧ BldR h0 h1 b (t ++ dgs n) (ck + 1) (sk + (2 * B + 2))) := by
  obtain ⟨v, x1, x2, x3, x4⟩ := x
  refine RQ.imp (s_appI hd x1 hn (by omega)) ?_
  rintro o h1 ⟨r, rfl, e, v1, q1, q2, q3⟩
  have c1 := BldR.fb x2 x3 x4 q3
  have := x4.1
  have dl4 : (dgs n).length ≤ 4 := by
    rw [dgs_len]
    split
    · omega
    · split
      · omega
      · split <;> omega
  exact ⟨r, rfl, e, v1, q1, x2, by omega, c1.sub (Nat.le_refl _) (Nat.le_refl _) (Nat.le_refl _) (by omega)⟩
theorem s_bInit (hd : 2 ≤ d) : RQ G mJ4_init_da8c8 d 0 [some (.ref h0.1)] [] (hnew h0 4 (.inr (17, [.null, .int 0, .int 0, .int 0]))) (Rv fun h1 => BldR h0 h1 h0.1 [] 2 20) := by
  refine RQ.imp (s_sbInit hd (At.new_eq h0 4 _)) ?_
  rintro o h1 ⟨e, q1, q2, q3, q4, q5⟩
  have q2 : h0.1 + 1 ≤ h1.1 := q2
  have q3 : h1.1 ≤ h0.1 + 1 + 1 := q3
  have q4 : h1.2.1 ≤ h0.2.1 + 4 + 16 := q4
  refine ⟨e, _, q1, Nat.le_refl _, Nat.le_succ _, by omega, by omega, by omega, fun i c1 c2 => absurd c2 (Nat.not_lt_zero i), fun i c1 c2 => ?_⟩
  rw [q5 i (Nat.lt_succ_of_lt c2) (by omega)]
  exact if_neg (by omega)
theorem s_bInitS (B : Nat) (hd : 8 ≤ d) {k b0 : Nat} {s : List Nat} (a0 : At h b0 (.inr (17, [.null, .int 0, .int 0, .int 0]))) (e0 : h0.1 ≤ b0) (y : StR h k s) (hB : s.length ≤ B) (c0 : Ch h0 h 0 0 ck sk) : RQ G mJ4_init_a7421 d 0 [some (.ref b0), some (.ref k)] [] h (Rv fun h1 => BldR h0 h1 b0 s (ck + 2) (sk + (4 * B + 40))) := by
  refine RQ.imp (s_sbInitS hd a0 y) ?_
  rintro o h1 ⟨e, v1, q1, q2, q3, q4, q5, q6⟩
  obtain ⟨a1, a2, a3, a4, a5⟩ := c0
  refine ⟨e, v1, q1, e0, by omega, by omega, by omega, by omega, fun i c1 c2 => absurd c2 (Nat.not_lt_zero i), fun i c1 c2 => ?_⟩
  rw [q6 i (by omega) (by omega)]
  exact a5 i c1 c2
theorem StN.r {h : AH} {k v : Nat} {t : List Nat} (x : StN h k v t) (h1 : t.length ≤ 4000) (h2 : ∀ c ∈ t, c < 128) : StR h k t := ⟨Or.inr ⟨v, x⟩, h1, h2⟩
theorem s_bStr (B : Nat) (hd : 6 ≤ d) (x : BldR h0 h b t ck sk) (hB : t.length ≤ B) : RQ G mJ4_toString_0e30d d 0 [some (.ref b)] [] h (Rr fun r h1 => StR h1 r t ∧ (∃ v, StN h1 r v t ∧ h0.1 ≤ r ∧ h0.1 ≤ v) ∧ Ch h0 h1 0 0 (ck + 2) (sk + (B + 4))) := by
  obtain ⟨v, x1, x2, x3, x4⟩ := x
  refine RQ.imp (s_toStr hd x1) ?_
  rintro o h1 ⟨r, rfl, e, q1, q2⟩
  subst e
  have := x4.1
  exact ⟨_, rfl, q1.r x1.2.1 x1.2.2, ⟨_, q1, by omega, by omega⟩, (x4.trans q2).sub (Nat.le_refl _) (Nat.le_refl _) (Nat.le_refl _) (by omega)⟩
theorem StR.keep {h h1 : AH} {k ck sk : Nat} {t : List Nat} (s : StR h k t) (c : Ch h h1 0 0 ck sk) : StR h1 k t := by
  obtain ⟨s1, s2, s3⟩ := s
  refine ⟨?_, s2, s3⟩
  rcases s1 with z | ⟨v, ⟨hs, hz, a⟩, f, a2, a3, a4⟩
  · exact Or.inl z
  · exact Or.inr ⟨v, ⟨hs, hz, a.keep c.1 (c.2.2.2.2 _ (Nat.zero_le _) a.1)⟩, f, a2.keep c.1 (c.2.2.2.2 _ (Nat.zero_le _) a2.1), a3, a4⟩
theorem Kn.ch {h h1 : AH} {ck sk : Nat} (c : Ch h h1 0 0 ck sk) : Kn 0 h h1 := fun j x _ a => a.keep c.1 (c.2.2.2.2 j (Nat.zero_le _) a.1)

end BL
section NM
variable {G : GT} {d : Nat} {h : AH}
theorem s_name (hd : 7 ≤ d) {k : Nat} (hk : k < 20) : RQ G mL_name d 0 [some (.int (nI k))] [] h (Rr fun r h1 => StR h1 r (nam k) ∧ Ch h h1 0 0 7 200) := by
  refine tL_name_0  (r := ?_)
  refine tL_name_3  (r := ?_)
  refine tL_name_4 (hd := (by omega)) (call := s_bInit (d := 6) (h0 := h) (by decide)) (k := ?_)
  rintro w1 x1
  obtain ⟨_, ab1⟩ := x1.at
  have kp1 := x1.kp
  refine tL_name_7  (r := ?_)
  
  refine tL_name_9 (hd := (by omega)) (ha := (by first | assumption | (repeat (first | assumption | exact At.set_eq2 (by first | omega | (simp only [hset, hnew]; omega) | rfl | decide) | exact At.new_eq2 _ _ (by first | omega | (simp only [hset, hnew]; omega) | rfl | decide) | refine At.set_ne ?_ (by first | omega | (simp only [hset, hnew]; omega) | rfl | decide) | refine At.new_ne ?_)))) (call := s_bApp 10 (d := 6) (by decide) x1 (StR.old (i := 40) (by decide)) (by first | decide | (simp only [List.length_append, List.length_nil, List.length_cons]; omega)) (by decide)) (k := ?_)
  rintro r_ w2 ⟨e_, x2⟩
  rw [e_]
  clear e_
  obtain ⟨_, ab2⟩ := x2.at
  have kp2 := x2.kp
  refine tL_name_12  (r := ?_)
  refine tL_name_14  (r := ?_)
  refine tL_name_15  (r := ?_)
  rw [nI_add]
  refine tL_name_16 (hv := (by128 (97 + k) (by omega)).2.2.2.1) (r := ?_)
  refine tL_name_17 (hd := (by omega)) (ha := (by first | assumption | (repeat (first | assumption | exact At.set_eq2 (by first | omega | (simp only [hset, hnew]; omega) | rfl | decide) | exact At.new_eq2 _ _ (by first | omega | (simp only [hset, hnew]; omega) | rfl | decide) | refine At.set_ne ?_ (by first | omega | (simp only [hset, hnew]; omega) | rfl | decide) | refine At.new_ne ?_)))) (call := s_bAppC 10 (d := 6) (by decide) x2 (c := 97 + k) (by omega) (by first | decide | (simp only [List.length_append, List.length_nil, List.length_cons]; omega)) (by decide)) (k := ?_)
  rintro r_ w3 ⟨e_, x3⟩
  rw [e_]
  clear e_
  obtain ⟨_, ab3⟩ := x3.at
  refine tL_name_20 (hd := (by omega)) (ha := (by first | assumption | (repeat (first | assumption | exact At.set_eq2 (by first | omega | (simp only [hset, hnew]; omega) | rfl | decide) | exact At.new_eq2 _ _ (by first | omega | (simp only [hset, hnew]; omega) | rfl | decide) | refine At.set_ne ?_ (by first | omega | (simp only [hset, hnew]; omega) | rfl | decide) | refine At.new_ne ?_)))) (call := s_bStr 10 (d := 6) (by decide) x3 (by have e40 : (txt 40).length = 1 := (by decide +kernel); simp only [List.length_append, List.length_nil, List.length_cons, e40]; omega)) (k := ?_)
  rintro r_ w4 ⟨st_, -, c_⟩
  refine tL_name_23  (hP := ?_)
  exact ⟨_, rfl, st_, c_.sub (Nat.le_refl _) (Nat.le_refl _) (by decide) (by decide)⟩
end NM
