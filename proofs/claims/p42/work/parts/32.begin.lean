/-! the cases of calls that never throw; the law's beginning -/
section KD
variable {G : GT} {d2 n : Nat}
/-- what the two owe of such a call, from class's and reference's world alike: the same answer, the same new state -/
def OpD {T : Type} (con : T → Value) (G : GT) (Cm Mm : MI) (d2 : Nat) (Lc Lm : List (Option Value)) (h : AH) (s : ST) : Prop := ∃ (V : T) (s' : ST) (bk dr : Nat), BDok s'.2.2.1 s'.2.2.2 ∧ RQ G Cm d2 0 Lc [] h (fun o h1 => o = .inl (some (con V)) ∧ ClR h1 0 bk dr s' ∧ Ch h h1 0 216 0 0) ∧ ∀ h1, MoR h1 216 s → ToR h1 216 s.2.2.1 → RQ G Mm d2 0 Lm [] h1 (fun o h2 => o = .inl (some (con V)) ∧ MoR h2 216 s' ∧ ToR h2 216 s'.2.2.1 ∧ Ch h1 h2 216 269 16 100)
theorem Jd.next {h h1 h2 : AH} {s s' : ST} {bk dr bk' dr' : Nat} (j : Jd h s bk dr) (hn1 : h.1 ≤ 270 + 20 * n) (hn2 : h.2.1 ≤ 17000 + 200 * n) (ok : BDok s'.2.2.1 s'.2.2.2) (hc : ClR h1 0 bk' dr' s') (ch : Ch h h1 0 216 1 6) (m2 : MoR h2 216 s') (t2 : ToR h2 216 s'.2.2.1) (ch2 : Ch h1 h2 216 269 16 100) : J (n + 1) h2 := by
  obtain ⟨f, af⟩ := j.out ch
  have l9 := af.1
  obtain ⟨f9, j9⟩ := j.2.2.2.2
  have l8 := j9.1
  obtain ⟨a1, a2, a3, a4, a5⟩ := ch
  obtain ⟨g1, g2, g3, g4, g5⟩ := ch2
  exact ⟨s', bk', dr', ⟨ok, hc.keep g1 g4, m2, t2, f, af.keep g1 (g5 269 (by omega) l9)⟩, by omega, by omega⟩

def B0 : BK := (0, 0, 0, fun _ => 0, fun _ => 0, fun _ => 0, fun _ => (0, 0), 0, (0, fun _ => 0, fun _ => 0, fun _ => 0, fun _ => 0, fun _ => 0), (0, 0, fun _ => 0, fun _ => 0, fun _ => 0, fun _ => (0, 0, 0, 0), fun _ => (0, 0, 0, 0)))
def D0 : DY := (0, fun _ _ => 0, fun _ => 0, fun _ => none)
def S0 : ST := ([], -1, B0, D0)
theorem BDok0 : BDok B0 D0 := by
  refine ⟨by decide, by decide, by decide, fun i hi => ⟨Nat.zero_le _, Nat.zero_lt_succ _⟩, fun i _ _ => ⟨rfl, fun _ _ => rfl⟩, fun _ _ _ _ _ => rfl, fun _ _ => (show su (fun _ => 0) 6 ≤ 1200 from by decide), fun i hi => absurd hi (Nat.not_lt_zero i), fun k j _ e => (nomatch (show (none : Option Nat) = some j from e)), fun _ _ => rfl, ⟨by decide, by decide, by decide, by decide, fun k hk => absurd hk (Nat.not_lt_zero k), fun k hk => absurd hk (Nat.not_lt_zero k), fun k hk => absurd hk (Nat.not_lt_zero k), fun k hk => absurd hk (Nat.not_lt_zero k)⟩, fun i D hi => absurd hi (Nat.not_lt_zero i)⟩
theorem rt0 (k : Nat) : rt (fun _ => none) k = k := rfl
theorem CupZ.R {h : AH} {c : Nat} (a : CupZ h c) : CuR h c B0 D0 := by
  obtain ⟨jf, fo, le, a1, a2, a3, a4, a5, a6, a7, a8⟩ := a
  refine ⟨jf, _, fo, le, a1, a2, a3, a4, a5, a6, fun i hi => rfl, fun i hi => (a7 i hi).1, fun i hi => (a7 i hi).2, fun i hi => ?_⟩
  exact ⟨_, _, _, _, _, _, _, _, a8 i hi, fun k hk => rfl, Or.inl rfl⟩
theorem BookE.R {h : AH} {b : Nat} (q : BookE h b 0 0 0) : BoR h b B0 := by
  obtain ⟨a0, a1, a2, a3, ⟨f4, a4⟩, ⟨f5, a5⟩, ⟨f6, a6⟩, a7, ⟨⟨st, ru, ac, b0⟩, ⟨g1, b1⟩, ⟨g2, b2⟩, ⟨g3, b3⟩, ⟨g4, b4⟩, ⟨g5, b5⟩⟩⟩ := q
  exact ⟨a0, a1, a2, a3, ⟨f4, a4, fun i hi => absurd hi (Nat.not_lt_zero i)⟩, ⟨f5, a5, fun i hi => absurd hi (Nat.not_lt_zero i)⟩, ⟨f6, a6, fun i hi => absurd hi (Nat.not_lt_zero i)⟩, a7, ⟨st, ru, ac, b0, fun z => absurd z (Nat.lt_irrefl 0)⟩, ⟨g1, b1, fun k hk => absurd hk (Nat.not_lt_zero k)⟩, ⟨g2, b2, fun k hk => absurd hk (Nat.not_lt_zero k)⟩, ⟨g3, b3, fun k hk => absurd hk (Nat.not_lt_zero k)⟩, ⟨g4, b4, fun k hk => absurd hk (Nat.not_lt_zero k)⟩, ⟨g5, b5, fun k hk => absurd hk (Nat.not_lt_zero k)⟩⟩
theorem PolE.R {h : AH} {x : Nat} (q : PolE h x (x + 158) (x + 8) 0 0 0 0 (-1)) : ClR h x (x + 158) (x + 8) S0 := by
  obtain ⟨a1, ⟨a2, f, a3⟩, a4, a5, a6, a7, a8, a9⟩ := q
  exact ⟨a1, ⟨a2, by decide, f, a3, fun i hi => absurd hi (Nat.not_lt_zero i)⟩, a4, a5, a6.R, a7, a8, a9.R, Or.inl ⟨rfl, rfl⟩⟩
theorem ModR.R {h : AH} {m : Nat} (a : At h m (ModO m 0 0 (-1) 0 0 0 0 0 0)) (q : ModR h m 0 0 0 0) : MoR h m S0 ∧ ToR h m B0 := by
  obtain ⟨⟨f1, a1⟩, a2, a3, a4, a5, a6, a7, a8, ⟨ru, ac, no, a9⟩, a28, a47, ⟨f, a48, hf⟩, a49, a50, a51, a52⟩ := q
  obtain ⟨f10, b10⟩ := a9.2 0 (by decide)
  obtain ⟨f11, b11⟩ := a9.2 1 (by decide)
  obtain ⟨f14, b14⟩ := a9.2 4 (by decide)
  obtain ⟨f15, b15⟩ := a9.2 5 (by decide)
  obtain ⟨f16, b16⟩ := a9.2 6 (by decide)
  obtain ⟨n7, c7⟩ := a9.2 7 (by decide)
  obtain ⟨n8, c8⟩ := a9.2 8 (by decide)
  obtain ⟨n9, c9⟩ := a9.2 9 (by decide)
  obtain ⟨n10, c10⟩ := a9.2 10 (by decide)
  obtain ⟨n11, c11⟩ := a9.2 11 (by decide)
  obtain ⟨n12, c12⟩ := a9.2 12 (by decide)
  obtain ⟨n13, c13⟩ := a9.2 13 (by decide)
  obtain ⟨n14, c14⟩ := a9.2 14 (by decide)
  obtain ⟨n15, c15⟩ := a9.2 15 (by decide)
  obtain ⟨n16, c16⟩ := a9.2 16 (by decide)
  obtain ⟨n17, c17⟩ := a9.2 17 (by decide)
  exact ⟨⟨⟨_, _, _, _, _, _, _, a⟩, ⟨f1, a1, fun i hi => absurd hi (Nat.not_lt_zero i)⟩, a2, a3, a4, a5, a6, a7, a8, ⟨ru, ac, no, a9.1, a9.2, ⟨n7, c7, fun k hk => absurd hk (Nat.not_lt_zero k)⟩, ⟨n8, c8, fun k hk => absurd hk (Nat.not_lt_zero k)⟩, ⟨n9, c9, fun k hk => absurd hk (Nat.not_lt_zero k)⟩, ⟨n10, c10, fun k hk => absurd hk (Nat.not_lt_zero k)⟩, ⟨n11, c11, fun k hk => absurd hk (Nat.not_lt_zero k)⟩, ⟨n12, c12, fun k hk => absurd hk (Nat.not_lt_zero k)⟩, ⟨n13, c13, fun k hk => absurd hk (Nat.not_lt_zero k)⟩, ⟨n14, c14, fun k hk => absurd hk (Nat.not_lt_zero k)⟩, ⟨n15, c15, fun k hk => absurd hk (Nat.not_lt_zero k)⟩, ⟨n16, c16, fun k hk => absurd hk (Nat.not_lt_zero k)⟩, ⟨n17, c17, fun k hk => absurd hk (Nat.not_lt_zero k)⟩⟩, a28, a47, ⟨f, a48, hf, fun j k hj _ => absurd hj (Nat.not_lt_zero j), fun k hk => absurd hk (Nat.not_lt_zero k), fun k hk => absurd hk (Nat.not_lt_zero k)⟩, a49, a50, a51, a52⟩,
    ⟨f10, b10, fun i hi => absurd hi (Nat.not_lt_zero i)⟩, ⟨f11, b11, fun i hi => absurd hi (Nat.not_lt_zero i)⟩, ⟨f14, b14, fun i hi => absurd hi (Nat.not_lt_zero i)⟩, ⟨f15, b15, fun i hi => absurd hi (Nat.not_lt_zero i)⟩, ⟨f16, b16, fun i hi => absurd hi (Nat.not_lt_zero i)⟩⟩

end KD
