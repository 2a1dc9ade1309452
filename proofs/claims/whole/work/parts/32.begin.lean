/-! the cases of calls that never throw; the law's beginning -/
section KD
variable {G : GT} {d2 n : Nat}
/-- what the two owe of such a call, from class's and reference's world alike: the same answer, the same new state -/
def OpD {T : Type} (con : T → Value) (G : GT) (Cm Mm : MI) (d2 : Nat) (Lc Lm : List (Option Value)) (h : AH) (s : ST) : Prop := ∃ (V : T) (s' : ST) (bk dr : Nat), BDok s'.2.2.1 s'.2.2.2 ∧ RQ G Cm d2 0 Lc [] h (fun o h1 => o = .inl (some (con V)) ∧ ClR h1 0 bk dr s' ∧ Ch h h1 0 216 0 0) ∧ ∀ h1, MoR h1 216 s → ToR h1 216 s.2.2.1 → RQ G Mm d2 0 Lm [] h1 (fun o h2 => o = .inl (some (con V)) ∧ MoR h2 216 s' ∧ ToR h2 216 s'.2.2.1 ∧ Ch h1 h2 216 269 16 100)
theorem Jd.next {h h1 h2 : AH} {s s' : ST} {bk dr bk' dr' : Nat} (j : Jd h s bk dr) (hn1 : h.1 ≤ 270 + 20 * n) (hn2 : h.2.1 ≤ 17000 + 200 * n) (ok : BDok s'.2.2.1 s'.2.2.2) (hc : ClR h1 0 bk' dr' s') (ch : Ch h h1 0 216 1 6) (m2 : MoR h2 216 s') (t2 : ToR h2 216 s'.2.2.1) (ch2 : Ch h1 h2 216 269 16 100) : J (n + 1) h2 := by
  obtain ⟨f, af⟩ := j.out ch
  have l9 := af.1
  obtain ⟨f9, j9⟩ := j.2.2.2.2
  have l8 := j9.1
  obtain ⟨a1, a2, a3, a4, a5⟩ := ch
  obtain ⟨g1, g2, g3, g4, g5⟩ := ch2
  exact ⟨s', bk', dr', ⟨ok, hc.keep g1 g4, m2, t2, f, af.keep g1 (g5 269 (by omega) l9)⟩, by omega, by omega⟩

set_option maxHeartbeats 4000000 in
set_option maxRecDepth 100000 in
theorem kd_teach (O : ∀ (h : AH) (s : ST) (bk dr : Nat), Jd h s bk dr → OpD (Value.int) G mX10_teach mX12_teach d2 [some (.ref 0), none] [some (.ref 216)] h s) : Kc_teach G d2 0 216 269 J n := by
  intro h hj
  obtain ⟨s, bk, dr, j, hn1, hn2⟩ := hj
  obtain ⟨V, s', bk', dr', ok, k, mo⟩ := O h s bk dr j
  refine ⟨⟨_, j.poll⟩, k.imp (fun o h1 q => ?_)⟩
  obtain ⟨rfl, hc, ch0⟩ := q
  have ch : Ch h h1 0 216 1 6 := ch0.sub (Nat.le_refl _) (Nat.le_refl _) (by decide) (by decide)
  have ch2 := ch
  obtain ⟨f9, j9⟩ := j.2.2.2.2
  have l9 := j9.1
  obtain ⟨a1, a2, a3, a4, a5⟩ := ch
  have m1 := j.2.2.1.keep (h' := h1) a1 (a5.sub (by omega) (by omega))
  have t1 := j.2.2.2.1.keep (h' := h1) a1 (a5.sub (by omega) (by omega))
  obtain ⟨th, tk, iw, er, et, dp, nm, am⟩ := m1.1
  refine ⟨V, rfl, ⟨_, am⟩, (mo h1 m1 t1).imp (fun o2 h2 q2 => ?_)⟩
  obtain ⟨rfl, b3, b4, b5⟩ := q2
  exact ⟨V, rfl, rfl, j.next hn1 hn2 ok hc ch2 b3 b4 b5⟩

set_option maxHeartbeats 4000000 in
set_option maxRecDepth 100000 in
theorem kd_errorAt (O : ∀ (h : AH) (s : ST) (bk dr : Nat), Jd h s bk dr → OpD (Value.int) G mX10_errorAt mX12_errorAt d2 [some (.ref 0)] [some (.ref 216)] h s) : Kc_errorAt G d2 0 216 269 J n := by
  intro h hj
  obtain ⟨s, bk, dr, j, hn1, hn2⟩ := hj
  obtain ⟨V, s', bk', dr', ok, k, mo⟩ := O h s bk dr j
  refine ⟨⟨_, j.poll⟩, k.imp (fun o h1 q => ?_)⟩
  obtain ⟨rfl, hc, ch0⟩ := q
  have ch : Ch h h1 0 216 1 6 := ch0.sub (Nat.le_refl _) (Nat.le_refl _) (by decide) (by decide)
  have ch2 := ch
  obtain ⟨f9, j9⟩ := j.2.2.2.2
  have l9 := j9.1
  obtain ⟨a1, a2, a3, a4, a5⟩ := ch
  have m1 := j.2.2.1.keep (h' := h1) a1 (a5.sub (by omega) (by omega))
  have t1 := j.2.2.2.1.keep (h' := h1) a1 (a5.sub (by omega) (by omega))
  obtain ⟨th, tk, iw, er, et, dp, nm, am⟩ := m1.1
  refine ⟨V, rfl, ⟨_, am⟩, (mo h1 m1 t1).imp (fun o2 h2 q2 => ?_)⟩
  obtain ⟨rfl, b3, b4, b5⟩ := q2
  exact ⟨V, rfl, rfl, j.next hn1 hn2 ok hc ch2 b3 b4 b5⟩

set_option maxHeartbeats 4000000 in
set_option maxRecDepth 100000 in
theorem kd_labels (O : ∀ (h : AH) (s : ST) (bk dr : Nat), Jd h s bk dr → OpD (Value.int) G mX10_labels mX12_labels d2 [some (.ref 0)] [some (.ref 216)] h s) : Kc_labels G d2 0 216 269 J n := by
  intro h hj
  obtain ⟨s, bk, dr, j, hn1, hn2⟩ := hj
  obtain ⟨V, s', bk', dr', ok, k, mo⟩ := O h s bk dr j
  refine ⟨⟨_, j.poll⟩, k.imp (fun o h1 q => ?_)⟩
  obtain ⟨rfl, hc, ch0⟩ := q
  have ch : Ch h h1 0 216 1 6 := ch0.sub (Nat.le_refl _) (Nat.le_refl _) (by decide) (by decide)
  have ch2 := ch
  obtain ⟨f9, j9⟩ := j.2.2.2.2
  have l9 := j9.1
  obtain ⟨a1, a2, a3, a4, a5⟩ := ch
  have m1 := j.2.2.1.keep (h' := h1) a1 (a5.sub (by omega) (by omega))
  have t1 := j.2.2.2.1.keep (h' := h1) a1 (a5.sub (by omega) (by omega))
  obtain ⟨th, tk, iw, er, et, dp, nm, am⟩ := m1.1
  refine ⟨V, rfl, ⟨_, am⟩, (mo h1 m1 t1).imp (fun o2 h2 q2 => ?_)⟩
  obtain ⟨rfl, b3, b4, b5⟩ := q2
  exact ⟨V, rfl, rfl, j.next hn1 hn2 ok hc ch2 b3 b4 b5⟩

set_option maxHeartbeats 4000000 in
set_option maxRecDepth 100000 in
theorem kd_jars (O : ∀ (h : AH) (s : ST) (bk dr : Nat), Jd h s bk dr → OpD (Value.int) G mX10_jars mX12_jars d2 [some (.ref 0)] [some (.ref 216)] h s) : Kc_jars G d2 0 216 269 J n := by
  intro h hj
  obtain ⟨s, bk, dr, j, hn1, hn2⟩ := hj
  obtain ⟨V, s', bk', dr', ok, k, mo⟩ := O h s bk dr j
  refine ⟨⟨_, j.poll⟩, k.imp (fun o h1 q => ?_)⟩
  obtain ⟨rfl, hc, ch0⟩ := q
  have ch : Ch h h1 0 216 1 6 := ch0.sub (Nat.le_refl _) (Nat.le_refl _) (by decide) (by decide)
  have ch2 := ch
  obtain ⟨f9, j9⟩ := j.2.2.2.2
  have l9 := j9.1
  obtain ⟨a1, a2, a3, a4, a5⟩ := ch
  have m1 := j.2.2.1.keep (h' := h1) a1 (a5.sub (by omega) (by omega))
  have t1 := j.2.2.2.1.keep (h' := h1) a1 (a5.sub (by omega) (by omega))
  obtain ⟨th, tk, iw, er, et, dp, nm, am⟩ := m1.1
  refine ⟨V, rfl, ⟨_, am⟩, (mo h1 m1 t1).imp (fun o2 h2 q2 => ?_)⟩
  obtain ⟨rfl, b3, b4, b5⟩ := q2
  exact ⟨V, rfl, rfl, j.next hn1 hn2 ok hc ch2 b3 b4 b5⟩

set_option maxHeartbeats 4000000 in
set_option maxRecDepth 100000 in
theorem kd_lids (O : ∀ (h : AH) (s : ST) (bk dr : Nat), Jd h s bk dr → OpD (Value.int) G mX10_lids mX12_lids d2 [some (.ref 0)] [some (.ref 216)] h s) : Kc_lids G d2 0 216 269 J n := by
  intro h hj
  obtain ⟨s, bk, dr, j, hn1, hn2⟩ := hj
  obtain ⟨V, s', bk', dr', ok, k, mo⟩ := O h s bk dr j
  refine ⟨⟨_, j.poll⟩, k.imp (fun o h1 q => ?_)⟩
  obtain ⟨rfl, hc, ch0⟩ := q
  have ch : Ch h h1 0 216 1 6 := ch0.sub (Nat.le_refl _) (Nat.le_refl _) (by decide) (by decide)
  have ch2 := ch
  obtain ⟨f9, j9⟩ := j.2.2.2.2
  have l9 := j9.1
  obtain ⟨a1, a2, a3, a4, a5⟩ := ch
  have m1 := j.2.2.1.keep (h' := h1) a1 (a5.sub (by omega) (by omega))
  have t1 := j.2.2.2.1.keep (h' := h1) a1 (a5.sub (by omega) (by omega))
  obtain ⟨th, tk, iw, er, et, dp, nm, am⟩ := m1.1
  refine ⟨V, rfl, ⟨_, am⟩, (mo h1 m1 t1).imp (fun o2 h2 q2 => ?_)⟩
  obtain ⟨rfl, b3, b4, b5⟩ := q2
  exact ⟨V, rfl, rfl, j.next hn1 hn2 ok hc ch2 b3 b4 b5⟩

set_option maxHeartbeats 4000000 in
set_option maxRecDepth 100000 in
theorem kd_days (O : ∀ (h : AH) (s : ST) (bk dr : Nat), Jd h s bk dr → OpD (Value.int) G mX10_days mX12_days d2 [some (.ref 0)] [some (.ref 216)] h s) : Kc_days G d2 0 216 269 J n := by
  intro h hj
  obtain ⟨s, bk, dr, j, hn1, hn2⟩ := hj
  obtain ⟨V, s', bk', dr', ok, k, mo⟩ := O h s bk dr j
  refine ⟨⟨_, j.poll⟩, k.imp (fun o h1 q => ?_)⟩
  obtain ⟨rfl, hc, ch0⟩ := q
  have ch : Ch h h1 0 216 1 6 := ch0.sub (Nat.le_refl _) (Nat.le_refl _) (by decide) (by decide)
  have ch2 := ch
  obtain ⟨f9, j9⟩ := j.2.2.2.2
  have l9 := j9.1
  obtain ⟨a1, a2, a3, a4, a5⟩ := ch
  have m1 := j.2.2.1.keep (h' := h1) a1 (a5.sub (by omega) (by omega))
  have t1 := j.2.2.2.1.keep (h' := h1) a1 (a5.sub (by omega) (by omega))
  obtain ⟨th, tk, iw, er, et, dp, nm, am⟩ := m1.1
  refine ⟨V, rfl, ⟨_, am⟩, (mo h1 m1 t1).imp (fun o2 h2 q2 => ?_)⟩
  obtain ⟨rfl, b3, b4, b5⟩ := q2
  exact ⟨V, rfl, rfl, j.next hn1 hn2 ok hc ch2 b3 b4 b5⟩

set_option maxHeartbeats 4000000 in
set_option maxRecDepth 100000 in
theorem kd_alliances (O : ∀ (h : AH) (s : ST) (bk dr : Nat), Jd h s bk dr → OpD (Value.int) G mX10_alliances mX12_alliances d2 [some (.ref 0), none, none] [some (.ref 216)] h s) : Kc_alliances G d2 0 216 269 J n := by
  intro h hj
  obtain ⟨s, bk, dr, j, hn1, hn2⟩ := hj
  obtain ⟨V, s', bk', dr', ok, k, mo⟩ := O h s bk dr j
  refine ⟨⟨_, j.poll⟩, k.imp (fun o h1 q => ?_)⟩
  obtain ⟨rfl, hc, ch0⟩ := q
  have ch : Ch h h1 0 216 1 6 := ch0.sub (Nat.le_refl _) (Nat.le_refl _) (by decide) (by decide)
  have ch2 := ch
  obtain ⟨f9, j9⟩ := j.2.2.2.2
  have l9 := j9.1
  obtain ⟨a1, a2, a3, a4, a5⟩ := ch
  have m1 := j.2.2.1.keep (h' := h1) a1 (a5.sub (by omega) (by omega))
  have t1 := j.2.2.2.1.keep (h' := h1) a1 (a5.sub (by omega) (by omega))
  obtain ⟨th, tk, iw, er, et, dp, nm, am⟩ := m1.1
  refine ⟨V, rfl, ⟨_, am⟩, (mo h1 m1 t1).imp (fun o2 h2 q2 => ?_)⟩
  obtain ⟨rfl, b3, b4, b5⟩ := q2
  exact ⟨V, rfl, rfl, j.next hn1 hn2 ok hc ch2 b3 b4 b5⟩

set_option maxHeartbeats 4000000 in
set_option maxRecDepth 100000 in
theorem kd_leading (O : ∀ (h : AH) (s : ST) (bk dr : Nat), Jd h s bk dr → OpD (Value.int) G mX10_leading mX12_leading d2 [some (.ref 0), none, none, none] [some (.ref 216)] h s) : Kc_leading G d2 0 216 269 J n := by
  intro h hj
  obtain ⟨s, bk, dr, j, hn1, hn2⟩ := hj
  obtain ⟨V, s', bk', dr', ok, k, mo⟩ := O h s bk dr j
  refine ⟨⟨_, j.poll⟩, k.imp (fun o h1 q => ?_)⟩
  obtain ⟨rfl, hc, ch0⟩ := q
  have ch : Ch h h1 0 216 1 6 := ch0.sub (Nat.le_refl _) (Nat.le_refl _) (by decide) (by decide)
  have ch2 := ch
  obtain ⟨f9, j9⟩ := j.2.2.2.2
  have l9 := j9.1
  obtain ⟨a1, a2, a3, a4, a5⟩ := ch
  have m1 := j.2.2.1.keep (h' := h1) a1 (a5.sub (by omega) (by omega))
  have t1 := j.2.2.2.1.keep (h' := h1) a1 (a5.sub (by omega) (by omega))
  obtain ⟨th, tk, iw, er, et, dp, nm, am⟩ := m1.1
  refine ⟨V, rfl, ⟨_, am⟩, (mo h1 m1 t1).imp (fun o2 h2 q2 => ?_)⟩
  obtain ⟨rfl, b3, b4, b5⟩ := q2
  exact ⟨V, rfl, rfl, j.next hn1 hn2 ok hc ch2 b3 b4 b5⟩

set_option maxHeartbeats 4000000 in
set_option maxRecDepth 100000 in
theorem kd_meanMargin (O : ∀ (h : AH) (s : ST) (bk dr : Nat), Jd h s bk dr → OpD (Value.double) G mX10_meanMargin mX12_meanMargin d2 [some (.ref 0), none, none] [some (.ref 216), none, none] h s) : Kc_meanMargin G d2 0 216 269 J n := by
  intro h hj
  obtain ⟨s, bk, dr, j, hn1, hn2⟩ := hj
  obtain ⟨V, s', bk', dr', ok, k, mo⟩ := O h s bk dr j
  refine ⟨⟨_, j.poll⟩, k.imp (fun o h1 q => ?_)⟩
  obtain ⟨rfl, hc, ch0⟩ := q
  have ch : Ch h h1 0 216 1 6 := ch0.sub (Nat.le_refl _) (Nat.le_refl _) (by decide) (by decide)
  have ch2 := ch
  obtain ⟨f9, j9⟩ := j.2.2.2.2
  have l9 := j9.1
  obtain ⟨a1, a2, a3, a4, a5⟩ := ch
  have m1 := j.2.2.1.keep (h' := h1) a1 (a5.sub (by omega) (by omega))
  have t1 := j.2.2.2.1.keep (h' := h1) a1 (a5.sub (by omega) (by omega))
  obtain ⟨th, tk, iw, er, et, dp, nm, am⟩ := m1.1
  refine ⟨V, rfl, ⟨_, am⟩, (mo h1 m1 t1).imp (fun o2 h2 q2 => ?_)⟩
  obtain ⟨rfl, b3, b4, b5⟩ := q2
  exact ⟨V, rfl, rfl, j.next hn1 hn2 ok hc ch2 b3 b4 b5⟩

set_option maxHeartbeats 4000000 in
set_option maxRecDepth 100000 in
theorem kd_digest (O : ∀ (h : AH) (s : ST) (bk dr : Nat), Jd h s bk dr → OpD (Value.long) G mX10_digest mX12_digest d2 [some (.ref 0), none, none, none] [some (.ref 216), none, none, none, none, none, none, none, none, none] h s) : Kc_digest G d2 0 216 269 J n := by
  intro h hj
  obtain ⟨s, bk, dr, j, hn1, hn2⟩ := hj
  obtain ⟨V, s', bk', dr', ok, k, mo⟩ := O h s bk dr j
  refine ⟨⟨_, j.poll⟩, k.imp (fun o h1 q => ?_)⟩
  obtain ⟨rfl, hc, ch0⟩ := q
  have ch : Ch h h1 0 216 1 6 := ch0.sub (Nat.le_refl _) (Nat.le_refl _) (by decide) (by decide)
  have ch2 := ch
  obtain ⟨f9, j9⟩ := j.2.2.2.2
  have l9 := j9.1
  obtain ⟨a1, a2, a3, a4, a5⟩ := ch
  have m1 := j.2.2.1.keep (h' := h1) a1 (a5.sub (by omega) (by omega))
  have t1 := j.2.2.2.1.keep (h' := h1) a1 (a5.sub (by omega) (by omega))
  obtain ⟨th, tk, iw, er, et, dp, nm, am⟩ := m1.1
  refine ⟨V, rfl, ⟨_, am⟩, (mo h1 m1 t1).imp (fun o2 h2 q2 => ?_)⟩
  obtain ⟨rfl, b3, b4, b5⟩ := q2
  exact ⟨V, rfl, rfl, j.next hn1 hn2 ok hc ch2 b3 b4 b5⟩

def B0 : BK := (0, 0, 0, fun _ => 0, fun _ => 0, fun _ => 0, fun _ => (0, 0), 0, (0, fun _ => 0, fun _ => 0, fun _ => 0, fun _ => 0, fun _ => 0), (0, 0, fun _ => 0, fun _ => 0, fun _ => 0, fun _ => (0, 0, 0, 0), fun _ => (0, 0, 0, 0)))
def D0 : DY := (0, fun _ _ => 0, fun _ => 0, fun _ => none)
def S0 : ST := ([], -1, B0, D0)
theorem BDok0 : BDok B0 D0 := by
  refine ⟨by decide, by decide, by decide, fun i hi => ⟨Nat.zero_le _, Nat.zero_lt_succ _⟩, fun i _ _ => ⟨rfl, fun _ _ => rfl⟩, fun _ _ _ _ _ => rfl, fun _ _ => (show su (fun _ => 0) 6 ≤ 1200 from by decide), fun i hi => absurd hi (Nat.not_lt_zero i), fun k j _ e => (nomatch (show (none : Option Nat) = some j from e)), fun _ _ => rfl, ⟨by decide, by decide, by decide, by decide, fun k hk => absurd hk (Nat.not_lt_zero k), fun k hk => absurd hk (Nat.not_lt_zero k), fun k hk => absurd hk (Nat.not_lt_zero k), fun k hk => absurd hk (Nat.not_lt_zero k)⟩, fun i D hi => absurd hi (Nat.not_lt_zero i)⟩
theorem rt0 (k : Nat) : rt (fun _ => none) k = k := rfl
theorem CupZ.R {h : AH} {c : Nat} (a : CupZ h c) : CuR h c B0 D0 := by
  obtain ⟨jf, fo, le, a1, a2, a3, a4, a5, a6, a7, a8⟩ := a
  refine ⟨jf, _, fo, le, a1, a2, a3, a4, a5, a6, fun i hi => rfl, fun i hi => (a7 i hi).1, fun i hi => (a7 i hi).2, fun i hi => ?_⟩
  exact ⟨_, _, _, _, _, _, _, _, a8 i hi, fun k hk => rfl, Or.inl rfl⟩
theorem BookE.R {h : AH} {b : Nat} (q : BookE h b 0 0 0) : BoR h b B0 := by
  obtain ⟨a0, a1, a2, a3, ⟨f4, a4⟩, ⟨f5, a5⟩, ⟨f6, a6⟩, a7, ⟨⟨st, ru, ac, b0⟩, ⟨g1, b1⟩, ⟨g2, b2⟩, ⟨g3, b3⟩, ⟨g4, b4⟩, ⟨g5, b5⟩⟩⟩ := q
  exact ⟨a0, a1, a2, a3, ⟨f4, a4, fun i hi => absurd hi (Nat.not_lt_zero i)⟩, ⟨f5, a5, fun i hi => absurd hi (Nat.not_lt_zero i)⟩, ⟨f6, a6, fun i hi => absurd hi (Nat.not_lt_zero i)⟩, a7, ⟨st, ru, ac, b0, fun z => absurd z (Nat.lt_irrefl 0)⟩, ⟨g1, b1, fun k hk => absurd hk (Nat.not_lt_zero k)⟩, ⟨g2, b2, fun k hk => absurd hk (Nat.not_lt_zero k)⟩, ⟨g3, b3, fun k hk => absurd hk (Nat.not_lt_zero k)⟩, ⟨g4, b4, fun k hk => absurd hk (Nat.not_lt_zero k)⟩, ⟨g5, b5, fun k hk => absurd hk (Nat.not_lt_zero k)⟩⟩
theorem PolE.R {h : AH} {x : Nat} (q : PolE h x (x + 158) (x + 8) 0 0 0 0 (-1)) : ClR h x (x + 158) (x + 8) S0 := by
  obtain ⟨a1, ⟨a2, f, a3⟩, a4, a5, a6, a7, a8, a9⟩ := q
  exact ⟨a1, ⟨a2, by decide, f, a3, fun i hi => absurd hi (Nat.not_lt_zero i)⟩, a4, a5, a6.R, a7, a8, a9.R, Or.inl ⟨rfl, rfl⟩⟩
theorem ModR.R {h : AH} {m : Nat} (a : At h m (ModO m 0 0 (-1) 0 0 0 0 0 0)) (q : ModR h m 0 0 0 0) : MoR h m S0 ∧ ToR h m B0 := by
  obtain ⟨⟨f1, a1⟩, a2, a3, a4, a5, a6, a7, a8, ⟨ru, ac, no, a9⟩, a28, a47, ⟨f, a48, hf⟩, a49, a50, a51, a52⟩ := q
  obtain ⟨f10, b10⟩ := a9.2 0 (by decide)
  obtain ⟨f11, b11⟩ := a9.2 1 (by decide)
  obtain ⟨f14, b14⟩ := a9.2 4 (by decide)
  obtain ⟨f15, b15⟩ := a9.2 5 (by decide)
  obtain ⟨f16, b16⟩ := a9.2 6 (by decide)
  obtain ⟨n7, c7⟩ := a9.2 7 (by decide)
  obtain ⟨n8, c8⟩ := a9.2 8 (by decide)
  obtain ⟨n9, c9⟩ := a9.2 9 (by decide)
  obtain ⟨n10, c10⟩ := a9.2 10 (by decide)
  obtain ⟨n11, c11⟩ := a9.2 11 (by decide)
  obtain ⟨n12, c12⟩ := a9.2 12 (by decide)
  obtain ⟨n13, c13⟩ := a9.2 13 (by decide)
  obtain ⟨n14, c14⟩ := a9.2 14 (by decide)
  obtain ⟨n15, c15⟩ := a9.2 15 (by decide)
  obtain ⟨n16, c16⟩ := a9.2 16 (by decide)
  obtain ⟨n17, c17⟩ := a9.2 17 (by decide)
  exact ⟨⟨⟨_, _, _, _, _, _, _, a⟩, ⟨f1, a1, fun i hi => absurd hi (Nat.not_lt_zero i)⟩, a2, a3, a4, a5, a6, a7, a8, ⟨ru, ac, no, a9.1, a9.2, ⟨n7, c7, fun k hk => absurd hk (Nat.not_lt_zero k)⟩, ⟨n8, c8, fun k hk => absurd hk (Nat.not_lt_zero k)⟩, ⟨n9, c9, fun k hk => absurd hk (Nat.not_lt_zero k)⟩, ⟨n10, c10, fun k hk => absurd hk (Nat.not_lt_zero k)⟩, ⟨n11, c11, fun k hk => absurd hk (Nat.not_lt_zero k)⟩, ⟨n12, c12, fun k hk => absurd hk (Nat.not_lt_zero k)⟩, ⟨n13, c13, fun k hk => absurd hk (Nat.not_lt_zero k)⟩, ⟨n14, c14, fun k hk => absurd hk (Nat.not_lt_zero k)⟩, ⟨n15, c15, fun k hk => absurd hk (Nat.not_lt_zero k)⟩, ⟨n16, c16, fun k hk => absurd hk (Nat.not_lt_zero k)⟩, ⟨n17, c17, fun k hk => absurd hk (Nat.not_lt_zero k)⟩⟩, a28, a47, ⟨f, a48, hf, fun j k hj _ => absurd hj (Nat.not_lt_zero j), fun k hk => absurd hk (Nat.not_lt_zero k), fun k hk => absurd hk (Nat.not_lt_zero k)⟩, a49, a50, a51, a52⟩,
    ⟨f10, b10, fun i hi => absurd hi (Nat.not_lt_zero i)⟩, ⟨f11, b11, fun i hi => absurd hi (Nat.not_lt_zero i)⟩, ⟨f14, b14, fun i hi => absurd hi (Nat.not_lt_zero i)⟩, ⟨f15, b15, fun i hi => absurd hi (Nat.not_lt_zero i)⟩, ⟨f16, b16, fun i hi => absurd hi (Nat.not_lt_zero i)⟩⟩

set_option maxHeartbeats 4000000 in
set_option maxRecDepth 100000 in
theorem law_begin (hg : gN G < 2147483000) (C : ∀ n, 6 * n + 6 ≤ gN G → Kc G 2047 0 216 269 J n) : RQ G mL_law 2048 0 [some (.ref (OLD + 999)), none, none, none, none, none, none, none, none] [] (0, 0, fun _ => .inr (0, [])) (fun o h2 => o = .inl (some (.int (nI 1))) ∧ ∃ n, 6 * n ≤ gN G ∧ J n h2) := by
  refine tL_law_0  (r := ?_)
  refine RQ.refId (k' := 0) rfl ?_
  refine tL_law_3  (r := ?_)
  refine tL_law_4 (hd := (by omega)) (call := s_Poll_init (d := 5) (Nat.le_refl 5) (x := 0) (At.new_eq2 _ _ rfl) rfl) (k := ?_)
  intro h1 hq
  obtain ⟨q1, q2, q3, q4⟩ := hq
  have e1 : h1.1 = 216 := q2
  have e2 : h1.2.1 = 6296 := q3
  refine tL_law_7  (r := ?_)
  refine tL_law_8  (r := ?_)
  refine RQ.refId (k' := 216) e1 ?_
  refine tL_law_11  (r := ?_)
  refine tL_law_12 (hd := (by omega)) (call := s_Model_init (d := 3) (Nat.le_refl 3) (m := 216) (At.new_eq2 _ _ e1.symm) (show h1.1 + 1 = 216 + 1 by omega)) (k := ?_)
  intro h2 hq
  obtain ⟨am, mr, p2, p3, p4⟩ := hq
  have f1 : h2.1 = 269 := p2.trans (by show h1.1 + 1 + 52 = 269; omega)
  have f2 : h2.2.1 = h1.2.1 + 25 + 9944 := p3
  have c1 := q1.R
  have c2 := c1.keep (h' := h2) (by omega) (Un.trans (Un.new (Un.rf _ _ _) (by omega)) p4)
  refine tL_law_15  (r := ?_)
  refine tL_law_16  (r := ?_)
  refine tL_law_17 (hx := (by first | rfl | assumption | exact nI_add _ _)) (hn := (by decide)) (r := ?_)
  refine RQ.refId (k' := 269) f1 ?_
  have g1 : (hnew h2 1 (.inl (2, 1, .inr (.inl fun _ => 0)))).1 = 270 := by show h2.1 + 1 = 270; omega
  refine tL_law_19  (r := ?_)
  refine tL_law_20  (r := ?_)
  refine tL_law_21  (r := ?_)
  obtain ⟨r1, r2⟩ := ModR.R am mr
  refine lc_loop (d2 := 2047) (by omega) (by omega) C (gN G) 0 0 _ _ _ _ _ (by omega) rfl (by omega) ⟨S0, 158, 8, ⟨BDok0, ClR.keep c2 (Nat.le_succ _) (Un.new (Un.rf _ _ _) (by omega)), MoR.keep r1 (Nat.le_succ _) (Un.new (Un.rf _ _ _) (by omega)), ToR.keep r2 (Nat.le_succ _) (Un.new (Un.rf _ _ _) (by omega)), _, At.new_eq2 _ _ f1.symm⟩, by rw [g1]; decide, ?_⟩
  show h2.2.1 + 1 ≤ 17000 + 200 * 0
  omega

end KD
