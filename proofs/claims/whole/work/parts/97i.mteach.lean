/-! the reference begins to be taught -/
section RTI
variable {G : GT} {d : Nat} {h : AH}
theorem NiX.z {a n c : Nat} {f : Nat → Nat} (q : ArI h a n) (e : c = 0) : NiX h a n c f := ⟨q.choose, q.choose_spec, fun k hk => by omega⟩

set_option maxHeartbeats 4000000 in
set_option maxRecDepth 100000 in
theorem s_mbegin {b : Nat} {la ja li ru ac no : Int32} (a0 : At h b (MBoO b la ja li ru ac no)) : RQ G mX11_begin d 0 [some (.ref b)] [] h (Rv fun h1 => At h1 b (MBoO b (nI 0) (nI 0) (nI 0) (nI 0) (nI 0) (nI 0)) ∧ Sm h h1 b (b + 1)) := by
  have z0 := a0.1
  refine tX11_begin_0  (r := ?_)
  refine tX11_begin_1  (r := ?_)
  refine tX11_begin_2 (ha := (by first | assumption | (repeat (first | assumption | exact At.set_eq2 (by first | omega | (simp only [hset, hnew]; omega) | rfl | decide) | exact At.new_eq2 _ _ (by first | omega | (simp only [hset, hnew]; omega) | rfl | decide) | refine At.set_ne ?_ (by first | omega | (simp only [hset, hnew]; omega) | rfl | decide) | refine At.new_ne ?_)))) (hlen := rfl) (r := ?_)
  refine tX11_begin_5  (r := ?_)
  refine tX11_begin_6  (r := ?_)
  refine tX11_begin_7 (ha := (by first | assumption | (repeat (first | assumption | exact At.set_eq2 (by first | omega | (simp only [hset, hnew]; omega) | rfl | decide) | exact At.new_eq2 _ _ (by first | omega | (simp only [hset, hnew]; omega) | rfl | decide) | refine At.set_ne ?_ (by first | omega | (simp only [hset, hnew]; omega) | rfl | decide) | refine At.new_ne ?_)))) (hlen := rfl) (r := ?_)
  refine tX11_begin_10  (r := ?_)
  refine tX11_begin_11  (r := ?_)
  refine tX11_begin_12 (ha := (by first | assumption | (repeat (first | assumption | exact At.set_eq2 (by first | omega | (simp only [hset, hnew]; omega) | rfl | decide) | exact At.new_eq2 _ _ (by first | omega | (simp only [hset, hnew]; omega) | rfl | decide) | refine At.set_ne ?_ (by first | omega | (simp only [hset, hnew]; omega) | rfl | decide) | refine At.new_ne ?_)))) (hlen := rfl) (r := ?_)
  refine tX11_begin_15  (r := ?_)
  refine tX11_begin_16  (r := ?_)
  refine tX11_begin_17 (ha := (by first | assumption | (repeat (first | assumption | exact At.set_eq2 (by first | omega | (simp only [hset, hnew]; omega) | rfl | decide) | exact At.new_eq2 _ _ (by first | omega | (simp only [hset, hnew]; omega) | rfl | decide) | refine At.set_ne ?_ (by first | omega | (simp only [hset, hnew]; omega) | rfl | decide) | refine At.new_ne ?_)))) (hlen := rfl) (r := ?_)
  refine tX11_begin_20  (r := ?_)
  refine tX11_begin_21  (r := ?_)
  refine tX11_begin_22 (ha := (by first | assumption | (repeat (first | assumption | exact At.set_eq2 (by first | omega | (simp only [hset, hnew]; omega) | rfl | decide) | exact At.new_eq2 _ _ (by first | omega | (simp only [hset, hnew]; omega) | rfl | decide) | refine At.set_ne ?_ (by first | omega | (simp only [hset, hnew]; omega) | rfl | decide) | refine At.new_ne ?_)))) (hlen := rfl) (r := ?_)
  refine tX11_begin_25  (r := ?_)
  refine tX11_begin_26  (r := ?_)
  refine tX11_begin_27 (ha := (by first | assumption | (repeat (first | assumption | exact At.set_eq2 (by first | omega | (simp only [hset, hnew]; omega) | rfl | decide) | exact At.new_eq2 _ _ (by first | omega | (simp only [hset, hnew]; omega) | rfl | decide) | refine At.set_ne ?_ (by first | omega | (simp only [hset, hnew]; omega) | rfl | decide) | refine At.new_ne ?_)))) (hlen := rfl) (r := ?_)
  refine tX11_begin_30  (hP := ?_)
  refine RvS (h := h) (lo := b) (hi := b + 1) (((((((Sm.rf h b (b + 1)).set (by omega) (by omega)).set (by omega) (by omega)).set (by omega) (by omega)).set (by omega) (by omega)).set (by omega) (by omega)).set (by omega) (by omega)) (fun sm => ⟨At.set_eq2 z0, sm⟩)

/-- what changes until lines are read -/
def FrM (h h1 : AH) : Prop := h1.1 = h.1 ∧ h1.2.1 = h.2.1 ∧ ∀ i, i < h.1 → i ≠ 216 → i ≠ 216 + 28 → (i < 216 + 2 ∨ 216 + 6 ≤ i) → h1.2.2 i = h.2.2 i

set_option maxHeartbeats 4000000 in
set_option maxRecDepth 100000 in
theorem s_mt0 (hd : 1010 ≤ d) {s : ST} {w te tn ae O : Nat → Nat} (c : MoR h 216 s) (l16 : s.1.length ≤ 1600) (hT : ∀ i, i < s.1.length → s.1.getD i 0 < 256) {P : OC → AH → Prop} (kk : ∀ H h1 g1 no1 (s1 : PST), FrM h H → RlM H h1 216 (tkK s.1) s.1 (lnK s.1) s1 g1 no1 → s1 = lsP (tkK s.1) 400 (0, 0, 0, dfZ w te tn ae O) → RQ G mX12_teach d 75 [some (.ref 216)] [] h1 P) : RQ G mX12_teach d 0 [some (.ref 216)] [] h P := by
  obtain ⟨⟨th, tk, iw, er, et, dp, nm, a0⟩, ⟨f1, a1, c1⟩, ⟨f2, a2⟩, ⟨f3, a3⟩, ⟨f4, a4⟩, ⟨f5, a5⟩, ⟨f6, a6⟩, ⟨f7, a7⟩, ⟨f8, a8⟩, -, ⟨la, ja, li, ru, ac, no, b0, bf⟩, -⟩ := id c
  have z0 := a0.1
  refine tX12_teach_0  (r := ?_)
  refine tX12_teach_1  (r := ?_)
  refine tX12_teach_2 (ha := (by first | assumption | (repeat (first | assumption | exact At.set_eq2 (by first | omega | (simp only [hset, hnew]; omega) | rfl | decide) | exact At.new_eq2 _ _ (by first | omega | (simp only [hset, hnew]; omega) | rfl | decide) | refine At.set_ne ?_ (by first | omega | (simp only [hset, hnew]; omega) | rfl | decide) | refine At.new_ne ?_)))) (hlen := rfl) (r := ?_)
  refine tX12_teach_5  (r := ?_)
  refine tX12_teach_6  (r := ?_)
  refine tX12_teach_7 (ha := (by first | assumption | (repeat (first | assumption | exact At.set_eq2 (by first | omega | (simp only [hset, hnew]; omega) | rfl | decide) | exact At.new_eq2 _ _ (by first | omega | (simp only [hset, hnew]; omega) | rfl | decide) | refine At.set_ne ?_ (by first | omega | (simp only [hset, hnew]; omega) | rfl | decide) | refine At.new_ne ?_)))) (hlen := rfl) (r := ?_)
  refine tX12_teach_10  (r := ?_)
  refine tX12_teach_11  (r := ?_)
  refine tX12_teach_12 (ha := (by first | assumption | (repeat (first | assumption | exact At.set_eq2 (by first | omega | (simp only [hset, hnew]; omega) | rfl | decide) | exact At.new_eq2 _ _ (by first | omega | (simp only [hset, hnew]; omega) | rfl | decide) | refine At.set_ne ?_ (by first | omega | (simp only [hset, hnew]; omega) | rfl | decide) | refine At.new_ne ?_)))) (hlen := rfl) (hb := (by first | exact Or.inl rfl | exact Or.inr rfl | assumption)) (r := ?_)
  refine tX12_teach_15  (r := ?_)
  refine tX12_teach_16  (r := ?_)
  refine tX12_teach_17 (ha := (by first | assumption | (repeat (first | assumption | exact At.set_eq2 (by first | omega | (simp only [hset, hnew]; omega) | rfl | decide) | exact At.new_eq2 _ _ (by first | omega | (simp only [hset, hnew]; omega) | rfl | decide) | refine At.set_ne ?_ (by first | omega | (simp only [hset, hnew]; omega) | rfl | decide) | refine At.new_ne ?_)))) (hlen := rfl) (r := ?_)
  refine tX12_teach_20  (r := ?_)
  refine tX12_teach_21  (r := ?_)
  refine tX12_teach_22 (ha := (by first | assumption | (repeat (first | assumption | exact At.set_eq2 (by first | omega | (simp only [hset, hnew]; omega) | rfl | decide) | exact At.new_eq2 _ _ (by first | omega | (simp only [hset, hnew]; omega) | rfl | decide) | refine At.set_ne ?_ (by first | omega | (simp only [hset, hnew]; omega) | rfl | decide) | refine At.new_ne ?_)))) (hlen := rfl) (r := ?_)
  refine tX12_teach_25  (r := ?_)
  refine tX12_teach_26  (r := ?_)
  refine tX12_teach_27 (ha := (by first | assumption | (repeat (first | assumption | exact At.set_eq2 (by first | omega | (simp only [hset, hnew]; omega) | rfl | decide) | exact At.new_eq2 _ _ (by first | omega | (simp only [hset, hnew]; omega) | rfl | decide) | refine At.set_ne ?_ (by first | omega | (simp only [hset, hnew]; omega) | rfl | decide) | refine At.new_ne ?_)))) (hlen := rfl) (r := ?_)
  refine RQ.gen (fun H => At H 216 (ModO 216 0 (nI s.1.length) s.2.1 0 0 0 et 0 0) ∧ Sm h H 216 217) ⟨At.set_eq2 z0, ((((((Sm.rf h 216 217).set (by omega) (by omega)).set (by omega) (by omega)).set (by omega) (by omega)).set (by omega) (by omega)).set (by omega) (by omega)).set (by omega) (by omega)⟩ (fun H hq => ?_)
  obtain ⟨x0, smA⟩ := hq
  have y0 := smA.at b0 (by omega)
  refine tX12_teach_30  (r := ?_)
  refine tX12_teach_31 (ha := (by first | assumption | (repeat (first | assumption | exact At.set_eq2 (by first | omega | (simp only [hset, hnew]; omega) | rfl | decide) | exact At.new_eq2 _ _ (by first | omega | (simp only [hset, hnew]; omega) | rfl | decide) | refine At.set_ne ?_ (by first | omega | (simp only [hset, hnew]; omega) | rfl | decide) | refine At.new_ne ?_)))) (hv := rfl) (r := ?_)
  refine tX12_teach_34 (hd := (by omega)) (ha := (by first | assumption | (repeat (first | assumption | exact At.set_eq2 (by first | omega | (simp only [hset, hnew]; omega) | rfl | decide) | exact At.new_eq2 _ _ (by first | omega | (simp only [hset, hnew]; omega) | rfl | decide) | refine At.set_ne ?_ (by first | omega | (simp only [hset, hnew]; omega) | rfl | decide) | refine At.new_ne ?_)))) (call := s_mbegin (d := 1000) y0) (k := ?_)
  intro H2 q2
  obtain ⟨y2, smB⟩ := q2
  have x2 := smB.at x0 (by omega)
  have tp : TpM H2 216 s.1 := ⟨⟨_, _, _, _, _, _, _, _, x2⟩, ⟨f1, smB.at (smA.at a1 (by omega)) (by omega), c1⟩, l16, hT⟩
  refine tX12_teach_37  (r := ?_)
  refine tX12_teach_38 (hd := (by omega)) (ha := (by first | assumption | (repeat (first | assumption | exact At.set_eq2 (by first | omega | (simp only [hset, hnew]; omega) | rfl | decide) | exact At.new_eq2 _ _ (by first | omega | (simp only [hset, hnew]; omega) | rfl | decide) | refine At.set_ne ?_ (by first | omega | (simp only [hset, hnew]; omega) | rfl | decide) | refine At.new_ne ?_)))) (call := s_readAll (d := 1000) (by decide) tp (smB.at (smA.at a2 (by omega)) (by omega)) (smB.at (smA.at a3 (by omega)) (by omega)) (smB.at (smA.at a4 (by omega)) (by omega)) (smB.at (smA.at a5 (by omega)) (by omega))) (k := ?_)
  intro H3 q3
  obtain ⟨tk3, smC⟩ := q3
  have x3 := smC.at x2 (by omega)
  have y3 := smC.at y2 (by omega)
  have bH : ∀ k, k < 18 → ArI H3 (216 + 28 + 1 + k) (mbLen k) := fun k hk => (((bf k hk).sm smA (by omega)).sm smB (by omega)).sm smC (by omega)
  have n6 := smC.at (smB.at (smA.at a6 (by omega)) (by omega)) (by omega)
  have n7 := smC.at (smB.at (smA.at a7 (by omega)) (by omega)) (by omega)
  have n8 := smC.at (smB.at (smA.at a8 (by omega)) (by omega)) (by omega)
  have fr : FrM h H3 := ⟨smC.1.trans (smB.1.trans smA.1), smC.2.1.trans (smB.2.1.trans smA.2.1), fun i y1 y2 y3 y4 => by
    have e1 : H.2.2 i = h.2.2 i := by
      by_cases q : i < 216
      · exact smA.2.2.1 i (Nat.zero_le _) q
      · exact smA.2.2.2 i (by omega) y1
    have e2 : H2.2.2 i = H.2.2 i := by
      by_cases q : i < 216 + 28
      · exact smB.2.2.1 i (Nat.zero_le _) q
      · exact smB.2.2.2 i (by omega) (by rw [smA.1]; exact y1)
    have e3 : H3.2.2 i = H2.2.2 i := by
      by_cases q : i < 216 + 2
      · exact smC.2.2.1 i (Nat.zero_le _) q
      · exact smC.2.2.2 i (by omega) (by rw [smB.1, smA.1]; exact y1)
    exact e3.trans (e2.trans e1)⟩
  have k0 := tk3.2.2.2.2.2.1
  have rx : RxM H3 H3 216 (tkK s.1) s.1 (lnK s.1) ((0, 0, 0, dfZ w te tn ae O) : PST) 0 (0, 0, 0, 0, 0, 0) 0 := ⟨⟨0, nI s.1.length, (s.2.1, et), x3⟩, y3, NiX.z (bH 15 (by decide)) rfl, NiX.z (bH 16 (by decide)) rfl, NiX.z (bH 17 (by decide)) rfl, fun _ => rfl, Nat.zero_le _, k0, Nat.zero_le _, k0, Nat.zero_le _, Ux.rf _ _, tk3, f6, f7, f8, fun _ => 0, n6, n7, n8, Nat.zero_le _, fun k hk => absurd hk (Nat.not_lt_zero k), fun _ => ⟨fun _ => 0, fun _ => 0, fun k hk => absurd hk (Nat.not_lt_zero k), rfl, fun k hk => absurd hk (Nat.not_lt_zero k), fun k hk => absurd hk (Nat.not_lt_zero k), fun k hk => absurd hk (Nat.not_lt_zero k), fun k hk => absurd hk (Nat.not_lt_zero k), fun k _ hk => absurd hk (Nat.not_lt_zero k)⟩⟩
  have ax : AcX H3 216 ((0, 0, 0, dfZ w te tn ae O) : PST) 0 := ⟨NiX.z (bH 11 (by decide)) rfl, ⟨_, (bH 12 (by decide)).choose_spec, fun k hk => absurd hk (Nat.not_lt_zero k)⟩, ⟨_, (bH 13 (by decide)).choose_spec, fun k hk => absurd hk (Nat.not_lt_zero k)⟩, ⟨_, (bH 14 (by decide)).choose_spec, fun k hk => absurd hk (Nat.not_lt_zero k)⟩⟩
  have ru : RuX H3 216 ((0, 0, 0, dfZ w te tn ae O) : PST) 0 := ⟨NiX.z (bH 7 (by decide)) rfl, NiX.z (bH 8 (by decide)) rfl, NiX.z (bH 9 (by decide)) rfl, NiX.z (bH 10 (by decide)) rfl⟩
  have ln : LnX H3 216 ((0, 0, 0, dfZ w te tn ae O) : PST) 0 0 := ⟨NiX.z (bH 0 (by decide)) rfl, NiX.z (bH 1 (by decide)) rfl, ⟨_, (bH 2 (by decide)).choose_spec, fun j k hk => absurd hk (Nat.not_lt_zero j)⟩, NiX.z (bH 3 (by decide)) rfl, NiX.z (bH 4 (by decide)) rfl, NiX.z (bH 5 (by decide)) rfl, NiX.z (bH 6 (by decide)) rfl⟩
  have rl : RlM H3 H3 216 (tkK s.1) s.1 (lnK s.1) ((0, 0, 0, dfZ w te tn ae O) : PST) (0, 0, 0, 0, 0, 0) 0 := ⟨⟨⟨rx, ax, fun _ => rfl, Nat.zero_le _, Uy.rf _ _ _⟩, ru, fun _ => rfl, Nat.zero_le _, Uy.rf _ _ _⟩, ln, fun _ => ⟨rfl, rfl, rfl⟩, Nat.zero_le _, Nat.zero_le _, Nat.zero_le _, Kp.rf _ _ _⟩
  exact s_mlines (h0 := H3) (t := (0, 0, 0, dfZ w te tn ae O)) (by omega) (fun h1 g1 no1 s1 rl1 es _ => kk H3 h1 g1 no1 s1 fr rl1 es) 400 H3 (0, 0, 0, dfZ w te tn ae O) (0, 0, 0, 0, 0, 0) 0 rfl (fun _ => show 800 ≤ 2 * 400 + 0 by decide) (fun _ _ _ _ => rfl) rl

end RTI
