/-! the reference's lines: a jar's line as a whole -/
section RMT
variable {G : GT} {d : Nat} {h0 h h1 hA : AH} {m : Nat} {K : TKS} {T : List Nat} {L : Nat → Nat} {s s1 t a b c : PST} {dp : Nat} {g g1 : GCT} {no no1 : Nat} {P : OC → AH → Prop}
theorem NiX.add {h : AH} {a n c : Nat} {f0 : Nat → Int32} {f : Nat → Nat} {v : Int32} {k z w : Nat} {s s' : PST} (c1 : ∀ j, j < okc s k → f0 j = nI (f j)) (a1 : At h a (.inl (0, n, .inl (upd f0 z v)))) (es : pEr s' = 0 → pEr s = 0 ∧ z = k ∧ v = nI w ∧ c = k + 1) : NiX h a n (okc s' c) (upN f k w) := by
  refine ⟨_, a1, fun j hj => ?_⟩
  by_cases q : pEr s' = 0
  · obtain ⟨e1, e2, e3, e4⟩ := es q
    have e5 : okc s' c = k + 1 := by
      unfold okc
      rw [if_pos q, e4]
    have e6 : okc s k = k := if_pos e1
    rw [e5] at hj
    rw [e6] at c1
    show (if j = z then v else f0 j) = nI (if j = k then w else f j)
    rw [e2, e3]
    by_cases y : j = k
    · rw [if_pos y, if_pos y]
    · rw [if_neg y, if_neg y]
      exact c1 j (by omega)
  · exact absurd hj (okc_0 q)

set_option maxHeartbeats 4000000 in
set_option maxRecDepth 100000 in
theorem s_mjarl (hd : 60 ≤ d) (rl : RlM h0 hA m K T L s g no) (rx : RxM h h m K T L (tkP K 1 s) 0 g no) (kA : Kp hA h m (fun _ => False)) (ek : kdP K s = 1) (hz : pEr s = 0 → ∀ l, dfE (pDf s) (bJa (pBk s)) l = 0) : RQ G mX12_jar d 0 [some (.ref m), none, none] [] h (Rv fun h1 => ∃ g1 no1, RlM h0 h1 m K T L (jlP K s) g1 no1) := by
  obtain ⟨rr, ⟨⟨f1, a1, c1⟩, ⟨f2, a2, c2⟩, ⟨f3, a3, c3⟩, l4, l5, l6, l7⟩, hg, g6, g8, gi6, kp0⟩ := id rl
  have ln4 := rl.2.1
  have pb : pBk (tkP K 1 s) = pBk s := congrArg (fun d : DRF => d.1) tk_df
  have hk8 : (min 8 g.2.1) ≤ 8 := Nat.min_le_left _ _
  refine s_mj0 (f := decide (8 ≤ bJa (pBk (tkP K 1 s)))) (by omega) rx g8 (fun z => ?_) (fun h1 nm1 rx1_ kp1 => ?_)
  · obtain ⟨y1, y2, y3⟩ := hg (tkP_er z).1
    rw [pb]
    exact ⟨y2, rfl, fun q => by omega⟩
  have rx1 : RxM h1 h1 m K T L (j1P K s) 0 (gNm g nm1) no := rx1_
  have kB := kA.trans kp1
  have q1 := kB.2.2 _ _ a1 (by omega) (by omega) (by omega) (by omega) (fun z => z)
  have q2 := kB.2.2 _ _ a2 (by omega) (by omega) (by omega) (by omega) (fun z => z)
  have q3 := kB.2.2 _ _ a3 (by omega) (by omega) (by omega) (by omega) (fun z => z)
  refine s_mj20 (by omega) rx1 hk8 q1 (fun h2 v1 rx2 y1 hv1 kp2 => ?_)
  refine s_mj41 (by omega) rx2 hk8 (kp2.2.2 _ _ q2 (by omega) (by omega) (by omega) (by omega) (by omega)) (fun h3 v2 rx3_ y2 hv2 kp3 => ?_)
  have EQ3 : Eqv (tkP K 4 (tkP K (wyW (kdP K (j2P K (j1P K s)))) (j2P K (j1P K s)))) (j3P K (vaP K (j1P K s)) (j2P K (j1P K s))) := Eqv.tk (Eqv.se _).symm
  have rx3 := rx3_.eqv EQ3
  have kC : Kp h1 h3 m (fun i => i = m + 28 + 1 ∨ i = m + 28 + 2) := (kp2.mono (fun i e => Or.inl e)).trans (kp3.mono (fun i e => Or.inr e))
  have z1 := kp3.2.2 _ _ y1 (by omega) (by omega) (by omega) (by omega) (by omega)
  have z3 := kC.2.2 _ _ q3 (by omega) (by omega) (by omega) (by omega) (by omega)
  refine tX12_jar_107 (r := ?_)
  refine tX12_jar_108 (r := ?_)
  refine s_mj109 (h0 := h3) (by omega) hk8 (fb := f3) (fun h4 f4 rx4 ab4 hz4 ho4 kp4 => ?_) 6 0 h3 f3 (by omega) (by omega) rx3 z3 (fun l hl => absurd hl (Nat.not_lt_zero l)) (fun _ _ => rfl) (Kp.rf _ _ _)
  have hq : pEr (j3P K (vaP K (j1P K s)) (j2P K (j1P K s))) = 0 → g.1 = bLa (pBk (j3P K (vaP K (j1P K s)) (j2P K (j1P K s)))) ∧ bJa (pBk (j3P K (vaP K (j1P K s)) (j2P K (j1P K s)))) = (min 8 g.2.1) + 1 ∧ pEr s = 0 ∧ dfE (pDf (j3P K (vaP K (j1P K s)) (j2P K (j1P K s)))) = dfE (pDf s) ∧ bJa (pBk s) = (min 8 g.2.1) := fun z => by
    obtain ⟨w0, lt, b1, b2, b3⟩ := j3c_0 z
    obtain ⟨u1, u2, u3⟩ := hg w0
    exact ⟨u1.trans b1.symm, by rw [b2]; omega, w0, b3, by omega⟩
  have bn4 : BnM f4 f3 (min 8 g.2.1) (j3P K (vaP K (j1P K s)) (j2P K (j1P K s))) := ⟨fun z l hl => by
    obtain ⟨-, -, w0, w3, w4⟩ := hq z
    rw [hz4 l hl, w3, ← w4, hz w0 l], ho4⟩
  obtain ⟨⟨th4, by4, ea4, p4⟩, pp4, -⟩ := id rx4
  refine tX12_jar_136  (r := ?_)
  refine tX12_jar_137  (r := ?_)
  refine tX12_jar_138  (r := ?_)
  refine tX12_jar_139  (r := ?_)
  refine tX12_jar_140  (r := ?_)
  refine tX12_jar_141 (hd := (by omega)) (ha := (by first | assumption | (repeat (first | assumption | exact At.set_eq2 (by first | omega | (simp only [hset, hnew]; omega) | rfl | decide) | exact At.new_eq2 _ _ (by first | omega | (simp only [hset, hnew]; omega) | rfl | decide) | refine At.set_ne ?_ (by first | omega | (simp only [hset, hnew]; omega) | rfl | decide) | refine At.new_ne ?_)))) (call := s_mhold2 (d := 20) (by decide) rx4 hk8 (l := 0) (by decide) g6 (fun z => ⟨(hq z).1, (hq z).2.1⟩) ab4 bn4) (k := ?_)
  rintro h5 ⟨f5, rx5, ab5, bn5, kp5⟩

  refine s_mj144 (g := (gNm g nm1)) (h0 := h4) (t := hoP K 0 (j3P K (vaP K (j1P K s)) (j2P K (j1P K s)))) (N0 := 399) (by omega) hk8 g6 (fb := f3) (fun h6 s6 f6 x2 rx6 es6 ab6 bn6 kp6 => ?_) 399 0 h5 (hoP K 0 (j3P K (vaP K (j1P K s)) (j2P K (j1P K s)))) f5 rfl (by decide) (fun z => ?_) (fun z => ?_) rx5 ab5 bn5 kp5
  · have e6 : s6 = jlP K s := es6
    subst e6
    obtain ⟨⟨th6, by6, ea6, p6⟩, pp6, -⟩ := id rx6
    have pp6l := pp6.1
    have rx7 := rx6.cnt (g2 := (g.1, min 8 ((min 8 g.2.1) + 1), g.2.2.1, g.2.2.2.1, g.2.2.2.2.1, nm1)) rfl
    refine tX12_jar_165  (r := ?_)
    refine tX12_jar_166 (ha := (by first | assumption | (repeat (first | assumption | exact At.set_eq2 (by first | omega | (simp only [hset, hnew]; omega) | rfl | decide) | exact At.new_eq2 _ _ (by first | omega | (simp only [hset, hnew]; omega) | rfl | decide) | refine At.set_ne ?_ (by first | omega | (simp only [hset, hnew]; omega) | rfl | decide) | refine At.new_ne ?_)))) (hv := rfl) (r := ?_)
    refine tX12_jar_169  (r := ?_)
    refine tX12_jar_171  (r := ?_)
    refine tX12_jar_172  (r := ?_)
    refine tX12_jar_173  (r := ?_)
    rw [nI_add]
    refine tX12_jar_174 (hd := (by omega)) (r := ?_)
    rw [nI_minN (by decide) (by omega)]
    refine tX12_jar_177 (ha := (by first | assumption | (repeat (first | assumption | exact At.set_eq2 (by first | omega | (simp only [hset, hnew]; omega) | rfl | decide) | exact At.new_eq2 _ _ (by first | omega | (simp only [hset, hnew]; omega) | rfl | decide) | refine At.set_ne ?_ (by first | omega | (simp only [hset, hnew]; omega) | rfl | decide) | refine At.new_ne ?_)))) (hlen := rfl) (r := ?_)
    refine tX12_jar_180 (hP := ?_)
    have kD : Kp h1 h6 m (fun i => i = m + 28 + 1 ∨ i = m + 28 + 2 ∨ i = m + 28 + 3) := ((kC.mono (fun i e => by omega)).trans (kp4.mono (fun i e => by omega))).trans (kp6.mono (fun i e => by omega))
    have kE : Kp h3 h6 m (fun i => i = m + 28 + 3) := kp4.trans kp6
    have kF : Kp hA h6 m (fun i => i = m + 28 + 1 ∨ i = m + 28 + 2 ∨ i = m + 28 + 3) := (kB.mono (fun i e => e.elim)).trans kD
    have kG := kF.set (i := m + 28) (c := MBoO (m + 28) (nI g.1) (nI (min 8 ((min 8 g.2.1) + 1))) (nI g.2.2.1) (nI g.2.2.2.1) (nI g.2.2.2.2.1) (nI no)) (Or.inr (Or.inl rfl))
    have x1 := At.set_ne (i := m + 28) (c := MBoO (m + 28) (nI g.1) (nI (min 8 ((min 8 g.2.1) + 1))) (nI g.2.2.1) (nI g.2.2.2.1) (nI g.2.2.2.2.1) (nI no)) (kE.2.2 _ _ z1 (by omega) (by omega) (by omega) (by omega) (by omega)) (by omega)
    have x2_ := At.set_ne (i := m + 28) (c := MBoO (m + 28) (nI g.1) (nI (min 8 ((min 8 g.2.1) + 1))) (nI g.2.2.1) (nI g.2.2.2.1) (nI g.2.2.2.2.1) (nI no)) (kE.2.2 _ _ y2 (by omega) (by omega) (by omega) (by omega) (by omega)) (by omega)
    have x3 := At.set_ne (i := m + 28) (c := MBoO (m + 28) (nI g.1) (nI (min 8 ((min 8 g.2.1) + 1))) (nI g.2.2.1) (nI g.2.2.2.1) (nI g.2.2.2.2.1) (nI no)) ab6 (by omega)
    have F := fun z => jl_0 (K := K) (s := s) z
    have kk_ : pEr (jlP K s) = 0 → (min 8 g.2.1) = bJa (pBk s) ∧ g.2.1 = bJa (pBk s) := fun z => by
      have y0 := (F z).2.1
      have y1 := (hg (F z).1).2.1
      omega
    have keep : ∀ i c, At hA i c → m + 28 + 3 < i → i < m + 28 + 16 → At _ i c := fun i c a e1 e2 => kG.2.2 i c a (by omega) (by omega) (by omega) (by omega) (by omega)
    refine ⟨rfl, _, _, rr.to rx7 (fun i c a e1 e2 => keep i c a (by omega) e2) ⟨rfl, rfl⟩ (fun z => ?_), ⟨?_, ?_, ?_, ?_, ?_, ?_, ?_⟩, fun z => ?_, g6, Nat.min_le_left _ _, gi6, kp0.trans (kG.mono (fun i e => by omega))⟩
    · obtain ⟨y0, -, -, -, -, -, yB, -⟩ := F z
      rw [yB]
      exact ⟨y0, rfl, rfl, rfl, rfl⟩
    · by_cases z : pEr (jlP K s) = 0
      · rw [(F z).2.2.2.2.2.2.1]
        have ek := kk_ z
        rw [ek.2] at c1
        exact NiX.add c1 x1 (fun _ => ⟨(F z).1, ek.1, hv1 (F z).2.2.2.1, by have := (F z).2.1; show min 8 ((min 8 g.2.1) + 1) = _; omega⟩)
      · exact ⟨_, x1, fun j hj => absurd hj (okc_0 z)⟩
    · by_cases z : pEr (jlP K s) = 0
      · rw [(F z).2.2.2.2.2.2.1]
        have ek := kk_ z
        rw [ek.2] at c2
        have hk3 := (F z).2.2.2.2.2.1
        have q := NiX.add (s' := jlP K s) (c := min 8 ((min 8 g.2.1) + 1)) (w := 24 + (kdP K (j2P K (j1P K s)) - 24)) c2 x2_ (fun _ => ⟨(F z).1, ek.1, by rw [hv2 (EQ3.2.1.trans (F z).2.2.2.2.1)]; exact congrArg nI (by omega), by have := (F z).2.1; omega⟩)
        obtain ⟨fq, aq, cq⟩ := q
        refine ⟨fq, aq, fun j hj => (cq j hj).trans (congrArg nI ?_)⟩
        show (if j = bJa (pBk s) then 24 + (kdP K (j2P K (j1P K s)) - 24) else 24 + bWy (pBk s) j) = 24 + (if j = bJa (pBk s) then kdP K (j2P K (j1P K s)) - 24 else bWy (pBk s) j)
        split <;> rfl
      · exact ⟨_, x2_, fun j hj => absurd hj (okc_0 z)⟩
    · refine ⟨f6, x3, fun j l hj hl => ?_⟩
      by_cases z : pEr (jlP K s) = 0
      · have ek := kk_ z
        have hj2 : j < min 8 ((min 8 g.2.1) + 1) := by
          unfold okc at hj
          rw [if_pos z] at hj
          exact hj
        by_cases q : j = (min 8 g.2.1)
        · rw [q]
          exact bn6.1 z l hl
        · rw [bn6.2 _ (by omega), (F z).2.2.2.2.2.2.2.1 j (by omega)]
          refine c3 j l ?_ hl
          unfold okc
          rw [if_pos (F z).1]
          omega
      · exact absurd hj (okc_0 z)
    · exact NiX.same l4 (fun c a => keep _ c a (by omega) (by omega)) (fun z => ⟨(F z).1, by rw [(F z).2.2.2.2.2.2.2.2.1]⟩)
    · exact NiX.same l5 (fun c a => keep _ c a (by omega) (by omega)) (fun z => ⟨(F z).1, by rw [(F z).2.2.2.2.2.2.1]⟩)
    · exact NiX.same l6 (fun c a => keep _ c a (by omega) (by omega)) (fun z => ⟨(F z).1, by rw [(F z).2.2.2.2.2.2.1]⟩)
    · exact NiX.same l7 (fun c a => keep _ c a (by omega) (by omega)) (fun z => ⟨(F z).1, by rw [(F z).2.2.2.2.2.2.1]⟩)
    · obtain ⟨y0, y1, -, -, -, -, yB, -⟩ := F z
      obtain ⟨u1, u2, u3⟩ := hg y0
      rw [yB]
      exact ⟨u1, by show min 8 ((min 8 g.2.1) + 1) = bJa (pBk s) + 1; omega, u3⟩
  · have p0 : pPo (tkP K 1 s) = pPo s + 1 := by rw [(tkP_y (K := K) (s := s) ek (by decide)).1]
    have p1 := j1_po (K := K) (s := s)
    have p2 := j2_po (K := K) (a := j1P K s)
    have p3 := j3_po (K := K) (v := vaP K (j1P K s)) (b := j2P K (j1P K s))
    have p4 := ho_po (K := K) (s := (j3P K (vaP K (j1P K s)) (j2P K (j1P K s)))) (l := 0)
    omega
  · obtain ⟨w1, w2, -⟩ := hq (ho_0 z).1
    rw [ho_B]
    exact ⟨w1, w2⟩


end RMT
