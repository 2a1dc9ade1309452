/-! the reference's rules -/
section RMJ
variable {G : GT} {d : Nat} {h0 h : AH} {m : Nat} {K : TKS} {T : List Nat} {L : Nat → Nat} {s : PST} {dp : Nat} {g : GCT} {no : Nat} {P : OC → AH → Prop}
/-- the rules' rows -/
def RuX (h : AH) (m : Nat) (s : PST) (ru : Nat) : Prop := NiX h (m + 28 + 8) 25 (okc s ru) (fun r => rTf (pBk s) r) ∧ NiX h (m + 28 + 9) 25 (okc s ru) (fun r => rTe (pBk s) r) ∧ NiX h (m + 28 + 10) 25 (okc s ru) (fun r => rFa (pBk s) r) ∧ NiX h (m + 28 + 11) 25 (okc s ru) (fun r => rBa (pBk s) r)
abbrev gRu (g : GCT) (ru : Nat) : GCT := (g.1, g.2.1, g.2.2.1, ru, g.2.2.2.2)
/-- rules are read -/
def RrM (h0 h : AH) (m : Nat) (K : TKS) (T : List Nat) (L : Nat → Nat) (s : PST) (g : GCT) (no : Nat) : Prop := RaM h h m K T L s g no ∧ RuX h m s g.2.2.2.1 ∧ (pEr s = 0 → g.2.2.2.1 = bRs (pBk s)) ∧ g.2.2.2.1 ≤ 24 ∧ Uy h0 h m (m + 28 + 8)
theorem RuX.fin {H : AH} {s' : PST} {ru : Nat} {f1 f2 f3 f4 : Nat → Int32} {x1 x2 x3 x4 : Int32} {x : Nat × Nat × Nat × Nat} (c1 : ∀ k, k < okc s ru → f1 k = nI (rTf (pBk s) k)) (c2 : ∀ k, k < okc s ru → f2 k = nI (rTe (pBk s) k)) (c3 : ∀ k, k < okc s ru → f3 k = nI (rFa (pBk s) k)) (c4 : ∀ k, k < okc s ru → f4 k = nI (rBa (pBk s) k)) (a1 : At H (m + 28 + 8) (.inl (0, 25, .inl (upd f1 ru x1)))) (a2 : At H (m + 28 + 9) (.inl (0, 25, .inl (upd f2 ru x2)))) (a3 : At H (m + 28 + 10) (.inl (0, 25, .inl (upd f3 ru x3)))) (a4 : At H (m + 28 + 11) (.inl (0, 25, .inl (upd f4 ru x4)))) (hs : pEr s' = 0 → pEr s = 0 ∧ ru < 24 ∧ nRu (pBk s') = upN (nRu (pBk s)) ru x ∧ x1 = nI x.1 ∧ x2 = nI x.2.1 ∧ x3 = nI x.2.2.1 ∧ x4 = nI x.2.2.2) : RuX H m s' (min 24 (ru + 1)) := by
  by_cases z : pEr s' = 0
  · obtain ⟨z0, z1, z2, y1, y2, y3, y4⟩ := hs z
    have e1 : okc s' (min 24 (ru + 1)) = ru + 1 := by
      unfold okc
      rw [if_pos z]
      omega
    have e2 : okc s ru = ru := if_pos z0
    rw [e2] at c1 c2 c3 c4
    unfold RuX NiX
    unfold rTf rTe rFa rBa
    unfold rTf at c1
    unfold rTe at c2
    unfold rFa at c3
    unfold rBa at c4
    rw [e1, z2]
    have ue : upN (nRu (pBk s)) ru x ru = x := if_pos rfl
    have un : ∀ k, k ≠ ru → upN (nRu (pBk s)) ru x k = nRu (pBk s) k := fun k hk => if_neg hk
    refine ⟨⟨_, a1, fun k hk => ?_⟩, ⟨_, a2, fun k hk => ?_⟩, ⟨_, a3, fun k hk => ?_⟩, ⟨_, a4, fun k hk => ?_⟩⟩
    · show (if k = ru then x1 else f1 k) = nI (upN (nRu (pBk s)) ru x k).1
      by_cases q : k = ru
      · rw [q, if_pos rfl, ue, y1]
      · rw [if_neg q, un k q]
        exact c1 k (by omega)
    · show (if k = ru then x2 else f2 k) = nI (upN (nRu (pBk s)) ru x k).2.1
      by_cases q : k = ru
      · rw [q, if_pos rfl, ue, y2]
      · rw [if_neg q, un k q]
        exact c2 k (by omega)
    · show (if k = ru then x3 else f3 k) = nI (upN (nRu (pBk s)) ru x k).2.2.1
      by_cases q : k = ru
      · rw [q, if_pos rfl, ue, y3]
      · rw [if_neg q, un k q]
        exact c3 k (by omega)
    · show (if k = ru then x4 else f4 k) = nI (upN (nRu (pBk s)) ru x k).2.2.2
      by_cases q : k = ru
      · rw [q, if_pos rfl, ue, y4]
      · rw [if_neg q, un k q]
        exact c4 k (by omega)
  · exact ⟨⟨_, a1, fun k hk => absurd hk (okc_0 z)⟩, ⟨_, a2, fun k hk => absurd hk (okc_0 z)⟩, ⟨_, a3, fun k hk => absurd hk (okc_0 z)⟩, ⟨_, a4, fun k hk => absurd hk (okc_0 z)⟩⟩

set_option maxHeartbeats 4000000 in
set_option maxRecDepth 100000 in
theorem s_mru30 (hd : 600 ≤ d) {k : Nat} (hk : k ≤ 24) {f1 f2 f3 f4 : Nat → Int32} (rx : RxM h h m K T L s 0 g no) (ax : AcX h m s g.2.2.2.2.1) (r1 : At h (m + 28 + 8) (.inl (0, 25, .inl f1))) (r2 : At h (m + 28 + 9) (.inl (0, 25, .inl f2))) (r3 : At h (m + 28 + 10) (.inl (0, 25, .inl f3))) (r4 : At h (m + 28 + 11) (.inl (0, 25, .inl f4))) (kk : ∀ h1 n1 v, RxM h1 h1 m K T L (tkP K 27 (teP K 6 s).1) 0 g n1 → AcX h1 m (tkP K 27 (teP K 6 s).1) g.2.2.2.2.1 → At h1 (m + 28 + 8) (.inl (0, 25, .inl (upd f1 k (nI no)))) → At h1 (m + 28 + 9) (.inl (0, 25, .inl (upd f2 k v))) → At h1 (m + 28 + 10) (.inl (0, 25, .inl (upd f3 k (nI g.2.2.2.2.1)))) → At h1 (m + 28 + 11) (.inl (0, 25, .inl (f4))) → (pEr (teP K 6 s).1 = 0 → v = nI (teP K 6 s).2) → n1 + pPo s ≤ no + pPo (tkP K 27 (teP K 6 s).1) → Uy h h1 m (m + 28 + 8) → RQ G mX12_rule d 81 [some (.ref m), some (.int (nI k))] [] h1 P) : RQ G mX12_rule d 30 [some (.ref m), some (.int (nI k))] [] h P := by
  obtain ⟨⟨th, by_, ea, a0⟩, a1, -⟩ := id rx
  have z0 := a0.1
  have l1_ := r1.1
  have l2_ := r2.1
  have l3_ := r3.1
  refine tX12_rule_30  (r := ?_)
  refine tX12_rule_31 (ha := (by first | assumption | (repeat (first | assumption | exact At.set_eq2 (by first | omega | (simp only [hset, hnew]; omega) | rfl | decide) | exact At.new_eq2 _ _ (by first | omega | (simp only [hset, hnew]; omega) | rfl | decide) | refine At.set_ne ?_ (by first | omega | (simp only [hset, hnew]; omega) | rfl | decide) | refine At.new_ne ?_)))) (hv := rfl) (r := ?_)
  refine tX12_rule_34 (ha := (by first | assumption | (repeat (first | assumption | exact At.set_eq2 (by first | omega | (simp only [hset, hnew]; omega) | rfl | decide) | exact At.new_eq2 _ _ (by first | omega | (simp only [hset, hnew]; omega) | rfl | decide) | refine At.set_ne ?_ (by first | omega | (simp only [hset, hnew]; omega) | rfl | decide) | refine At.new_ne ?_)))) (hv := rfl) (r := ?_)
  refine tX12_rule_37  (r := ?_)
  refine tX12_rule_38  (r := ?_)
  refine tX12_rule_39 (ha := (by first | assumption | (repeat (first | assumption | exact At.set_eq2 (by first | omega | (simp only [hset, hnew]; omega) | rfl | decide) | exact At.new_eq2 _ _ (by first | omega | (simp only [hset, hnew]; omega) | rfl | decide) | refine At.set_ne ?_ (by first | omega | (simp only [hset, hnew]; omega) | rfl | decide) | refine At.new_ne ?_)))) (hv := rfl) (r := ?_)
  refine tX12_rule_42 (ha := (by first | assumption | (repeat (first | assumption | exact At.set_eq2 (by first | omega | (simp only [hset, hnew]; omega) | rfl | decide) | exact At.new_eq2 _ _ (by first | omega | (simp only [hset, hnew]; omega) | rfl | decide) | refine At.set_ne ?_ (by first | omega | (simp only [hset, hnew]; omega) | rfl | decide) | refine At.new_ne ?_)))) (hv := rfl) (r := ?_)
  refine tX12_rule_45 (ha := (by first | assumption | (repeat (first | assumption | exact At.set_eq2 (by first | omega | (simp only [hset, hnew]; omega) | rfl | decide) | exact At.new_eq2 _ _ (by first | omega | (simp only [hset, hnew]; omega) | rfl | decide) | refine At.set_ne ?_ (by first | omega | (simp only [hset, hnew]; omega) | rfl | decide) | refine At.new_ne ?_)))) (hx := rfl) (hj := (by omega)) (hn := (by decide)) (r := ?_)
  have rxb := rx.out (i := m + 28 + 8) (c := (.inl (0, 25, .inl (upd f1 k (nI no))))) (by omega)
  have q0 : At _ m _ := At.set_ne (i := m + 28 + 8) (c := (.inl (0, 25, .inl (upd f1 k (nI no))))) a0 (by omega)
  have q1 : At _ (m + 28 + 8) _ := At.set_eq2 (h := h) (i := m + 28 + 8) (c := (.inl (0, 25, .inl (upd f1 k (nI no))))) l1_
  have q2 : At _ (m + 28 + 9) _ := At.set_ne (i := m + 28 + 8) (c := (.inl (0, 25, .inl (upd f1 k (nI no))))) r2 (by omega)
  have q3 : At _ (m + 28 + 10) _ := At.set_ne (i := m + 28 + 8) (c := (.inl (0, 25, .inl (upd f1 k (nI no))))) r3 (by omega)
  have q4 : At _ (m + 28 + 11) _ := At.set_ne (i := m + 28 + 8) (c := (.inl (0, 25, .inl (upd f1 k (nI no))))) r4 (by omega)
  have uA := (Uy.rf h m (m + 28 + 8)).set (i := m + 28 + 8) (c := (.inl (0, 25, .inl (upd f1 k (nI no))))) (by omega)
  have axA : AcX _ m s _ := ax.to (h1 := hset h (m + 28 + 8) (.inl (0, 25, .inl (upd f1 k (nI no))))) (fun i c a e1 e2 => At.set_ne a (by omega)) (fun z => ⟨z, rfl⟩)
  refine tX12_rule_46  (r := ?_)
  refine tX12_rule_47 (ha := (by first | assumption | (repeat (first | assumption | exact At.set_eq2 (by first | omega | (simp only [hset, hnew]; omega) | rfl | decide) | exact At.new_eq2 _ _ (by first | omega | (simp only [hset, hnew]; omega) | rfl | decide) | refine At.set_ne ?_ (by first | omega | (simp only [hset, hnew]; omega) | rfl | decide) | refine At.new_ne ?_)))) (hv := rfl) (r := ?_)
  refine tX12_rule_50 (ha := (by first | assumption | (repeat (first | assumption | exact At.set_eq2 (by first | omega | (simp only [hset, hnew]; omega) | rfl | decide) | exact At.new_eq2 _ _ (by first | omega | (simp only [hset, hnew]; omega) | rfl | decide) | refine At.set_ne ?_ (by first | omega | (simp only [hset, hnew]; omega) | rfl | decide) | refine At.new_ne ?_)))) (hv := rfl) (r := ?_)
  refine tX12_rule_53  (r := ?_)
  refine tX12_rule_54  (r := ?_)
  refine tX12_rule_55 (hd := (by omega)) (ha := (by first | assumption | (repeat (first | assumption | exact At.set_eq2 (by first | omega | (simp only [hset, hnew]; omega) | rfl | decide) | exact At.new_eq2 _ _ (by first | omega | (simp only [hset, hnew]; omega) | rfl | decide) | refine At.set_ne ?_ (by first | omega | (simp only [hset, hnew]; omega) | rfl | decide) | refine At.new_ne ?_)))) (call := s_mte 6 0 500 _ _ _ (by decide) (by omega) rxb) (k := ?_)
  rintro v h2 ⟨n2, rx2, hv2, hb2⟩
  obtain ⟨⟨th2, by2, ea2, p2⟩, pp2, -, -, -, -, -, -, -, -, -, u2, -⟩ := id rx2
  have t1 := u2.at q1 (by omega) (by omega) (by omega)
  have t2 := u2.at q2 (by omega) (by omega) (by omega)
  have t3 := u2.at q3 (by omega) (by omega) (by omega)
  have t4 := u2.at q4 (by omega) (by omega) (by omega)
  have l2b := t2.1
  have rxc := rx2.self.out (i := m + 28 + 9) (c := (.inl (0, 25, .inl (upd f2 k v)))) (by omega)
  have y1 : At _ (m + 28 + 8) _ := At.set_ne (i := m + 28 + 9) (c := (.inl (0, 25, .inl (upd f2 k v)))) t1 (by omega)
  have y2 : At _ (m + 28 + 9) _ := At.set_eq2 (h := h2) (i := m + 28 + 9) (c := (.inl (0, 25, .inl (upd f2 k v)))) l2b
  have y3 : At _ (m + 28 + 10) _ := At.set_ne (i := m + 28 + 9) (c := (.inl (0, 25, .inl (upd f2 k v)))) t3 (by omega)
  have y4 : At _ (m + 28 + 11) _ := At.set_ne (i := m + 28 + 9) (c := (.inl (0, 25, .inl (upd f2 k v)))) t4 (by omega)
  have uB := (uA.trans (u2.y (by omega))).set (i := m + 28 + 9) (c := (.inl (0, 25, .inl (upd f2 k v)))) (by omega)
  have axB : AcX _ m (teP K 6 s).1 _ := axA.to (h1 := hset h2 (m + 28 + 9) (.inl (0, 25, .inl (upd f2 k v)))) (fun i c a e1 e2 => At.set_ne (u2.at a (by omega) (by omega) (by omega)) (by omega)) (fun z => ⟨teP_er0 6 _ z, (rs_ac (rs_te 6 s)).1⟩)
  refine tX12_rule_58 (ha := t2) (hx := rfl) (hj := (by omega)) (hn := (by decide)) (r := ?_)
  refine tX12_rule_59  (r := ?_)
  refine tX12_rule_60  (r := ?_)
  refine tX12_rule_62 (hd := (by omega)) (ha := (by first | assumption | (repeat (first | assumption | exact At.set_eq2 (by first | omega | (simp only [hset, hnew]; omega) | rfl | decide) | exact At.new_eq2 _ _ (by first | omega | (simp only [hset, hnew]; omega) | rfl | decide) | refine At.set_ne ?_ (by first | omega | (simp only [hset, hnew]; omega) | rfl | decide) | refine At.new_ne ?_)))) (call := s_mtake (d := 500) (by decide) rxc (k := 27) (by decide)) (k := ?_)
  intro h3 rx3
  obtain ⟨⟨th3, by3, ea3, p3⟩, pp3, -, -, -, -, -, -, -, -, -, u3, -⟩ := id rx3
  have w1 := u3.at y1 (by omega) (by omega) (by omega)
  have w2 := u3.at y2 (by omega) (by omega) (by omega)
  have w3 := u3.at y3 (by omega) (by omega) (by omega)
  have w4 := u3.at y4 (by omega) (by omega) (by omega)
  have l3b := w3.1
  have rxd := rx3.self.out (i := m + 28 + 10) (c := (.inl (0, 25, .inl (upd f3 k (nI g.2.2.2.2.1))))) (by omega)
  have uC := (uB.trans (u3.y (by omega))).set (i := m + 28 + 10) (c := (.inl (0, 25, .inl (upd f3 k (nI g.2.2.2.2.1))))) (by omega)
  have axC : AcX _ m (tkP K 27 (teP K 6 s).1) _ := axB.to (h1 := hset h3 (m + 28 + 10) (.inl (0, 25, .inl (upd f3 k (nI g.2.2.2.2.1))))) (fun i c a e1 e2 => At.set_ne (u3.at a (by omega) (by omega) (by omega)) (by omega)) (fun z => ⟨(tkP_er z).1, (rs_ac rs_tk).1⟩)
  have po := (tkP_po (K := K) (w := 27) (s := (teP K 6 s).1)).1
  refine tX12_rule_65  (r := ?_)
  refine tX12_rule_66 (ha := (by first | assumption | (repeat (first | assumption | exact At.set_eq2 (by first | omega | (simp only [hset, hnew]; omega) | rfl | decide) | exact At.new_eq2 _ _ (by first | omega | (simp only [hset, hnew]; omega) | rfl | decide) | refine At.set_ne ?_ (by first | omega | (simp only [hset, hnew]; omega) | rfl | decide) | refine At.new_ne ?_)))) (hv := rfl) (r := ?_)
  refine tX12_rule_69 (ha := (by first | assumption | (repeat (first | assumption | exact At.set_eq2 (by first | omega | (simp only [hset, hnew]; omega) | rfl | decide) | exact At.new_eq2 _ _ (by first | omega | (simp only [hset, hnew]; omega) | rfl | decide) | refine At.set_ne ?_ (by first | omega | (simp only [hset, hnew]; omega) | rfl | decide) | refine At.new_ne ?_)))) (hv := rfl) (r := ?_)
  refine tX12_rule_72  (r := ?_)
  refine tX12_rule_73  (r := ?_)
  refine tX12_rule_74 (ha := (by first | assumption | (repeat (first | assumption | exact At.set_eq2 (by first | omega | (simp only [hset, hnew]; omega) | rfl | decide) | exact At.new_eq2 _ _ (by first | omega | (simp only [hset, hnew]; omega) | rfl | decide) | refine At.set_ne ?_ (by first | omega | (simp only [hset, hnew]; omega) | rfl | decide) | refine At.new_ne ?_)))) (hv := rfl) (r := ?_)
  refine tX12_rule_77 (ha := (by first | assumption | (repeat (first | assumption | exact At.set_eq2 (by first | omega | (simp only [hset, hnew]; omega) | rfl | decide) | exact At.new_eq2 _ _ (by first | omega | (simp only [hset, hnew]; omega) | rfl | decide) | refine At.set_ne ?_ (by first | omega | (simp only [hset, hnew]; omega) | rfl | decide) | refine At.new_ne ?_)))) (hv := rfl) (r := ?_)
  refine tX12_rule_80 (ha := w3) (hx := rfl) (hj := (by omega)) (hn := (by decide)) (r := ?_)
  exact kk _ n2 v rxd axC (At.set_ne w1 (by omega)) (At.set_ne w2 (by omega)) (At.set_eq2 l3b) (At.set_ne w4 (by omega)) hv2 (by omega) uC

set_option maxHeartbeats 4000000 in
set_option maxRecDepth 100000 in
theorem s_mru81 (hd : 100 ≤ d) {x1 : Option Value} (kk : ∀ h1 ac1 no1 (s1 : PST), RaM h0 h1 m K T L s1 (gAc g ac1) no1 → s1 = asP K 400 s → no1 + pPo s ≤ no + pPo s1 → RQ G mX12_rule d 109 [some (.ref m), x1] [] h1 P) (ra : RaM h0 h m K T L s g no) (hi : pEr s ≠ 1 → 401 ≤ 400 + pPo s) : RQ G mX12_rule d 81 [some (.ref m), x1] [] h P := by
  have go : ∀ (n : Nat) (h : AH) (s9 : PST) (ac9 no9 : Nat), asP K n s9 = asP K 400 s → (pEr s9 ≠ 1 → 401 ≤ n + pPo s9) → no9 + pPo s ≤ no + pPo s9 → RaM h0 h m K T L s9 (gAc g ac9) no9 → RQ G mX12_rule d 81 [some (.ref m), x1] [] h P := by
    intro n
    induction n with
    | zero =>
      intro h s9 ac9 no9 es hi9 hb ra9
      have e1 : pEr s9 = 1 := Classical.byContradiction (fun z => by
        have h1 := hi9 z
        have h2 := ra9.1.2.2.2.2.2.2.2.1
        have h3 := ra9.1.2.2.2.2.2.2.2.2.2.2.2.2.1.2.2.2.2.2.2.1
        omega)
      obtain ⟨⟨th, by_, ea, a0⟩, -⟩ := id ra9.1
      refine tX12_rule_81  (r := ?_)
      refine tX12_rule_82 (ha := (by first | assumption | (repeat (first | assumption | exact At.set_eq2 (by first | omega | (simp only [hset, hnew]; omega) | rfl | decide) | exact At.new_eq2 _ _ (by first | omega | (simp only [hset, hnew]; omega) | rfl | decide) | refine At.set_ne ?_ (by first | omega | (simp only [hset, hnew]; omega) | rfl | decide) | refine At.new_ne ?_)))) (hv := rfl) (r := ?_)
      refine tX12_rule_85  (kf := fun c_ => by exfalso; rw [if_pos e1] at c_; exact absurd c_ (by decide)) (kt := fun _ => ?_)
      exact kk _ ac9 no9 s9 ra9 es hb
    | succ n ih =>
      intro h s9 ac9 no9 es hi9 hb ra9
      have rx := ra9.1
      obtain ⟨⟨th, by_, ea, a0⟩, a1, ⟨q2, a2, c2⟩, ⟨q3, a3, c3⟩, ⟨q4, a4, c4⟩, b1, b2, b3, b4, b5, b6, u, tk, nm⟩ := id rx
      obtain ⟨⟨v1, y1, x1⟩, ⟨v2, y2, x2⟩, ⟨v3, y3, x3⟩, ⟨v4, y4, x4⟩, ⟨v5, y5, x5⟩, tw⟩ := id tk
      have k401 := tw.2.1
      have w1 := u.at y1 (by omega) (by omega) (by omega)
      have w2 := u.at y2 (by omega) (by omega) (by omega)
      have w3 := u.at y3 (by omega) (by omega) (by omega)
      have w4 := u.at y4 (by omega) (by omega) (by omega)
      have w5 := u.at y5 (by omega) (by omega) (by omega)
      have z0 := a0.1
      have z1 := a1.1
      have l2_ := a2.1
      have l3_ := a3.1
      have l4_ := a4.1
      refine tX12_rule_81  (r := ?_)
      refine tX12_rule_82 (ha := (by first | assumption | (repeat (first | assumption | exact At.set_eq2 (by first | omega | (simp only [hset, hnew]; omega) | rfl | decide) | exact At.new_eq2 _ _ (by first | omega | (simp only [hset, hnew]; omega) | rfl | decide) | refine At.set_ne ?_ (by first | omega | (simp only [hset, hnew]; omega) | rfl | decide) | refine At.new_ne ?_)))) (hv := rfl) (r := ?_)
      refine tX12_rule_85  (kt := fun c_85 => ?_) (kf := fun c_85 => ?_)
      · have e1 : pEr s9 = 1 := Classical.byContradiction (fun z => by rw [if_neg z] at c_85; exact c_85 rfl)
        have en : asP K (n + 1) s9 = s9 := if_neg (fun z => z.2 e1)
        exact kk _ ac9 no9 s9 ra9 (en.symm.trans es) hb
      · have e1 : ¬ pEr s9 = 1 := fun z => by rw [if_pos z] at c_85; exact absurd c_85 (by decide)
        have kv : K.2.1 (pPo s9) = kdP K s9 := by
          have e2 : kdP K s9 = kdT K (pPo s9) := if_neg e1
          rw [e2, rx.ne42.1]
        have k43 := rx.ne42.2
        have so52 := soK_lt (K.2.1 (pPo s9))
        refine tX12_rule_88  (r := ?_)
        refine tX12_rule_89 (ha := (by first | assumption | (repeat (first | assumption | exact At.set_eq2 (by first | omega | (simp only [hset, hnew]; omega) | rfl | decide) | exact At.new_eq2 _ _ (by first | omega | (simp only [hset, hnew]; omega) | rfl | decide) | refine At.set_ne ?_ (by first | omega | (simp only [hset, hnew]; omega) | rfl | decide) | refine At.new_ne ?_)))) (hv := rfl) (r := ?_)
        refine tX12_rule_92  (r := ?_)
        refine tX12_rule_93 (ha := (by first | assumption | (repeat (first | assumption | exact At.set_eq2 (by first | omega | (simp only [hset, hnew]; omega) | rfl | decide) | exact At.new_eq2 _ _ (by first | omega | (simp only [hset, hnew]; omega) | rfl | decide) | refine At.set_ne ?_ (by first | omega | (simp only [hset, hnew]; omega) | rfl | decide) | refine At.new_ne ?_)))) (hv := rfl) (r := ?_)
        refine tX12_rule_96 (ha := (by first | assumption | (repeat (first | assumption | exact At.set_eq2 (by first | omega | (simp only [hset, hnew]; omega) | rfl | decide) | exact At.new_eq2 _ _ (by first | omega | (simp only [hset, hnew]; omega) | rfl | decide) | refine At.set_ne ?_ (by first | omega | (simp only [hset, hnew]; omega) | rfl | decide) | refine At.new_ne ?_)))) (hx := rfl) (hj := (by omega)) (hn := (by decide)) (r := ?_)
        rw [x2 _ b3]
        show RQ _ _ _ _ _ (.int (nI (soK (K.2.1 (pPo s9)))) :: _) _ _
        refine tX12_rule_97  (r := ?_)
        refine tX12_rule_99  (kt := fun c_99 => ?_) (kf := fun c_99 => ?_)
        · have e28 : K.2.1 (pPo s9) = 28 := soK_inj k43 (by decide) ((nI_eq (by omega) (by decide)).mp c_99)
          rw [kv] at e28
          have en : asP K (n + 1) s9 = s9 := if_neg (fun z => z.1 e28)
          exact kk _ ac9 no9 s9 ra9 (en.symm.trans es) hb
        · have e28 : kdP K s9 ≠ 28 := fun z => c_99 (by rw [kv, z]; rfl)
          have en : asP K (n + 1) s9 = asP K n (acP K s9) := if_pos ⟨e28, e1⟩
          refine tX12_rule_102  (r := ?_)
          refine tX12_rule_103 (hd := (by omega)) (ha := (by first | assumption | (repeat (first | assumption | exact At.set_eq2 (by first | omega | (simp only [hset, hnew]; omega) | rfl | decide) | exact At.new_eq2 _ _ (by first | omega | (simp only [hset, hnew]; omega) | rfl | decide) | refine At.set_ne ?_ (by first | omega | (simp only [hset, hnew]; omega) | rfl | decide) | refine At.new_ne ?_)))) (call := s_mact (d := 90) (by decide) ra9 e1) (k := ?_)
          rintro h1 ⟨ac2, no2, ra2, hb2, hp2⟩
          refine tX12_rule_106 (r := ?_)
          have h9 := hi9 e1
          exact ih h1 (acP K s9) ac2 no2 (en.symm.trans es) (fun z => by have := hp2 z; omega) (by omega) ra2
  exact go 400 h s g.2.2.2.2.1 no rfl hi (Nat.le_refl _) ra

end RMJ
