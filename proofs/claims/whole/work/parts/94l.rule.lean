/-! the reference's rule as a whole, and rules -/
section RML
variable {G : GT} {d : Nat} {h0 h : AH} {m : Nat} {K : TKS} {T : List Nat} {L : Nat → Nat} {s b : PST} {dp : Nat} {g : GCT} {no : Nat} {P : OC → AH → Prop}

theorem tkP_po1 {w : Nat} (h : pEr (tkP K w s) ≠ 1) : pPo s + 1 ≤ pPo (tkP K w s) := by
  unfold tkP at h ⊢
  by_cases e1 : pEr s = 1
  · rw [if_pos e1] at h
    exact absurd e1 h
  · rw [if_neg e1] at h ⊢
    by_cases e2 : kdP K s = w
    · rw [if_pos e2]
      exact Nat.le_refl _
    · rw [if_neg e2] at h
      exact absurd rfl h
theorem rtP_te {s : PST} (h : pEr (rtP K s) = 0) : pEr (teP K 6 s).1 = 0 := by
  unfold rtP at h
  exact (tkP_er (upP_er0 h)).1
theorem er1_as : ∀ (n : Nat) (s : PST), pEr s = 1 → asP K n s = s
  | 0, _, _ => rfl
  | n + 1, s, h => if_neg (fun z => z.2 h)
theorem s_mru30c (hd : 600 ≤ d) (hb : b = rbP K s) (e1 : pEr s ≠ 1) (hl : pEr s = 0 → 0 < bLi (pBk s)) (h24 : g.2.2.2.1 ≤ 24) {f1 f2 f3 f4 : Nat → Int32} (c1 : ∀ k, k < okc s g.2.2.2.1 → f1 k = nI (rTf (pBk s) k)) (c2 : ∀ k, k < okc s g.2.2.2.1 → f2 k = nI (rTe (pBk s) k)) (c3 : ∀ k, k < okc s g.2.2.2.1 → f3 k = nI (rFa (pBk s) k)) (c4 : ∀ k, k < okc s g.2.2.2.1 → f4 k = nI (rBa (pBk s) k)) (rx : RxM h h m K T L b 0 g no) (ax : AcX h m b g.2.2.2.2.1) (r1 : At h (m + 28 + 8) (.inl (0, 25, .inl f1))) (r2 : At h (m + 28 + 9) (.inl (0, 25, .inl f2))) (r3 : At h (m + 28 + 10) (.inl (0, 25, .inl f3))) (r4 : At h (m + 28 + 11) (.inl (0, 25, .inl f4))) (h60 : g.2.2.2.2.1 ≤ 60) (hn : pEr s = 0 → g.2.2.2.2.1 = nAn (pBk s)) (hr : pEr s = 0 → g.2.2.2.1 = bRs (pBk s)) (hno : pEr s = 0 → no = nNo (pBk s)) (u0 : Uy h0 h m (m + 28 + 8)) : RQ G mX12_rule d 30 [some (.ref m), some (.int (nI g.2.2.2.1))] [] h (Rv fun h1 => ∃ ac1 ru1 no1, RrM h0 h1 m K T L (rlP K s) (gRu (gAc g ac1) ru1) no1 ∧ no1 + pPo s ≤ no + pPo (rlP K s) ∧ (pEr (rlP K s) ≠ 1 → pPo s + 1 ≤ pPo (rlP K s))) := by
  have hbb := fun z => rb_0 (K := K) (s := s) z hl
  rw [← hb] at hbb
  have pob := rbP_po (K := K) (s := s)
  rw [← hb] at pob
  refine s_mru30 hd h24 rx ax r1 r2 r3 r4 (fun h1 n1 v rx1 ax1 q1 q2 q3 q4 hv hb1 u1 => ?_)
  have er0 : rtP K b = upP teD (tkP K 27 (teP K 6 b).1) := rfl
  have ra1 : RaM h1 h1 m K T L (rtP K b) g n1 := by
    rw [er0]
    refine ⟨rx1.eqv (Eqv.te _).symm, ax1.to (fun _ _ a _ _ => a) (fun z => ⟨upP_er0 z, te_get.1⟩), fun z => ?_, h60, Uy.rf _ _ _⟩
    obtain ⟨z1, -, -, -, -, z2, -⟩ := hbb (teP_er0 6 _ (tkP_er (upP_er0 z)).1)
    exact (hn z1).trans (z2.symm.trans (((te_get (s := tkP K 27 (teP K 6 b).1)).2.1.trans ((rs_ac (rs_tk (K := K) (w := 27) (s := (teP K 6 b).1))).2.1.trans (rs_ac (rs_te (K := K) 6 b)).2.1)).symm))
  have po1 := rtP_po (K := K) (s := b)
  have er2 : pPo (rtP K b) = pPo (tkP K 27 (teP K 6 b).1) := pPo_up
  refine s_mru81 (h0 := h1) (g := g) (no := n1) (s := rtP K b) (by omega) (fun h2 ac2 no2 s2 ra2 es2 hb2 => ?_) ra1 (fun z => ?_)
  · have u2 := ra2.2.2.2.2
    refine s_mru109 (by omega) h24 ra2 (u2.at q1 (by omega) (by omega) (by omega)) (u2.at q2 (by omega) (by omega) (by omega)) (u2.at q3 (by omega) (by omega) (by omega)) (u2.at q4 (by omega) (by omega) (by omega)) (fun h3 rx3 ax3 y1 y2 y3 y4 u3 => ?_)
    have po2 := as_po (K := K) acP_po 400 (rtP K b)
    rw [← es2] at po2
    have po3 := (tkP_po (K := K) (w := 28) (s := s2)).1
    have eR : raP K (rtP K b) = upP aeD (tkP K 28 s2) := by
      unfold raP
      rw [← es2]
    have eF : rlP K s = upP (rrD (bRs (pBk s)) (nNo (pBk s), (teP K 6 b).2, nAn (pBk (rtP K b)), nAn (pBk (upP aeD (tkP K 28 s2))))) (upP aeD (tkP K 28 s2)) := by
      unfold rlP
      rw [← hb, eR]
    rw [eF]
    have EQ : Eqv (tkP K 28 s2) (upP (rrD (bRs (pBk s)) (nNo (pBk s), (teP K 6 b).2, nAn (pBk (rtP K b)), nAn (pBk (upP aeD (tkP K 28 s2))))) (upP aeD (tkP K 28 s2))) := ((Eqv.rr _).trans (Eqv.ae _)).symm
    have ok : pEr (tkP K 28 s2) = 0 → pEr b = 0 ∧ pEr s2 = 0 ∧ pEr (teP K 6 b).1 = 0 := fun z => by
      have z1 := (tkP_er z).1
      have z2 := z1
      rw [es2] at z2
      have z3 := rtP_te (as_er0 400 _ z2)
      exact ⟨teP_er0 6 _ z3, z1, z3⟩
    have gt := rs_ac (rs_tk (K := K) (w := 28) (s := s2))
    have ga := ae_get (s := tkP K 28 s2)
    have gs := rr_get (rr_as (K := K) 400 (rtP K b))
    rw [← es2] at gs
    have g7 := rs_ac (rs_tk (K := K) (w := 27) (s := (teP K 6 b).1))
    have g6 := rs_ac (rs_te (K := K) 6 b)
    have ge := te_get (s := tkP K 27 (teP K 6 b).1)
    rw [← er0] at ge
    have nr1 : nRu (pBk (upP aeD (tkP K 28 s2))) = nRu (pBk (rtP K b)) := ga.2.2.1.trans (gt.2.2.1.trans gs.2.1)
    have nr2 : bRs (pBk (upP aeD (tkP K 28 s2))) = bRs (pBk (rtP K b)) := ga.2.2.2.trans (gt.2.2.2.trans gs.1)
    have nt1 : nRu (pBk (rtP K b)) = nRu (pBk b) := ge.2.2.1.trans (g7.2.2.1.trans g6.2.2.1)
    have nt2 : bRs (pBk (rtP K b)) = bRs (pBk b) := ge.2.2.2.trans (g7.2.2.2.trans g6.2.2.2)
    have nt3 : nAn (pBk (rtP K b)) = nAn (pBk b) := ge.2.1.trans (g7.2.1.trans g6.2.1)
    have na1 : nAn (pBk (upP aeD (tkP K 28 s2))) = nAn (pBk s2) := ga.2.1.trans gt.2.1
    have na2 : nAc (pBk (upP aeD (tkP K 28 s2))) = nAc (pBk s2) := ga.1.trans gt.1
    have gF := rr_get2 (k := bRs (pBk s)) (x := (nNo (pBk s), (teP K 6 b).2, nAn (pBk (rtP K b)), nAn (pBk (upP aeD (tkP K 28 s2))))) (s := upP aeD (tkP K 28 s2))
    refine ⟨rfl, ac2, min 24 (g.2.2.2.1 + 1), no2, ⟨⟨rx3.eqv EQ, ax3.to (fun _ _ a _ _ => a) (fun z => ⟨EQ.2.1.trans z, ?_⟩), fun z => ?_, ra2.2.2.2.1, Uy.rf _ _ _⟩, RuX.fin (s := s) (x := (nNo (pBk s), (teP K 6 b).2, nAn (pBk (rtP K b)), nAn (pBk (upP aeD (tkP K 28 s2))))) c1 c2 c3 c4 y1 y2 y3 y4 (fun z => ?_), fun z => ?_, Nat.min_le_left _ _, ((u0.trans u1).trans (u2.low (by omega))).trans u3⟩, ?_, fun z => ?_⟩
    · exact gF.1.trans (na2.trans gt.1.symm)
    · exact (ra2.2.2.1 (ok (EQ.2.1.trans z)).2.1).trans (na1.symm.trans gF.2.1.symm)
    · obtain ⟨z1, z2, z3⟩ := ok (EQ.2.1.trans z)
      obtain ⟨y1, y2, y3, y4, y5, y6, y7⟩ := hbb z1
      have hrr := hr y1
      refine ⟨y1, by omega, ?_, by rw [hno y1], hv z3, ?_, ?_⟩
      · have g9 := gF.2.2.2 (by rw [pEr_up]; exact EQ.2.1.trans z)
        have g8 := nr1.trans (nt1.trans y4)
        refine g9.trans ?_
        rw [g8, hrr]
      · exact congrArg nI ((hn y1).trans (y6.symm.trans nt3.symm))
      · exact congrArg nI ((ra2.2.2.1 z2).trans na1.symm)
    · obtain ⟨z1, z2, z3⟩ := ok (EQ.2.1.trans z)
      obtain ⟨y1, y2, y3, -⟩ := hbb z1
      have hrr := hr y1
      have g9 : bRs (pBk (upP (rrD (bRs (pBk s)) (nNo (pBk s), (teP K 6 b).2, nAn (pBk (rtP K b)), nAn (pBk (upP aeD (tkP K 28 s2))))) (upP aeD (tkP K 28 s2)))) = bRs (pBk s) + 1 := gF.2.2.1.trans (nr2.trans (nt2.trans y3))
      refine Eq.trans ?_ g9.symm
      show min 24 (g.2.2.2.1 + 1) = _
      omega
    · rw [← EQ.1]
      omega
    · rw [← EQ.1]
      have z1 : pEr (tkP K 28 s2) ≠ 1 := by
        rw [EQ.2.1]
        exact z
      have := tkP_po1 z1
      have := pob.1
      omega
  · have z2 : pEr (tkP K 27 (teP K 6 b).1) ≠ 1 := by
      rw [er0, pEr_up] at z
      exact z
    have := tkP_po1 z2
    omega

set_option maxHeartbeats 4000000 in
set_option maxRecDepth 100000 in
theorem s_mrule (hd : 700 ≤ d) (rr : RrM h0 h m K T L s g no) (e1 : pEr s ≠ 1) (hl : pEr s = 0 → 0 < bLi (pBk s)) : RQ G mX12_rule d 0 [some (.ref m), none] [] h (Rv fun h1 => ∃ ac1 ru1 no1, RrM h0 h1 m K T L (rlP K s) (gRu (gAc g ac1) ru1) no1 ∧ no1 + pPo s ≤ no + pPo (rlP K s) ∧ (pEr (rlP K s) ≠ 1 → pPo s + 1 ≤ pPo (rlP K s))) := by
  obtain ⟨ra, ⟨⟨f1, r1, c1⟩, ⟨f2, r2, c2⟩, ⟨f3, r3, c3⟩, ⟨f4, r4, c4⟩⟩, hr, h24, u0⟩ := rr
  obtain ⟨rx, ax, hn, h60, -⟩ := ra
  obtain ⟨⟨th, by_, ea, a0⟩, a1, -, -, -, hno, -⟩ := id rx
  have g24 : g.2.2.2.1 ≤ 24 := h24
  refine tX12_rule_0  (r := ?_)
  refine tX12_rule_2  (r := ?_)
  refine tX12_rule_3 (ha := (by first | assumption | (repeat (first | assumption | exact At.set_eq2 (by first | omega | (simp only [hset, hnew]; omega) | rfl | decide) | exact At.new_eq2 _ _ (by first | omega | (simp only [hset, hnew]; omega) | rfl | decide) | refine At.set_ne ?_ (by first | omega | (simp only [hset, hnew]; omega) | rfl | decide) | refine At.new_ne ?_)))) (hv := rfl) (r := ?_)
  refine tX12_rule_6 (ha := (by first | assumption | (repeat (first | assumption | exact At.set_eq2 (by first | omega | (simp only [hset, hnew]; omega) | rfl | decide) | exact At.new_eq2 _ _ (by first | omega | (simp only [hset, hnew]; omega) | rfl | decide) | refine At.set_ne ?_ (by first | omega | (simp only [hset, hnew]; omega) | rfl | decide) | refine At.new_ne ?_)))) (hv := rfl) (r := ?_)
  refine tX12_rule_9 (hd := (by omega)) (r := ?_)
  rw [nI_minN (by decide) (by omega), Nat.min_eq_right h24]
  refine tX12_rule_12  (r := ?_)
  refine tX12_rule_13  (r := ?_)
  refine tX12_rule_14  (r := ?_)
  refine tX12_rule_16  (kt := fun c_16 => ?_) (kf := fun c_16 => ?_)
  · have n24 : g.2.2.2.1 < 24 := by
      have : g.2.2.2.1 ≠ 24 := fun z => c_16 (congrArg nI z)
      omega
    have ea9 : (if 24 ≤ bRs (pBk s) then rpP 4 s else s) = s := by
      by_cases z : pEr s = 0
      · rw [if_neg (by rw [← hr z]; omega)]
      · rw [show rpP 4 s = s from if_neg z, if_same]
    refine tX12_rule_24  (r := ?_)
    refine tX12_rule_25  (r := ?_)
    refine tX12_rule_27 (hd := (by omega)) (ha := (by first | assumption | (repeat (first | assumption | exact At.set_eq2 (by first | omega | (simp only [hset, hnew]; omega) | rfl | decide) | exact At.new_eq2 _ _ (by first | omega | (simp only [hset, hnew]; omega) | rfl | decide) | refine At.set_ne ?_ (by first | omega | (simp only [hset, hnew]; omega) | rfl | decide) | refine At.new_ne ?_)))) (call := s_mtake (d := 600) (by omega) rx (k := 8) (by decide)) (k := ?_)
    intro h1 rx1
    obtain ⟨-, -, -, -, -, -, -, -, -, -, -, u1, -⟩ := id rx1
    have eb : upP ruD (tkP K 8 (s)) = rbP K s := by
      unfold rbP
      rw [ea9]
    have rxb := rx1.self.eqv (Eqv.ru _).symm
    rw [eb] at rxb
    have axb : AcX h1 m (rbP K s) g.2.2.2.2.1 := ax.to (fun i c a e1 e2 => u1.at a (by omega) (by omega) (by omega)) (fun z => ⟨(rb_0 z hl).1, (rb_0 z hl).2.2.2.2.1⟩)
    exact s_mru30c (by omega) rfl e1 hl h24 c1 c2 c3 c4 rxb axb (u1.at r1 (by omega) (by omega) (by omega)) (u1.at r2 (by omega) (by omega) (by omega)) (u1.at r3 (by omega) (by omega) (by omega)) (u1.at r4 (by omega) (by omega) (by omega)) h60 hn hr hno (u0.trans (u1.y (by omega)))
  · have n24 : g.2.2.2.1 = 24 := (nI_eq (by omega) (by decide)).mp c_16
    have ea9 : (if 24 ≤ bRs (pBk s) then rpP 4 s else s) = rpP 4 s := by
      by_cases z : pEr s = 0
      · rw [if_pos (by rw [← hr z, n24]; decide)]
      · rw [show rpP 4 s = s from if_neg z, if_same]
    refine tX12_rule_19  (r := ?_)
    refine tX12_rule_20  (r := ?_)
    refine tX12_rule_21 (hd := (by omega)) (ha := (by first | assumption | (repeat (first | assumption | exact At.set_eq2 (by first | omega | (simp only [hset, hnew]; omega) | rfl | decide) | exact At.new_eq2 _ _ (by first | omega | (simp only [hset, hnew]; omega) | rfl | decide) | refine At.set_ne ?_ (by first | omega | (simp only [hset, hnew]; omega) | rfl | decide) | refine At.new_ne ?_)))) (call := s_mmark (d := 600) rx (n := 4) (by decide)) (k := ?_)
    intro h1 rx1
    obtain ⟨⟨th1, by1, ea1, p1⟩, -⟩ := id rx1
    refine tX12_rule_24  (r := ?_)
    refine tX12_rule_25  (r := ?_)
    refine tX12_rule_27 (hd := (by omega)) (ha := (by first | assumption | (repeat (first | assumption | exact At.set_eq2 (by first | omega | (simp only [hset, hnew]; omega) | rfl | decide) | exact At.new_eq2 _ _ (by first | omega | (simp only [hset, hnew]; omega) | rfl | decide) | refine At.set_ne ?_ (by first | omega | (simp only [hset, hnew]; omega) | rfl | decide) | refine At.new_ne ?_)))) (call := s_mtake (d := 600) (by omega) rx1 (k := 8) (by decide)) (k := ?_)
    intro h2 rx2
    obtain ⟨-, -, -, -, -, -, -, -, -, -, -, u2, -⟩ := id rx2
    have eb : upP ruD (tkP K 8 (rpP 4 s)) = rbP K s := by
      unfold rbP
      rw [ea9]
    have rxb := rx2.self.eqv (Eqv.ru _).symm
    rw [eb] at rxb
    have axb : AcX h2 m (rbP K s) g.2.2.2.2.1 := ax.to (fun i c a e1 e2 => u2.at a (by omega) (by omega) (by omega)) (fun z => ⟨(rb_0 z hl).1, (rb_0 z hl).2.2.2.2.1⟩)
    exact s_mru30c (by omega) rfl e1 hl h24 c1 c2 c3 c4 rxb axb (u2.at r1 (by omega) (by omega) (by omega)) (u2.at r2 (by omega) (by omega) (by omega)) (u2.at r3 (by omega) (by omega) (by omega)) (u2.at r4 (by omega) (by omega) (by omega)) h60 hn hr hno (u0.trans (u2.y (by omega)))

end RML
