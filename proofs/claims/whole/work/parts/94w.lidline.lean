/-! the reference's lines: a lid's line as a whole -/
section RMW
variable {G : GT} {d : Nat} {h0 h h1 hA : AH} {m : Nat} {K : TKS} {T : List Nat} {L : Nat → Nat} {s s1 t a b c : PST} {dp : Nat} {g g1 : GCT} {no no1 : Nat} {P : OC → AH → Prop}
theorem i3_er0 (h : pEr (i3P K b) = 0) : pEr b = 0 := by
  unfold i3P at h
  exact laP_er0 (tkP_er h).1
theorem il_0 (h : pEr (ilP K s) = 0) : pEr (i4P K s) = 0 ∧ RlI (i4P K s) (ilP K s) := by
  have e9 : ilP K s = rsP K 400 (i4P K s) := by
    unfold ilP
    rfl
  rw [e9] at h ⊢
  refine rs_I 400 (i4P K s) h (fun z => ?_)
  obtain ⟨-, -, -, -, e, -⟩ := i4_0 z
  unfold RlK
  rw [e]
  exact ⟨Nat.succ_pos _, congrArg Prod.snd (if_pos rfl)⟩
/-- what a lid's line does with the draft -/
theorem il_1 (h : pEr (ilP K s) = 0) : pEr s = 0 ∧ bLi (pBk s) < 6 ∧ pEr (tkP K 39 (jaP K (i1P K s))) = 0 ∧ pEr (i3P K (i2P K (i1P K s))) = 0 ∧ bLa (pBk (ilP K s)) = bLa (pBk s) ∧ bJa (pBk (ilP K s)) = bJa (pBk s) ∧ bLi (pBk (ilP K s)) = bLi (pBk s) + 1 ∧ bSe (pBk (ilP K s)) = bSe (pBk s) ∧ bWy (pBk (ilP K s)) = bWy (pBk s) ∧ bLl (pBk (ilP K s)) = upN (bLl (pBk s)) (bLi (pBk s)) ((lbO K (i2P K (i1P K s))).getD 0) ∧ dfE (pDf (ilP K s)) = dfE (pDf s) ∧ dfO (pDf (ilP K s)) = upN (dfO (pDf s)) (bLi (pBk s)) ((jbO K (i1P K s)).getD 0) ∧ (fun i => (bRu (pBk (ilP K s)) i).1) = upN (fun i => (bRu (pBk s) i).1) (bLi (pBk s)) (bRs (pBk s)) ∧ (fun i => (bRu (pBk (ilP K s)) i).2) = upN (fun i => (bRu (pBk s) i).2) (bLi (pBk s)) (bRs (pBk (ilP K s))) := by
  obtain ⟨h4, i1, i2, i3, i4, i5, i6, i7, i8, i9⟩ := il_0 h
  obtain ⟨h0, lt, hj, h3, e, eE, eO⟩ := i4_0 h4
  rw [e] at i1 i2 i3 i4 i5 i6 i9
  refine ⟨h0, lt, hj, h3, i1, i2, i3, i4, i5, i6, i7.trans eE, i8.trans eO, ?_, ?_⟩
  · rw [i9]
    funext i
    show (if i = bLi (pBk s) + 1 - 1 then ((if bLi (pBk s) + 1 - 1 = bLi (pBk s) then (bRs (pBk s), bRs (pBk s)) else bRu (pBk s) (bLi (pBk s) + 1 - 1)).1, bRs (pBk (ilP K s))) else (if i = bLi (pBk s) then (bRs (pBk s), bRs (pBk s)) else bRu (pBk s) i)).1 = (if i = bLi (pBk s) then bRs (pBk s) else (bRu (pBk s) i).1)
    by_cases y : i = bLi (pBk s)
    · rw [if_pos (by omega), if_pos (by omega), if_pos y]
    · rw [if_neg (by omega), if_neg y, if_neg y]
  · rw [i9]
    funext i
    show (if i = bLi (pBk s) + 1 - 1 then ((if bLi (pBk s) + 1 - 1 = bLi (pBk s) then (bRs (pBk s), bRs (pBk s)) else bRu (pBk s) (bLi (pBk s) + 1 - 1)).1, bRs (pBk (ilP K s))) else (if i = bLi (pBk s) then (bRs (pBk s), bRs (pBk s)) else bRu (pBk s) i)).2 = (if i = bLi (pBk s) then bRs (pBk (ilP K s)) else (bRu (pBk s) i).2)
    by_cases y : i = bLi (pBk s)
    · rw [if_pos (by omega), if_pos y]
    · rw [if_neg (by omega), if_neg y, if_neg y]

set_option maxHeartbeats 4000000 in
set_option maxRecDepth 100000 in
theorem s_mlidl (hd : 900 ≤ d) (rl : RlM h0 hA m K T L s g no) (rx : RxM h h m K T L (tkP K 5 s) 0 g no) (kA : Kp hA h m (fun _ => False)) (ek : kdP K s = 5) : RQ G mX12_lid d 0 [some (.ref m), none] [] h (Rv fun h1 => ∃ g1 no1, RlM h0 h1 m K T L (ilP K s) g1 no1) := by
  obtain ⟨rr, ⟨⟨f1, a1, c1⟩, ⟨f2, a2, c2⟩, ⟨f3, a3, c3⟩, ⟨f4, a4, c4⟩, ⟨f5, a5, c5⟩, ⟨f6, a6, c6⟩, ⟨f7, a7, c7⟩⟩, hg, g6, g8, gi6, kp0⟩ := id rl
  have pb : pBk (tkP K 5 s) = pBk s := congrArg (fun d : DRF => d.1) tk_df
  have hk6 : (min 6 g.2.2.1) ≤ 6 := Nat.min_le_left _ _
  obtain ⟨⟨th, by_, ea, a0⟩, pp, -⟩ := id rx
  refine tX12_lid_0  (r := ?_)
  refine tX12_lid_1  (r := ?_)
  refine tX12_lid_2  (r := ?_)
  refine tX12_lid_3 (ha := (by first | assumption | (repeat (first | assumption | exact At.set_eq2 (by first | omega | (simp only [hset, hnew]; omega) | rfl | decide) | exact At.new_eq2 _ _ (by first | omega | (simp only [hset, hnew]; omega) | rfl | decide) | refine At.set_ne ?_ (by first | omega | (simp only [hset, hnew]; omega) | rfl | decide) | refine At.new_ne ?_)))) (hv := rfl) (r := ?_)
  refine tX12_lid_6 (ha := (by first | assumption | (repeat (first | assumption | exact At.set_eq2 (by first | omega | (simp only [hset, hnew]; omega) | rfl | decide) | exact At.new_eq2 _ _ (by first | omega | (simp only [hset, hnew]; omega) | rfl | decide) | refine At.set_ne ?_ (by first | omega | (simp only [hset, hnew]; omega) | rfl | decide) | refine At.new_ne ?_)))) (hv := rfl) (r := ?_)
  refine tX12_lid_9  (r := ?_)
  refine tX12_lid_11 (hd := (by omega)) (ha := (by first | assumption | (repeat (first | assumption | exact At.set_eq2 (by first | omega | (simp only [hset, hnew]; omega) | rfl | decide) | exact At.new_eq2 _ _ (by first | omega | (simp only [hset, hnew]; omega) | rfl | decide) | refine At.set_ne ?_ (by first | omega | (simp only [hset, hnew]; omega) | rfl | decide) | refine At.new_ne ?_)))) (call := s_mnew (d := 20) (by decide) rx (w := 5) (many := g.2.2.1) (most := 6) (f := decide (6 ≤ bLi (pBk (tkP K 5 s)))) (by decide) (by decide) gi6 (fun z => by
  obtain ⟨y1, y2, y3⟩ := hg (tkP_er z).1
  rw [pb]
  have e1 : cnN 5 (pDf (tkP K 5 s)) = bLi (pBk s) := congrArg (fun B : BK => bLi B) pb
  exact ⟨by rw [e1, y3], rfl, by rw [y3], fun q => by omega⟩)) (k := ?_)
  rintro v0 h2 ⟨hv0, uw2, nm2, rx2_⟩
  rw [hv0]
  rw [adN_5] at rx2_
  have rx2 : RxM h2 h2 m K T L (tkP K 39 (upP (lnD (vaP K (niP K s))) (niP K s))) 0 (gNm g nm2) no := rx2_
  obtain ⟨⟨th2, by2, ea2, p2⟩, pp2, -⟩ := id rx2
  refine tX12_lid_14  (r := ?_)
  refine tX12_lid_15  (r := ?_)
  refine tX12_lid_16  (r := ?_)
  refine tX12_lid_18 (hd := (by omega)) (ha := (by first | assumption | (repeat (first | assumption | exact At.set_eq2 (by first | omega | (simp only [hset, hnew]; omega) | rfl | decide) | exact At.new_eq2 _ _ (by first | omega | (simp only [hset, hnew]; omega) | rfl | decide) | refine At.set_ne ?_ (by first | omega | (simp only [hset, hnew]; omega) | rfl | decide) | refine At.new_ne ?_)))) (call := s_mtake (d := 20) (by decide) rx2 (k := 6) (by decide)) (k := ?_)
  intro h3 rx3_
  obtain ⟨-, -, -, -, -, -, -, -, -, -, -, u3, -⟩ := id rx3_
  have rx3 := rx3_.self

  have kB := (kA.trans (Uw.kp uw2)).trans (Ux.kp u3)
  refine s_mli21 (by omega) rx3 hk6 (kB.2.2 _ _ a4 (by omega) (by omega) (by omega) (by omega) (fun z => z)) (kB.2.2 _ _ a5 (by omega) (by omega) (by omega) (by omega) (fun z => z)) (kB.2.2 _ _ a6 (by omega) (by omega) (by omega) (by omega) (fun z => z)) (fun h4 v1 v2 rx4 y4 y5 y6 hv1 hv2 kp4 => ?_)
  have LA := i4_lnr (K := K) (s := s)
  have LB : Lnr (vaP K (niP K s)) (i2P K (i1P K s)) (tkP K 7 (tkP K 39 (jaP K (tkP K 6 (tkP K 39 (upP (lnD (vaP K (niP K s))) (niP K s))))))) := by
    unfold i2P
    exact LA.ja.tk.tk
  have LC : Lnr (vaP K (niP K s)) (i3P K (i2P K (i1P K s))) (tkP K 39 (laP K (tkP K 7 (tkP K 39 (jaP K (tkP K 6 (tkP K 39 (upP (lnD (vaP K (niP K s))) (niP K s))))))))) := by
    unfold i3P
    exact LB.la.tk
  have rx5 : RxM h4 h4 m K T L (i4P K s) 0 (gNm g nm2) no := by
    unfold i4P
    exact rx4.eqv LC.eqv
  have F := fun z => i4_0 (K := K) (s := s) z
  have kC : Kp hA h4 m (fun i => i = m + 28 + 4 ∨ i = m + 28 + 5 ∨ i = m + 28 + 6) := (kB.mono (fun i e => e.elim)).trans kp4
  have rr5 : RrM h4 h4 m K T L (i4P K s) (gNm g nm2) no := rr.to rx5 (fun i c a e1 e2 => kC.2.2 i c a (by omega) (by omega) (by omega) (by omega) (by omega)) ⟨rfl, rfl⟩ (fun z => by
    rw [(F z).2.2.2.2.1]
    exact ⟨(F z).1, rfl, rfl, rfl, rfl⟩)
  have pos : pPo s + 1 ≤ pPo (i4P K s) := by
    have p0 : pPo (tkP K 5 s) = pPo s + 1 := by rw [(tkP_y (K := K) (s := s) ek (by decide)).1]
    have q1 : pPo (i4P K s) = pPo (i3P K (i2P K (i1P K s))) := by
      unfold i4P
      exact pPo_up
    have q2 := (tkP_po (K := K) (w := 39) (s := laP K (i2P K (i1P K s)))).1
    rw [laP_po] at q2
    have q3 := (tkP_po (K := K) (w := 7) (s := tkP K 39 (jaP K (i1P K s)))).1
    have q4 := (tkP_po (K := K) (w := 39) (s := jaP K (i1P K s))).1
    rw [jaP_po] at q4
    have q5 := (tkP_po (K := K) (w := 6) (s := tkP K 39 (niP K s))).1
    have q6 := (tkP_po (K := K) (w := 39) (s := niP K s)).1
    have q7 : pPo (niP K s) = pPo (tkP K 5 s) := by
      unfold niP
      exact nw_po
    have r1 : pPo (i2P K (i1P K s)) = pPo (tkP K 7 (tkP K 39 (jaP K (i1P K s)))) := by
      unfold i2P
      rfl
    have r2 : pPo (i3P K (i2P K (i1P K s))) = pPo (tkP K 39 (laP K (i2P K (i1P K s)))) := by
      unfold i3P
      rfl
    have r3 : pPo (i1P K s) = pPo (tkP K 6 (tkP K 39 (niP K s))) := by
      conv => lhs; unfold i1P
    omega
  refine s_mli71 (h0 := h4) (g := gNm g nm2) (t := i4P K s) (by omega) (fun h6 ac ru no6 s6 rr6 es6 => ?_) 400 h4 (i4P K s) g.2.2.2.2.1 g.2.2.2.1 no rfl (fun _ => by omega) (fun z => ?_) rr5
  · have e6 : s6 = ilP K s := by
      unfold ilP
      exact es6
    rw [e6] at rr6
    clear es6 e6
    have uy6 := rr6.2.2.2.2
    have x7 := uy6.at (kC.2.2 _ _ a7 (by omega) (by omega) (by omega) (by omega) (by omega)) (by omega) (by omega) (by omega)
    have x7l := x7.1
    obtain ⟨⟨th6, by6, ea6, p6⟩, pp6, -⟩ := id rr6.1.1
    have pp6l := pp6.1
    have rx7 := (rr6.1.1.out (i := m + 28 + 7) (c := (.inl (0, 7, .inl (upd f7 (min 6 g.2.2.1) (nI ru))))) (by omega)).cnt (g2 := (g.1, g.2.1, min 6 ((min 6 g.2.2.1) + 1), ru, ac, nm2)) rfl
    have kD := ((Kp.rf h6 m (fun i => i = m + 28 + 7)).set (i := m + 28 + 7) (c := (.inl (0, 7, .inl (upd f7 (min 6 g.2.2.1) (nI ru))))) (by omega)).set (i := m + 28) (c := MBoO (m + 28) (nI g.1) (nI g.2.1) (nI (min 6 ((min 6 g.2.2.1) + 1))) (nI ru) (nI ac) (nI no6)) (Or.inr (Or.inl rfl))
    refine tX12_lid_87  (r := ?_)
    refine tX12_lid_88 (ha := (by first | assumption | (repeat (first | assumption | exact At.set_eq2 (by first | omega | (simp only [hset, hnew]; omega) | rfl | decide) | exact At.new_eq2 _ _ (by first | omega | (simp only [hset, hnew]; omega) | rfl | decide) | refine At.set_ne ?_ (by first | omega | (simp only [hset, hnew]; omega) | rfl | decide) | refine At.new_ne ?_)))) (hv := rfl) (r := ?_)
    refine tX12_lid_91 (ha := (by first | assumption | (repeat (first | assumption | exact At.set_eq2 (by first | omega | (simp only [hset, hnew]; omega) | rfl | decide) | exact At.new_eq2 _ _ (by first | omega | (simp only [hset, hnew]; omega) | rfl | decide) | refine At.set_ne ?_ (by first | omega | (simp only [hset, hnew]; omega) | rfl | decide) | refine At.new_ne ?_)))) (hv := rfl) (r := ?_)
    refine tX12_lid_94  (r := ?_)
    refine tX12_lid_95  (r := ?_)
    refine tX12_lid_96 (ha := (by first | assumption | (repeat (first | assumption | exact At.set_eq2 (by first | omega | (simp only [hset, hnew]; omega) | rfl | decide) | exact At.new_eq2 _ _ (by first | omega | (simp only [hset, hnew]; omega) | rfl | decide) | refine At.set_ne ?_ (by first | omega | (simp only [hset, hnew]; omega) | rfl | decide) | refine At.new_ne ?_)))) (hv := rfl) (r := ?_)
    refine tX12_lid_99 (ha := (by first | assumption | (repeat (first | assumption | exact At.set_eq2 (by first | omega | (simp only [hset, hnew]; omega) | rfl | decide) | exact At.new_eq2 _ _ (by first | omega | (simp only [hset, hnew]; omega) | rfl | decide) | refine At.set_ne ?_ (by first | omega | (simp only [hset, hnew]; omega) | rfl | decide) | refine At.new_ne ?_)))) (hv := rfl) (r := ?_)
    refine tX12_lid_102 (ha := x7) (hx := rfl) (hj := (by omega)) (hn := (by decide)) (r := ?_)
    refine tX12_lid_103  (r := ?_)
    refine tX12_lid_104 (ha := (by first | assumption | (repeat (first | assumption | exact At.set_eq2 (by first | omega | (simp only [hset, hnew]; omega) | rfl | decide) | exact At.new_eq2 _ _ (by first | omega | (simp only [hset, hnew]; omega) | rfl | decide) | refine At.set_ne ?_ (by first | omega | (simp only [hset, hnew]; omega) | rfl | decide) | refine At.new_ne ?_)))) (hv := rfl) (r := ?_)
    refine tX12_lid_107  (r := ?_)
    refine tX12_lid_109  (r := ?_)
    refine tX12_lid_110  (r := ?_)
    refine tX12_lid_111  (r := ?_)
    rw [nI_add]
    refine tX12_lid_112 (hd := (by omega)) (r := ?_)
    rw [nI_minN (by decide) (by omega)]
    refine tX12_lid_115 (ha := (by first | assumption | (repeat (first | assumption | exact At.set_eq2 (by first | omega | (simp only [hset, hnew]; omega) | rfl | decide) | exact At.new_eq2 _ _ (by first | omega | (simp only [hset, hnew]; omega) | rfl | decide) | refine At.set_ne ?_ (by first | omega | (simp only [hset, hnew]; omega) | rfl | decide) | refine At.new_ne ?_)))) (hlen := rfl) (r := ?_)
    refine tX12_lid_118 (hP := ?_)
    have X := fun z => il_1 (K := K) (s := s) z
    have kk_ : pEr (ilP K s) = 0 → (min 6 g.2.2.1) = bLi (pBk s) ∧ g.2.2.1 = bLi (pBk s) := fun z => by
      have y0 := (X z).2.1
      have y1 := (hg (X z).1).2.2
      omega
    have U6 : ∀ i c, At h4 i c → m + 28 < i → i < m + 28 + 7 → At (hset (hset h6 (m + 28 + 7) (.inl (0, 7, .inl (upd f7 (min 6 g.2.2.1) (nI ru))))) (m + 28) (MBoO (m + 28) (nI g.1) (nI g.2.1) (nI (min 6 ((min 6 g.2.2.1) + 1))) (nI ru) (nI ac) (nI no6))) i c := fun i c a e1 e2 => kD.2.2 i c (uy6.at a (by omega) (by omega) (by omega)) (by omega) (by omega) (by omega) (by omega) (by omega)
    have UA : ∀ i c, At hA i c → m + 28 < i → i < m + 28 + 4 → At (hset (hset h6 (m + 28 + 7) (.inl (0, 7, .inl (upd f7 (min 6 g.2.2.1) (nI ru))))) (m + 28) (MBoO (m + 28) (nI g.1) (nI g.2.1) (nI (min 6 ((min 6 g.2.2.1) + 1))) (nI ru) (nI ac) (nI no6))) i c := fun i c a e1 e2 => U6 i c (kC.2.2 i c a (by omega) (by omega) (by omega) (by omega) (by omega)) e1 (by omega)
    have z4 := U6 _ _ y4 (by omega) (by omega)
    have z5 := U6 _ _ y5 (by omega) (by omega)
    have z6 := U6 _ _ y6 (by omega) (by omega)
    have z7 := At.set_ne (i := m + 28) (c := MBoO (m + 28) (nI g.1) (nI g.2.1) (nI (min 6 ((min 6 g.2.2.1) + 1))) (nI ru) (nI ac) (nI no6)) (At.set_eq2 (c := (.inl (0, 7, .inl (upd f7 (min 6 g.2.2.1) (nI ru))))) x7l) (by omega)
    have kW : Kp h0 (hset (hset h6 (m + 28 + 7) (.inl (0, 7, .inl (upd f7 (min 6 g.2.2.1) (nI ru))))) (m + 28) (MBoO (m + 28) (nI g.1) (nI g.2.1) (nI (min 6 ((min 6 g.2.2.1) + 1))) (nI ru) (nI ac) (nI no6))) m (fun i => m + 28 < i ∧ i < m + 28 + 16) := by
      have q1 := kp0.trans (kC.mono (S2 := fun i => m + 28 < i ∧ i < m + 28 + 16) (fun i e => by omega))
      have q2 : Kp h4 h6 m (fun i => m + 28 < i ∧ i < m + 28 + 16) := ⟨uy6.1, uy6.2.1, fun i c a e1 e2 e3 e4 e5 => uy6.at a e1 e2 (by omega)⟩
      exact (q1.trans q2).trans (kD.mono (fun i e => by omega))
    refine ⟨rfl, (g.1, g.2.1, min 6 ((min 6 g.2.2.1) + 1), ru, ac, nm2), no6, rr6.to rx7 (fun i c a e1 e2 => kD.2.2 i c a (by omega) (by omega) (by omega) (by omega) (by omega)) ⟨rfl, rfl⟩ (fun z => ⟨z, rfl, rfl, rfl, rfl⟩), ⟨?_, ?_, ?_, ?_, ?_, ?_, ?_⟩, fun z => ?_, g6, g8, Nat.min_le_left _ _, kW⟩
    · exact NiX.same (s := s) (s1 := ilP K s) ⟨f1, a1, c1⟩ (fun c a => UA _ c a (by omega) (by omega)) (fun z => ⟨(X z).1, (X z).2.2.2.2.2.2.2.1⟩)
    · exact NiX.same (s := s) (s1 := ilP K s) ⟨f2, a2, c2⟩ (fun c a => UA _ c a (by omega) (by omega)) (fun z => ⟨(X z).1, by rw [(X z).2.2.2.2.2.2.2.2.1]⟩)
    · refine ⟨f3, UA _ _ a3 (by omega) (by omega), fun j l hj hl => ?_⟩
      by_cases z : pEr (ilP K s) = 0
      · rw [(X z).2.2.2.2.2.2.2.2.2.2.1]
        refine c3 j l ?_ hl
        unfold okc at hj ⊢
        rw [if_pos z] at hj
        rw [if_pos (X z).1]
        exact hj
      · exact absurd hj (okc_0 z)
    · by_cases z : pEr (ilP K s) = 0
      · have ek2 := kk_ z
        rw [ek2.2] at c4
        have q := NiX.add (s := s) (s' := ilP K s) (c := min 6 ((min 6 g.2.2.1) + 1)) (w := (jbO K (i1P K s)).getD 0) c4 z4 (fun _ => ⟨(X z).1, ek2.1, by rw [hv1 ((LA.ja.tk (w := 39)).2.1.trans (X z).2.2.1), (LA.lb (jaP_er0 (tkP_er (X z).2.2.1).1)).2], by have := (X z).2.1; omega⟩)
        rw [← (X z).2.2.2.2.2.2.2.2.2.2.2.1] at q
        exact q
      · exact ⟨_, z4, fun j hj => absurd hj (okc_0 z)⟩
    · by_cases z : pEr (ilP K s) = 0
      · have ek2 := kk_ z
        rw [ek2.2] at c5
        have q := NiX.add (s := s) (s' := ilP K s) (c := min 6 ((min 6 g.2.2.1) + 1)) (w := (lbO K (i2P K (i1P K s))).getD 0) c5 z5 (fun _ => ⟨(X z).1, ek2.1, by rw [hv2 (LC.2.1.trans (X z).2.2.2.1), (LB.lb (i3_er0 (X z).2.2.2.1)).1], by have := (X z).2.1; omega⟩)
        rw [← (X z).2.2.2.2.2.2.2.2.2.1] at q
        exact q
      · exact ⟨_, z5, fun j hj => absurd hj (okc_0 z)⟩
    · by_cases z : pEr (ilP K s) = 0
      · have ek2 := kk_ z
        rw [ek2.2] at c6
        have q := NiX.add (s := s) (s' := ilP K s) (c := min 6 ((min 6 g.2.2.1) + 1)) (w := bRs (pBk s)) c6 z6 (fun _ => ⟨(X z).1, ek2.1, by rw [← rr.2.2.1 (X z).1], by have := (X z).2.1; omega⟩)
        rw [← (X z).2.2.2.2.2.2.2.2.2.2.2.2.1] at q
        exact q
      · exact ⟨_, z6, fun j hj => absurd hj (okc_0 z)⟩
    · by_cases z : pEr (ilP K s) = 0
      · have ek2 := kk_ z
        rw [ek2.2] at c7
        have q := NiX.add (s := s) (s' := ilP K s) (c := min 6 ((min 6 g.2.2.1) + 1)) (w := bRs (pBk (ilP K s))) c7 z7 (fun _ => ⟨(X z).1, ek2.1, congrArg nI (rr6.2.2.1 z), by have := (X z).2.1; omega⟩)
        rw [← (X z).2.2.2.2.2.2.2.2.2.2.2.2.2] at q
        exact q
      · exact ⟨_, z7, fun j hj => absurd hj (okc_0 z)⟩
    · obtain ⟨u1, u2, u3_⟩ := hg (X z).1
      refine ⟨u1.trans (X z).2.2.2.2.1.symm, u2.trans (X z).2.2.2.2.2.1.symm, ?_⟩
      rw [(X z).2.2.2.2.2.2.1]
      have := (X z).2.1
      show min 6 ((min 6 g.2.2.1) + 1) = _
      omega
  · have w := F z
    unfold RlK
    rw [w.2.2.2.2.1]
    exact ⟨Nat.succ_pos _, congrArg Prod.snd (if_pos rfl)⟩


end RMW
