/-! the reference's winning act, an act, acts -/
theorem up_ar {k : Nat} {x : Nat × Nat × Nat × Nat} {s : PST} (z : pEr s = 0) : nAc (pBk (upP (arD k x) s)) = upN (nAc (pBk s)) k x ∧ nAn (pBk (upP (arD k x) s)) = nAn (pBk s) := by
  rw [upP_e z]
  exact ⟨rfl, rfl⟩
theorem nb_0 {K : TKS} {s : PST} : nbO K 0 s = lbO K s := rfl
theorem nb_1 {K : TKS} {s : PST} : nbO K 1 s = jbO K s := rfl
theorem laP_eq {K : TKS} {s : PST} : rpO (lbO K s) s = laP K s := rfl
theorem jaP_eq {K : TKS} {s : PST} : rpO (jbO K s) s = jaP K s := rfl
theorem laP_po {K : TKS} {s : PST} : pPo (laP K s) = pPo s := rpO_po
theorem jaP_po {K : TKS} {s : PST} : pPo (jaP K s) = pPo s := rpO_po
theorem laP_er0 {K : TKS} {s : PST} (h : pEr (laP K s) = 0) : pEr s = 0 := rpO_er0 h
theorem jaP_er0 {K : TKS} {s : PST} (h : pEr (jaP K s) = 0) : pEr s = 0 := rpO_er0 h
theorem laP_nb {K : TKS} {s : PST} : laP K s = rpO (nbO K 0 s) s := rfl
theorem jaP_nb {K : TKS} {s : PST} : jaP K s = rpO (nbO K 1 s) s := rfl
section RMI
variable {G : GT} {d : Nat} {h0 h : AH} {m : Nat} {K : TKS} {T : List Nat} {L : Nat → Nat} {s : PST} {dp : Nat} {g : GCT} {no : Nat}

set_option maxHeartbeats 4000000 in
set_option maxRecDepth 100000 in
theorem s_mac9 (hd : 80 ≤ d) (rx : RxM h h m K T L s 0 g no) (ax : AcX h m s g.2.2.2.2.1) {kk : Nat} (hn : pEr s = 0 → kk = g.2.2.2.2.1 ∧ g.2.2.2.2.1 + 1 = nAn (pBk s) ∧ g.2.2.2.2.1 < 60) (h60 : g.2.2.2.2.1 ≤ 60) (u0 : Uy h0 h m (m + 28 + 12)) (ek : kdP K s = 9) : RQ G mX12_act d 69 [some (.ref m), some (.int (nI g.2.2.2.2.1)), none] [] h (Rv fun h1 => ∃ ac1 no1, RaM h0 h1 m K T L (awP K kk s) (gAc g ac1) no1 ∧ no1 + pPo s ≤ no + pPo (awP K kk s) ∧ pPo s + 1 ≤ pPo (awP K kk s)) := by
  obtain ⟨⟨f1, e1_, c1⟩, ⟨f2, e2_, c2⟩, ⟨f3, e3_, c3⟩, ⟨f4, e4_, c4⟩⟩ := id ax
  obtain ⟨⟨th, by_, ea, a0⟩, a1, ⟨q2, a2, cc2⟩, ⟨q3, a3, cc3⟩, ⟨q4, a4, cc4⟩, b1, b2, b3, b4, b5, b6, u, tk, nm⟩ := id rx
  obtain ⟨⟨v1, y1, x1⟩, ⟨v2, y2, x2⟩, ⟨v3, y3, x3⟩, ⟨v4, y4, x4⟩, ⟨v5, y5, x5⟩, tw⟩ := id tk
  have k401 := tw.2.1
  have w1 := u.at y1 (by omega) (by omega) (by omega)
  have w2 := u.at y2 (by omega) (by omega) (by omega)
  have w3 := u.at y3 (by omega) (by omega) (by omega)
  have w4 := u.at y4 (by omega) (by omega) (by omega)
  have w5 := u.at y5 (by omega) (by omega) (by omega)
  have z0 := a0.1
  have z1 := a1.1
  have l2_ := a2.1
  have l3_ := a3.1
  have l4_ := a4.1
  have l40 := e1_.1
  have l41 := e2_.1
  have l42 := e3_.1
  have l43 := e4_.1
  obtain ⟨et, e1⟩ := tkP_y (K := K) (s := s) ek (by decide)
  have kv : K.2.1 (pPo s) = kdP K s := by
    have e2 : kdP K s = kdT K (pPo s) := if_neg e1
    rw [e2, rx.ne42.1]
  have s1er : ∀ {w : Nat}, pEr (tkP K w s) = 0 → pEr s = 0 := fun z => (tkP_er z).1
  refine tX12_act_69  (r := ?_)
  refine tX12_act_70 (ha := (by first | assumption | (repeat (first | assumption | exact At.set_eq2 (by first | omega | (simp only [hset, hnew]; omega) | rfl | decide) | exact At.new_eq2 _ _ (by first | omega | (simp only [hset, hnew]; omega) | rfl | decide) | refine At.set_ne ?_ (by first | omega | (simp only [hset, hnew]; omega) | rfl | decide) | refine At.new_ne ?_)))) (hv := rfl) (r := ?_)
  refine tX12_act_73  (r := ?_)
  refine tX12_act_74 (ha := (by first | assumption | (repeat (first | assumption | exact At.set_eq2 (by first | omega | (simp only [hset, hnew]; omega) | rfl | decide) | exact At.new_eq2 _ _ (by first | omega | (simp only [hset, hnew]; omega) | rfl | decide) | refine At.set_ne ?_ (by first | omega | (simp only [hset, hnew]; omega) | rfl | decide) | refine At.new_ne ?_)))) (hv := rfl) (r := ?_)
  refine tX12_act_77 (ha := (by first | assumption | (repeat (first | assumption | exact At.set_eq2 (by first | omega | (simp only [hset, hnew]; omega) | rfl | decide) | exact At.new_eq2 _ _ (by first | omega | (simp only [hset, hnew]; omega) | rfl | decide) | refine At.set_ne ?_ (by first | omega | (simp only [hset, hnew]; omega) | rfl | decide) | refine At.new_ne ?_)))) (hx := rfl) (hj := (by omega)) (hn := (by decide)) (r := ?_)
  rw [x2 _ b3]
  show RQ _ _ _ _ _ (.int (nI (soK (K.2.1 (pPo s)))) :: _) _ _
  rw [kv, ek]
  show RQ _ _ _ _ _ (.int (nI 9) :: _) _ _
  refine tX12_act_78  (r := ?_)
  refine tX12_act_79  (r := ?_)
  refine tX12_act_80  (r := ?_)
  refine tX12_act_81 (ha := (by first | assumption | (repeat (first | assumption | exact At.set_eq2 (by first | omega | (simp only [hset, hnew]; omega) | rfl | decide) | exact At.new_eq2 _ _ (by first | omega | (simp only [hset, hnew]; omega) | rfl | decide) | refine At.set_ne ?_ (by first | omega | (simp only [hset, hnew]; omega) | rfl | decide) | refine At.new_ne ?_)))) (hv := rfl) (r := ?_)
  refine tX12_act_84  (r := ?_)
  refine tX12_act_85  (r := ?_)
  rw [nI_add]
  refine tX12_act_86 (ha := (by first | assumption | (repeat (first | assumption | exact At.set_eq2 (by first | omega | (simp only [hset, hnew]; omega) | rfl | decide) | exact At.new_eq2 _ _ (by first | omega | (simp only [hset, hnew]; omega) | rfl | decide) | refine At.set_ne ?_ (by first | omega | (simp only [hset, hnew]; omega) | rfl | decide) | refine At.new_ne ?_)))) (hlen := rfl) (r := ?_)
  have rx1 := rx.next a0 (by omega)
  have rx2 := rx1.self.out (i := m + 28 + 12) (c := .inl (0, 61, .inl (upd f1 g.2.2.2.2.1 (nI 9)))) (by omega)
  have rx3 := rx2.out (i := m + 28 + 14) (c := .inl (0, 61, .inl (upd f3 g.2.2.2.2.1 (nI no)))) (by omega)
  have uy3 := (((u0.set (i := m) (c := MrO m (pPo s + 1, pEr s, pEt s, pDf s) 0 g.2.2.2.2.2 th by_ ea) (Or.inl rfl)).set (i := m + 28 + 12) (c := .inl (0, 61, .inl (upd f1 g.2.2.2.2.1 (nI 9)))) (by omega)).set (i := m + 28 + 14) (c := .inl (0, 61, .inl (upd f3 g.2.2.2.2.1 (nI no)))) (by omega))
  have rx3 := rx3.eqv (show Eqv _ (tkP K 9 s) from by rw [et]; exact Eqv.rf _)
  obtain ⟨⟨th3, by3, ea3, p3⟩, pp3, -, -, -, -, b23, -⟩ := id rx3
  have zz3 := p3.1
  have m1_ : At _ (m + 28 + 12) _ := At.set_ne (i := m + 28 + 14) (c := .inl (0, 61, .inl (upd f3 g.2.2.2.2.1 (nI no)))) (At.set_eq2 (h := hset h m (MrO m (pPo s + 1, pEr s, pEt s, pDf s) 0 g.2.2.2.2.2 th by_ ea)) (i := m + 28 + 12) (c := .inl (0, 61, .inl (upd f1 g.2.2.2.2.1 (nI 9)))) l40) (by omega)
  have m2_ : At _ (m + 28 + 13) _ := At.set_ne (i := m + 28 + 14) (c := .inl (0, 61, .inl (upd f3 g.2.2.2.2.1 (nI no)))) (At.set_ne (i := m + 28 + 12) (c := .inl (0, 61, .inl (upd f1 g.2.2.2.2.1 (nI 9)))) (At.set_ne (i := m) (c := MrO m (pPo s + 1, pEr s, pEt s, pDf s) 0 g.2.2.2.2.2 th by_ ea) e2_ (by omega)) (by omega)) (by omega)
  have m3_ : At _ (m + 28 + 14) _ := At.set_eq2 (h := hset (hset h m (MrO m (pPo s + 1, pEr s, pEt s, pDf s) 0 g.2.2.2.2.2 th by_ ea)) (m + 28 + 12) (.inl (0, 61, .inl (upd f1 g.2.2.2.2.1 (nI 9))))) (i := m + 28 + 14) (c := .inl (0, 61, .inl (upd f3 g.2.2.2.2.1 (nI no)))) l42
  have m4_ : At _ (m + 28 + 15) _ := At.set_ne (i := m + 28 + 14) (c := .inl (0, 61, .inl (upd f3 g.2.2.2.2.1 (nI no)))) (At.set_ne (i := m + 28 + 12) (c := .inl (0, 61, .inl (upd f1 g.2.2.2.2.1 (nI 9)))) (At.set_ne (i := m) (c := MrO m (pPo s + 1, pEr s, pEt s, pDf s) 0 g.2.2.2.2.2 th by_ ea) e4_ (by omega)) (by omega)) (by omega)
  refine tX12_act_89  (r := ?_)
  refine tX12_act_90 (ha := (by first | assumption | (repeat (first | assumption | exact At.set_eq2 (by first | omega | (simp only [hset, hnew]; omega) | rfl | decide) | exact At.new_eq2 _ _ (by first | omega | (simp only [hset, hnew]; omega) | rfl | decide) | refine At.set_ne ?_ (by first | omega | (simp only [hset, hnew]; omega) | rfl | decide) | refine At.new_ne ?_)))) (hv := rfl) (r := ?_)
  refine tX12_act_93 (ha := (by first | assumption | (repeat (first | assumption | exact At.set_eq2 (by first | omega | (simp only [hset, hnew]; omega) | rfl | decide) | exact At.new_eq2 _ _ (by first | omega | (simp only [hset, hnew]; omega) | rfl | decide) | refine At.set_ne ?_ (by first | omega | (simp only [hset, hnew]; omega) | rfl | decide) | refine At.new_ne ?_)))) (hv := rfl) (r := ?_)
  refine tX12_act_96  (r := ?_)
  refine tX12_act_97  (r := ?_)
  refine tX12_act_98 (ha := (by first | assumption | (repeat (first | assumption | exact At.set_eq2 (by first | omega | (simp only [hset, hnew]; omega) | rfl | decide) | exact At.new_eq2 _ _ (by first | omega | (simp only [hset, hnew]; omega) | rfl | decide) | refine At.set_ne ?_ (by first | omega | (simp only [hset, hnew]; omega) | rfl | decide) | refine At.new_ne ?_)))) (hx := rfl) (hj := (by omega)) (hn := (by decide)) (r := ?_)
  refine tX12_act_99  (r := ?_)
  refine tX12_act_100 (ha := (by first | assumption | (repeat (first | assumption | exact At.set_eq2 (by first | omega | (simp only [hset, hnew]; omega) | rfl | decide) | exact At.new_eq2 _ _ (by first | omega | (simp only [hset, hnew]; omega) | rfl | decide) | refine At.set_ne ?_ (by first | omega | (simp only [hset, hnew]; omega) | rfl | decide) | refine At.new_ne ?_)))) (hv := rfl) (r := ?_)
  refine tX12_act_103 (ha := (by first | assumption | (repeat (first | assumption | exact At.set_eq2 (by first | omega | (simp only [hset, hnew]; omega) | rfl | decide) | exact At.new_eq2 _ _ (by first | omega | (simp only [hset, hnew]; omega) | rfl | decide) | refine At.set_ne ?_ (by first | omega | (simp only [hset, hnew]; omega) | rfl | decide) | refine At.new_ne ?_)))) (hv := rfl) (r := ?_)
  refine tX12_act_106  (r := ?_)
  refine tX12_act_107  (r := ?_)
  refine tX12_act_108 (ha := (by first | assumption | (repeat (first | assumption | exact At.set_eq2 (by first | omega | (simp only [hset, hnew]; omega) | rfl | decide) | exact At.new_eq2 _ _ (by first | omega | (simp only [hset, hnew]; omega) | rfl | decide) | refine At.set_ne ?_ (by first | omega | (simp only [hset, hnew]; omega) | rfl | decide) | refine At.new_ne ?_)))) (hv := rfl) (r := ?_)
  refine tX12_act_111 (ha := (by first | assumption | (repeat (first | assumption | exact At.set_eq2 (by first | omega | (simp only [hset, hnew]; omega) | rfl | decide) | exact At.new_eq2 _ _ (by first | omega | (simp only [hset, hnew]; omega) | rfl | decide) | refine At.set_ne ?_ (by first | omega | (simp only [hset, hnew]; omega) | rfl | decide) | refine At.new_ne ?_)))) (hv := rfl) (r := ?_)
  refine tX12_act_114 (ha := (by first | assumption | (repeat (first | assumption | exact At.set_eq2 (by first | omega | (simp only [hset, hnew]; omega) | rfl | decide) | exact At.new_eq2 _ _ (by first | omega | (simp only [hset, hnew]; omega) | rfl | decide) | refine At.set_ne ?_ (by first | omega | (simp only [hset, hnew]; omega) | rfl | decide) | refine At.new_ne ?_)))) (hx := rfl) (hj := (by omega)) (hn := (by decide)) (r := ?_)
  refine tX12_act_115  (r := ?_)
  refine tX12_act_116  (r := ?_)
  refine tX12_act_118  (kt := fun c_ => by exfalso; exact c_ rfl) (kf := fun _ => ?_)
  refine tX12_act_121  (r := ?_)
  refine tX12_act_122 (ha := (by first | assumption | (repeat (first | assumption | exact At.set_eq2 (by first | omega | (simp only [hset, hnew]; omega) | rfl | decide) | exact At.new_eq2 _ _ (by first | omega | (simp only [hset, hnew]; omega) | rfl | decide) | refine At.set_ne ?_ (by first | omega | (simp only [hset, hnew]; omega) | rfl | decide) | refine At.new_ne ?_)))) (hv := rfl) (r := ?_)
  refine tX12_act_125 (ha := (by first | assumption | (repeat (first | assumption | exact At.set_eq2 (by first | omega | (simp only [hset, hnew]; omega) | rfl | decide) | exact At.new_eq2 _ _ (by first | omega | (simp only [hset, hnew]; omega) | rfl | decide) | refine At.set_ne ?_ (by first | omega | (simp only [hset, hnew]; omega) | rfl | decide) | refine At.new_ne ?_)))) (hv := rfl) (r := ?_)
  refine tX12_act_128  (r := ?_)
  refine tX12_act_129  (r := ?_)
  refine tX12_act_130 (hd := (by omega)) (ha := (by first | assumption | (repeat (first | assumption | exact At.set_eq2 (by first | omega | (simp only [hset, hnew]; omega) | rfl | decide) | exact At.new_eq2 _ _ (by first | omega | (simp only [hset, hnew]; omega) | rfl | decide) | refine At.set_ne ?_ (by first | omega | (simp only [hset, hnew]; omega) | rfl | decide) | refine At.new_ne ?_)))) (call := s_mvalue 6 0 60 (by decide) (by decide) _ _ _ rx3) (k := ?_)
  rintro v4 h4 ⟨n4, rx4, hv4, hb4⟩
  obtain ⟨⟨th4, by4, ea4, p4⟩, pp4, -, -, -, -, -, -, -, -, -, u4, -⟩ := id rx4
  have r1 := u4.at m1_ (by omega) (by omega) (by omega)
  have r2 := u4.at m2_ (by omega) (by omega) (by omega)
  have r3 := u4.at m3_ (by omega) (by omega) (by omega)
  have r4 := u4.at m4_ (by omega) (by omega) (by omega)
  have lr4 := r4.1
  have rx5 := rx4.self.out (i := m + 28 + 15) (c := .inl (0, 61, .inl (upd f4 g.2.2.2.2.1 v4))) (by omega)
  have p5 : At _ m _ := At.set_ne (i := m + 28 + 15) (c := .inl (0, 61, .inl (upd f4 g.2.2.2.2.1 v4))) p4 (by omega)
  have m1b : At _ (m + 28 + 12) _ := At.set_ne (i := m + 28 + 15) (c := .inl (0, 61, .inl (upd f4 g.2.2.2.2.1 v4))) r1 (by omega)
  have m2b : At _ (m + 28 + 13) _ := At.set_ne (i := m + 28 + 15) (c := .inl (0, 61, .inl (upd f4 g.2.2.2.2.1 v4))) r2 (by omega)
  have m3b : At _ (m + 28 + 14) _ := At.set_ne (i := m + 28 + 15) (c := .inl (0, 61, .inl (upd f4 g.2.2.2.2.1 v4))) r3 (by omega)
  have m4b : At _ (m + 28 + 15) _ := At.set_eq2 (h := h4) (i := m + 28 + 15) (c := .inl (0, 61, .inl (upd f4 g.2.2.2.2.1 v4))) lr4
  refine tX12_act_133 (ha := r4) (hx := rfl) (hj := (by omega)) (hn := (by decide)) (r := ?_)
  refine tX12_act_134  (r := ?_)
  refine tX12_act_135  (r := ?_)
  refine tX12_act_137 (hd := (by omega)) (ha := (by first | assumption | (repeat (first | assumption | exact At.set_eq2 (by first | omega | (simp only [hset, hnew]; omega) | rfl | decide) | exact At.new_eq2 _ _ (by first | omega | (simp only [hset, hnew]; omega) | rfl | decide) | refine At.set_ne ?_ (by first | omega | (simp only [hset, hnew]; omega) | rfl | decide) | refine At.new_ne ?_)))) (call := s_mtake (d := 40) (by decide) rx5 (k := 10) (by decide)) (k := ?_)
  intro h6 rx6
  obtain ⟨⟨th6, by6, ea6, p6⟩, pp6, -⟩ := id rx6
  refine tX12_act_140  (r := ?_)
  refine tX12_act_141 (ha := (by first | assumption | (repeat (first | assumption | exact At.set_eq2 (by first | omega | (simp only [hset, hnew]; omega) | rfl | decide) | exact At.new_eq2 _ _ (by first | omega | (simp only [hset, hnew]; omega) | rfl | decide) | refine At.set_ne ?_ (by first | omega | (simp only [hset, hnew]; omega) | rfl | decide) | refine At.new_ne ?_)))) (hv := rfl) (r := ?_)
  refine tX12_act_144 (ha := (by first | assumption | (repeat (first | assumption | exact At.set_eq2 (by first | omega | (simp only [hset, hnew]; omega) | rfl | decide) | exact At.new_eq2 _ _ (by first | omega | (simp only [hset, hnew]; omega) | rfl | decide) | refine At.set_ne ?_ (by first | omega | (simp only [hset, hnew]; omega) | rfl | decide) | refine At.new_ne ?_)))) (hv := rfl) (r := ?_)
  refine tX12_act_147  (r := ?_)
  refine tX12_act_148  (r := ?_)
  refine tX12_act_149  (r := ?_)
  refine tX12_act_150 (hd := (by omega)) (ha := (by first | assumption | (repeat (first | assumption | exact At.set_eq2 (by first | omega | (simp only [hset, hnew]; omega) | rfl | decide) | exact At.new_eq2 _ _ (by first | omega | (simp only [hset, hnew]; omega) | rfl | decide) | refine At.set_ne ?_ (by first | omega | (simp only [hset, hnew]; omega) | rfl | decide) | refine At.new_ne ?_)))) (call := s_mname (d := 40) (by decide) rx6 (w := 0) (by decide)) (k := ?_)
  rintro v7 h7 ⟨hv7, rx7⟩
  rw [nb_0, laP_eq] at hv7 rx7
  obtain ⟨⟨th7, by7, ea7, p7⟩, pp7, -, -, -, -, -, -, -, -, -, u7, -⟩ := id rx7
  have w41 := u7.at m2b (by omega) (by omega) (by omega)
  have l7 := p7.1
  have l77 := pp7.1
  have rx8 := rx7.self.out (i := m + 28 + 13) (c := .inl (0, 61, .inl (upd f2 g.2.2.2.2.1 v7))) (by omega)
  refine tX12_act_153 (ha := w41) (hx := rfl) (hj := (by omega)) (hn := (by decide)) (r := ?_)
  refine tX12_act_154  (r := ?_)
  refine tX12_act_155  (r := ?_)
  refine tX12_act_157  (kf := fun c_ => by exfalso; exact absurd c_ (by decide)) (kt := fun _ => ?_)
  refine tX12_act_174  (r := ?_)
  refine tX12_act_175  (r := ?_)
  refine tX12_act_177  (kf := fun c_ => by exfalso; exact absurd c_ (by decide)) (kt := fun _ => ?_)
  refine tX12_act_194  (r := ?_)
  refine tX12_act_195 (ha := (by first | assumption | (repeat (first | assumption | exact At.set_eq2 (by first | omega | (simp only [hset, hnew]; omega) | rfl | decide) | exact At.new_eq2 _ _ (by first | omega | (simp only [hset, hnew]; omega) | rfl | decide) | refine At.set_ne ?_ (by first | omega | (simp only [hset, hnew]; omega) | rfl | decide) | refine At.new_ne ?_)))) (hv := rfl) (r := ?_)
  refine tX12_act_198  (r := ?_)
  refine tX12_act_200  (r := ?_)
  refine tX12_act_201  (r := ?_)
  refine tX12_act_202  (r := ?_)
  rw [nI_add]
  refine tX12_act_203 (hd := (by omega)) (r := ?_)
  rw [nI_minN (by decide) (by omega)]
  refine tX12_act_206 (ha := (by first | assumption | (repeat (first | assumption | exact At.set_eq2 (by first | omega | (simp only [hset, hnew]; omega) | rfl | decide) | exact At.new_eq2 _ _ (by first | omega | (simp only [hset, hnew]; omega) | rfl | decide) | refine At.set_ne ?_ (by first | omega | (simp only [hset, hnew]; omega) | rfl | decide) | refine At.new_ne ?_)))) (hlen := rfl) (r := ?_)
  refine tX12_act_209  (hP := ?_)
  have rx9 := rx8.cnt (g2 := gAc g (min 60 (g.2.2.2.2.1 + 1))) rfl
  have EQ : Eqv (tkP K 39 (laP K (tkP K 10 (smP K 6 (tkP K 9 s)).1))) (awP K kk s) := by
    unfold awP
    exact ((Eqv.ar (k := kk) (x := (9, (lbO K (tkP K 10 (smP K 6 (tkP K 9 s)).1)).getD 0, nNo (pBk s), (smP K 6 (tkP K 9 s)).2)) _).trans (Eqv.tk (w := 39) (Eqv.st (kd := 9) (n := (lbO K (tkP K 10 (smP K 6 (tkP K 9 s)).1)).getD 0) (laP K (tkP K 10 (smP K 6 (tkP K 9 s)).1))))).symm
  refine ⟨rfl, _, _, ⟨rx9.eqv EQ, AcX.fin (s := s) (x := (9, (lbO K (tkP K 10 (smP K 6 (tkP K 9 s)).1)).getD 0, nNo (pBk s), (smP K 6 (tkP K 9 s)).2)) c1 c2 c3 c4 (At.set_ne (At.set_ne (u7.at m1b (by omega) (by omega) (by omega)) (by omega)) (by omega)) (At.set_ne (At.set_eq2 (u7.at m2b (by omega) (by omega) (by omega)).1) (by omega)) (At.set_ne (At.set_ne (u7.at m3b (by omega) (by omega) (by omega)) (by omega)) (by omega)) (At.set_ne (At.set_ne (u7.at m4b (by omega) (by omega) (by omega)) (by omega)) (by omega)) (fun z => ?_) (fun k hk => if_neg (by omega)) (fun k hk => if_neg (by omega)), fun z => ?_, Nat.min_le_left _ _, ((((uy3.trans (u4.y (by omega))).set (i := m + 28 + 15) (by omega)).trans (u7.y (by omega))).set (i := m + 28 + 13) (by omega) |>.set (Or.inr (Or.inl rfl)))⟩, ?_, ?_⟩
  · have RS_ : rsS (tkP K 39 (stP 9 ((lbO K (tkP K 10 (smP K 6 (tkP K 9 s)).1)).getD 0) (laP K (tkP K 10 (smP K 6 (tkP K 9 s)).1)))) = rsS s := by
      rw [rs_tk, rs_st, ← laP_eq, rs_rpO, rs_tk, rs_sm, rs_tk]
    have zz : pEr (awP K kk s) = 0 := z
    unfold awP at zz
    have z0 := upP_er0 zz
    have z7 : pEr (tkP K 39 (laP K (tkP K 10 (smP K 6 (tkP K 9 s)).1))) = 0 := (EQ.2.1.trans z)
    have z6 : pEr (smP K 6 (tkP K 9 s)).1 = 0 := (tkP_er (laP_er0 (tkP_er z7).1)).1
    have zs : pEr s = 0 := s1er (smP_er0 6 _ z6)
    obtain ⟨z1, z2, z3⟩ := hn zs
    refine ⟨zs, z3, ?_, rfl, fun _ => ?_, fun _ => ⟨by rw [b1 zs], ?_⟩⟩
    · show nAc (pBk (awP K kk s)) = _
      unfold awP
      rw [(up_ar z0).1, (rs_ac RS_).1, z1]
    · show (if g.2.2.2.2.1 = g.2.2.2.2.1 then v7 else f2 g.2.2.2.2.1) = _
      rw [if_pos rfl]
      exact hv7 z7
    · show (if g.2.2.2.2.1 = g.2.2.2.2.1 then v4 else f4 g.2.2.2.2.1) = _
      rw [if_pos rfl]
      exact hv4 z6
  · have RS_ : rsS (tkP K 39 (stP 9 ((lbO K (tkP K 10 (smP K 6 (tkP K 9 s)).1)).getD 0) (laP K (tkP K 10 (smP K 6 (tkP K 9 s)).1)))) = rsS s := by
      rw [rs_tk, rs_st, ← laP_eq, rs_rpO, rs_tk, rs_sm, rs_tk]
    have zz : pEr (awP K kk s) = 0 := z
    unfold awP at zz
    have z0 := upP_er0 zz
    have z7 : pEr (tkP K 39 (laP K (tkP K 10 (smP K 6 (tkP K 9 s)).1))) = 0 := (EQ.2.1.trans z)
    have z6 : pEr (smP K 6 (tkP K 9 s)).1 = 0 := (tkP_er (laP_er0 (tkP_er z7).1)).1
    have zs : pEr s = 0 := s1er (smP_er0 6 _ z6)
    obtain ⟨z1, z2, z3⟩ := hn zs
    show min 60 (g.2.2.2.2.1 + 1) = nAn (pBk (awP K kk s))
    unfold awP
    rw [(up_ar z0).2, (rs_ac RS_).2.1, ← z2]
    omega
  · rw [← EQ.1]
    have pp : pPo (tkP K 9 s) = pPo s + 1 := by rw [et]
    have p9 := (tkP_po (K := K) (w := 39) (s := laP K (tkP K 10 (smP K 6 (tkP K 9 s)).1))).1
    rw [laP_po] at p9
    have p8 := (tkP_po (K := K) (w := 10) (s := (smP K 6 (tkP K 9 s)).1)).1
    have p7 := smP_po (K := K) 6 (tkP K 9 s)
    omega
  · rw [← EQ.1]
    have pp : pPo (tkP K 9 s) = pPo s + 1 := by rw [et]
    have p9 := (tkP_po (K := K) (w := 39) (s := laP K (tkP K 10 (smP K 6 (tkP K 9 s)).1))).1
    rw [laP_po] at p9
    have p8 := (tkP_po (K := K) (w := 10) (s := (smP K 6 (tkP K 9 s)).1)).1
    have p7 := smP_po (K := K) 6 (tkP K 9 s)
    omega

end RMI
