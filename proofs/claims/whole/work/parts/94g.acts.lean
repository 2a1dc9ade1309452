/-! the reference's acts -/
theorem nI_minN {a b : Nat} (ha : a < 2147483648) (hb : b < 2147483648) : (if nI b < nI a then nI b else nI a) = nI (min a b) := by
  by_cases e : b < a
  · rw [if_pos ((nI_ltI hb ha).mpr e), Nat.min_eq_right (by omega)]
  · rw [if_neg (fun z => e ((nI_ltI hb ha).mp z)), Nat.min_eq_left (by omega)]
section RMH
variable {G : GT} {d : Nat} {h0 h : AH} {m : Nat} {K : TKS} {T : List Nat} {L : Nat → Nat} {s : PST} {dp : Nat} {g : GCT} {no : Nat}
theorem AcX.fin {H : AH} {s' : PST} {ac : Nat} {f1 f2 f3 f4 g2 g4 : Nat → Int32} {x1 x3 : Int32} {x : Nat × Nat × Nat × Nat} (c1 : ∀ k, k < okc s ac → f1 k = nI (aDo (pBk s) k)) (c2 : ∀ k, k < okc s ac → (aDo (pBk s) k = 9 ∨ aDo (pBk s) k = 11 ∨ aDo (pBk s) k = 13) → f2 k = nI (aWh (pBk s) k)) (c3 : ∀ k, k < okc s ac → aDo (pBk s) k = 9 → f3 k = nI (aSf (pBk s) k)) (c4 : ∀ k, k < okc s ac → aDo (pBk s) k = 9 → f4 k = nI (aSu (pBk s) k)) (a1 : At H (m + 28 + 12) (.inl (0, 61, .inl (upd f1 ac x1)))) (a2 : At H (m + 28 + 13) (.inl (0, 61, .inl g2))) (a3 : At H (m + 28 + 14) (.inl (0, 61, .inl (upd f3 ac x3)))) (a4 : At H (m + 28 + 15) (.inl (0, 61, .inl g4))) (hs : pEr s' = 0 → pEr s = 0 ∧ ac < 60 ∧ nAc (pBk s') = upN (nAc (pBk s)) ac x ∧ x1 = nI x.1 ∧ ((x.1 = 9 ∨ x.1 = 11 ∨ x.1 = 13) → g2 ac = nI x.2.1) ∧ (x.1 = 9 → x3 = nI x.2.2.1 ∧ g4 ac = nI x.2.2.2)) (g2o : ∀ k, k < ac → g2 k = f2 k) (g4o : ∀ k, k < ac → g4 k = f4 k) : AcX H m s' (min 60 (ac + 1)) := by
  by_cases z : pEr s' = 0
  · obtain ⟨z0, z1, z2, z3, z4, z5⟩ := hs z
    have e1 : okc s' (min 60 (ac + 1)) = ac + 1 := by
      unfold okc
      rw [if_pos z]
      omega
    have e2 : okc s ac = ac := if_pos z0
    rw [e2] at c1 c2 c3 c4
    unfold AcX NiX
    unfold aDo aWh aSf aSu
    unfold aDo at c1
    unfold aDo aWh at c2
    unfold aDo aSf at c3
    unfold aDo aSu at c4
    rw [e1, z2]
    have ue : upN (nAc (pBk s)) ac x ac = x := if_pos rfl
    have un : ∀ k, k ≠ ac → upN (nAc (pBk s)) ac x k = nAc (pBk s) k := fun k hk => if_neg hk
    refine ⟨⟨_, a1, fun k hk => ?_⟩, ⟨_, a2, fun k hk => ?_⟩, ⟨_, a3, fun k hk => ?_⟩, ⟨_, a4, fun k hk => ?_⟩⟩
    · by_cases q : k = ac
      · subst q
        show (if k = k then x1 else f1 k) = nI (upN (nAc (pBk s)) k x k).1
        rw [if_pos rfl, ue, z3]
      · show (if k = ac then x1 else f1 k) = nI (upN (nAc (pBk s)) ac x k).1
        rw [if_neg q, un k q]
        exact c1 k (by omega)
    · by_cases q : k = ac
      · subst q
        rw [ue]
        exact z4
      · rw [un k q, g2o k (by omega)]
        exact c2 k (by omega)
    · by_cases q : k = ac
      · subst q
        rw [ue]
        intro w
        show (if k = k then x3 else f3 k) = _
        rw [if_pos rfl]
        exact (z5 w).1
      · rw [un k q]
        show _ → (if k = ac then x3 else f3 k) = _
        rw [if_neg q]
        exact c3 k (by omega)
    · by_cases q : k = ac
      · subst q
        rw [ue]
        exact fun w => (z5 w).2
      · rw [un k q, g4o k (by omega)]
        exact c4 k (by omega)
  · exact ⟨⟨_, a1, fun k hk => absurd hk (okc_0 z)⟩, ⟨_, a2, fun k hk => absurd hk (okc_0 z)⟩, ⟨_, a3, fun k hk => absurd hk (okc_0 z)⟩, ⟨_, a4, fun k hk => absurd hk (okc_0 z)⟩⟩
theorem Eqv.ar {k : Nat} {x : Nat × Nat × Nat × Nat} (s : PST) : Eqv (upP (arD k x) s) s := Eqv.up (f := arD k x) (fun _ => ⟨rfl, rfl⟩) s

set_option maxHeartbeats 4000000 in
set_option maxRecDepth 100000 in
theorem s_mac12 (hd : 50 ≤ d) (rx : RxM h h m K T L s 0 g no) (ax : AcX h m s g.2.2.2.2.1) {kk : Nat} (hn : pEr s = 0 → kk = g.2.2.2.2.1 ∧ g.2.2.2.2.1 + 1 = nAn (pBk s) ∧ g.2.2.2.2.1 < 60) (h60 : g.2.2.2.2.1 ≤ 60) (u0 : Uy h0 h m (m + 28 + 12)) (ek : kdP K s = 12) : RQ G mX12_act d 69 [some (.ref m), some (.int (nI g.2.2.2.2.1)), none] [] h (Rv fun h1 => ∃ ac1 no1, RaM h0 h1 m K T L (aoP K 12 kk s) (gAc g ac1) no1 ∧ no1 + pPo s ≤ no + pPo (aoP K 12 kk s) ∧ pPo s + 1 ≤ pPo (aoP K 12 kk s)) := by
  obtain ⟨⟨f1, e1_, c1⟩, ⟨f2, e2_, c2⟩, ⟨f3, e3_, c3⟩, ⟨f4, e4_, c4⟩⟩ := id ax
  obtain ⟨⟨th, by_, ea, a0⟩, a1, ⟨q2, a2, cc2⟩, ⟨q3, a3, cc3⟩, ⟨q4, a4, cc4⟩, b1, b2, b3, b4, b5, b6, u, tk, nm⟩ := id rx
  obtain ⟨⟨v1, y1, x1⟩, ⟨v2, y2, x2⟩, ⟨v3, y3, x3⟩, ⟨v4, y4, x4⟩, ⟨v5, y5, x5⟩, tw⟩ := id tk
  have k401 := tw.2.1
  have w1 := u.at y1 (by omega) (by omega) (by omega)
  have w2 := u.at y2 (by omega) (by omega) (by omega)
  have w3 := u.at y3 (by omega) (by omega) (by omega)
  have w4 := u.at y4 (by omega) (by omega) (by omega)
  have w5 := u.at y5 (by omega) (by omega) (by omega)
  have z0 := a0.1
  have z1 := a1.1
  have l2_ := a2.1
  have l3_ := a3.1
  have l4_ := a4.1
  have l40 := e1_.1
  have l41 := e2_.1
  have l42 := e3_.1
  have l43 := e4_.1
  obtain ⟨et, e1⟩ := tkP_y (K := K) (s := s) ek (by decide)
  have kv : K.2.1 (pPo s) = kdP K s := by
    have e2 : kdP K s = kdT K (pPo s) := if_neg e1
    rw [e2, rx.ne42.1]
  have s1er : ∀ {w : Nat}, pEr (tkP K w s) = 0 → pEr s = 0 := fun z => (tkP_er z).1
  refine tX12_act_69  (r := ?_)
  refine tX12_act_70 (ha := (by first | assumption | (repeat (first | assumption | exact At.set_eq2 (by first | omega | (simp only [hset, hnew]; omega) | rfl | decide) | exact At.new_eq2 _ _ (by first | omega | (simp only [hset, hnew]; omega) | rfl | decide) | refine At.set_ne ?_ (by first | omega | (simp only [hset, hnew]; omega) | rfl | decide) | refine At.new_ne ?_)))) (hv := rfl) (r := ?_)
  refine tX12_act_73  (r := ?_)
  refine tX12_act_74 (ha := (by first | assumption | (repeat (first | assumption | exact At.set_eq2 (by first | omega | (simp only [hset, hnew]; omega) | rfl | decide) | exact At.new_eq2 _ _ (by first | omega | (simp only [hset, hnew]; omega) | rfl | decide) | refine At.set_ne ?_ (by first | omega | (simp only [hset, hnew]; omega) | rfl | decide) | refine At.new_ne ?_)))) (hv := rfl) (r := ?_)
  refine tX12_act_77 (ha := (by first | assumption | (repeat (first | assumption | exact At.set_eq2 (by first | omega | (simp only [hset, hnew]; omega) | rfl | decide) | exact At.new_eq2 _ _ (by first | omega | (simp only [hset, hnew]; omega) | rfl | decide) | refine At.set_ne ?_ (by first | omega | (simp only [hset, hnew]; omega) | rfl | decide) | refine At.new_ne ?_)))) (hx := rfl) (hj := (by omega)) (hn := (by decide)) (r := ?_)
  rw [x2 _ b3]
  show RQ _ _ _ _ _ (.int (nI (soK (K.2.1 (pPo s)))) :: _) _ _
  rw [kv, ek]
  show RQ _ _ _ _ _ (.int (nI 12) :: _) _ _
  refine tX12_act_78  (r := ?_)
  refine tX12_act_79  (r := ?_)
  refine tX12_act_80  (r := ?_)
  refine tX12_act_81 (ha := (by first | assumption | (repeat (first | assumption | exact At.set_eq2 (by first | omega | (simp only [hset, hnew]; omega) | rfl | decide) | exact At.new_eq2 _ _ (by first | omega | (simp only [hset, hnew]; omega) | rfl | decide) | refine At.set_ne ?_ (by first | omega | (simp only [hset, hnew]; omega) | rfl | decide) | refine At.new_ne ?_)))) (hv := rfl) (r := ?_)
  refine tX12_act_84  (r := ?_)
  refine tX12_act_85  (r := ?_)
  rw [nI_add]
  refine tX12_act_86 (ha := (by first | assumption | (repeat (first | assumption | exact At.set_eq2 (by first | omega | (simp only [hset, hnew]; omega) | rfl | decide) | exact At.new_eq2 _ _ (by first | omega | (simp only [hset, hnew]; omega) | rfl | decide) | refine At.set_ne ?_ (by first | omega | (simp only [hset, hnew]; omega) | rfl | decide) | refine At.new_ne ?_)))) (hlen := rfl) (r := ?_)
  have rx1 := rx.next a0 (by omega)
  have rx2 := rx1.self.out (i := m + 28 + 12) (c := .inl (0, 61, .inl (upd f1 g.2.2.2.2.1 (nI 12)))) (by omega)
  have rx3 := rx2.out (i := m + 28 + 14) (c := .inl (0, 61, .inl (upd f3 g.2.2.2.2.1 (nI no)))) (by omega)
  have uy3 := (((u0.set (i := m) (c := MrO m (pPo s + 1, pEr s, pEt s, pDf s) 0 g.2.2.2.2.2 th by_ ea) (Or.inl rfl)).set (i := m + 28 + 12) (c := .inl (0, 61, .inl (upd f1 g.2.2.2.2.1 (nI 12)))) (by omega)).set (i := m + 28 + 14) (c := .inl (0, 61, .inl (upd f3 g.2.2.2.2.1 (nI no)))) (by omega))
  have rx3 := rx3.eqv (show Eqv _ (tkP K 12 s) from by rw [et]; exact Eqv.rf _)
  obtain ⟨⟨th3, by3, ea3, p3⟩, pp3, -, -, -, -, b23, -⟩ := id rx3
  have zz3 := p3.1
  have m1_ : At _ (m + 28 + 12) _ := At.set_ne (i := m + 28 + 14) (c := .inl (0, 61, .inl (upd f3 g.2.2.2.2.1 (nI no)))) (At.set_eq2 (h := hset h m (MrO m (pPo s + 1, pEr s, pEt s, pDf s) 0 g.2.2.2.2.2 th by_ ea)) (i := m + 28 + 12) (c := .inl (0, 61, .inl (upd f1 g.2.2.2.2.1 (nI 12)))) l40) (by omega)
  have m2_ : At _ (m + 28 + 13) _ := At.set_ne (i := m + 28 + 14) (c := .inl (0, 61, .inl (upd f3 g.2.2.2.2.1 (nI no)))) (At.set_ne (i := m + 28 + 12) (c := .inl (0, 61, .inl (upd f1 g.2.2.2.2.1 (nI 12)))) (At.set_ne (i := m) (c := MrO m (pPo s + 1, pEr s, pEt s, pDf s) 0 g.2.2.2.2.2 th by_ ea) e2_ (by omega)) (by omega)) (by omega)
  have m3_ : At _ (m + 28 + 14) _ := At.set_eq2 (h := hset (hset h m (MrO m (pPo s + 1, pEr s, pEt s, pDf s) 0 g.2.2.2.2.2 th by_ ea)) (m + 28 + 12) (.inl (0, 61, .inl (upd f1 g.2.2.2.2.1 (nI 12))))) (i := m + 28 + 14) (c := .inl (0, 61, .inl (upd f3 g.2.2.2.2.1 (nI no)))) l42
  have m4_ : At _ (m + 28 + 15) _ := At.set_ne (i := m + 28 + 14) (c := .inl (0, 61, .inl (upd f3 g.2.2.2.2.1 (nI no)))) (At.set_ne (i := m + 28 + 12) (c := .inl (0, 61, .inl (upd f1 g.2.2.2.2.1 (nI 12)))) (At.set_ne (i := m) (c := MrO m (pPo s + 1, pEr s, pEt s, pDf s) 0 g.2.2.2.2.2 th by_ ea) e4_ (by omega)) (by omega)) (by omega)
  refine tX12_act_89  (r := ?_)
  refine tX12_act_90 (ha := (by first | assumption | (repeat (first | assumption | exact At.set_eq2 (by first | omega | (simp only [hset, hnew]; omega) | rfl | decide) | exact At.new_eq2 _ _ (by first | omega | (simp only [hset, hnew]; omega) | rfl | decide) | refine At.set_ne ?_ (by first | omega | (simp only [hset, hnew]; omega) | rfl | decide) | refine At.new_ne ?_)))) (hv := rfl) (r := ?_)
  refine tX12_act_93 (ha := (by first | assumption | (repeat (first | assumption | exact At.set_eq2 (by first | omega | (simp only [hset, hnew]; omega) | rfl | decide) | exact At.new_eq2 _ _ (by first | omega | (simp only [hset, hnew]; omega) | rfl | decide) | refine At.set_ne ?_ (by first | omega | (simp only [hset, hnew]; omega) | rfl | decide) | refine At.new_ne ?_)))) (hv := rfl) (r := ?_)
  refine tX12_act_96  (r := ?_)
  refine tX12_act_97  (r := ?_)
  refine tX12_act_98 (ha := (by first | assumption | (repeat (first | assumption | exact At.set_eq2 (by first | omega | (simp only [hset, hnew]; omega) | rfl | decide) | exact At.new_eq2 _ _ (by first | omega | (simp only [hset, hnew]; omega) | rfl | decide) | refine At.set_ne ?_ (by first | omega | (simp only [hset, hnew]; omega) | rfl | decide) | refine At.new_ne ?_)))) (hx := rfl) (hj := (by omega)) (hn := (by decide)) (r := ?_)
  refine tX12_act_99  (r := ?_)
  refine tX12_act_100 (ha := (by first | assumption | (repeat (first | assumption | exact At.set_eq2 (by first | omega | (simp only [hset, hnew]; omega) | rfl | decide) | exact At.new_eq2 _ _ (by first | omega | (simp only [hset, hnew]; omega) | rfl | decide) | refine At.set_ne ?_ (by first | omega | (simp only [hset, hnew]; omega) | rfl | decide) | refine At.new_ne ?_)))) (hv := rfl) (r := ?_)
  refine tX12_act_103 (ha := (by first | assumption | (repeat (first | assumption | exact At.set_eq2 (by first | omega | (simp only [hset, hnew]; omega) | rfl | decide) | exact At.new_eq2 _ _ (by first | omega | (simp only [hset, hnew]; omega) | rfl | decide) | refine At.set_ne ?_ (by first | omega | (simp only [hset, hnew]; omega) | rfl | decide) | refine At.new_ne ?_)))) (hv := rfl) (r := ?_)
  refine tX12_act_106  (r := ?_)
  refine tX12_act_107  (r := ?_)
  refine tX12_act_108 (ha := (by first | assumption | (repeat (first | assumption | exact At.set_eq2 (by first | omega | (simp only [hset, hnew]; omega) | rfl | decide) | exact At.new_eq2 _ _ (by first | omega | (simp only [hset, hnew]; omega) | rfl | decide) | refine At.set_ne ?_ (by first | omega | (simp only [hset, hnew]; omega) | rfl | decide) | refine At.new_ne ?_)))) (hv := rfl) (r := ?_)
  refine tX12_act_111 (ha := (by first | assumption | (repeat (first | assumption | exact At.set_eq2 (by first | omega | (simp only [hset, hnew]; omega) | rfl | decide) | exact At.new_eq2 _ _ (by first | omega | (simp only [hset, hnew]; omega) | rfl | decide) | refine At.set_ne ?_ (by first | omega | (simp only [hset, hnew]; omega) | rfl | decide) | refine At.new_ne ?_)))) (hv := rfl) (r := ?_)
  refine tX12_act_114 (ha := (by first | assumption | (repeat (first | assumption | exact At.set_eq2 (by first | omega | (simp only [hset, hnew]; omega) | rfl | decide) | exact At.new_eq2 _ _ (by first | omega | (simp only [hset, hnew]; omega) | rfl | decide) | refine At.set_ne ?_ (by first | omega | (simp only [hset, hnew]; omega) | rfl | decide) | refine At.new_ne ?_)))) (hx := rfl) (hj := (by omega)) (hn := (by decide)) (r := ?_)
  refine tX12_act_115  (r := ?_)
  refine tX12_act_116  (r := ?_)
  refine tX12_act_118  (kf := fun c_ => by exfalso; exact absurd c_ (by decide)) (kt := fun _ => ?_)
  refine tX12_act_154  (r := ?_)
  refine tX12_act_155  (r := ?_)
  refine tX12_act_157  (kf := fun c_ => by exfalso; exact absurd c_ (by decide)) (kt := fun _ => ?_)
  refine tX12_act_174  (r := ?_)
  refine tX12_act_175  (r := ?_)
  refine tX12_act_177  (kf := fun c_ => by exfalso; exact absurd c_ (by decide)) (kt := fun _ => ?_)
  refine tX12_act_194  (r := ?_)
  refine tX12_act_195 (ha := (by first | assumption | (repeat (first | assumption | exact At.set_eq2 (by first | omega | (simp only [hset, hnew]; omega) | rfl | decide) | exact At.new_eq2 _ _ (by first | omega | (simp only [hset, hnew]; omega) | rfl | decide) | refine At.set_ne ?_ (by first | omega | (simp only [hset, hnew]; omega) | rfl | decide) | refine At.new_ne ?_)))) (hv := rfl) (r := ?_)
  refine tX12_act_198  (r := ?_)
  refine tX12_act_200  (r := ?_)
  refine tX12_act_201  (r := ?_)
  refine tX12_act_202  (r := ?_)
  rw [nI_add]
  refine tX12_act_203 (hd := (by omega)) (r := ?_)
  rw [nI_minN (by decide) (by omega)]
  refine tX12_act_206 (ha := (by first | assumption | (repeat (first | assumption | exact At.set_eq2 (by first | omega | (simp only [hset, hnew]; omega) | rfl | decide) | exact At.new_eq2 _ _ (by first | omega | (simp only [hset, hnew]; omega) | rfl | decide) | refine At.set_ne ?_ (by first | omega | (simp only [hset, hnew]; omega) | rfl | decide) | refine At.new_ne ?_)))) (hlen := rfl) (r := ?_)
  refine tX12_act_209  (hP := ?_)
  have rx9 := rx3.cnt (g2 := gAc g (min 60 (g.2.2.2.2.1 + 1))) rfl
  have EQ : Eqv (tkP K 12 s) (aoP K 12 kk s) := ((Eqv.ar _).trans (Eqv.tk (w := 12) (Eqv.st (kd := 12) (n := 0) s))).symm
  refine ⟨rfl, _, _, ⟨rx9.eqv EQ, AcX.fin (s := s) (x := (12, 0, 0, 0)) c1 c2 c3 c4 (At.set_ne m1_ (by omega)) (At.set_ne m2_ (by omega)) (At.set_ne m3_ (by omega)) (At.set_ne m4_ (by omega)) (fun z => ?_) (fun _ _ => rfl) (fun _ _ => rfl), fun z => ?_, Nat.min_le_left _ _, (uy3.set (Or.inr (Or.inl rfl)))⟩, ?_, ?_⟩
  · have z0 : pEr (tkP K 12 (stP 12 0 s)) = 0 := upP_er0 (f := arD kk (12, 0, 0, 0)) (s := tkP K 12 (stP 12 0 s)) z
    obtain ⟨z1, z2, z3⟩ := hn (stP_er0 (tkP_er z0).1)
    refine ⟨stP_er0 (tkP_er z0).1, z3, ?_, rfl, fun w => by omega, fun w => absurd w (by decide)⟩
    show nAc (pBk (upP (arD kk (12, 0, 0, 0)) (tkP K 12 (stP 12 0 s)))) = _
    rw [upP_e z0]
    show upN (nAc (pBk (tkP K 12 (stP 12 0 s)))) kk _ = _
    rw [(rs_ac ((rs_tk (K := K) (w := 12)).trans (rs_st (kd := 12) (n := 0) (s := s)))).1, z1]
  · have z0 : pEr (tkP K 12 (stP 12 0 s)) = 0 := upP_er0 (f := arD kk (12, 0, 0, 0)) (s := tkP K 12 (stP 12 0 s)) z
    obtain ⟨z1, z2, z3⟩ := hn (stP_er0 (tkP_er z0).1)
    show min 60 (g.2.2.2.2.1 + 1) = nAn (pBk (upP (arD kk (12, 0, 0, 0)) (tkP K 12 (stP 12 0 s))))
    rw [upP_e z0]
    show _ = nAn (pBk (tkP K 12 (stP 12 0 s)))
    rw [(rs_ac ((rs_tk (K := K) (w := 12)).trans (rs_st (kd := 12) (n := 0) (s := s)))).2.1, ← z2]
    omega
  · rw [← EQ.1]
    have pp : pPo (tkP K 12 s) = pPo s + 1 := by rw [et]
    omega
  · rw [← EQ.1]
    have pp : pPo (tkP K 12 s) = pPo s + 1 := by rw [et]
    omega

set_option maxHeartbeats 4000000 in
set_option maxRecDepth 100000 in
theorem s_mac14 (hd : 50 ≤ d) (rx : RxM h h m K T L s 0 g no) (ax : AcX h m s g.2.2.2.2.1) {kk : Nat} (hn : pEr s = 0 → kk = g.2.2.2.2.1 ∧ g.2.2.2.2.1 + 1 = nAn (pBk s) ∧ g.2.2.2.2.1 < 60) (h60 : g.2.2.2.2.1 ≤ 60) (u0 : Uy h0 h m (m + 28 + 12)) (ek : kdP K s = 14) : RQ G mX12_act d 69 [some (.ref m), some (.int (nI g.2.2.2.2.1)), none] [] h (Rv fun h1 => ∃ ac1 no1, RaM h0 h1 m K T L (aoP K 14 kk s) (gAc g ac1) no1 ∧ no1 + pPo s ≤ no + pPo (aoP K 14 kk s) ∧ pPo s + 1 ≤ pPo (aoP K 14 kk s)) := by
  obtain ⟨⟨f1, e1_, c1⟩, ⟨f2, e2_, c2⟩, ⟨f3, e3_, c3⟩, ⟨f4, e4_, c4⟩⟩ := id ax
  obtain ⟨⟨th, by_, ea, a0⟩, a1, ⟨q2, a2, cc2⟩, ⟨q3, a3, cc3⟩, ⟨q4, a4, cc4⟩, b1, b2, b3, b4, b5, b6, u, tk, nm⟩ := id rx
  obtain ⟨⟨v1, y1, x1⟩, ⟨v2, y2, x2⟩, ⟨v3, y3, x3⟩, ⟨v4, y4, x4⟩, ⟨v5, y5, x5⟩, tw⟩ := id tk
  have k401 := tw.2.1
  have w1 := u.at y1 (by omega) (by omega) (by omega)
  have w2 := u.at y2 (by omega) (by omega) (by omega)
  have w3 := u.at y3 (by omega) (by omega) (by omega)
  have w4 := u.at y4 (by omega) (by omega) (by omega)
  have w5 := u.at y5 (by omega) (by omega) (by omega)
  have z0 := a0.1
  have z1 := a1.1
  have l2_ := a2.1
  have l3_ := a3.1
  have l4_ := a4.1
  have l40 := e1_.1
  have l41 := e2_.1
  have l42 := e3_.1
  have l43 := e4_.1
  obtain ⟨et, e1⟩ := tkP_y (K := K) (s := s) ek (by decide)
  have kv : K.2.1 (pPo s) = kdP K s := by
    have e2 : kdP K s = kdT K (pPo s) := if_neg e1
    rw [e2, rx.ne42.1]
  have s1er : ∀ {w : Nat}, pEr (tkP K w s) = 0 → pEr s = 0 := fun z => (tkP_er z).1
  refine tX12_act_69  (r := ?_)
  refine tX12_act_70 (ha := (by first | assumption | (repeat (first | assumption | exact At.set_eq2 (by first | omega | (simp only [hset, hnew]; omega) | rfl | decide) | exact At.new_eq2 _ _ (by first | omega | (simp only [hset, hnew]; omega) | rfl | decide) | refine At.set_ne ?_ (by first | omega | (simp only [hset, hnew]; omega) | rfl | decide) | refine At.new_ne ?_)))) (hv := rfl) (r := ?_)
  refine tX12_act_73  (r := ?_)
  refine tX12_act_74 (ha := (by first | assumption | (repeat (first | assumption | exact At.set_eq2 (by first | omega | (simp only [hset, hnew]; omega) | rfl | decide) | exact At.new_eq2 _ _ (by first | omega | (simp only [hset, hnew]; omega) | rfl | decide) | refine At.set_ne ?_ (by first | omega | (simp only [hset, hnew]; omega) | rfl | decide) | refine At.new_ne ?_)))) (hv := rfl) (r := ?_)
  refine tX12_act_77 (ha := (by first | assumption | (repeat (first | assumption | exact At.set_eq2 (by first | omega | (simp only [hset, hnew]; omega) | rfl | decide) | exact At.new_eq2 _ _ (by first | omega | (simp only [hset, hnew]; omega) | rfl | decide) | refine At.set_ne ?_ (by first | omega | (simp only [hset, hnew]; omega) | rfl | decide) | refine At.new_ne ?_)))) (hx := rfl) (hj := (by omega)) (hn := (by decide)) (r := ?_)
  rw [x2 _ b3]
  show RQ _ _ _ _ _ (.int (nI (soK (K.2.1 (pPo s)))) :: _) _ _
  rw [kv, ek]
  show RQ _ _ _ _ _ (.int (nI 14) :: _) _ _
  refine tX12_act_78  (r := ?_)
  refine tX12_act_79  (r := ?_)
  refine tX12_act_80  (r := ?_)
  refine tX12_act_81 (ha := (by first | assumption | (repeat (first | assumption | exact At.set_eq2 (by first | omega | (simp only [hset, hnew]; omega) | rfl | decide) | exact At.new_eq2 _ _ (by first | omega | (simp only [hset, hnew]; omega) | rfl | decide) | refine At.set_ne ?_ (by first | omega | (simp only [hset, hnew]; omega) | rfl | decide) | refine At.new_ne ?_)))) (hv := rfl) (r := ?_)
  refine tX12_act_84  (r := ?_)
  refine tX12_act_85  (r := ?_)
  rw [nI_add]
  refine tX12_act_86 (ha := (by first | assumption | (repeat (first | assumption | exact At.set_eq2 (by first | omega | (simp only [hset, hnew]; omega) | rfl | decide) | exact At.new_eq2 _ _ (by first | omega | (simp only [hset, hnew]; omega) | rfl | decide) | refine At.set_ne ?_ (by first | omega | (simp only [hset, hnew]; omega) | rfl | decide) | refine At.new_ne ?_)))) (hlen := rfl) (r := ?_)
  have rx1 := rx.next a0 (by omega)
  have rx2 := rx1.self.out (i := m + 28 + 12) (c := .inl (0, 61, .inl (upd f1 g.2.2.2.2.1 (nI 14)))) (by omega)
  have rx3 := rx2.out (i := m + 28 + 14) (c := .inl (0, 61, .inl (upd f3 g.2.2.2.2.1 (nI no)))) (by omega)
  have uy3 := (((u0.set (i := m) (c := MrO m (pPo s + 1, pEr s, pEt s, pDf s) 0 g.2.2.2.2.2 th by_ ea) (Or.inl rfl)).set (i := m + 28 + 12) (c := .inl (0, 61, .inl (upd f1 g.2.2.2.2.1 (nI 14)))) (by omega)).set (i := m + 28 + 14) (c := .inl (0, 61, .inl (upd f3 g.2.2.2.2.1 (nI no)))) (by omega))
  have rx3 := rx3.eqv (show Eqv _ (tkP K 14 s) from by rw [et]; exact Eqv.rf _)
  obtain ⟨⟨th3, by3, ea3, p3⟩, pp3, -, -, -, -, b23, -⟩ := id rx3
  have zz3 := p3.1
  have m1_ : At _ (m + 28 + 12) _ := At.set_ne (i := m + 28 + 14) (c := .inl (0, 61, .inl (upd f3 g.2.2.2.2.1 (nI no)))) (At.set_eq2 (h := hset h m (MrO m (pPo s + 1, pEr s, pEt s, pDf s) 0 g.2.2.2.2.2 th by_ ea)) (i := m + 28 + 12) (c := .inl (0, 61, .inl (upd f1 g.2.2.2.2.1 (nI 14)))) l40) (by omega)
  have m2_ : At _ (m + 28 + 13) _ := At.set_ne (i := m + 28 + 14) (c := .inl (0, 61, .inl (upd f3 g.2.2.2.2.1 (nI no)))) (At.set_ne (i := m + 28 + 12) (c := .inl (0, 61, .inl (upd f1 g.2.2.2.2.1 (nI 14)))) (At.set_ne (i := m) (c := MrO m (pPo s + 1, pEr s, pEt s, pDf s) 0 g.2.2.2.2.2 th by_ ea) e2_ (by omega)) (by omega)) (by omega)
  have m3_ : At _ (m + 28 + 14) _ := At.set_eq2 (h := hset (hset h m (MrO m (pPo s + 1, pEr s, pEt s, pDf s) 0 g.2.2.2.2.2 th by_ ea)) (m + 28 + 12) (.inl (0, 61, .inl (upd f1 g.2.2.2.2.1 (nI 14))))) (i := m + 28 + 14) (c := .inl (0, 61, .inl (upd f3 g.2.2.2.2.1 (nI no)))) l42
  have m4_ : At _ (m + 28 + 15) _ := At.set_ne (i := m + 28 + 14) (c := .inl (0, 61, .inl (upd f3 g.2.2.2.2.1 (nI no)))) (At.set_ne (i := m + 28 + 12) (c := .inl (0, 61, .inl (upd f1 g.2.2.2.2.1 (nI 14)))) (At.set_ne (i := m) (c := MrO m (pPo s + 1, pEr s, pEt s, pDf s) 0 g.2.2.2.2.2 th by_ ea) e4_ (by omega)) (by omega)) (by omega)
  refine tX12_act_89  (r := ?_)
  refine tX12_act_90 (ha := (by first | assumption | (repeat (first | assumption | exact At.set_eq2 (by first | omega | (simp only [hset, hnew]; omega) | rfl | decide) | exact At.new_eq2 _ _ (by first | omega | (simp only [hset, hnew]; omega) | rfl | decide) | refine At.set_ne ?_ (by first | omega | (simp only [hset, hnew]; omega) | rfl | decide) | refine At.new_ne ?_)))) (hv := rfl) (r := ?_)
  refine tX12_act_93 (ha := (by first | assumption | (repeat (first | assumption | exact At.set_eq2 (by first | omega | (simp only [hset, hnew]; omega) | rfl | decide) | exact At.new_eq2 _ _ (by first | omega | (simp only [hset, hnew]; omega) | rfl | decide) | refine At.set_ne ?_ (by first | omega | (simp only [hset, hnew]; omega) | rfl | decide) | refine At.new_ne ?_)))) (hv := rfl) (r := ?_)
  refine tX12_act_96  (r := ?_)
  refine tX12_act_97  (r := ?_)
  refine tX12_act_98 (ha := (by first | assumption | (repeat (first | assumption | exact At.set_eq2 (by first | omega | (simp only [hset, hnew]; omega) | rfl | decide) | exact At.new_eq2 _ _ (by first | omega | (simp only [hset, hnew]; omega) | rfl | decide) | refine At.set_ne ?_ (by first | omega | (simp only [hset, hnew]; omega) | rfl | decide) | refine At.new_ne ?_)))) (hx := rfl) (hj := (by omega)) (hn := (by decide)) (r := ?_)
  refine tX12_act_99  (r := ?_)
  refine tX12_act_100 (ha := (by first | assumption | (repeat (first | assumption | exact At.set_eq2 (by first | omega | (simp only [hset, hnew]; omega) | rfl | decide) | exact At.new_eq2 _ _ (by first | omega | (simp only [hset, hnew]; omega) | rfl | decide) | refine At.set_ne ?_ (by first | omega | (simp only [hset, hnew]; omega) | rfl | decide) | refine At.new_ne ?_)))) (hv := rfl) (r := ?_)
  refine tX12_act_103 (ha := (by first | assumption | (repeat (first | assumption | exact At.set_eq2 (by first | omega | (simp only [hset, hnew]; omega) | rfl | decide) | exact At.new_eq2 _ _ (by first | omega | (simp only [hset, hnew]; omega) | rfl | decide) | refine At.set_ne ?_ (by first | omega | (simp only [hset, hnew]; omega) | rfl | decide) | refine At.new_ne ?_)))) (hv := rfl) (r := ?_)
  refine tX12_act_106  (r := ?_)
  refine tX12_act_107  (r := ?_)
  refine tX12_act_108 (ha := (by first | assumption | (repeat (first | assumption | exact At.set_eq2 (by first | omega | (simp only [hset, hnew]; omega) | rfl | decide) | exact At.new_eq2 _ _ (by first | omega | (simp only [hset, hnew]; omega) | rfl | decide) | refine At.set_ne ?_ (by first | omega | (simp only [hset, hnew]; omega) | rfl | decide) | refine At.new_ne ?_)))) (hv := rfl) (r := ?_)
  refine tX12_act_111 (ha := (by first | assumption | (repeat (first | assumption | exact At.set_eq2 (by first | omega | (simp only [hset, hnew]; omega) | rfl | decide) | exact At.new_eq2 _ _ (by first | omega | (simp only [hset, hnew]; omega) | rfl | decide) | refine At.set_ne ?_ (by first | omega | (simp only [hset, hnew]; omega) | rfl | decide) | refine At.new_ne ?_)))) (hv := rfl) (r := ?_)
  refine tX12_act_114 (ha := (by first | assumption | (repeat (first | assumption | exact At.set_eq2 (by first | omega | (simp only [hset, hnew]; omega) | rfl | decide) | exact At.new_eq2 _ _ (by first | omega | (simp only [hset, hnew]; omega) | rfl | decide) | refine At.set_ne ?_ (by first | omega | (simp only [hset, hnew]; omega) | rfl | decide) | refine At.new_ne ?_)))) (hx := rfl) (hj := (by omega)) (hn := (by decide)) (r := ?_)
  refine tX12_act_115  (r := ?_)
  refine tX12_act_116  (r := ?_)
  refine tX12_act_118  (kf := fun c_ => by exfalso; exact absurd c_ (by decide)) (kt := fun _ => ?_)
  refine tX12_act_154  (r := ?_)
  refine tX12_act_155  (r := ?_)
  refine tX12_act_157  (kf := fun c_ => by exfalso; exact absurd c_ (by decide)) (kt := fun _ => ?_)
  refine tX12_act_174  (r := ?_)
  refine tX12_act_175  (r := ?_)
  refine tX12_act_177  (kf := fun c_ => by exfalso; exact absurd c_ (by decide)) (kt := fun _ => ?_)
  refine tX12_act_194  (r := ?_)
  refine tX12_act_195 (ha := (by first | assumption | (repeat (first | assumption | exact At.set_eq2 (by first | omega | (simp only [hset, hnew]; omega) | rfl | decide) | exact At.new_eq2 _ _ (by first | omega | (simp only [hset, hnew]; omega) | rfl | decide) | refine At.set_ne ?_ (by first | omega | (simp only [hset, hnew]; omega) | rfl | decide) | refine At.new_ne ?_)))) (hv := rfl) (r := ?_)
  refine tX12_act_198  (r := ?_)
  refine tX12_act_200  (r := ?_)
  refine tX12_act_201  (r := ?_)
  refine tX12_act_202  (r := ?_)
  rw [nI_add]
  refine tX12_act_203 (hd := (by omega)) (r := ?_)
  rw [nI_minN (by decide) (by omega)]
  refine tX12_act_206 (ha := (by first | assumption | (repeat (first | assumption | exact At.set_eq2 (by first | omega | (simp only [hset, hnew]; omega) | rfl | decide) | exact At.new_eq2 _ _ (by first | omega | (simp only [hset, hnew]; omega) | rfl | decide) | refine At.set_ne ?_ (by first | omega | (simp only [hset, hnew]; omega) | rfl | decide) | refine At.new_ne ?_)))) (hlen := rfl) (r := ?_)
  refine tX12_act_209  (hP := ?_)
  have rx9 := rx3.cnt (g2 := gAc g (min 60 (g.2.2.2.2.1 + 1))) rfl
  have EQ : Eqv (tkP K 14 s) (aoP K 14 kk s) := ((Eqv.ar _).trans (Eqv.tk (w := 14) (Eqv.st (kd := 14) (n := 0) s))).symm
  refine ⟨rfl, _, _, ⟨rx9.eqv EQ, AcX.fin (s := s) (x := (14, 0, 0, 0)) c1 c2 c3 c4 (At.set_ne m1_ (by omega)) (At.set_ne m2_ (by omega)) (At.set_ne m3_ (by omega)) (At.set_ne m4_ (by omega)) (fun z => ?_) (fun _ _ => rfl) (fun _ _ => rfl), fun z => ?_, Nat.min_le_left _ _, (uy3.set (Or.inr (Or.inl rfl)))⟩, ?_, ?_⟩
  · have z0 : pEr (tkP K 14 (stP 14 0 s)) = 0 := upP_er0 (f := arD kk (14, 0, 0, 0)) (s := tkP K 14 (stP 14 0 s)) z
    obtain ⟨z1, z2, z3⟩ := hn (stP_er0 (tkP_er z0).1)
    refine ⟨stP_er0 (tkP_er z0).1, z3, ?_, rfl, fun w => by omega, fun w => absurd w (by decide)⟩
    show nAc (pBk (upP (arD kk (14, 0, 0, 0)) (tkP K 14 (stP 14 0 s)))) = _
    rw [upP_e z0]
    show upN (nAc (pBk (tkP K 14 (stP 14 0 s)))) kk _ = _
    rw [(rs_ac ((rs_tk (K := K) (w := 14)).trans (rs_st (kd := 14) (n := 0) (s := s)))).1, z1]
  · have z0 : pEr (tkP K 14 (stP 14 0 s)) = 0 := upP_er0 (f := arD kk (14, 0, 0, 0)) (s := tkP K 14 (stP 14 0 s)) z
    obtain ⟨z1, z2, z3⟩ := hn (stP_er0 (tkP_er z0).1)
    show min 60 (g.2.2.2.2.1 + 1) = nAn (pBk (upP (arD kk (14, 0, 0, 0)) (tkP K 14 (stP 14 0 s))))
    rw [upP_e z0]
    show _ = nAn (pBk (tkP K 14 (stP 14 0 s)))
    rw [(rs_ac ((rs_tk (K := K) (w := 14)).trans (rs_st (kd := 14) (n := 0) (s := s)))).2.1, ← z2]
    omega
  · rw [← EQ.1]
    have pp : pPo (tkP K 14 s) = pPo s + 1 := by rw [et]
    omega
  · rw [← EQ.1]
    have pp : pPo (tkP K 14 s) = pPo s + 1 := by rw [et]
    omega

set_option maxHeartbeats 4000000 in
set_option maxRecDepth 100000 in
theorem s_mac11 (hd : 50 ≤ d) (rx : RxM h h m K T L s 0 g no) (ax : AcX h m s g.2.2.2.2.1) {kk : Nat} (hn : pEr s = 0 → kk = g.2.2.2.2.1 ∧ g.2.2.2.2.1 + 1 = nAn (pBk s) ∧ g.2.2.2.2.1 < 60) (h60 : g.2.2.2.2.1 ≤ 60) (u0 : Uy h0 h m (m + 28 + 12)) (ek : kdP K s = 11) : RQ G mX12_act d 69 [some (.ref m), some (.int (nI g.2.2.2.2.1)), none] [] h (Rv fun h1 => ∃ ac1 no1, RaM h0 h1 m K T L (ahP K kk s) (gAc g ac1) no1 ∧ no1 + pPo s ≤ no + pPo (ahP K kk s) ∧ pPo s + 1 ≤ pPo (ahP K kk s)) := by
  obtain ⟨⟨f1, e1_, c1⟩, ⟨f2, e2_, c2⟩, ⟨f3, e3_, c3⟩, ⟨f4, e4_, c4⟩⟩ := id ax
  obtain ⟨⟨th, by_, ea, a0⟩, a1, ⟨q2, a2, cc2⟩, ⟨q3, a3, cc3⟩, ⟨q4, a4, cc4⟩, b1, b2, b3, b4, b5, b6, u, tk, nm⟩ := id rx
  obtain ⟨⟨v1, y1, x1⟩, ⟨v2, y2, x2⟩, ⟨v3, y3, x3⟩, ⟨v4, y4, x4⟩, ⟨v5, y5, x5⟩, tw⟩ := id tk
  have k401 := tw.2.1
  have w1 := u.at y1 (by omega) (by omega) (by omega)
  have w2 := u.at y2 (by omega) (by omega) (by omega)
  have w3 := u.at y3 (by omega) (by omega) (by omega)
  have w4 := u.at y4 (by omega) (by omega) (by omega)
  have w5 := u.at y5 (by omega) (by omega) (by omega)
  have z0 := a0.1
  have z1 := a1.1
  have l2_ := a2.1
  have l3_ := a3.1
  have l4_ := a4.1
  have l40 := e1_.1
  have l41 := e2_.1
  have l42 := e3_.1
  have l43 := e4_.1
  obtain ⟨et, e1⟩ := tkP_y (K := K) (s := s) ek (by decide)
  have kv : K.2.1 (pPo s) = kdP K s := by
    have e2 : kdP K s = kdT K (pPo s) := if_neg e1
    rw [e2, rx.ne42.1]
  have s1er : ∀ {w : Nat}, pEr (tkP K w s) = 0 → pEr s = 0 := fun z => (tkP_er z).1
  refine tX12_act_69  (r := ?_)
  refine tX12_act_70 (ha := (by first | assumption | (repeat (first | assumption | exact At.set_eq2 (by first | omega | (simp only [hset, hnew]; omega) | rfl | decide) | exact At.new_eq2 _ _ (by first | omega | (simp only [hset, hnew]; omega) | rfl | decide) | refine At.set_ne ?_ (by first | omega | (simp only [hset, hnew]; omega) | rfl | decide) | refine At.new_ne ?_)))) (hv := rfl) (r := ?_)
  refine tX12_act_73  (r := ?_)
  refine tX12_act_74 (ha := (by first | assumption | (repeat (first | assumption | exact At.set_eq2 (by first | omega | (simp only [hset, hnew]; omega) | rfl | decide) | exact At.new_eq2 _ _ (by first | omega | (simp only [hset, hnew]; omega) | rfl | decide) | refine At.set_ne ?_ (by first | omega | (simp only [hset, hnew]; omega) | rfl | decide) | refine At.new_ne ?_)))) (hv := rfl) (r := ?_)
  refine tX12_act_77 (ha := (by first | assumption | (repeat (first | assumption | exact At.set_eq2 (by first | omega | (simp only [hset, hnew]; omega) | rfl | decide) | exact At.new_eq2 _ _ (by first | omega | (simp only [hset, hnew]; omega) | rfl | decide) | refine At.set_ne ?_ (by first | omega | (simp only [hset, hnew]; omega) | rfl | decide) | refine At.new_ne ?_)))) (hx := rfl) (hj := (by omega)) (hn := (by decide)) (r := ?_)
  rw [x2 _ b3]
  show RQ _ _ _ _ _ (.int (nI (soK (K.2.1 (pPo s)))) :: _) _ _
  rw [kv, ek]
  show RQ _ _ _ _ _ (.int (nI 11) :: _) _ _
  refine tX12_act_78  (r := ?_)
  refine tX12_act_79  (r := ?_)
  refine tX12_act_80  (r := ?_)
  refine tX12_act_81 (ha := (by first | assumption | (repeat (first | assumption | exact At.set_eq2 (by first | omega | (simp only [hset, hnew]; omega) | rfl | decide) | exact At.new_eq2 _ _ (by first | omega | (simp only [hset, hnew]; omega) | rfl | decide) | refine At.set_ne ?_ (by first | omega | (simp only [hset, hnew]; omega) | rfl | decide) | refine At.new_ne ?_)))) (hv := rfl) (r := ?_)
  refine tX12_act_84  (r := ?_)
  refine tX12_act_85  (r := ?_)
  rw [nI_add]
  refine tX12_act_86 (ha := (by first | assumption | (repeat (first | assumption | exact At.set_eq2 (by first | omega | (simp only [hset, hnew]; omega) | rfl | decide) | exact At.new_eq2 _ _ (by first | omega | (simp only [hset, hnew]; omega) | rfl | decide) | refine At.set_ne ?_ (by first | omega | (simp only [hset, hnew]; omega) | rfl | decide) | refine At.new_ne ?_)))) (hlen := rfl) (r := ?_)
  have rx1 := rx.next a0 (by omega)
  have rx2 := rx1.self.out (i := m + 28 + 12) (c := .inl (0, 61, .inl (upd f1 g.2.2.2.2.1 (nI 11)))) (by omega)
  have rx3 := rx2.out (i := m + 28 + 14) (c := .inl (0, 61, .inl (upd f3 g.2.2.2.2.1 (nI no)))) (by omega)
  have uy3 := (((u0.set (i := m) (c := MrO m (pPo s + 1, pEr s, pEt s, pDf s) 0 g.2.2.2.2.2 th by_ ea) (Or.inl rfl)).set (i := m + 28 + 12) (c := .inl (0, 61, .inl (upd f1 g.2.2.2.2.1 (nI 11)))) (by omega)).set (i := m + 28 + 14) (c := .inl (0, 61, .inl (upd f3 g.2.2.2.2.1 (nI no)))) (by omega))
  have rx3 := rx3.eqv (show Eqv _ (tkP K 11 s) from by rw [et]; exact Eqv.rf _)
  obtain ⟨⟨th3, by3, ea3, p3⟩, pp3, -, -, -, -, b23, -⟩ := id rx3
  have zz3 := p3.1
  have m1_ : At _ (m + 28 + 12) _ := At.set_ne (i := m + 28 + 14) (c := .inl (0, 61, .inl (upd f3 g.2.2.2.2.1 (nI no)))) (At.set_eq2 (h := hset h m (MrO m (pPo s + 1, pEr s, pEt s, pDf s) 0 g.2.2.2.2.2 th by_ ea)) (i := m + 28 + 12) (c := .inl (0, 61, .inl (upd f1 g.2.2.2.2.1 (nI 11)))) l40) (by omega)
  have m2_ : At _ (m + 28 + 13) _ := At.set_ne (i := m + 28 + 14) (c := .inl (0, 61, .inl (upd f3 g.2.2.2.2.1 (nI no)))) (At.set_ne (i := m + 28 + 12) (c := .inl (0, 61, .inl (upd f1 g.2.2.2.2.1 (nI 11)))) (At.set_ne (i := m) (c := MrO m (pPo s + 1, pEr s, pEt s, pDf s) 0 g.2.2.2.2.2 th by_ ea) e2_ (by omega)) (by omega)) (by omega)
  have m3_ : At _ (m + 28 + 14) _ := At.set_eq2 (h := hset (hset h m (MrO m (pPo s + 1, pEr s, pEt s, pDf s) 0 g.2.2.2.2.2 th by_ ea)) (m + 28 + 12) (.inl (0, 61, .inl (upd f1 g.2.2.2.2.1 (nI 11))))) (i := m + 28 + 14) (c := .inl (0, 61, .inl (upd f3 g.2.2.2.2.1 (nI no)))) l42
  have m4_ : At _ (m + 28 + 15) _ := At.set_ne (i := m + 28 + 14) (c := .inl (0, 61, .inl (upd f3 g.2.2.2.2.1 (nI no)))) (At.set_ne (i := m + 28 + 12) (c := .inl (0, 61, .inl (upd f1 g.2.2.2.2.1 (nI 11)))) (At.set_ne (i := m) (c := MrO m (pPo s + 1, pEr s, pEt s, pDf s) 0 g.2.2.2.2.2 th by_ ea) e4_ (by omega)) (by omega)) (by omega)
  refine tX12_act_89  (r := ?_)
  refine tX12_act_90 (ha := (by first | assumption | (repeat (first | assumption | exact At.set_eq2 (by first | omega | (simp only [hset, hnew]; omega) | rfl | decide) | exact At.new_eq2 _ _ (by first | omega | (simp only [hset, hnew]; omega) | rfl | decide) | refine At.set_ne ?_ (by first | omega | (simp only [hset, hnew]; omega) | rfl | decide) | refine At.new_ne ?_)))) (hv := rfl) (r := ?_)
  refine tX12_act_93 (ha := (by first | assumption | (repeat (first | assumption | exact At.set_eq2 (by first | omega | (simp only [hset, hnew]; omega) | rfl | decide) | exact At.new_eq2 _ _ (by first | omega | (simp only [hset, hnew]; omega) | rfl | decide) | refine At.set_ne ?_ (by first | omega | (simp only [hset, hnew]; omega) | rfl | decide) | refine At.new_ne ?_)))) (hv := rfl) (r := ?_)
  refine tX12_act_96  (r := ?_)
  refine tX12_act_97  (r := ?_)
  refine tX12_act_98 (ha := (by first | assumption | (repeat (first | assumption | exact At.set_eq2 (by first | omega | (simp only [hset, hnew]; omega) | rfl | decide) | exact At.new_eq2 _ _ (by first | omega | (simp only [hset, hnew]; omega) | rfl | decide) | refine At.set_ne ?_ (by first | omega | (simp only [hset, hnew]; omega) | rfl | decide) | refine At.new_ne ?_)))) (hx := rfl) (hj := (by omega)) (hn := (by decide)) (r := ?_)
  refine tX12_act_99  (r := ?_)
  refine tX12_act_100 (ha := (by first | assumption | (repeat (first | assumption | exact At.set_eq2 (by first | omega | (simp only [hset, hnew]; omega) | rfl | decide) | exact At.new_eq2 _ _ (by first | omega | (simp only [hset, hnew]; omega) | rfl | decide) | refine At.set_ne ?_ (by first | omega | (simp only [hset, hnew]; omega) | rfl | decide) | refine At.new_ne ?_)))) (hv := rfl) (r := ?_)
  refine tX12_act_103 (ha := (by first | assumption | (repeat (first | assumption | exact At.set_eq2 (by first | omega | (simp only [hset, hnew]; omega) | rfl | decide) | exact At.new_eq2 _ _ (by first | omega | (simp only [hset, hnew]; omega) | rfl | decide) | refine At.set_ne ?_ (by first | omega | (simp only [hset, hnew]; omega) | rfl | decide) | refine At.new_ne ?_)))) (hv := rfl) (r := ?_)
  refine tX12_act_106  (r := ?_)
  refine tX12_act_107  (r := ?_)
  refine tX12_act_108 (ha := (by first | assumption | (repeat (first | assumption | exact At.set_eq2 (by first | omega | (simp only [hset, hnew]; omega) | rfl | decide) | exact At.new_eq2 _ _ (by first | omega | (simp only [hset, hnew]; omega) | rfl | decide) | refine At.set_ne ?_ (by first | omega | (simp only [hset, hnew]; omega) | rfl | decide) | refine At.new_ne ?_)))) (hv := rfl) (r := ?_)
  refine tX12_act_111 (ha := (by first | assumption | (repeat (first | assumption | exact At.set_eq2 (by first | omega | (simp only [hset, hnew]; omega) | rfl | decide) | exact At.new_eq2 _ _ (by first | omega | (simp only [hset, hnew]; omega) | rfl | decide) | refine At.set_ne ?_ (by first | omega | (simp only [hset, hnew]; omega) | rfl | decide) | refine At.new_ne ?_)))) (hv := rfl) (r := ?_)
  refine tX12_act_114 (ha := (by first | assumption | (repeat (first | assumption | exact At.set_eq2 (by first | omega | (simp only [hset, hnew]; omega) | rfl | decide) | exact At.new_eq2 _ _ (by first | omega | (simp only [hset, hnew]; omega) | rfl | decide) | refine At.set_ne ?_ (by first | omega | (simp only [hset, hnew]; omega) | rfl | decide) | refine At.new_ne ?_)))) (hx := rfl) (hj := (by omega)) (hn := (by decide)) (r := ?_)
  refine tX12_act_115  (r := ?_)
  refine tX12_act_116  (r := ?_)
  refine tX12_act_118  (kf := fun c_ => by exfalso; exact absurd c_ (by decide)) (kt := fun _ => ?_)
  refine tX12_act_154  (r := ?_)
  refine tX12_act_155  (r := ?_)
  refine tX12_act_157  (kt := fun c_ => by exfalso; exact c_ rfl) (kf := fun _ => ?_)
  refine tX12_act_160  (r := ?_)
  refine tX12_act_161 (ha := (by first | assumption | (repeat (first | assumption | exact At.set_eq2 (by first | omega | (simp only [hset, hnew]; omega) | rfl | decide) | exact At.new_eq2 _ _ (by first | omega | (simp only [hset, hnew]; omega) | rfl | decide) | refine At.set_ne ?_ (by first | omega | (simp only [hset, hnew]; omega) | rfl | decide) | refine At.new_ne ?_)))) (hv := rfl) (r := ?_)
  refine tX12_act_164 (ha := (by first | assumption | (repeat (first | assumption | exact At.set_eq2 (by first | omega | (simp only [hset, hnew]; omega) | rfl | decide) | exact At.new_eq2 _ _ (by first | omega | (simp only [hset, hnew]; omega) | rfl | decide) | refine At.set_ne ?_ (by first | omega | (simp only [hset, hnew]; omega) | rfl | decide) | refine At.new_ne ?_)))) (hv := rfl) (r := ?_)
  refine tX12_act_167  (r := ?_)
  refine tX12_act_168  (r := ?_)
  refine tX12_act_169  (r := ?_)
  refine tX12_act_170 (hd := (by omega)) (ha := (by first | assumption | (repeat (first | assumption | exact At.set_eq2 (by first | omega | (simp only [hset, hnew]; omega) | rfl | decide) | exact At.new_eq2 _ _ (by first | omega | (simp only [hset, hnew]; omega) | rfl | decide) | refine At.set_ne ?_ (by first | omega | (simp only [hset, hnew]; omega) | rfl | decide) | refine At.new_ne ?_)))) (call := s_mname (d := 40) (by decide) rx3 (w := 1) (by decide)) (k := ?_)
  rintro v7 h7 ⟨hv7, rx7⟩
  obtain ⟨⟨th7, by7, ea7, p7⟩, pp7, -, -, -, -, -, -, -, -, -, u7, -⟩ := id rx7
  have w41 := u7.at m2_ (by omega) (by omega) (by omega)
  have l7 := p7.1
  have l77 := pp7.1
  have rx8 := rx7.self.out (i := m + 28 + 13) (c := .inl (0, 61, .inl (upd f2 g.2.2.2.2.1 v7))) (by omega)
  refine tX12_act_173 (ha := w41) (hx := rfl) (hj := (by omega)) (hn := (by decide)) (r := ?_)
  refine tX12_act_174  (r := ?_)
  refine tX12_act_175  (r := ?_)
  refine tX12_act_177  (kf := fun c_ => by exfalso; exact absurd c_ (by decide)) (kt := fun _ => ?_)
  refine tX12_act_194  (r := ?_)
  refine tX12_act_195 (ha := (by first | assumption | (repeat (first | assumption | exact At.set_eq2 (by first | omega | (simp only [hset, hnew]; omega) | rfl | decide) | exact At.new_eq2 _ _ (by first | omega | (simp only [hset, hnew]; omega) | rfl | decide) | refine At.set_ne ?_ (by first | omega | (simp only [hset, hnew]; omega) | rfl | decide) | refine At.new_ne ?_)))) (hv := rfl) (r := ?_)
  refine tX12_act_198  (r := ?_)
  refine tX12_act_200  (r := ?_)
  refine tX12_act_201  (r := ?_)
  refine tX12_act_202  (r := ?_)
  rw [nI_add]
  refine tX12_act_203 (hd := (by omega)) (r := ?_)
  rw [nI_minN (by decide) (by omega)]
  refine tX12_act_206 (ha := (by first | assumption | (repeat (first | assumption | exact At.set_eq2 (by first | omega | (simp only [hset, hnew]; omega) | rfl | decide) | exact At.new_eq2 _ _ (by first | omega | (simp only [hset, hnew]; omega) | rfl | decide) | refine At.set_ne ?_ (by first | omega | (simp only [hset, hnew]; omega) | rfl | decide) | refine At.new_ne ?_)))) (hlen := rfl) (r := ?_)
  refine tX12_act_209  (hP := ?_)
  have rx9 := rx8.cnt (g2 := gAc g (min 60 (g.2.2.2.2.1 + 1))) rfl
  have EQ : Eqv (tkP K 39 (rpO (nbO K 1 (tkP K 11 s)) (tkP K 11 s))) (ahP K kk s) := ((Eqv.ar _).trans (Eqv.tk (w := 39) (Eqv.st (kd := 11) (n := (jbO K (tkP K 11 s)).getD 0) _))).symm
  refine ⟨rfl, _, _, ⟨rx9.eqv EQ, AcX.fin (s := s) (x := (11, (jbO K (tkP K 11 s)).getD 0, 0, 0)) c1 c2 c3 c4 (At.set_ne (At.set_ne (u7.at m1_ (by omega) (by omega) (by omega)) (by omega)) (by omega)) (At.set_ne (At.set_eq2 (u7.at m2_ (by omega) (by omega) (by omega)).1) (by omega)) (At.set_ne (At.set_ne (u7.at m3_ (by omega) (by omega) (by omega)) (by omega)) (by omega)) (At.set_ne (At.set_ne (u7.at m4_ (by omega) (by omega) (by omega)) (by omega)) (by omega)) (fun z => ?_) (fun k hk => if_neg (by omega)) (fun _ _ => rfl), fun z => ?_, Nat.min_le_left _ _, (((uy3.trans (u7.y (by omega))).set (i := m + 28 + 13) (by omega)).set (Or.inr (Or.inl rfl)))⟩, ?_, ?_⟩
  · have z0 : pEr (tkP K 39 (stP 11 ((jbO K (tkP K 11 s)).getD 0) (jaP K (tkP K 11 s)))) = 0 := upP_er0 (f := arD kk (11, (jbO K (tkP K 11 s)).getD 0, 0, 0)) (s := (tkP K 39 (stP 11 ((jbO K (tkP K 11 s)).getD 0) (jaP K (tkP K 11 s))))) z
    have z7 : pEr (tkP K 39 (rpO (nbO K 1 (tkP K 11 s)) (tkP K 11 s))) = 0 := (EQ.2.1.trans z)
    obtain ⟨z1, z2, z3⟩ := hn (s1er (rpO_er0 (tkP_er z7).1))
    refine ⟨s1er (rpO_er0 (tkP_er z7).1), z3, ?_, rfl, fun _ => ?_, fun q => absurd q (show ¬ 11 = 9 by decide)⟩
    · show nAc (pBk (upP (arD kk (11, (jbO K (tkP K 11 s)).getD 0, 0, 0)) (tkP K 39 (stP 11 ((jbO K (tkP K 11 s)).getD 0) (jaP K (tkP K 11 s)))))) = _
      rw [upP_e z0]
      show upN (nAc (pBk (tkP K 39 (stP 11 ((jbO K (tkP K 11 s)).getD 0) (jaP K (tkP K 11 s)))))) kk _ = _
      rw [(rs_ac (show rsS (tkP K 39 (stP 11 ((jbO K (tkP K 11 s)).getD 0) (jaP K (tkP K 11 s)))) = rsS s from (rs_tk (K := K) (w := 39)).trans ((rs_st (kd := 11) (n := (jbO K (tkP K 11 s)).getD 0)).trans ((rs_rpO (o := nbO K 1 (tkP K 11 s))).trans (rs_tk (K := K) (w := 11) (s := s)))))).1, z1]
    · show (if g.2.2.2.2.1 = g.2.2.2.2.1 then v7 else f2 g.2.2.2.2.1) = _
      rw [if_pos rfl]
      exact hv7 z7
  · have z0 : pEr (tkP K 39 (stP 11 ((jbO K (tkP K 11 s)).getD 0) (jaP K (tkP K 11 s)))) = 0 := upP_er0 (f := arD kk (11, (jbO K (tkP K 11 s)).getD 0, 0, 0)) (s := (tkP K 39 (stP 11 ((jbO K (tkP K 11 s)).getD 0) (jaP K (tkP K 11 s))))) z
    have z7 : pEr (tkP K 39 (rpO (nbO K 1 (tkP K 11 s)) (tkP K 11 s))) = 0 := (EQ.2.1.trans z)
    obtain ⟨z1, z2, z3⟩ := hn (s1er (rpO_er0 (tkP_er z7).1))
    show min 60 (g.2.2.2.2.1 + 1) = nAn (pBk (upP (arD kk (11, (jbO K (tkP K 11 s)).getD 0, 0, 0)) (tkP K 39 (stP 11 ((jbO K (tkP K 11 s)).getD 0) (jaP K (tkP K 11 s))))))
    rw [upP_e z0]
    show _ = nAn (pBk (tkP K 39 (stP 11 ((jbO K (tkP K 11 s)).getD 0) (jaP K (tkP K 11 s)))))
    rw [(rs_ac (show rsS (tkP K 39 (stP 11 ((jbO K (tkP K 11 s)).getD 0) (jaP K (tkP K 11 s)))) = rsS s from (rs_tk (K := K) (w := 39)).trans ((rs_st (kd := 11) (n := (jbO K (tkP K 11 s)).getD 0)).trans ((rs_rpO (o := nbO K 1 (tkP K 11 s))).trans (rs_tk (K := K) (w := 11) (s := s)))))).2.1, ← z2]
    omega
  · rw [← EQ.1]
    have pp : pPo (tkP K 11 s) = pPo s + 1 := by rw [et]
    have p9 := (tkP_po (K := K) (w := 39) (s := rpO (nbO K 1 (tkP K 11 s)) (tkP K 11 s))).1
    rw [rpO_po] at p9
    omega
  · rw [← EQ.1]
    have pp : pPo (tkP K 11 s) = pPo s + 1 := by rw [et]
    have p9 := (tkP_po (K := K) (w := 39) (s := rpO (nbO K 1 (tkP K 11 s)) (tkP K 11 s))).1
    rw [rpO_po] at p9
    omega

set_option maxHeartbeats 4000000 in
set_option maxRecDepth 100000 in
theorem s_mac13 (hd : 50 ≤ d) (rx : RxM h h m K T L s 0 g no) (ax : AcX h m s g.2.2.2.2.1) {kk : Nat} (hn : pEr s = 0 → kk = g.2.2.2.2.1 ∧ g.2.2.2.2.1 + 1 = nAn (pBk s) ∧ g.2.2.2.2.1 < 60) (h60 : g.2.2.2.2.1 ≤ 60) (u0 : Uy h0 h m (m + 28 + 12)) (ek : kdP K s = 13) : RQ G mX12_act d 69 [some (.ref m), some (.int (nI g.2.2.2.2.1)), none] [] h (Rv fun h1 => ∃ ac1 no1, RaM h0 h1 m K T L (ajP K kk s) (gAc g ac1) no1 ∧ no1 + pPo s ≤ no + pPo (ajP K kk s) ∧ pPo s + 1 ≤ pPo (ajP K kk s)) := by
  obtain ⟨⟨f1, e1_, c1⟩, ⟨f2, e2_, c2⟩, ⟨f3, e3_, c3⟩, ⟨f4, e4_, c4⟩⟩ := id ax
  obtain ⟨⟨th, by_, ea, a0⟩, a1, ⟨q2, a2, cc2⟩, ⟨q3, a3, cc3⟩, ⟨q4, a4, cc4⟩, b1, b2, b3, b4, b5, b6, u, tk, nm⟩ := id rx
  obtain ⟨⟨v1, y1, x1⟩, ⟨v2, y2, x2⟩, ⟨v3, y3, x3⟩, ⟨v4, y4, x4⟩, ⟨v5, y5, x5⟩, tw⟩ := id tk
  have k401 := tw.2.1
  have w1 := u.at y1 (by omega) (by omega) (by omega)
  have w2 := u.at y2 (by omega) (by omega) (by omega)
  have w3 := u.at y3 (by omega) (by omega) (by omega)
  have w4 := u.at y4 (by omega) (by omega) (by omega)
  have w5 := u.at y5 (by omega) (by omega) (by omega)
  have z0 := a0.1
  have z1 := a1.1
  have l2_ := a2.1
  have l3_ := a3.1
  have l4_ := a4.1
  have l40 := e1_.1
  have l41 := e2_.1
  have l42 := e3_.1
  have l43 := e4_.1
  obtain ⟨et, e1⟩ := tkP_y (K := K) (s := s) ek (by decide)
  have kv : K.2.1 (pPo s) = kdP K s := by
    have e2 : kdP K s = kdT K (pPo s) := if_neg e1
    rw [e2, rx.ne42.1]
  have s1er : ∀ {w : Nat}, pEr (tkP K w s) = 0 → pEr s = 0 := fun z => (tkP_er z).1
  refine tX12_act_69  (r := ?_)
  refine tX12_act_70 (ha := (by first | assumption | (repeat (first | assumption | exact At.set_eq2 (by first | omega | (simp only [hset, hnew]; omega) | rfl | decide) | exact At.new_eq2 _ _ (by first | omega | (simp only [hset, hnew]; omega) | rfl | decide) | refine At.set_ne ?_ (by first | omega | (simp only [hset, hnew]; omega) | rfl | decide) | refine At.new_ne ?_)))) (hv := rfl) (r := ?_)
  refine tX12_act_73  (r := ?_)
  refine tX12_act_74 (ha := (by first | assumption | (repeat (first | assumption | exact At.set_eq2 (by first | omega | (simp only [hset, hnew]; omega) | rfl | decide) | exact At.new_eq2 _ _ (by first | omega | (simp only [hset, hnew]; omega) | rfl | decide) | refine At.set_ne ?_ (by first | omega | (simp only [hset, hnew]; omega) | rfl | decide) | refine At.new_ne ?_)))) (hv := rfl) (r := ?_)
  refine tX12_act_77 (ha := (by first | assumption | (repeat (first | assumption | exact At.set_eq2 (by first | omega | (simp only [hset, hnew]; omega) | rfl | decide) | exact At.new_eq2 _ _ (by first | omega | (simp only [hset, hnew]; omega) | rfl | decide) | refine At.set_ne ?_ (by first | omega | (simp only [hset, hnew]; omega) | rfl | decide) | refine At.new_ne ?_)))) (hx := rfl) (hj := (by omega)) (hn := (by decide)) (r := ?_)
  rw [x2 _ b3]
  show RQ _ _ _ _ _ (.int (nI (soK (K.2.1 (pPo s)))) :: _) _ _
  rw [kv, ek]
  show RQ _ _ _ _ _ (.int (nI 13) :: _) _ _
  refine tX12_act_78  (r := ?_)
  refine tX12_act_79  (r := ?_)
  refine tX12_act_80  (r := ?_)
  refine tX12_act_81 (ha := (by first | assumption | (repeat (first | assumption | exact At.set_eq2 (by first | omega | (simp only [hset, hnew]; omega) | rfl | decide) | exact At.new_eq2 _ _ (by first | omega | (simp only [hset, hnew]; omega) | rfl | decide) | refine At.set_ne ?_ (by first | omega | (simp only [hset, hnew]; omega) | rfl | decide) | refine At.new_ne ?_)))) (hv := rfl) (r := ?_)
  refine tX12_act_84  (r := ?_)
  refine tX12_act_85  (r := ?_)
  rw [nI_add]
  refine tX12_act_86 (ha := (by first | assumption | (repeat (first | assumption | exact At.set_eq2 (by first | omega | (simp only [hset, hnew]; omega) | rfl | decide) | exact At.new_eq2 _ _ (by first | omega | (simp only [hset, hnew]; omega) | rfl | decide) | refine At.set_ne ?_ (by first | omega | (simp only [hset, hnew]; omega) | rfl | decide) | refine At.new_ne ?_)))) (hlen := rfl) (r := ?_)
  have rx1 := rx.next a0 (by omega)
  have rx2 := rx1.self.out (i := m + 28 + 12) (c := .inl (0, 61, .inl (upd f1 g.2.2.2.2.1 (nI 13)))) (by omega)
  have rx3 := rx2.out (i := m + 28 + 14) (c := .inl (0, 61, .inl (upd f3 g.2.2.2.2.1 (nI no)))) (by omega)
  have uy3 := (((u0.set (i := m) (c := MrO m (pPo s + 1, pEr s, pEt s, pDf s) 0 g.2.2.2.2.2 th by_ ea) (Or.inl rfl)).set (i := m + 28 + 12) (c := .inl (0, 61, .inl (upd f1 g.2.2.2.2.1 (nI 13)))) (by omega)).set (i := m + 28 + 14) (c := .inl (0, 61, .inl (upd f3 g.2.2.2.2.1 (nI no)))) (by omega))
  have rx3 := rx3.eqv (show Eqv _ (tkP K 13 s) from by rw [et]; exact Eqv.rf _)
  obtain ⟨⟨th3, by3, ea3, p3⟩, pp3, -, -, -, -, b23, -⟩ := id rx3
  have zz3 := p3.1
  have m1_ : At _ (m + 28 + 12) _ := At.set_ne (i := m + 28 + 14) (c := .inl (0, 61, .inl (upd f3 g.2.2.2.2.1 (nI no)))) (At.set_eq2 (h := hset h m (MrO m (pPo s + 1, pEr s, pEt s, pDf s) 0 g.2.2.2.2.2 th by_ ea)) (i := m + 28 + 12) (c := .inl (0, 61, .inl (upd f1 g.2.2.2.2.1 (nI 13)))) l40) (by omega)
  have m2_ : At _ (m + 28 + 13) _ := At.set_ne (i := m + 28 + 14) (c := .inl (0, 61, .inl (upd f3 g.2.2.2.2.1 (nI no)))) (At.set_ne (i := m + 28 + 12) (c := .inl (0, 61, .inl (upd f1 g.2.2.2.2.1 (nI 13)))) (At.set_ne (i := m) (c := MrO m (pPo s + 1, pEr s, pEt s, pDf s) 0 g.2.2.2.2.2 th by_ ea) e2_ (by omega)) (by omega)) (by omega)
  have m3_ : At _ (m + 28 + 14) _ := At.set_eq2 (h := hset (hset h m (MrO m (pPo s + 1, pEr s, pEt s, pDf s) 0 g.2.2.2.2.2 th by_ ea)) (m + 28 + 12) (.inl (0, 61, .inl (upd f1 g.2.2.2.2.1 (nI 13))))) (i := m + 28 + 14) (c := .inl (0, 61, .inl (upd f3 g.2.2.2.2.1 (nI no)))) l42
  have m4_ : At _ (m + 28 + 15) _ := At.set_ne (i := m + 28 + 14) (c := .inl (0, 61, .inl (upd f3 g.2.2.2.2.1 (nI no)))) (At.set_ne (i := m + 28 + 12) (c := .inl (0, 61, .inl (upd f1 g.2.2.2.2.1 (nI 13)))) (At.set_ne (i := m) (c := MrO m (pPo s + 1, pEr s, pEt s, pDf s) 0 g.2.2.2.2.2 th by_ ea) e4_ (by omega)) (by omega)) (by omega)
  refine tX12_act_89  (r := ?_)
  refine tX12_act_90 (ha := (by first | assumption | (repeat (first | assumption | exact At.set_eq2 (by first | omega | (simp only [hset, hnew]; omega) | rfl | decide) | exact At.new_eq2 _ _ (by first | omega | (simp only [hset, hnew]; omega) | rfl | decide) | refine At.set_ne ?_ (by first | omega | (simp only [hset, hnew]; omega) | rfl | decide) | refine At.new_ne ?_)))) (hv := rfl) (r := ?_)
  refine tX12_act_93 (ha := (by first | assumption | (repeat (first | assumption | exact At.set_eq2 (by first | omega | (simp only [hset, hnew]; omega) | rfl | decide) | exact At.new_eq2 _ _ (by first | omega | (simp only [hset, hnew]; omega) | rfl | decide) | refine At.set_ne ?_ (by first | omega | (simp only [hset, hnew]; omega) | rfl | decide) | refine At.new_ne ?_)))) (hv := rfl) (r := ?_)
  refine tX12_act_96  (r := ?_)
  refine tX12_act_97  (r := ?_)
  refine tX12_act_98 (ha := (by first | assumption | (repeat (first | assumption | exact At.set_eq2 (by first | omega | (simp only [hset, hnew]; omega) | rfl | decide) | exact At.new_eq2 _ _ (by first | omega | (simp only [hset, hnew]; omega) | rfl | decide) | refine At.set_ne ?_ (by first | omega | (simp only [hset, hnew]; omega) | rfl | decide) | refine At.new_ne ?_)))) (hx := rfl) (hj := (by omega)) (hn := (by decide)) (r := ?_)
  refine tX12_act_99  (r := ?_)
  refine tX12_act_100 (ha := (by first | assumption | (repeat (first | assumption | exact At.set_eq2 (by first | omega | (simp only [hset, hnew]; omega) | rfl | decide) | exact At.new_eq2 _ _ (by first | omega | (simp only [hset, hnew]; omega) | rfl | decide) | refine At.set_ne ?_ (by first | omega | (simp only [hset, hnew]; omega) | rfl | decide) | refine At.new_ne ?_)))) (hv := rfl) (r := ?_)
  refine tX12_act_103 (ha := (by first | assumption | (repeat (first | assumption | exact At.set_eq2 (by first | omega | (simp only [hset, hnew]; omega) | rfl | decide) | exact At.new_eq2 _ _ (by first | omega | (simp only [hset, hnew]; omega) | rfl | decide) | refine At.set_ne ?_ (by first | omega | (simp only [hset, hnew]; omega) | rfl | decide) | refine At.new_ne ?_)))) (hv := rfl) (r := ?_)
  refine tX12_act_106  (r := ?_)
  refine tX12_act_107  (r := ?_)
  refine tX12_act_108 (ha := (by first | assumption | (repeat (first | assumption | exact At.set_eq2 (by first | omega | (simp only [hset, hnew]; omega) | rfl | decide) | exact At.new_eq2 _ _ (by first | omega | (simp only [hset, hnew]; omega) | rfl | decide) | refine At.set_ne ?_ (by first | omega | (simp only [hset, hnew]; omega) | rfl | decide) | refine At.new_ne ?_)))) (hv := rfl) (r := ?_)
  refine tX12_act_111 (ha := (by first | assumption | (repeat (first | assumption | exact At.set_eq2 (by first | omega | (simp only [hset, hnew]; omega) | rfl | decide) | exact At.new_eq2 _ _ (by first | omega | (simp only [hset, hnew]; omega) | rfl | decide) | refine At.set_ne ?_ (by first | omega | (simp only [hset, hnew]; omega) | rfl | decide) | refine At.new_ne ?_)))) (hv := rfl) (r := ?_)
  refine tX12_act_114 (ha := (by first | assumption | (repeat (first | assumption | exact At.set_eq2 (by first | omega | (simp only [hset, hnew]; omega) | rfl | decide) | exact At.new_eq2 _ _ (by first | omega | (simp only [hset, hnew]; omega) | rfl | decide) | refine At.set_ne ?_ (by first | omega | (simp only [hset, hnew]; omega) | rfl | decide) | refine At.new_ne ?_)))) (hx := rfl) (hj := (by omega)) (hn := (by decide)) (r := ?_)
  refine tX12_act_115  (r := ?_)
  refine tX12_act_116  (r := ?_)
  refine tX12_act_118  (kf := fun c_ => by exfalso; exact absurd c_ (by decide)) (kt := fun _ => ?_)
  refine tX12_act_154  (r := ?_)
  refine tX12_act_155  (r := ?_)
  refine tX12_act_157  (kf := fun c_ => by exfalso; exact absurd c_ (by decide)) (kt := fun _ => ?_)
  refine tX12_act_174  (r := ?_)
  refine tX12_act_175  (r := ?_)
  refine tX12_act_177  (kt := fun c_ => by exfalso; exact c_ rfl) (kf := fun _ => ?_)
  refine tX12_act_180  (r := ?_)
  refine tX12_act_181 (ha := (by first | assumption | (repeat (first | assumption | exact At.set_eq2 (by first | omega | (simp only [hset, hnew]; omega) | rfl | decide) | exact At.new_eq2 _ _ (by first | omega | (simp only [hset, hnew]; omega) | rfl | decide) | refine At.set_ne ?_ (by first | omega | (simp only [hset, hnew]; omega) | rfl | decide) | refine At.new_ne ?_)))) (hv := rfl) (r := ?_)
  refine tX12_act_184 (ha := (by first | assumption | (repeat (first | assumption | exact At.set_eq2 (by first | omega | (simp only [hset, hnew]; omega) | rfl | decide) | exact At.new_eq2 _ _ (by first | omega | (simp only [hset, hnew]; omega) | rfl | decide) | refine At.set_ne ?_ (by first | omega | (simp only [hset, hnew]; omega) | rfl | decide) | refine At.new_ne ?_)))) (hv := rfl) (r := ?_)
  refine tX12_act_187  (r := ?_)
  refine tX12_act_188  (r := ?_)
  refine tX12_act_189  (r := ?_)
  refine tX12_act_190 (hd := (by omega)) (ha := (by first | assumption | (repeat (first | assumption | exact At.set_eq2 (by first | omega | (simp only [hset, hnew]; omega) | rfl | decide) | exact At.new_eq2 _ _ (by first | omega | (simp only [hset, hnew]; omega) | rfl | decide) | refine At.set_ne ?_ (by first | omega | (simp only [hset, hnew]; omega) | rfl | decide) | refine At.new_ne ?_)))) (call := s_mname (d := 40) (by decide) rx3 (w := 0) (by decide)) (k := ?_)
  rintro v7 h7 ⟨hv7, rx7⟩
  obtain ⟨⟨th7, by7, ea7, p7⟩, pp7, -, -, -, -, -, -, -, -, -, u7, -⟩ := id rx7
  have w41 := u7.at m2_ (by omega) (by omega) (by omega)
  have l7 := p7.1
  have l77 := pp7.1
  have rx8 := rx7.self.out (i := m + 28 + 13) (c := .inl (0, 61, .inl (upd f2 g.2.2.2.2.1 v7))) (by omega)
  refine tX12_act_193 (ha := w41) (hx := rfl) (hj := (by omega)) (hn := (by decide)) (r := ?_)
  refine tX12_act_194  (r := ?_)
  refine tX12_act_195 (ha := (by first | assumption | (repeat (first | assumption | exact At.set_eq2 (by first | omega | (simp only [hset, hnew]; omega) | rfl | decide) | exact At.new_eq2 _ _ (by first | omega | (simp only [hset, hnew]; omega) | rfl | decide) | refine At.set_ne ?_ (by first | omega | (simp only [hset, hnew]; omega) | rfl | decide) | refine At.new_ne ?_)))) (hv := rfl) (r := ?_)
  refine tX12_act_198  (r := ?_)
  refine tX12_act_200  (r := ?_)
  refine tX12_act_201  (r := ?_)
  refine tX12_act_202  (r := ?_)
  rw [nI_add]
  refine tX12_act_203 (hd := (by omega)) (r := ?_)
  rw [nI_minN (by decide) (by omega)]
  refine tX12_act_206 (ha := (by first | assumption | (repeat (first | assumption | exact At.set_eq2 (by first | omega | (simp only [hset, hnew]; omega) | rfl | decide) | exact At.new_eq2 _ _ (by first | omega | (simp only [hset, hnew]; omega) | rfl | decide) | refine At.set_ne ?_ (by first | omega | (simp only [hset, hnew]; omega) | rfl | decide) | refine At.new_ne ?_)))) (hlen := rfl) (r := ?_)
  refine tX12_act_209  (hP := ?_)
  have rx9 := rx8.cnt (g2 := gAc g (min 60 (g.2.2.2.2.1 + 1))) rfl
  have EQ : Eqv (tkP K 39 (rpO (nbO K 0 (tkP K 13 s)) (tkP K 13 s))) (ajP K kk s) := ((Eqv.ar _).trans (Eqv.tk (w := 39) (Eqv.st (kd := 13) (n := (lbO K (tkP K 13 s)).getD 0) _))).symm
  refine ⟨rfl, _, _, ⟨rx9.eqv EQ, AcX.fin (s := s) (x := (13, (lbO K (tkP K 13 s)).getD 0, 0, 0)) c1 c2 c3 c4 (At.set_ne (At.set_ne (u7.at m1_ (by omega) (by omega) (by omega)) (by omega)) (by omega)) (At.set_ne (At.set_eq2 (u7.at m2_ (by omega) (by omega) (by omega)).1) (by omega)) (At.set_ne (At.set_ne (u7.at m3_ (by omega) (by omega) (by omega)) (by omega)) (by omega)) (At.set_ne (At.set_ne (u7.at m4_ (by omega) (by omega) (by omega)) (by omega)) (by omega)) (fun z => ?_) (fun k hk => if_neg (by omega)) (fun _ _ => rfl), fun z => ?_, Nat.min_le_left _ _, (((uy3.trans (u7.y (by omega))).set (i := m + 28 + 13) (by omega)).set (Or.inr (Or.inl rfl)))⟩, ?_, ?_⟩
  · have z0 : pEr (tkP K 39 (stP 13 ((lbO K (tkP K 13 s)).getD 0) (laP K (tkP K 13 s)))) = 0 := upP_er0 (f := arD kk (13, (lbO K (tkP K 13 s)).getD 0, 0, 0)) (s := (tkP K 39 (stP 13 ((lbO K (tkP K 13 s)).getD 0) (laP K (tkP K 13 s))))) z
    have z7 : pEr (tkP K 39 (rpO (nbO K 0 (tkP K 13 s)) (tkP K 13 s))) = 0 := (EQ.2.1.trans z)
    obtain ⟨z1, z2, z3⟩ := hn (s1er (rpO_er0 (tkP_er z7).1))
    refine ⟨s1er (rpO_er0 (tkP_er z7).1), z3, ?_, rfl, fun _ => ?_, fun q => absurd q (show ¬ 13 = 9 by decide)⟩
    · show nAc (pBk (upP (arD kk (13, (lbO K (tkP K 13 s)).getD 0, 0, 0)) (tkP K 39 (stP 13 ((lbO K (tkP K 13 s)).getD 0) (laP K (tkP K 13 s)))))) = _
      rw [upP_e z0]
      show upN (nAc (pBk (tkP K 39 (stP 13 ((lbO K (tkP K 13 s)).getD 0) (laP K (tkP K 13 s)))))) kk _ = _
      rw [(rs_ac (show rsS (tkP K 39 (stP 13 ((lbO K (tkP K 13 s)).getD 0) (laP K (tkP K 13 s)))) = rsS s from (rs_tk (K := K) (w := 39)).trans ((rs_st (kd := 13) (n := (lbO K (tkP K 13 s)).getD 0)).trans ((rs_rpO (o := nbO K 0 (tkP K 13 s))).trans (rs_tk (K := K) (w := 13) (s := s)))))).1, z1]
    · show (if g.2.2.2.2.1 = g.2.2.2.2.1 then v7 else f2 g.2.2.2.2.1) = _
      rw [if_pos rfl]
      exact hv7 z7
  · have z0 : pEr (tkP K 39 (stP 13 ((lbO K (tkP K 13 s)).getD 0) (laP K (tkP K 13 s)))) = 0 := upP_er0 (f := arD kk (13, (lbO K (tkP K 13 s)).getD 0, 0, 0)) (s := (tkP K 39 (stP 13 ((lbO K (tkP K 13 s)).getD 0) (laP K (tkP K 13 s))))) z
    have z7 : pEr (tkP K 39 (rpO (nbO K 0 (tkP K 13 s)) (tkP K 13 s))) = 0 := (EQ.2.1.trans z)
    obtain ⟨z1, z2, z3⟩ := hn (s1er (rpO_er0 (tkP_er z7).1))
    show min 60 (g.2.2.2.2.1 + 1) = nAn (pBk (upP (arD kk (13, (lbO K (tkP K 13 s)).getD 0, 0, 0)) (tkP K 39 (stP 13 ((lbO K (tkP K 13 s)).getD 0) (laP K (tkP K 13 s))))))
    rw [upP_e z0]
    show _ = nAn (pBk (tkP K 39 (stP 13 ((lbO K (tkP K 13 s)).getD 0) (laP K (tkP K 13 s)))))
    rw [(rs_ac (show rsS (tkP K 39 (stP 13 ((lbO K (tkP K 13 s)).getD 0) (laP K (tkP K 13 s)))) = rsS s from (rs_tk (K := K) (w := 39)).trans ((rs_st (kd := 13) (n := (lbO K (tkP K 13 s)).getD 0)).trans ((rs_rpO (o := nbO K 0 (tkP K 13 s))).trans (rs_tk (K := K) (w := 13) (s := s)))))).2.1, ← z2]
    omega
  · rw [← EQ.1]
    have pp : pPo (tkP K 13 s) = pPo s + 1 := by rw [et]
    have p9 := (tkP_po (K := K) (w := 39) (s := rpO (nbO K 0 (tkP K 13 s)) (tkP K 13 s))).1
    rw [rpO_po] at p9
    omega
  · rw [← EQ.1]
    have pp : pPo (tkP K 13 s) = pPo s + 1 := by rw [et]
    have p9 := (tkP_po (K := K) (w := 39) (s := rpO (nbO K 0 (tkP K 13 s)) (tkP K 13 s))).1
    rw [rpO_po] at p9
    omega

end RMH
