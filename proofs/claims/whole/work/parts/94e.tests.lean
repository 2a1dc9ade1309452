/-! the reference reads single tests and tests -/
section RMF
variable {G : GT} {d : Nat} {h0 h : AH} {m : Nat} {K : TKS} {T : List Nat} {L : Nat → Nat} {s : PST} {dp : Nat} {g : GCT} {no : Nat}

set_option maxHeartbeats 4000000 in
set_option maxRecDepth 100000 in
theorem s_misIn {v0 lo hi : Int32} : RQ G mX12_isIn d 0 [some (.int v0), some (.int lo), some (.int hi)] [] h (Ri fun v h1 => v = (if lo ≤ v0 ∧ v0 ≤ hi then nI 1 else nI 0) ∧ h1 = h) := by
  refine tX12_isIn_0  (r := ?_)
  refine tX12_isIn_1  (r := ?_)
  refine tX12_isIn_2  (kt := fun c_2 => ?_) (kf := fun c_2 => ?_)
  · refine tX12_isIn_14  (r := ?_)
    refine tX12_isIn_15 (hb := (by first | exact Or.inl rfl | exact Or.inr rfl | assumption)) (hP := ?_)
    exact ⟨_, rfl, (if_neg (fun z => absurd c_2 (Int32.not_lt.mpr z.1))).symm, rfl⟩
  · refine tX12_isIn_5  (r := ?_)
    refine tX12_isIn_6  (r := ?_)
    refine tX12_isIn_7  (kt := fun c_7 => ?_) (kf := fun c_7 => ?_)
    · refine tX12_isIn_14  (r := ?_)
      refine tX12_isIn_15 (hb := (by first | exact Or.inl rfl | exact Or.inr rfl | assumption)) (hP := ?_)
      exact ⟨_, rfl, (if_neg (fun z => absurd c_7 (Int32.not_lt.mpr z.2))).symm, rfl⟩
    · refine tX12_isIn_10  (r := ?_)
      refine tX12_isIn_11 (r := ?_)
      refine tX12_isIn_15 (hb := (by first | exact Or.inl rfl | exact Or.inr rfl | assumption)) (hP := ?_)
      exact ⟨_, rfl, (if_pos ⟨Int32.not_lt.mp c_2, Int32.not_lt.mp c_7⟩).symm, rfl⟩

set_option maxHeartbeats 4000000 in
set_option maxRecDepth 100000 in
theorem s_mw_single (hd : 7 ≤ d) (rx : RxM h0 h m K T L s dp g no) (e1 : pEr s = 1) : RQ G mX12_single d 0 [some (.ref m), none, none] [] h (Ri fun v h1 => h1 = h) := by
  have kw : ∀ k, k < 41 → ¬ kdP K s = k := fun k hk z => by unfold kdP at z; rw [if_pos e1] at z; omega
  obtain ⟨⟨th, by_, ea, a0⟩, a1, ⟨q2, a2, c2⟩, ⟨q3, a3, c3⟩, ⟨q4, a4, c4⟩, b1, b2, b3, b4, b5, b6, u, tk, nm⟩ := id rx
  obtain ⟨⟨v1, y1, x1⟩, ⟨v2, y2, x2⟩, ⟨v3, y3, x3⟩, ⟨v4, y4, x4⟩, ⟨v5, y5, x5⟩, tw⟩ := id tk
  have k401 := tw.2.1
  have w1 := u.at y1 (by omega) (by omega) (by omega)
  have w2 := u.at y2 (by omega) (by omega) (by omega)
  have w3 := u.at y3 (by omega) (by omega) (by omega)
  have w4 := u.at y4 (by omega) (by omega) (by omega)
  have w5 := u.at y5 (by omega) (by omega) (by omega)
  have z0 := a0.1
  have z1 := a1.1
  have l2_ := a2.1
  have l3_ := a3.1
  have l4_ := a4.1
  refine tX12_single_0  (r := ?_)
  refine tX12_single_1  (r := ?_)
  refine tX12_single_3 (hd := (by omega)) (ha := (by first | assumption | (repeat (first | assumption | exact At.set_eq2 (by first | omega | (simp only [hset, hnew]; omega) | rfl | decide) | exact At.new_eq2 _ _ (by first | omega | (simp only [hset, hnew]; omega) | rfl | decide) | refine At.set_ne ?_ (by first | omega | (simp only [hset, hnew]; omega) | rfl | decide) | refine At.new_ne ?_)))) (call := s_mtakes (d := 3) (by omega) rx (k := 15) (by decide)) (k := ?_)
  rintro x_ h_ ⟨hx_, -, tn_⟩
  have e_ := tn_ (kw 15 (by decide))
  rw [e_, hx_, if_neg (kw 15 (by decide))]
  refine tX12_single_6  (kf := fun c_ => by exfalso; exact c_ rfl) (kt := fun _ => ?_)
  refine tX12_single_21  (r := ?_)
  refine tX12_single_22  (r := ?_)
  refine tX12_single_24 (hd := (by omega)) (ha := (by first | assumption | (repeat (first | assumption | exact At.set_eq2 (by first | omega | (simp only [hset, hnew]; omega) | rfl | decide) | exact At.new_eq2 _ _ (by first | omega | (simp only [hset, hnew]; omega) | rfl | decide) | refine At.set_ne ?_ (by first | omega | (simp only [hset, hnew]; omega) | rfl | decide) | refine At.new_ne ?_)))) (call := s_mis (d := 3) rx (k := 29) (by decide)) (k := ?_)
  rintro x_ h_ ⟨hx_, e_⟩
  rw [e_, hx_, if_neg (kw 29 (by decide))]
  refine tX12_single_27  (kf := fun c_ => by exfalso; exact c_ rfl) (kt := fun _ => ?_)
  refine tX12_single_47  (r := ?_)
  refine tX12_single_48  (r := ?_)
  refine tX12_single_50 (hd := (by omega)) (ha := (by first | assumption | (repeat (first | assumption | exact At.set_eq2 (by first | omega | (simp only [hset, hnew]; omega) | rfl | decide) | exact At.new_eq2 _ _ (by first | omega | (simp only [hset, hnew]; omega) | rfl | decide) | refine At.set_ne ?_ (by first | omega | (simp only [hset, hnew]; omega) | rfl | decide) | refine At.new_ne ?_)))) (call := s_mtakes (d := 3) (by omega) rx (k := 18) (by decide)) (k := ?_)
  rintro x_ h_ ⟨hx_, -, tn_⟩
  have e_ := tn_ (kw 18 (by decide))
  rw [e_, hx_, if_neg (kw 18 (by decide))]
  refine tX12_single_53  (kf := fun c_ => by exfalso; exact c_ rfl) (kt := fun _ => ?_)
  refine tX12_single_69  (r := ?_)
  refine tX12_single_70  (r := ?_)
  refine tX12_single_72 (hd := (by omega)) (ha := (by first | assumption | (repeat (first | assumption | exact At.set_eq2 (by first | omega | (simp only [hset, hnew]; omega) | rfl | decide) | exact At.new_eq2 _ _ (by first | omega | (simp only [hset, hnew]; omega) | rfl | decide) | refine At.set_ne ?_ (by first | omega | (simp only [hset, hnew]; omega) | rfl | decide) | refine At.new_ne ?_)))) (call := s_mtakes (d := 3) (by omega) rx (k := 19) (by decide)) (k := ?_)
  rintro x_ h_ ⟨hx_, -, tn_⟩
  have e_ := tn_ (kw 19 (by decide))
  rw [e_, hx_, if_neg (kw 19 (by decide))]
  refine tX12_single_75  (kf := fun c_ => by exfalso; exact c_ rfl) (kt := fun _ => ?_)
  refine tX12_single_91  (r := ?_)
  refine tX12_single_92 (hd := (by omega)) (ha := (by first | assumption | (repeat (first | assumption | exact At.set_eq2 (by first | omega | (simp only [hset, hnew]; omega) | rfl | decide) | exact At.new_eq2 _ _ (by first | omega | (simp only [hset, hnew]; omega) | rfl | decide) | refine At.set_ne ?_ (by first | omega | (simp only [hset, hnew]; omega) | rfl | decide) | refine At.new_ne ?_)))) (call := s_mw_value (d := 6) (by decide) rx e1) (k := ?_)
  rintro v1_ h1 rfl
  refine tX12_single_95  (r := ?_)
  refine tX12_single_96  (r := ?_)
  refine tX12_single_97 (ha := (by first | assumption | (repeat (first | assumption | exact At.set_eq2 (by first | omega | (simp only [hset, hnew]; omega) | rfl | decide) | exact At.new_eq2 _ _ (by first | omega | (simp only [hset, hnew]; omega) | rfl | decide) | refine At.set_ne ?_ (by first | omega | (simp only [hset, hnew]; omega) | rfl | decide) | refine At.new_ne ?_)))) (hv := rfl) (r := ?_)
  refine tX12_single_100  (r := ?_)
  refine tX12_single_101 (ha := (by first | assumption | (repeat (first | assumption | exact At.set_eq2 (by first | omega | (simp only [hset, hnew]; omega) | rfl | decide) | exact At.new_eq2 _ _ (by first | omega | (simp only [hset, hnew]; omega) | rfl | decide) | refine At.set_ne ?_ (by first | omega | (simp only [hset, hnew]; omega) | rfl | decide) | refine At.new_ne ?_)))) (hv := rfl) (r := ?_)
  refine tX12_single_104 (ha := (by first | assumption | (repeat (first | assumption | exact At.set_eq2 (by first | omega | (simp only [hset, hnew]; omega) | rfl | decide) | exact At.new_eq2 _ _ (by first | omega | (simp only [hset, hnew]; omega) | rfl | decide) | refine At.set_ne ?_ (by first | omega | (simp only [hset, hnew]; omega) | rfl | decide) | refine At.new_ne ?_)))) (hx := rfl) (hj := (by omega)) (hn := (by decide)) (r := ?_)
  refine tX12_single_105  (r := ?_)
  refine tX12_single_106  (r := ?_)
  refine tX12_single_107 (ha := (by first | assumption | (repeat (first | assumption | exact At.set_eq2 (by first | omega | (simp only [hset, hnew]; omega) | rfl | decide) | exact At.new_eq2 _ _ (by first | omega | (simp only [hset, hnew]; omega) | rfl | decide) | refine At.set_ne ?_ (by first | omega | (simp only [hset, hnew]; omega) | rfl | decide) | refine At.new_ne ?_)))) (hv := rfl) (r := ?_)
  refine tX12_single_110  (kf := fun c_ => by exfalso; rw [if_pos e1] at c_; exact absurd c_ (by decide)) (kt := fun _ => ?_)
  refine tX12_single_124  (r := ?_)
  refine tX12_single_125 (hd := (by omega)) (ha := (by first | assumption | (repeat (first | assumption | exact At.set_eq2 (by first | omega | (simp only [hset, hnew]; omega) | rfl | decide) | exact At.new_eq2 _ _ (by first | omega | (simp only [hset, hnew]; omega) | rfl | decide) | refine At.set_ne ?_ (by first | omega | (simp only [hset, hnew]; omega) | rfl | decide) | refine At.new_ne ?_)))) (call := s_mwrong0 (d := 3) rx e1) (k := ?_)
  rintro h1 rfl
  refine tX12_single_128  (r := ?_)
  refine tX12_single_129  (hP := ?_)
  exact ⟨_, rfl, rfl⟩

set_option maxHeartbeats 4000000 in
set_option maxRecDepth 100000 in
theorem s_mw_both (hd : 8 ≤ d) (rx : RxM h0 h m K T L s dp g no) (e1 : pEr s = 1) : RQ G mX12_both d 0 [some (.ref m), none] [] h (Ri fun v h1 => h1 = h) := by
  have kw : ∀ k, k < 41 → ¬ kdP K s = k := fun k hk z => by unfold kdP at z; rw [if_pos e1] at z; omega
  obtain ⟨⟨th, by_, ea, a0⟩, -⟩ := id rx
  refine tX12_both_0  (r := ?_)
  refine tX12_both_1 (hd := (by omega)) (ha := (by first | assumption | (repeat (first | assumption | exact At.set_eq2 (by first | omega | (simp only [hset, hnew]; omega) | rfl | decide) | exact At.new_eq2 _ _ (by first | omega | (simp only [hset, hnew]; omega) | rfl | decide) | refine At.set_ne ?_ (by first | omega | (simp only [hset, hnew]; omega) | rfl | decide) | refine At.new_ne ?_)))) (call := s_mw_single (d := 7) (by decide) rx e1) (k := ?_)
  rintro x1 h1 rfl
  refine tX12_both_4  (r := ?_)
  refine tX12_both_5  (r := ?_)
  refine tX12_both_6  (r := ?_)
  refine tX12_both_8 (hd := (by omega)) (ha := (by first | assumption | (repeat (first | assumption | exact At.set_eq2 (by first | omega | (simp only [hset, hnew]; omega) | rfl | decide) | exact At.new_eq2 _ _ (by first | omega | (simp only [hset, hnew]; omega) | rfl | decide) | refine At.set_ne ?_ (by first | omega | (simp only [hset, hnew]; omega) | rfl | decide) | refine At.new_ne ?_)))) (call := s_mtakes (d := 3) (by omega) rx (k := 16) (by decide)) (k := ?_)
  rintro x_ h_ ⟨hx_, -, tn_⟩
  have e_ := tn_ (kw 16 (by decide))
  rw [e_, hx_, if_neg (kw 16 (by decide))]
  refine tX12_both_11  (kf := fun c_ => by exfalso; exact c_ rfl) (kt := fun _ => ?_)
  refine tX12_both_29  (r := ?_)
  refine tX12_both_30  (hP := ?_)
  exact ⟨_, rfl, rfl⟩

set_option maxHeartbeats 4000000 in
set_option maxRecDepth 100000 in
theorem s_mw_test (hd : 9 ≤ d) (rx : RxM h0 h m K T L s dp g no) (e1 : pEr s = 1) : RQ G mX12_test d 0 [some (.ref m), none] [] h (Ri fun v h1 => h1 = h) := by
  have kw : ∀ k, k < 41 → ¬ kdP K s = k := fun k hk z => by unfold kdP at z; rw [if_pos e1] at z; omega
  obtain ⟨⟨th, by_, ea, a0⟩, -⟩ := id rx
  refine tX12_test_0  (r := ?_)
  refine tX12_test_1 (hd := (by omega)) (ha := (by first | assumption | (repeat (first | assumption | exact At.set_eq2 (by first | omega | (simp only [hset, hnew]; omega) | rfl | decide) | exact At.new_eq2 _ _ (by first | omega | (simp only [hset, hnew]; omega) | rfl | decide) | refine At.set_ne ?_ (by first | omega | (simp only [hset, hnew]; omega) | rfl | decide) | refine At.new_ne ?_)))) (call := s_mw_both (d := 8) (by decide) rx e1) (k := ?_)
  rintro x1 h1 rfl
  refine tX12_test_4  (r := ?_)
  refine tX12_test_5  (r := ?_)
  refine tX12_test_6  (r := ?_)
  refine tX12_test_8 (hd := (by omega)) (ha := (by first | assumption | (repeat (first | assumption | exact At.set_eq2 (by first | omega | (simp only [hset, hnew]; omega) | rfl | decide) | exact At.new_eq2 _ _ (by first | omega | (simp only [hset, hnew]; omega) | rfl | decide) | refine At.set_ne ?_ (by first | omega | (simp only [hset, hnew]; omega) | rfl | decide) | refine At.new_ne ?_)))) (call := s_mtakes (d := 3) (by omega) rx (k := 17) (by decide)) (k := ?_)
  rintro x_ h_ ⟨hx_, -, tn_⟩
  have e_ := tn_ (kw 17 (by decide))
  rw [e_, hx_, if_neg (kw 17 (by decide))]
  refine tX12_test_11  (kf := fun c_ => by exfalso; exact c_ rfl) (kt := fun _ => ?_)
  refine tX12_test_29  (r := ?_)
  refine tX12_test_30  (hP := ?_)
  exact ⟨_, rfl, rfl⟩

set_option maxHeartbeats 4000000 in
set_option maxRecDepth 100000 in
theorem s_mk_18 (hd : 7 ≤ d) (rx : RxM h0 h m K T L s dp g no) (ek : kdP K s = 18) : RQ G mX12_single d 0 [some (.ref m), none, none] [] h (Ri fun v h1 => ∃ n1, RxM h0 h1 m K T L (lkP K 18 s).1 dp g n1 ∧ (pEr (lkP K 18 s).1 = 0 → v = nI (lkP K 18 s).2) ∧ n1 + pPo s ≤ no + pPo (lkP K 18 s).1) := by
  obtain ⟨⟨th, by_, ea, a0⟩, a1, ⟨q2, a2, c2⟩, ⟨q3, a3, c3⟩, ⟨q4, a4, c4⟩, b1, b2, b3, b4, b5, b6, u, tk, nm⟩ := id rx
  obtain ⟨⟨v1, y1, x1⟩, ⟨v2, y2, x2⟩, ⟨v3, y3, x3⟩, ⟨v4, y4, x4⟩, ⟨v5, y5, x5⟩, tw⟩ := id tk
  have k401 := tw.2.1
  have w1 := u.at y1 (by omega) (by omega) (by omega)
  have w2 := u.at y2 (by omega) (by omega) (by omega)
  have w3 := u.at y3 (by omega) (by omega) (by omega)
  have w4 := u.at y4 (by omega) (by omega) (by omega)
  have w5 := u.at y5 (by omega) (by omega) (by omega)
  have z0 := a0.1
  have z1 := a1.1
  have l2_ := a2.1
  have l3_ := a3.1
  have l4_ := a4.1
  have vs : vaP K s = K.2.2.2 (pPo s) := if_pos b3
  obtain ⟨et, e1⟩ := tkP_y (K := K) (s := s) ek (by omega)
  have l1_ := (rx.nx (by omega)).1
  have kv : K.2.1 (pPo s) = kdP K s := by
    have e2 : kdP K s = kdT K (pPo s) := if_neg e1
    rw [e2, rx.ne42.1]
  refine tX12_single_0  (r := ?_)
  refine tX12_single_1  (r := ?_)
  refine tX12_single_3 (hd := (by omega)) (ha := (by first | assumption | (repeat (first | assumption | exact At.set_eq2 (by first | omega | (simp only [hset, hnew]; omega) | rfl | decide) | exact At.new_eq2 _ _ (by first | omega | (simp only [hset, hnew]; omega) | rfl | decide) | refine At.set_ne ?_ (by first | omega | (simp only [hset, hnew]; omega) | rfl | decide) | refine At.new_ne ?_)))) (call := s_mtakes (d := 2) (by omega) rx (k := 15) (by decide)) (k := ?_)
  rintro x_ h_ ⟨hx_, -, tn_⟩
  have e_ := tn_ (by omega)
  rw [e_, hx_, if_neg (by omega)]
  refine tX12_single_6  (kf := fun c_ => by exfalso; exact c_ rfl) (kt := fun _ => ?_)
  refine tX12_single_21  (r := ?_)
  refine tX12_single_22  (r := ?_)
  refine tX12_single_24 (hd := (by omega)) (ha := (by first | assumption | (repeat (first | assumption | exact At.set_eq2 (by first | omega | (simp only [hset, hnew]; omega) | rfl | decide) | exact At.new_eq2 _ _ (by first | omega | (simp only [hset, hnew]; omega) | rfl | decide) | refine At.set_ne ?_ (by first | omega | (simp only [hset, hnew]; omega) | rfl | decide) | refine At.new_ne ?_)))) (call := s_mis (d := 2) rx (k := 29) (by decide)) (k := ?_)
  rintro x_ h_ ⟨hx_, e_⟩
  rw [e_, hx_, if_neg (by omega)]
  refine tX12_single_27  (kf := fun c_ => by exfalso; exact c_ rfl) (kt := fun _ => ?_)
  refine tX12_single_47  (r := ?_)
  refine tX12_single_48  (r := ?_)
  refine tX12_single_50 (hd := (by omega)) (ha := (by first | assumption | (repeat (first | assumption | exact At.set_eq2 (by first | omega | (simp only [hset, hnew]; omega) | rfl | decide) | exact At.new_eq2 _ _ (by first | omega | (simp only [hset, hnew]; omega) | rfl | decide) | refine At.set_ne ?_ (by first | omega | (simp only [hset, hnew]; omega) | rfl | decide) | refine At.new_ne ?_)))) (call := s_mtakes (d := 2) (by omega) rx (k := 18) (by decide)) (k := ?_)
  rintro x_ h1 ⟨hx_, ty_, -⟩
  have rx1 := ty_ ek
  rw [hx_, if_pos ek]
  obtain ⟨⟨th1, by1, ea1, p1⟩, -⟩ := id rx1
  refine tX12_single_53  (kt := fun c_ => by exfalso; exact absurd c_ (by decide)) (kf := fun _ => ?_)
  refine tX12_single_56  (r := ?_)
  refine tX12_single_57  (r := ?_)
  refine tX12_single_59  (r := ?_)
  refine tX12_single_60  (r := ?_)
  refine tX12_single_61 (hd := (by omega)) (ha := (by first | assumption | (repeat (first | assumption | exact At.set_eq2 (by first | omega | (simp only [hset, hnew]; omega) | rfl | decide) | exact At.new_eq2 _ _ (by first | omega | (simp only [hset, hnew]; omega) | rfl | decide) | refine At.set_ne ?_ (by first | omega | (simp only [hset, hnew]; omega) | rfl | decide) | refine At.new_ne ?_)))) (call := s_mname (d := 4) (by omega) rx1 (w := 0) (Or.inl rfl)) (k := ?_)
  rintro v2 h2 ⟨hv2, rx2⟩
  have po2 : pPo s + 1 ≤ pPo (tkP K 39 (rpO (nbO K 0 (tkP K 18 s)) (tkP K 18 s))) := by
    have p9 := (tkP_po (K := K) (w := 39) (s := rpO (nbO K 0 (tkP K 18 s)) (tkP K 18 s))).1
    rw [rpO_po] at p9
    have p8 : pPo (tkP K 18 s) = pPo s + 1 := by rw [et]
    omega
  obtain ⟨⟨th2, by2, ea2, p2⟩, -⟩ := id rx2
  refine tX12_single_64  (r := ?_)
  refine tX12_single_65 (hd := (by omega)) (ha := (by first | assumption | (repeat (first | assumption | exact At.set_eq2 (by first | omega | (simp only [hset, hnew]; omega) | rfl | decide) | exact At.new_eq2 _ _ (by first | omega | (simp only [hset, hnew]; omega) | rfl | decide) | refine At.set_ne ?_ (by first | omega | (simp only [hset, hnew]; omega) | rfl | decide) | refine At.new_ne ?_)))) (call := s_mnode (d := 3) rx2 (by omega) (so := 18) (lN := (lbO K (tkP K 18 s)).getD 0) (rN := 0) (fun _ => rfl) hv2 (fun _ => rfl)) (k := ?_)
  rintro v3 h3 ⟨hv3, rx3⟩
  refine tX12_single_68  (hP := ?_)
  have EQ : Eqv (noP 18 ((lbO K (tkP K 18 s)).getD 0) 0 (tkP K 39 (rpO (nbO K 0 (tkP K 18 s)) (tkP K 18 s)))) (lkP K 18 s).1 := Eqv.no (Eqv.tk (Eqv.st _).symm)
  refine ⟨_, rfl, _, rx3.eqv EQ, fun z => ?_, ?_⟩
  · have z2 := EQ.2.1.trans z
    rw [noP_er] at z2
    rw [hv3 z2]
    obtain ⟨z3, -, z5⟩ := tkP_er z2
    obtain ⟨-, z4⟩ := rpO_ne z3
    rw [z5, z4, et]
    rfl
  · rw [← EQ.1, noP_po]
    omega

set_option maxHeartbeats 4000000 in
set_option maxRecDepth 100000 in
theorem s_mk_19 (hd : 7 ≤ d) (rx : RxM h0 h m K T L s dp g no) (ek : kdP K s = 19) : RQ G mX12_single d 0 [some (.ref m), none, none] [] h (Ri fun v h1 => ∃ n1, RxM h0 h1 m K T L (lkP K 19 s).1 dp g n1 ∧ (pEr (lkP K 19 s).1 = 0 → v = nI (lkP K 19 s).2) ∧ n1 + pPo s ≤ no + pPo (lkP K 19 s).1) := by
  obtain ⟨⟨th, by_, ea, a0⟩, a1, ⟨q2, a2, c2⟩, ⟨q3, a3, c3⟩, ⟨q4, a4, c4⟩, b1, b2, b3, b4, b5, b6, u, tk, nm⟩ := id rx
  obtain ⟨⟨v1, y1, x1⟩, ⟨v2, y2, x2⟩, ⟨v3, y3, x3⟩, ⟨v4, y4, x4⟩, ⟨v5, y5, x5⟩, tw⟩ := id tk
  have k401 := tw.2.1
  have w1 := u.at y1 (by omega) (by omega) (by omega)
  have w2 := u.at y2 (by omega) (by omega) (by omega)
  have w3 := u.at y3 (by omega) (by omega) (by omega)
  have w4 := u.at y4 (by omega) (by omega) (by omega)
  have w5 := u.at y5 (by omega) (by omega) (by omega)
  have z0 := a0.1
  have z1 := a1.1
  have l2_ := a2.1
  have l3_ := a3.1
  have l4_ := a4.1
  have vs : vaP K s = K.2.2.2 (pPo s) := if_pos b3
  obtain ⟨et, e1⟩ := tkP_y (K := K) (s := s) ek (by omega)
  have l1_ := (rx.nx (by omega)).1
  have kv : K.2.1 (pPo s) = kdP K s := by
    have e2 : kdP K s = kdT K (pPo s) := if_neg e1
    rw [e2, rx.ne42.1]
  refine tX12_single_0  (r := ?_)
  refine tX12_single_1  (r := ?_)
  refine tX12_single_3 (hd := (by omega)) (ha := (by first | assumption | (repeat (first | assumption | exact At.set_eq2 (by first | omega | (simp only [hset, hnew]; omega) | rfl | decide) | exact At.new_eq2 _ _ (by first | omega | (simp only [hset, hnew]; omega) | rfl | decide) | refine At.set_ne ?_ (by first | omega | (simp only [hset, hnew]; omega) | rfl | decide) | refine At.new_ne ?_)))) (call := s_mtakes (d := 2) (by omega) rx (k := 15) (by decide)) (k := ?_)
  rintro x_ h_ ⟨hx_, -, tn_⟩
  have e_ := tn_ (by omega)
  rw [e_, hx_, if_neg (by omega)]
  refine tX12_single_6  (kf := fun c_ => by exfalso; exact c_ rfl) (kt := fun _ => ?_)
  refine tX12_single_21  (r := ?_)
  refine tX12_single_22  (r := ?_)
  refine tX12_single_24 (hd := (by omega)) (ha := (by first | assumption | (repeat (first | assumption | exact At.set_eq2 (by first | omega | (simp only [hset, hnew]; omega) | rfl | decide) | exact At.new_eq2 _ _ (by first | omega | (simp only [hset, hnew]; omega) | rfl | decide) | refine At.set_ne ?_ (by first | omega | (simp only [hset, hnew]; omega) | rfl | decide) | refine At.new_ne ?_)))) (call := s_mis (d := 2) rx (k := 29) (by decide)) (k := ?_)
  rintro x_ h_ ⟨hx_, e_⟩
  rw [e_, hx_, if_neg (by omega)]
  refine tX12_single_27  (kf := fun c_ => by exfalso; exact c_ rfl) (kt := fun _ => ?_)
  refine tX12_single_47  (r := ?_)
  refine tX12_single_48  (r := ?_)
  refine tX12_single_50 (hd := (by omega)) (ha := (by first | assumption | (repeat (first | assumption | exact At.set_eq2 (by first | omega | (simp only [hset, hnew]; omega) | rfl | decide) | exact At.new_eq2 _ _ (by first | omega | (simp only [hset, hnew]; omega) | rfl | decide) | refine At.set_ne ?_ (by first | omega | (simp only [hset, hnew]; omega) | rfl | decide) | refine At.new_ne ?_)))) (call := s_mtakes (d := 2) (by omega) rx (k := 18) (by decide)) (k := ?_)
  rintro x_ h_ ⟨hx_, -, tn_⟩
  have e_ := tn_ (by omega)
  rw [e_, hx_, if_neg (by omega)]
  refine tX12_single_53  (kf := fun c_ => by exfalso; exact c_ rfl) (kt := fun _ => ?_)
  refine tX12_single_69  (r := ?_)
  refine tX12_single_70  (r := ?_)
  refine tX12_single_72 (hd := (by omega)) (ha := (by first | assumption | (repeat (first | assumption | exact At.set_eq2 (by first | omega | (simp only [hset, hnew]; omega) | rfl | decide) | exact At.new_eq2 _ _ (by first | omega | (simp only [hset, hnew]; omega) | rfl | decide) | refine At.set_ne ?_ (by first | omega | (simp only [hset, hnew]; omega) | rfl | decide) | refine At.new_ne ?_)))) (call := s_mtakes (d := 2) (by omega) rx (k := 19) (by decide)) (k := ?_)
  rintro x_ h1 ⟨hx_, ty_, -⟩
  have rx1 := ty_ ek
  rw [hx_, if_pos ek]
  obtain ⟨⟨th1, by1, ea1, p1⟩, -⟩ := id rx1
  refine tX12_single_75  (kt := fun c_ => by exfalso; exact absurd c_ (by decide)) (kf := fun _ => ?_)
  refine tX12_single_78  (r := ?_)
  refine tX12_single_79  (r := ?_)
  refine tX12_single_81  (r := ?_)
  refine tX12_single_82  (r := ?_)
  refine tX12_single_83 (hd := (by omega)) (ha := (by first | assumption | (repeat (first | assumption | exact At.set_eq2 (by first | omega | (simp only [hset, hnew]; omega) | rfl | decide) | exact At.new_eq2 _ _ (by first | omega | (simp only [hset, hnew]; omega) | rfl | decide) | refine At.set_ne ?_ (by first | omega | (simp only [hset, hnew]; omega) | rfl | decide) | refine At.new_ne ?_)))) (call := s_mname (d := 4) (by omega) rx1 (w := 0) (Or.inl rfl)) (k := ?_)
  rintro v2 h2 ⟨hv2, rx2⟩
  have po2 : pPo s + 1 ≤ pPo (tkP K 39 (rpO (nbO K 0 (tkP K 19 s)) (tkP K 19 s))) := by
    have p9 := (tkP_po (K := K) (w := 39) (s := rpO (nbO K 0 (tkP K 19 s)) (tkP K 19 s))).1
    rw [rpO_po] at p9
    have p8 : pPo (tkP K 19 s) = pPo s + 1 := by rw [et]
    omega
  obtain ⟨⟨th2, by2, ea2, p2⟩, -⟩ := id rx2
  refine tX12_single_86  (r := ?_)
  refine tX12_single_87 (hd := (by omega)) (ha := (by first | assumption | (repeat (first | assumption | exact At.set_eq2 (by first | omega | (simp only [hset, hnew]; omega) | rfl | decide) | exact At.new_eq2 _ _ (by first | omega | (simp only [hset, hnew]; omega) | rfl | decide) | refine At.set_ne ?_ (by first | omega | (simp only [hset, hnew]; omega) | rfl | decide) | refine At.new_ne ?_)))) (call := s_mnode (d := 3) rx2 (by omega) (so := 19) (lN := (lbO K (tkP K 19 s)).getD 0) (rN := 0) (fun _ => rfl) hv2 (fun _ => rfl)) (k := ?_)
  rintro v3 h3 ⟨hv3, rx3⟩
  refine tX12_single_90  (hP := ?_)
  have EQ : Eqv (noP 19 ((lbO K (tkP K 19 s)).getD 0) 0 (tkP K 39 (rpO (nbO K 0 (tkP K 19 s)) (tkP K 19 s)))) (lkP K 19 s).1 := Eqv.no (Eqv.tk (Eqv.st _).symm)
  refine ⟨_, rfl, _, rx3.eqv EQ, fun z => ?_, ?_⟩
  · have z2 := EQ.2.1.trans z
    rw [noP_er] at z2
    rw [hv3 z2]
    obtain ⟨z3, -, z5⟩ := tkP_er z2
    obtain ⟨-, z4⟩ := rpO_ne z3
    rw [z5, z4, et]
    rfl
  · rw [← EQ.1, noP_po]
    omega

set_option maxHeartbeats 4000000 in
set_option maxRecDepth 100000 in
theorem s_mk_open (hd : 7 ≤ d) (rx : RxM h0 h m K T L s dp g no) (ek : kdP K s = 29) (e6 : dp < 6) {d2 : Nat} {f : PST → PST × Nat} (hf : ∀ h s9 no, RxM h0 h m K T L s9 (dp + 1) g no → pPo s9 = pPo s + 1 → RQ G mX12_test d2 0 [some (.ref m), none] [] h (Ri fun v h1 => ∃ n1, RxM h0 h1 m K T L (f s9).1 (dp + 1) g n1 ∧ (pEr (f s9).1 = 0 → v = nI (f s9).2) ∧ n1 + pPo s9 ≤ no + pPo (f s9).1)) (hd2 : d2 + 1 ≤ d) : RQ G mX12_single d 0 [some (.ref m), none, none] [] h (Ri fun v h1 => ∃ n1, RxM h0 h1 m K T L (tkP K 30 (f (tkP K 29 s)).1, (f (tkP K 29 s)).2).1 dp g n1 ∧ (pEr (tkP K 30 (f (tkP K 29 s)).1, (f (tkP K 29 s)).2).1 = 0 → v = nI (tkP K 30 (f (tkP K 29 s)).1, (f (tkP K 29 s)).2).2) ∧ n1 + pPo s ≤ no + pPo (tkP K 30 (f (tkP K 29 s)).1, (f (tkP K 29 s)).2).1) := by
  obtain ⟨⟨th, by_, ea, a0⟩, a1, ⟨q2, a2, c2⟩, ⟨q3, a3, c3⟩, ⟨q4, a4, c4⟩, b1, b2, b3, b4, b5, b6, u, tk, nm⟩ := id rx
  obtain ⟨⟨v1, y1, x1⟩, ⟨v2, y2, x2⟩, ⟨v3, y3, x3⟩, ⟨v4, y4, x4⟩, ⟨v5, y5, x5⟩, tw⟩ := id tk
  have k401 := tw.2.1
  have w1 := u.at y1 (by omega) (by omega) (by omega)
  have w2 := u.at y2 (by omega) (by omega) (by omega)
  have w3 := u.at y3 (by omega) (by omega) (by omega)
  have w4 := u.at y4 (by omega) (by omega) (by omega)
  have w5 := u.at y5 (by omega) (by omega) (by omega)
  have z0 := a0.1
  have z1 := a1.1
  have l2_ := a2.1
  have l3_ := a3.1
  have l4_ := a4.1
  have vs : vaP K s = K.2.2.2 (pPo s) := if_pos b3
  obtain ⟨et, e1⟩ := tkP_y (K := K) (s := s) ek (by omega)
  have l1_ := (rx.nx (by omega)).1
  have kv : K.2.1 (pPo s) = kdP K s := by
    have e2 : kdP K s = kdT K (pPo s) := if_neg e1
    rw [e2, rx.ne42.1]
  refine tX12_single_0  (r := ?_)
  refine tX12_single_1  (r := ?_)
  refine tX12_single_3 (hd := (by omega)) (ha := (by first | assumption | (repeat (first | assumption | exact At.set_eq2 (by first | omega | (simp only [hset, hnew]; omega) | rfl | decide) | exact At.new_eq2 _ _ (by first | omega | (simp only [hset, hnew]; omega) | rfl | decide) | refine At.set_ne ?_ (by first | omega | (simp only [hset, hnew]; omega) | rfl | decide) | refine At.new_ne ?_)))) (call := s_mtakes (d := 2) (by omega) rx (k := 15) (by decide)) (k := ?_)
  rintro x_ h_ ⟨hx_, -, tn_⟩
  have e_ := tn_ (by omega)
  rw [e_, hx_, if_neg (by omega)]
  refine tX12_single_6  (kf := fun c_ => by exfalso; exact c_ rfl) (kt := fun _ => ?_)
  refine tX12_single_21  (r := ?_)
  refine tX12_single_22  (r := ?_)
  refine tX12_single_24 (hd := (by omega)) (ha := (by first | assumption | (repeat (first | assumption | exact At.set_eq2 (by first | omega | (simp only [hset, hnew]; omega) | rfl | decide) | exact At.new_eq2 _ _ (by first | omega | (simp only [hset, hnew]; omega) | rfl | decide) | refine At.set_ne ?_ (by first | omega | (simp only [hset, hnew]; omega) | rfl | decide) | refine At.new_ne ?_)))) (call := s_mis (d := 2) rx (k := 29) (by decide)) (k := ?_)
  rintro x_ h_ ⟨hx_, e_⟩
  rw [e_, hx_, if_pos ek]
  refine tX12_single_27  (kt := fun c_ => by exfalso; exact absurd c_ (by decide)) (kf := fun _ => ?_)
  refine tX12_single_30  (r := ?_)
  refine tX12_single_31 (hd := (by omega)) (ha := (by first | assumption | (repeat (first | assumption | exact At.set_eq2 (by first | omega | (simp only [hset, hnew]; omega) | rfl | decide) | exact At.new_eq2 _ _ (by first | omega | (simp only [hset, hnew]; omega) | rfl | decide) | refine At.set_ne ?_ (by first | omega | (simp only [hset, hnew]; omega) | rfl | decide) | refine At.new_ne ?_)))) (call := s_mdeeper (d := 6) (by decide) rx (by omega)) (k := ?_)
  intro h1 hq
  have rx1 := hq.2 (by omega) (by omega)
  obtain ⟨⟨th1, by1, ea1, p1⟩, -⟩ := id rx1
  refine tX12_single_34  (r := ?_)
  refine tX12_single_35 (hd := (by omega)) (ha := (by first | assumption | (repeat (first | assumption | exact At.set_eq2 (by first | omega | (simp only [hset, hnew]; omega) | rfl | decide) | exact At.new_eq2 _ _ (by first | omega | (simp only [hset, hnew]; omega) | rfl | decide) | refine At.set_ne ?_ (by first | omega | (simp only [hset, hnew]; omega) | rfl | decide) | refine At.new_ne ?_)))) (call := hf _ _ _ rx1 rfl) (k := ?_)
  rintro v2 h2 ⟨n2, rx2, hv2, hb2⟩
  obtain ⟨⟨th2, by2, ea2, p2⟩, -⟩ := id rx2
  refine tX12_single_38  (r := ?_)
  refine tX12_single_39  (r := ?_)
  refine tX12_single_40  (r := ?_)
  refine tX12_single_42 (hd := (by omega)) (ha := (by first | assumption | (repeat (first | assumption | exact At.set_eq2 (by first | omega | (simp only [hset, hnew]; omega) | rfl | decide) | exact At.new_eq2 _ _ (by first | omega | (simp only [hset, hnew]; omega) | rfl | decide) | refine At.set_ne ?_ (by first | omega | (simp only [hset, hnew]; omega) | rfl | decide) | refine At.new_ne ?_)))) (call := s_mhigher (d := 6) (by decide) rx2 (k := 30) (by decide)) (k := ?_)
  intro h3 rx3
  rw [← et] at rx3 hv2
  refine tX12_single_45  (r := ?_)
  refine tX12_single_46  (hP := ?_)
  have p1_ := (tkP_po (K := K) (w := 30) (s := (f (tkP K 29 s)).1)).1
  refine ⟨_, rfl, _, rx3, fun z => hv2 ?_, ?_⟩
  · exact (tkP_er z).1
  · show n2 + pPo s ≤ no + pPo (tkP K 30 (f (tkP K 29 s)).1)
    have hb3 : n2 + (pPo s + 1) ≤ no + pPo (f (tkP K 29 s)).1 := by
      rw [et]
      exact hb2
    omega

/-- a token with which no value begins -/
theorem at_bad {sub : Option (PST → PST × Nat)} (h : kdP K s = 29) : Eqv (wrP s) (atP K sub s).1 := by
  unfold atP
  rw [if_neg (by omega), if_neg (by omega), if_neg (by omega)]
  exact Eqv.now (wrP_tk (Eqv.st _).symm (by omega)) (wrP_er s)
theorem sm_bad {b : Nat} (h : kdP K s = 29) : Eqv (wrP s) (smP K b s).1 := by
  have go : ∀ sub, Eqv (wrP s) (smF K sub s).1 := fun sub => by
    have e0 := at_bad (K := K) (sub := sub) h
    have e1 : (pdP K sub s) = atP K sub s := by
      unfold pdP opP
      rw [lp_w rfl (e0.2.1.symm.trans (wrP_er s))]
    have e2 : smF K sub s = atP K sub s := by
      unfold smF opP
      rw [e1, lp_w rfl (e0.2.1.symm.trans (wrP_er s))]
    rw [e2]
    exact e0
  cases b with
  | zero => exact go none
  | succ b => exact go (some (smP K b))
theorem cm_1 {b : Nat} {s1 : PST} (h : pEr (smP K b s).1 = 1) (e : Eqv s1 (smP K b s).1) : Eqv s1 (cmP K (smP K b) s).1 := by
  unfold cmP
  rw [tkP_1 h, sm_w b h]
  show Eqv s1 (noP _ _ _ (stP _ _ _))
  exact Eqv.now (e.trans (Eqv.st _).symm) (e.2.1.trans h)
theorem cm_bad {b : Nat} (h : kdP K s = 29) : Eqv (wrP s) (cmP K (smP K b) s).1 := cm_1 ((sm_bad h).2.1.symm.trans (wrP_er s)) (sm_bad h)
theorem cm_no {b : Nat} (h : ¬ kdP K (smP K b s).1 = 33 ∧ ¬ kdP K (smP K b s).1 = 34 ∧ ¬ kdP K (smP K b s).1 = 35) : Eqv (wrP (smP K b s).1) (cmP K (smP K b) s).1 := by
  unfold cmP
  have e1 : sgW (kdP K (smP K b s).1) = 35 := if_neg (fun z => z.elim h.1 h.2.1)
  rw [e1, tkP_wr h.2.2, sm_w b (wrP_er _)]
  show Eqv _ (noP _ _ _ (stP _ _ _))
  exact Eqv.now (Eqv.st _).symm (wrP_er _)

set_option maxHeartbeats 4000000 in
set_option maxRecDepth 100000 in
theorem s_mk_deep (hd : 10 ≤ d) (rx : RxM h0 h m K T L s dp g no) (ek : kdP K s = 29) (e6 : dp = 6) {b : Nat} : RQ G mX12_single d 0 [some (.ref m), none, none] [] h (Ri fun v h1 => ∃ n1, RxM h0 h1 m K T L (cmP K (smP K b) s).1 dp g n1 ∧ (pEr (cmP K (smP K b) s).1 = 0 → v = nI (cmP K (smP K b) s).2) ∧ n1 + pPo s ≤ no + pPo (cmP K (smP K b) s).1) := by
  obtain ⟨⟨th, by_, ea, a0⟩, a1, ⟨q2, a2, c2⟩, ⟨q3, a3, c3⟩, ⟨q4, a4, c4⟩, b1, b2, b3, b4, b5, b6, u, tk, nm⟩ := id rx
  obtain ⟨⟨v1, y1, x1⟩, ⟨v2, y2, x2⟩, ⟨v3, y3, x3⟩, ⟨v4, y4, x4⟩, ⟨v5, y5, x5⟩, tw⟩ := id tk
  have k401 := tw.2.1
  have w1 := u.at y1 (by omega) (by omega) (by omega)
  have w2 := u.at y2 (by omega) (by omega) (by omega)
  have w3 := u.at y3 (by omega) (by omega) (by omega)
  have w4 := u.at y4 (by omega) (by omega) (by omega)
  have w5 := u.at y5 (by omega) (by omega) (by omega)
  have z0 := a0.1
  have z1 := a1.1
  have l2_ := a2.1
  have l3_ := a3.1
  have l4_ := a4.1
  refine tX12_single_0  (r := ?_)
  refine tX12_single_1  (r := ?_)
  refine tX12_single_3 (hd := (by omega)) (ha := (by first | assumption | (repeat (first | assumption | exact At.set_eq2 (by first | omega | (simp only [hset, hnew]; omega) | rfl | decide) | exact At.new_eq2 _ _ (by first | omega | (simp only [hset, hnew]; omega) | rfl | decide) | refine At.set_ne ?_ (by first | omega | (simp only [hset, hnew]; omega) | rfl | decide) | refine At.new_ne ?_)))) (call := s_mtakes (d := 2) (by omega) rx (k := 15) (by decide)) (k := ?_)
  rintro x_ h_ ⟨hx_, -, tn_⟩
  have e_ := tn_ (by omega)
  rw [e_, hx_, if_neg (by omega)]
  refine tX12_single_6  (kf := fun c_ => by exfalso; exact c_ rfl) (kt := fun _ => ?_)
  refine tX12_single_21  (r := ?_)
  refine tX12_single_22  (r := ?_)
  refine tX12_single_24 (hd := (by omega)) (ha := (by first | assumption | (repeat (first | assumption | exact At.set_eq2 (by first | omega | (simp only [hset, hnew]; omega) | rfl | decide) | exact At.new_eq2 _ _ (by first | omega | (simp only [hset, hnew]; omega) | rfl | decide) | refine At.set_ne ?_ (by first | omega | (simp only [hset, hnew]; omega) | rfl | decide) | refine At.new_ne ?_)))) (call := s_mis (d := 2) rx (k := 29) (by decide)) (k := ?_)
  rintro x_ h_ ⟨hx_, e_⟩
  rw [e_, hx_, if_pos ek]
  refine tX12_single_27  (kt := fun c_ => by exfalso; exact absurd c_ (by decide)) (kf := fun _ => ?_)
  refine tX12_single_30  (r := ?_)
  refine tX12_single_31 (hd := (by omega)) (ha := (by first | assumption | (repeat (first | assumption | exact At.set_eq2 (by first | omega | (simp only [hset, hnew]; omega) | rfl | decide) | exact At.new_eq2 _ _ (by first | omega | (simp only [hset, hnew]; omega) | rfl | decide) | refine At.set_ne ?_ (by first | omega | (simp only [hset, hnew]; omega) | rfl | decide) | refine At.new_ne ?_)))) (call := s_mdeeper (d := 6) (by decide) rx (by omega)) (k := ?_)
  intro h1 hq
  have rx1_ := hq.1 e6
  obtain ⟨⟨th1, by1, ea1, p1⟩, -⟩ := id rx1_
  refine tX12_single_34  (r := ?_)
  refine tX12_single_35 (hd := (by omega)) (ha := (by first | assumption | (repeat (first | assumption | exact At.set_eq2 (by first | omega | (simp only [hset, hnew]; omega) | rfl | decide) | exact At.new_eq2 _ _ (by first | omega | (simp only [hset, hnew]; omega) | rfl | decide) | refine At.set_ne ?_ (by first | omega | (simp only [hset, hnew]; omega) | rfl | decide) | refine At.new_ne ?_)))) (call := s_mw_test (d := 9) (by decide) rx1_ (wrP_er s)) (k := ?_)
  rintro v2 h2 rfl
  refine tX12_single_38  (r := ?_)
  refine tX12_single_39  (r := ?_)
  refine tX12_single_40  (r := ?_)
  refine tX12_single_42 (hd := (by omega)) (ha := (by first | assumption | (repeat (first | assumption | exact At.set_eq2 (by first | omega | (simp only [hset, hnew]; omega) | rfl | decide) | exact At.new_eq2 _ _ (by first | omega | (simp only [hset, hnew]; omega) | rfl | decide) | refine At.set_ne ?_ (by first | omega | (simp only [hset, hnew]; omega) | rfl | decide) | refine At.new_ne ?_)))) (call := s_mhigher (d := 6) (by decide) rx1_ (k := 30) (by decide)) (k := ?_)
  intro h3 rx1
  rw [tkP_1 (wrP_er s)] at rx1
  refine tX12_single_45  (r := ?_)
  refine tX12_single_46  (hP := ?_)
  have EQ : Eqv (wrP s) (cmP K (smP K b) s).1 := by
    exact cm_bad (by omega)
  refine ⟨_, rfl, _, rx1.eqv EQ, fun z => ?_, ?_⟩
  · rw [← EQ.2.1, wrP_er] at z
    exact absurd z (by decide)
  · rw [← EQ.1]
    have : pPo (wrP s) = pPo s := by
      unfold wrP
      split <;> rfl
    omega

theorem so_sign {k : Nat} (hk : k < 43) (h : 43 ≤ soK k ∧ soK k ≤ 45) : k = 33 ∨ k = 34 ∨ k = 35 := by
  have key : (List.range 43).all (fun k => decide (43 ≤ soK k ∧ soK k ≤ 45 → k = 33 ∨ k = 34 ∨ k = 35)) = true := by decide +kernel
  exact of_decide_eq_true (List.all_eq_true.mp key k (List.mem_range.mpr hk)) h

set_option maxHeartbeats 4000000 in
set_option maxRecDepth 100000 in
theorem s_mk_cmp (hd : 7 ≤ d) (rx : RxM h0 h m K T L s dp g no) (ek : ¬ kdP K s = 15 ∧ ¬ kdP K s = 29 ∧ ¬ kdP K s = 18 ∧ ¬ kdP K s = 19) {b d2 : Nat} (hsm : ExM G mX12_value d2 [some (.ref m), none, none] h0 m K T L dp g (smP K b)) (hd2 : d2 + 1 ≤ d) : RQ G mX12_single d 0 [some (.ref m), none, none] [] h (Ri fun v h1 => ∃ n1, RxM h0 h1 m K T L (cmP K (smP K b) s).1 dp g n1 ∧ (pEr (cmP K (smP K b) s).1 = 0 → v = nI (cmP K (smP K b) s).2) ∧ n1 + pPo s ≤ no + pPo (cmP K (smP K b) s).1) := by
  obtain ⟨⟨th, by_, ea, a0⟩, a1, ⟨q2, a2, c2⟩, ⟨q3, a3, c3⟩, ⟨q4, a4, c4⟩, b1, b2, b3, b4, b5, b6, u, tk, nm⟩ := id rx
  obtain ⟨⟨v1, y1, x1⟩, ⟨v2, y2, x2⟩, ⟨v3, y3, x3⟩, ⟨v4, y4, x4⟩, ⟨v5, y5, x5⟩, tw⟩ := id tk
  have k401 := tw.2.1
  have w1 := u.at y1 (by omega) (by omega) (by omega)
  have w2 := u.at y2 (by omega) (by omega) (by omega)
  have w3 := u.at y3 (by omega) (by omega) (by omega)
  have w4 := u.at y4 (by omega) (by omega) (by omega)
  have w5 := u.at y5 (by omega) (by omega) (by omega)
  have z0 := a0.1
  have z1 := a1.1
  have l2_ := a2.1
  have l3_ := a3.1
  have l4_ := a4.1
  refine tX12_single_0  (r := ?_)
  refine tX12_single_1  (r := ?_)
  refine tX12_single_3 (hd := (by omega)) (ha := (by first | assumption | (repeat (first | assumption | exact At.set_eq2 (by first | omega | (simp only [hset, hnew]; omega) | rfl | decide) | exact At.new_eq2 _ _ (by first | omega | (simp only [hset, hnew]; omega) | rfl | decide) | refine At.set_ne ?_ (by first | omega | (simp only [hset, hnew]; omega) | rfl | decide) | refine At.new_ne ?_)))) (call := s_mtakes (d := 2) (by omega) rx (k := 15) (by decide)) (k := ?_)
  rintro x_ h_ ⟨hx_, -, tn_⟩
  have e_ := tn_ (by omega)
  rw [e_, hx_, if_neg (by omega)]
  refine tX12_single_6  (kf := fun c_ => by exfalso; exact c_ rfl) (kt := fun _ => ?_)
  refine tX12_single_21  (r := ?_)
  refine tX12_single_22  (r := ?_)
  refine tX12_single_24 (hd := (by omega)) (ha := (by first | assumption | (repeat (first | assumption | exact At.set_eq2 (by first | omega | (simp only [hset, hnew]; omega) | rfl | decide) | exact At.new_eq2 _ _ (by first | omega | (simp only [hset, hnew]; omega) | rfl | decide) | refine At.set_ne ?_ (by first | omega | (simp only [hset, hnew]; omega) | rfl | decide) | refine At.new_ne ?_)))) (call := s_mis (d := 2) rx (k := 29) (by decide)) (k := ?_)
  rintro x_ h_ ⟨hx_, e_⟩
  rw [e_, hx_, if_neg (by omega)]
  refine tX12_single_27  (kf := fun c_ => by exfalso; exact c_ rfl) (kt := fun _ => ?_)
  refine tX12_single_47  (r := ?_)
  refine tX12_single_48  (r := ?_)
  refine tX12_single_50 (hd := (by omega)) (ha := (by first | assumption | (repeat (first | assumption | exact At.set_eq2 (by first | omega | (simp only [hset, hnew]; omega) | rfl | decide) | exact At.new_eq2 _ _ (by first | omega | (simp only [hset, hnew]; omega) | rfl | decide) | refine At.set_ne ?_ (by first | omega | (simp only [hset, hnew]; omega) | rfl | decide) | refine At.new_ne ?_)))) (call := s_mtakes (d := 2) (by omega) rx (k := 18) (by decide)) (k := ?_)
  rintro x_ h_ ⟨hx_, -, tn_⟩
  have e_ := tn_ (by omega)
  rw [e_, hx_, if_neg (by omega)]
  refine tX12_single_53  (kf := fun c_ => by exfalso; exact c_ rfl) (kt := fun _ => ?_)
  refine tX12_single_69  (r := ?_)
  refine tX12_single_70  (r := ?_)
  refine tX12_single_72 (hd := (by omega)) (ha := (by first | assumption | (repeat (first | assumption | exact At.set_eq2 (by first | omega | (simp only [hset, hnew]; omega) | rfl | decide) | exact At.new_eq2 _ _ (by first | omega | (simp only [hset, hnew]; omega) | rfl | decide) | refine At.set_ne ?_ (by first | omega | (simp only [hset, hnew]; omega) | rfl | decide) | refine At.new_ne ?_)))) (call := s_mtakes (d := 2) (by omega) rx (k := 19) (by decide)) (k := ?_)
  rintro x_ h_ ⟨hx_, -, tn_⟩
  have e_ := tn_ (by omega)
  rw [e_, hx_, if_neg (by omega)]
  refine tX12_single_75  (kf := fun c_ => by exfalso; exact c_ rfl) (kt := fun _ => ?_)
  refine tX12_single_91  (r := ?_)
  refine tX12_single_92 (hd := (by omega)) (ha := (by first | assumption | (repeat (first | assumption | exact At.set_eq2 (by first | omega | (simp only [hset, hnew]; omega) | rfl | decide) | exact At.new_eq2 _ _ (by first | omega | (simp only [hset, hnew]; omega) | rfl | decide) | refine At.set_ne ?_ (by first | omega | (simp only [hset, hnew]; omega) | rfl | decide) | refine At.new_ne ?_)))) (call := hsm _ _ _ rx) (k := ?_)
  rintro v1_ h1 ⟨n1, rx1, hv1, hb1⟩
  obtain ⟨⟨th1, by1, ea1, p1⟩, pp1, -, -, -, -, b21, b31, -, -, -, u1, -⟩ := id rx1
  have w2_ := u1.at y2 (by omega) (by omega) (by omega)
  have zz1 := p1.1
  have mm := smP_po (K := K) b s
  have kv1 : pEr (smP K b s).1 ≠ 1 → K.2.1 (pPo (smP K b s).1) = kdP K (smP K b s).1 := fun z => by
    have e2 : kdP K (smP K b s).1 = kdT K (pPo (smP K b s).1) := if_neg z
    rw [e2, rx1.ne42.1]
  refine tX12_single_95  (r := ?_)
  refine tX12_single_96  (r := ?_)
  refine tX12_single_97 (ha := (by first | assumption | (repeat (first | assumption | exact At.set_eq2 (by first | omega | (simp only [hset, hnew]; omega) | rfl | decide) | exact At.new_eq2 _ _ (by first | omega | (simp only [hset, hnew]; omega) | rfl | decide) | refine At.set_ne ?_ (by first | omega | (simp only [hset, hnew]; omega) | rfl | decide) | refine At.new_ne ?_)))) (hv := rfl) (r := ?_)
  refine tX12_single_100  (r := ?_)
  refine tX12_single_101 (ha := (by first | assumption | (repeat (first | assumption | exact At.set_eq2 (by first | omega | (simp only [hset, hnew]; omega) | rfl | decide) | exact At.new_eq2 _ _ (by first | omega | (simp only [hset, hnew]; omega) | rfl | decide) | refine At.set_ne ?_ (by first | omega | (simp only [hset, hnew]; omega) | rfl | decide) | refine At.new_ne ?_)))) (hv := rfl) (r := ?_)
  refine tX12_single_104 (ha := (by first | assumption | (repeat (first | assumption | exact At.set_eq2 (by first | omega | (simp only [hset, hnew]; omega) | rfl | decide) | exact At.new_eq2 _ _ (by first | omega | (simp only [hset, hnew]; omega) | rfl | decide) | refine At.set_ne ?_ (by first | omega | (simp only [hset, hnew]; omega) | rfl | decide) | refine At.new_ne ?_)))) (hx := rfl) (hj := (by omega)) (hn := (by decide)) (r := ?_)
  rw [x2 _ b31]
  show RQ _ _ _ _ _ (.int (nI (soK (K.2.1 (pPo (smP K b s).1)))) :: _) _ _
  refine tX12_single_105  (r := ?_)
  refine tX12_single_106  (r := ?_)
  refine tX12_single_107 (ha := (by first | assumption | (repeat (first | assumption | exact At.set_eq2 (by first | omega | (simp only [hset, hnew]; omega) | rfl | decide) | exact At.new_eq2 _ _ (by first | omega | (simp only [hset, hnew]; omega) | rfl | decide) | refine At.set_ne ?_ (by first | omega | (simp only [hset, hnew]; omega) | rfl | decide) | refine At.new_ne ?_)))) (hv := rfl) (r := ?_)
  refine tX12_single_110  (kt := fun c_110 => ?_) (kf := fun c_110 => ?_)
  · have e1 : pEr (smP K b s).1 = 1 := Classical.byContradiction (fun z => by rw [if_neg z] at c_110; exact c_110 rfl)
    refine tX12_single_124  (r := ?_)
    refine tX12_single_125 (hd := (by omega)) (ha := (by first | assumption | (repeat (first | assumption | exact At.set_eq2 (by first | omega | (simp only [hset, hnew]; omega) | rfl | decide) | exact At.new_eq2 _ _ (by first | omega | (simp only [hset, hnew]; omega) | rfl | decide) | refine At.set_ne ?_ (by first | omega | (simp only [hset, hnew]; omega) | rfl | decide) | refine At.new_ne ?_)))) (call := s_mwrong (d := 3) rx1) (k := ?_)
    intro h2 rx2
    refine tX12_single_128  (r := ?_)
    refine tX12_single_129  (hP := ?_)
    have EQ : Eqv (wrP (smP K b s).1) (cmP K (smP K b) s).1 := by
      rw [show wrP (smP K b s).1 = (smP K b s).1 from if_pos e1]
      exact cm_1 e1 (Eqv.rf _)
    refine ⟨_, rfl, _, rx2.eqv EQ, fun z => ?_, ?_⟩
    · rw [← EQ.2.1, wrP_er] at z
      exact absurd z (by decide)
    · rw [← EQ.1]
      have : pPo (wrP (smP K b s).1) = pPo (smP K b s).1 := by
        unfold wrP
        split <;> rfl
      omega
  · have e1 : ¬ pEr (smP K b s).1 = 1 := fun z => by rw [if_pos z] at c_110; exact absurd c_110 (by decide)
    have kv := kv1 e1
    have k43 := rx1.ne42.2
    have so52 := soK_lt (K.2.1 (pPo (smP K b s).1))
    refine tX12_single_113  (r := ?_)
    refine tX12_single_114  (r := ?_)
    refine tX12_single_116  (r := ?_)
    refine tX12_single_118 (hd := (by omega)) (call := s_misIn (d := 3)) (k := ?_)
    rintro x_ h_ ⟨hx_, e_⟩
    rw [e_, hx_]
    refine tX12_single_121  (kt := fun c_121 => ?_) (kf := fun c_121 => ?_)
    · have es : 43 ≤ soK (K.2.1 (pPo (smP K b s).1)) ∧ soK (K.2.1 (pPo (smP K b s).1)) ≤ 45 := Classical.byContradiction (fun z => by
        rw [if_neg (fun q => z ⟨(nI_leI (by decide) (by omega)).mp q.1, (nI_leI (by omega) (by decide)).mp q.2⟩)] at c_121
        exact c_121 rfl)
      have ks := so_sign k43 es
      rw [kv] at ks
      have sgw : sgW (kdP K (smP K b s).1) = kdP K (smP K b s).1 := by
        unfold sgW
        split <;> omega
      obtain ⟨et, -⟩ := tkP_y (K := K) (s := (smP K b s).1) rfl (by omega)
      refine tX12_single_130  (r := ?_)
      refine tX12_single_131  (r := ?_)
      refine tX12_single_132 (ha := (by first | assumption | (repeat (first | assumption | exact At.set_eq2 (by first | omega | (simp only [hset, hnew]; omega) | rfl | decide) | exact At.new_eq2 _ _ (by first | omega | (simp only [hset, hnew]; omega) | rfl | decide) | refine At.set_ne ?_ (by first | omega | (simp only [hset, hnew]; omega) | rfl | decide) | refine At.new_ne ?_)))) (hv := rfl) (r := ?_)
      refine tX12_single_135  (r := ?_)
      refine tX12_single_136  (r := ?_)
      rw [nI_add]
      refine tX12_single_137 (ha := (by first | assumption | (repeat (first | assumption | exact At.set_eq2 (by first | omega | (simp only [hset, hnew]; omega) | rfl | decide) | exact At.new_eq2 _ _ (by first | omega | (simp only [hset, hnew]; omega) | rfl | decide) | refine At.set_ne ?_ (by first | omega | (simp only [hset, hnew]; omega) | rfl | decide) | refine At.new_ne ?_)))) (hlen := rfl) (r := ?_)
      have rx2 := rx1.next p1 (by omega)
      refine tX12_single_140  (r := ?_)
      refine tX12_single_141  (r := ?_)
      refine tX12_single_142  (r := ?_)
      refine tX12_single_143  (r := ?_)
      refine tX12_single_144 (hd := (by omega)) (ha := (by first | assumption | (repeat (first | assumption | exact At.set_eq2 (by first | omega | (simp only [hset, hnew]; omega) | rfl | decide) | exact At.new_eq2 _ _ (by first | omega | (simp only [hset, hnew]; omega) | rfl | decide) | refine At.set_ne ?_ (by first | omega | (simp only [hset, hnew]; omega) | rfl | decide) | refine At.new_ne ?_)))) (call := hsm _ _ _ rx2) (k := ?_)
      rintro v3 h3 ⟨n3, rx3, hv3, hb3⟩
      rw [← et] at rx3 hv3
      obtain ⟨⟨th3, by3, ea3, p3⟩, -⟩ := id rx3
      have mm3 := smP_po (K := K) b (tkP K (kdP K (smP K b s).1) (smP K b s).1)
      have pp : pPo (tkP K (kdP K (smP K b s).1) (smP K b s).1) = pPo (smP K b s).1 + 1 := by rw [et]
      have hb4 : n3 + (pPo (smP K b s).1 + 1) ≤ n1 + pPo (smP K b (tkP K (kdP K (smP K b s).1) (smP K b s).1)).1 := by
        rw [et]
        exact hb3
      refine tX12_single_147 (hd := (by omega)) (ha := (by first | assumption | (repeat (first | assumption | exact At.set_eq2 (by first | omega | (simp only [hset, hnew]; omega) | rfl | decide) | exact At.new_eq2 _ _ (by first | omega | (simp only [hset, hnew]; omega) | rfl | decide) | refine At.set_ne ?_ (by first | omega | (simp only [hset, hnew]; omega) | rfl | decide) | refine At.new_ne ?_)))) (call := s_mnode (d := 3) rx3 (by omega) (so := soK (kdP K (smP K b s).1)) (lN := (smP K b s).2) (rN := (smP K b (tkP K (kdP K (smP K b s).1) (smP K b s).1)).2) (fun _ => by rw [kv]) (fun z => hv1 (tkP_er (smP_er0 b _ z)).1) hv3) (k := ?_)
      rintro v4 h4 ⟨hv4, rx4⟩
      refine tX12_single_150  (hP := ?_)
      have EQ : Eqv (noP (soK (kdP K (smP K b s).1)) (smP K b s).2 (smP K b (tkP K (kdP K (smP K b s).1) (smP K b s).1)).2 (smP K b (tkP K (kdP K (smP K b s).1) (smP K b s).1)).1) (cmP K (smP K b) s).1 := by
        unfold cmP
        rw [sgw]
        exact Eqv.no (Eqv.st _).symm
      refine ⟨_, rfl, _, rx4.eqv EQ, fun z => ?_, ?_⟩
      · have z2 := EQ.2.1.trans z
        rw [noP_er] at z2
        rw [hv4 z2]
        unfold cmP
        rw [sgw]
        rfl
      · rw [← EQ.1, noP_po]
        omega
    · have es : ¬ (43 ≤ soK (K.2.1 (pPo (smP K b s).1)) ∧ soK (K.2.1 (pPo (smP K b s).1)) ≤ 45) := fun z => by
        rw [if_pos ⟨(nI_leI (by decide) (by omega)).mpr z.1, (nI_leI (by omega) (by decide)).mpr z.2⟩] at c_121
        exact absurd c_121 (by decide)
      have ks : ¬ kdP K (smP K b s).1 = 33 ∧ ¬ kdP K (smP K b s).1 = 34 ∧ ¬ kdP K (smP K b s).1 = 35 := by
        rw [← kv]
        refine ⟨fun z => es ?_, fun z => es ?_, fun z => es ?_⟩ <;> (rw [z]; decide)
      refine tX12_single_124  (r := ?_)
      refine tX12_single_125 (hd := (by omega)) (ha := (by first | assumption | (repeat (first | assumption | exact At.set_eq2 (by first | omega | (simp only [hset, hnew]; omega) | rfl | decide) | exact At.new_eq2 _ _ (by first | omega | (simp only [hset, hnew]; omega) | rfl | decide) | refine At.set_ne ?_ (by first | omega | (simp only [hset, hnew]; omega) | rfl | decide) | refine At.new_ne ?_)))) (call := s_mwrong (d := 3) rx1) (k := ?_)
      intro h2 rx2
      refine tX12_single_128  (r := ?_)
      refine tX12_single_129  (hP := ?_)
      have EQ : Eqv (wrP (smP K b s).1) (cmP K (smP K b) s).1 := cm_no ks
      refine ⟨_, rfl, _, rx2.eqv EQ, fun z => ?_, ?_⟩
      · rw [← EQ.2.1, wrP_er] at z
        exact absurd z (by decide)
      · rw [← EQ.1]
        have : pPo (wrP (smP K b s).1) = pPo (smP K b s).1 := by
          unfold wrP
          split <;> rfl
        omega

theorem s_mkept {b d2 P0 : Nat} {sub : Option (PST → PST × Nat)} (hsm : ExM G mX12_value d2 [some (.ref m), none, none] h0 m K T L dp g (smP K b)) (hd2 : d2 + 1 ≤ d) (hsub : ∀ f, sub = some f → dp < 6 ∧ ∀ h s9 no, RxM h0 h m K T L s9 (dp + 1) g no → P0 + 1 ≤ pPo s9 → RQ G mX12_test d2 0 [some (.ref m), none] [] h (Ri fun v h1 => ∃ n1, RxM h0 h1 m K T L (f s9).1 (dp + 1) g n1 ∧ (pEr (f s9).1 = 0 → v = nI (f s9).2) ∧ n1 + pPo s9 ≤ no + pPo (f s9).1)) (hno : sub = none → dp = 6) (hd : 10 ≤ d) (rx : RxM h0 h m K T L s dp g no) (hp : P0 ≤ pPo s) (ek : ¬ kdP K s = 15) : RQ G mX12_single d 0 [some (.ref m), none, none] [] h (Ri fun v h1 => ∃ n1, RxM h0 h1 m K T L (kpP K sub (smP K b) s).1 dp g n1 ∧ (pEr (kpP K sub (smP K b) s).1 = 0 → v = nI (kpP K sub (smP K b) s).2) ∧ n1 + pPo s ≤ no + pPo (kpP K sub (smP K b) s).1) := by
  by_cases k29 : kdP K s = 29
  · cases sub with
    | none =>
      have ee : kpP K none (smP K b) s = cmP K (smP K b) s := by
        unfold kpP
        rw [if_neg (fun z => absurd z.2 (by decide)), if_neg (by omega)]
      rw [ee]
      exact s_mk_deep hd rx k29 (hno rfl)
    | some f =>
      have ee : kpP K (some f) (smP K b) s = (tkP K 30 (f (tkP K 29 s)).1, (f (tkP K 29 s)).2) := by
        unfold kpP
        rw [if_pos ⟨k29, rfl⟩]
        rfl
      rw [ee]
      exact s_mk_open (by omega) rx k29 (hsub f rfl).1 (fun h s9 no r9 e9 => (hsub f rfl).2 h s9 no r9 (by omega)) hd2
  · by_cases k18 : kdP K s = 18
    · have ee : kpP K sub (smP K b) s = lkP K 18 s := by
        unfold kpP
        rw [if_neg (fun z => k29 z.1), if_pos (Or.inl k18), k18]
      rw [ee]
      exact s_mk_18 (by omega) rx k18
    · by_cases k19 : kdP K s = 19
      · have ee : kpP K sub (smP K b) s = lkP K 19 s := by
          unfold kpP
          rw [if_neg (fun z => k29 z.1), if_pos (Or.inr k19), k19]
        rw [ee]
        exact s_mk_19 (by omega) rx k19
      · have ee : kpP K sub (smP K b) s = cmP K (smP K b) s := by
          unfold kpP
          rw [if_neg (fun z => k29 z.1), if_neg (by omega)]
        rw [ee]
        exact s_mk_cmp (by omega) rx ⟨ek, k29, k18, k19⟩ hsm hd2
/-- a single test, without the class's step -/
def siN (K : TKS) (kp : PST → PST × Nat) (n : Nat) (s : PST) : PST × Nat := nnP (ntP K n s).2 (kp (ntP K n s).1)
theorem siN_po {kp : PST → PST × Nat} (hk : ∀ s, pPo s ≤ pPo (kp s).1) (n : Nat) (s : PST) : pPo s ≤ pPo (siN K kp n s).1 := by
  unfold siN
  rw [nnP_po]
  exact Nat.le_trans (ntP_po n s) (hk _)
theorem nnP_eqv : ∀ (n : Nat) (q q' : PST × Nat), Eqv q.1 q'.1 → q.2 = q'.2 → Eqv (nnP n q).1 (nnP n q').1 ∧ (pEr (nnP n q).1 = 0 → (nnP n q).2 = (nnP n q').2)
  | 0, q, q', e, e2 => ⟨e, fun _ => e2⟩
  | n + 1, q, q', e, e2 => by
    obtain ⟨f1, f2⟩ := nnP_eqv n q q' e e2
    have f3 : pEr (nnP n q).1 = 0 → nNo (pBk (nnP n q).1) = nNo (pBk (nnP n q').1) := fun z => by
      have := (f1.2.2.2 z).1
      injection this
    refine ⟨?_, fun z => ?_⟩
    · show Eqv (noP 15 (nnP n q).2 0 (nnP n q).1) (noP 15 (nnP n q').2 0 (nnP n q').1)
      by_cases z : pEr (nnP n q).1 = 0
      · rw [f2 z]
        exact Eqv.no f1
      · have z' : ¬ pEr (nnP n q').1 = 0 := fun w => z (f1.2.1.trans w)
        unfold noP
        rw [upP_n z, upP_n z']
        exact f1
    · exact f3 (noP_er0 z)
theorem siN_si {kp : PST → PST × Nat} : Eqv (siN K kp 400 s).1 (siP K kp s).1 ∧ (pEr (siN K kp 400 s).1 = 0 → (siN K kp 400 s).2 = (siP K kp s).2) := by
  refine nnP_eqv _ _ _ ?_ rfl
  show Eqv (kp (ntP K 400 s).1).1 (if _ then stP 15 0 (kp (ntP K 400 s).1).1 else (kp (ntP K 400 s).1).1)
  split
  · exact (Eqv.st _).symm
  · exact Eqv.rf _

set_option maxHeartbeats 4000000 in
set_option maxRecDepth 100000 in
theorem s_msi_l {kp : PST → PST × Nat} (hm : ∀ s, pPo s ≤ pPo (kp s).1) {D : Nat} (hd4 : 408 ≤ D) (hk : ∀ d h s no, D ≤ d + pPo s → RxM h0 h m K T L s dp g no → ¬ kdP K s = 15 → RQ G mX12_single d 0 [some (.ref m), none, none] [] h (Ri fun v h1 => ∃ n1, RxM h0 h1 m K T L (kp s).1 dp g n1 ∧ (pEr (kp s).1 = 0 → v = nI (kp s).2) ∧ n1 + pPo s ≤ no + pPo (kp s).1)) : ∀ (n d : Nat) (h : AH) (s : PST) (no : Nat), 400 ≤ n + pPo s → D ≤ d + pPo s → RxM h0 h m K T L s dp g no → RQ G mX12_single d 0 [some (.ref m), none, none] [] h (Ri fun v h1 => ∃ n1, RxM h0 h1 m K T L (siN K kp n s).1 dp g n1 ∧ (pEr (siN K kp n s).1 = 0 → v = nI (siN K kp n s).2) ∧ n1 + pPo s ≤ no + pPo (siN K kp n s).1) := by
  intro n
  induction n with
  | zero =>
    intro d h s no hi hdd rx
    have nk := rx.last (by omega)
    exact hk d h s no (by omega) rx (by omega)
  | succ n ih =>
    intro d h s no hi hdd rx
    obtain ⟨⟨th, by_, ea, a0⟩, -⟩ := id rx
    by_cases ek : kdP K s = 15
    · have en : ntP K (n + 1) s = ((ntP K n (tkP K 15 s)).1, (ntP K n (tkP K 15 s)).2 + 1) := if_pos ek
      have es : siN K kp (n + 1) s = (noP 15 (siN K kp n (tkP K 15 s)).2 0 (siN K kp n (tkP K 15 s)).1, nNo (pBk (siN K kp n (tkP K 15 s)).1)) := by
        unfold siN
        rw [en]
        rfl
      rw [es]
      obtain ⟨et, e1⟩ := tkP_y (K := K) (s := s) ek (by decide)
      have k401 := rx.2.2.2.2.2.2.2.2.2.2.2.2.1.2.2.2.2.2.2.1
      have b3_ := rx.2.2.2.2.2.2.2.1
      have pp : pPo (tkP K 15 s) = pPo s + 1 := by rw [et]
      have mm := siN_po (K := K) hm n (tkP K 15 s)
      have b2_ := rx.2.2.2.2.2.2.1
      refine tX12_single_0  (r := ?_)
      refine tX12_single_1  (r := ?_)
      refine tX12_single_3 (hd := (by omega)) (ha := (by first | assumption | (repeat (first | assumption | exact At.set_eq2 (by first | omega | (simp only [hset, hnew]; omega) | rfl | decide) | exact At.new_eq2 _ _ (by first | omega | (simp only [hset, hnew]; omega) | rfl | decide) | refine At.set_ne ?_ (by first | omega | (simp only [hset, hnew]; omega) | rfl | decide) | refine At.new_ne ?_)))) (call := s_mtakes (d := 2) (by omega) rx (k := 15) (by decide)) (k := ?_)
      rintro x_ h1 ⟨hx_, ty_, -⟩
      have rx1 := ty_ ek
      rw [hx_, if_pos ek]
      obtain ⟨⟨th1, by1, ea1, p1⟩, -⟩ := id rx1
      refine tX12_single_6  (kt := fun c_ => by exfalso; exact absurd c_ (by decide)) (kf := fun _ => ?_)
      refine tX12_single_9  (r := ?_)
      refine tX12_single_10  (r := ?_)
      refine tX12_single_12  (r := ?_)
      refine tX12_single_13 (hd := (by omega)) (ha := (by first | assumption | (repeat (first | assumption | exact At.set_eq2 (by first | omega | (simp only [hset, hnew]; omega) | rfl | decide) | exact At.new_eq2 _ _ (by first | omega | (simp only [hset, hnew]; omega) | rfl | decide) | refine At.set_ne ?_ (by first | omega | (simp only [hset, hnew]; omega) | rfl | decide) | refine At.new_ne ?_)))) (call := ih (d - 1) h1 (tkP K 15 s) no (by omega) (by omega) rx1) (k := ?_)
      rintro v2 h2 ⟨n2, rx2, hv2, hb2⟩
      obtain ⟨⟨th2, by2, ea2, p2⟩, -⟩ := id rx2
      refine tX12_single_16  (r := ?_)
      refine tX12_single_17 (hd := (by omega)) (ha := (by first | assumption | (repeat (first | assumption | exact At.set_eq2 (by first | omega | (simp only [hset, hnew]; omega) | rfl | decide) | exact At.new_eq2 _ _ (by first | omega | (simp only [hset, hnew]; omega) | rfl | decide) | refine At.set_ne ?_ (by first | omega | (simp only [hset, hnew]; omega) | rfl | decide) | refine At.new_ne ?_)))) (call := s_mnode (d := 2) rx2 (by omega) (so := 15) (lN := (siN K kp n (tkP K 15 s)).2) (rN := 0) (fun _ => rfl) hv2 (fun _ => rfl)) (k := ?_)
      rintro v3 h3 ⟨hv3, rx3⟩
      refine tX12_single_20  (hP := ?_)
      refine ⟨_, rfl, _, rx3, fun z => hv3 (noP_er0 z), ?_⟩
      show n2 + 1 + pPo s ≤ no + pPo (noP 15 (siN K kp n (tkP K 15 s)).2 0 (siN K kp n (tkP K 15 s)).1)
      rw [noP_po]
      omega
    · have en : ntP K (n + 1) s = (s, 0) := if_neg ek
      have es : siN K kp (n + 1) s = kp s := by
        unfold siN
        rw [en]
        rfl
      rw [es]
      exact hk d h s no (by omega) rx ek

theorem s_msingle {kp : PST → PST × Nat} (hm : ∀ s, pPo s ≤ pPo (kp s).1) {D : Nat} (hd4 : 408 ≤ D) (hk : ∀ d h s no, D ≤ d + pPo s → RxM h0 h m K T L s dp g no → ¬ kdP K s = 15 → RQ G mX12_single d 0 [some (.ref m), none, none] [] h (Ri fun v h1 => ∃ n1, RxM h0 h1 m K T L (kp s).1 dp g n1 ∧ (pEr (kp s).1 = 0 → v = nI (kp s).2) ∧ n1 + pPo s ≤ no + pPo (kp s).1)) (hdd : D ≤ d + pPo s) (rx : RxM h0 h m K T L s dp g no) : RQ G mX12_single d 0 [some (.ref m), none, none] [] h (Ri fun v h1 => ∃ n1, RxM h0 h1 m K T L (siP K kp s).1 dp g n1 ∧ (pEr (siP K kp s).1 = 0 → v = nI (siP K kp s).2) ∧ n1 + pPo s ≤ no + pPo (siP K kp s).1) := by
  refine (s_msi_l hm hd4 hk 400 d h s no (by omega) hdd rx).imp (fun o9 h9 q9 => ?_)
  obtain ⟨v9, e9, n9, r9, i9, b9⟩ := q9
  obtain ⟨E1, E2⟩ := siN_si (K := K) (kp := kp) (s := s)
  refine ⟨v9, e9, n9, r9.eqv E1, fun z => ?_, by rw [← E1.1]; exact b9⟩
  have z2 := E1.2.1.trans z
  rw [i9 z2, E2 z2]
theorem s_mteF {b D2 : Nat} {sub : Option (PST → PST × Nat)} (hsm : ∀ d, 10 + 3 * b ≤ d → ExM G mX12_value d [some (.ref m), none, none] h0 m K T L dp g (smP K b)) (hs1 : ∀ f, sub = some f → ∀ s, pPo s ≤ pPo (f s).1) (hs2 : ∀ f, sub = some f → ∀ s, pEr (f s).1 = 0 → pEr s = 0) (hsub : ∀ f, sub = some f → dp < 6 ∧ ∀ d h s9 no, D2 ≤ d + pPo s9 → RxM h0 h m K T L s9 (dp + 1) g no → RQ G mX12_test d 0 [some (.ref m), none] [] h (Ri fun v h1 => ∃ n1, RxM h0 h1 m K T L (f s9).1 (dp + 1) g n1 ∧ (pEr (f s9).1 = 0 → v = nI (f s9).2) ∧ n1 + pPo s9 ≤ no + pPo (f s9).1)) (hno : sub = none → dp = 6) (hD : 417 + 3 * b ≤ D2) (hdd : D2 + 6 ≤ d + pPo s) (rx : RxM h0 h m K T L s dp g no) : RQ G mX12_test d 0 [some (.ref m), none] [] h (Ri fun v h1 => ∃ n1, RxM h0 h1 m K T L (teF K sub (smP K b) s).1 dp g n1 ∧ (pEr (teF K sub (smP K b) s).1 = 0 → v = nI (teF K sub (smP K b) s).2) ∧ n1 + pPo s ≤ no + pPo (teF K sub (smP K b) s).1) := by
  have k401 := rx.2.2.2.2.2.2.2.2.2.2.2.2.1.2.2.2.2.2.2.1
  have b3_ := rx.2.2.2.2.2.2.2.1
  have po1 : ∀ s, pPo s ≤ pPo (siP K (kpP K sub (smP K b)) s).1 := siP_po (kpP_po hs1 (smP_po b))
  have er1 : ∀ s, pEr (siP K (kpP K sub (smP K b)) s).1 = 0 → pEr s = 0 := siP_er0 (kpP_er0 hs2 (smP_er0 b))
  have hk : ∀ d h s no, D2 ≤ d + pPo s → RxM h0 h m K T L s dp g no → ¬ kdP K s = 15 → RQ G mX12_single d 0 [some (.ref m), none, none] [] h (Ri fun v h1 => ∃ n1, RxM h0 h1 m K T L (kpP K sub (smP K b) s).1 dp g n1 ∧ (pEr (kpP K sub (smP K b) s).1 = 0 → v = nI (kpP K sub (smP K b) s).2) ∧ n1 + pPo s ≤ no + pPo (kpP K sub (smP K b) s).1) := fun d h s no h1 rx ek => by
    have b4_ := rx.2.2.2.2.2.2.2.1
    exact s_mkept (d2 := d - 1) (P0 := pPo s) (hsm (d - 1) (by omega)) (by omega) (fun f e => ⟨(hsub f e).1, fun h s9 no r9 p9 => (hsub f e).2 (d - 1) h s9 no (by omega) r9⟩) hno (by omega) rx (Nat.le_refl _) ek
  have h2 : ∀ h s9 no, RxM h0 h m K T L s9 dp g no → pPo s ≤ pPo s9 → RQ G mX12_both (d - 1) 0 [some (.ref m), none] [] h (Ri fun v h1 => ∃ n1, RxM h0 h1 m K T L (boP K sub (smP K b) s9).1 dp g n1 ∧ (pEr (boP K sub (smP K b) s9).1 = 0 → v = nI (boP K sub (smP K b) s9).2) ∧ n1 + pPo s9 ≤ no + pPo (boP K sub (smP K b) s9).1) := fun h s9 no r9 p9 =>
    s_mboth (d2 := d - 2) (P0 := pPo s) (x := siP K (kpP K sub (smP K b))) po1 (by omega) (fun h s8 no r8 p8 => s_msingle (kpP_po hs1 (smP_po b)) (D := D2) (by omega) hk (by omega) r8) (by omega) er1 r9 p9
  exact s_mtest (d2 := d - 1) (P0 := pPo s) (x := boP K sub (smP K b)) (opP_po po1) (by omega) h2 (by omega) (opP_er0 er1) rx (Nat.le_refl _)
theorem s_mte : ∀ (b dp d : Nat) (h : AH) (s : PST) (no : Nat), dp + b = 6 → 440 + 6 * b ≤ d + pPo s → RxM h0 h m K T L s dp g no → RQ G mX12_test d 0 [some (.ref m), none] [] h (Ri fun v h1 => ∃ n1, RxM h0 h1 m K T L (teP K b s).1 dp g n1 ∧ (pEr (teP K b s).1 = 0 → v = nI (teP K b s).2) ∧ n1 + pPo s ≤ no + pPo (teP K b s).1)
  | 0, dp, d, h, s, no, hb, hdd, rx => s_mteF (D2 := 434) (sub := none) (fun d hd => s_mvalue 0 dp d (by omega) (by omega)) (fun _ e => nomatch e) (fun _ e => nomatch e) (fun _ e => nomatch e) (fun _ => by omega) (by omega) (by omega) rx
  | b + 1, dp, d, h, s, no, hb, hdd, rx => s_mteF (b := b + 1) (D2 := 440 + 6 * b) (sub := some (teP K b)) (fun d hd => s_mvalue (b + 1) dp d (by omega) (by omega)) (fun f e => by
      cases e
      exact teP_po b) (fun f e => by
      cases e
      exact teP_er0 b) (fun f e => by
      cases e
      exact ⟨by omega, fun d h s9 no h1 r9 => s_mte b (dp + 1) d h s9 no (by omega) h1 r9⟩) (fun e => nomatch e) (by omega) (by omega) rx

end RMF
