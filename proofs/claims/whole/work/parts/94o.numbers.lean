/-! the reference reads numbers -/
section RMO
variable {G : GT} {d : Nat} {h0 h : AH} {m : Nat} {K : TKS} {T : List Nat} {L : Nat → Nat} {s : PST} {dp : Nat} {g : GCT} {no : Nat} {P : OC → AH → Prop}
theorem nu_wr {p : Prop} {dq : Decidable p} (ek : kdP K s ≠ 40) : Eqv (tkP K 40 s) (tkP K 40 (if p then rpP 5 s else s)) := by
  by_cases z : p
  · rw [if_pos z, tkP_wr ek, tkP_wr (by rw [rp_kd (by decide)]; exact ek)]
    by_cases y : pEr s = 0
    · unfold wrP rpP
      rw [if_pos y, if_neg (by omega), if_neg (show ¬ (5 : Nat) = 1 by decide)]
      exact Eqv.mk2 (fun q => absurd q (by decide))
    · rw [show rpP 5 s = s from if_neg y]
      exact Eqv.rf _
  · rw [if_neg z]
    exact Eqv.rf _
theorem rp_no {n : Nat} (h : pEr s ≠ 0) : rpP n s = s := if_neg h
theorem RxM.va (rx : RxM h0 h m K T L s dp g no) (ek : kdP K s = 40) : K.2.1 (pPo s) = 40 ∧ vaP K s = K.2.2.2 (pPo s) ∧ vaP K s ≤ 9999 := by
  have e2 : kdP K s = kdT K (pPo s) := if_neg (rx.nx (by omega)).2
  rw [e2, rx.ne42.1] at ek
  have b3 := rx.2.2.2.2.2.2.2.1
  have tw := rx.2.2.2.2.2.2.2.2.2.2.2.2.1.2.2.2.2.2
  have e3 : vaP K s = K.2.2.2 (pPo s) := if_pos b3
  exact ⟨ek, e3, by rw [e3]; exact tw.2.2.2.1 _ b3 ek⟩

set_option maxHeartbeats 4000000 in
set_option maxRecDepth 100000 in
theorem s_mnum (hd : 5 ≤ d) (rx : RxM h0 h m K T L s dp g no) {lo hi : Int32} {bad : Prop} {db : Decidable bad} (hb : pEr s = 0 → kdP K s = 40 → (bad ↔ ¬ (lo ≤ nI (vaP K s) ∧ nI (vaP K s) ≤ hi))) : RQ G mX12_numberIn d 0 [some (.ref m), some (.int lo), some (.int hi), none] [] h (Ri fun v h1 => (pEr (tkP K 40 (if bad then rpP 5 s else s)) = 0 → v = nI (vaP K s)) ∧ RxM h0 h1 m K T L (tkP K 40 (if bad then rpP 5 s else s)) dp g no) := by
  obtain ⟨⟨th, by_, ea, a0⟩, a1, ⟨q2, a2, c2⟩, ⟨q3, a3, c3⟩, ⟨q4, a4, c4⟩, b1, b2, b3, b4, b5, b6, u, tk, nm⟩ := id rx
  obtain ⟨⟨v1, y1, x1⟩, ⟨v2, y2, x2⟩, ⟨v3, y3, x3⟩, ⟨v4, y4, x4⟩, ⟨v5, y5, x5⟩, tw⟩ := id tk
  have k401 := tw.2.1
  have w1 := u.at y1 (by omega) (by omega) (by omega)
  have w2 := u.at y2 (by omega) (by omega) (by omega)
  have w3 := u.at y3 (by omega) (by omega) (by omega)
  have w4 := u.at y4 (by omega) (by omega) (by omega)
  have w5 := u.at y5 (by omega) (by omega) (by omega)
  have z0 := a0.1
  have z1 := a1.1
  have l2_ := a2.1
  have l3_ := a3.1
  have l4_ := a4.1
  refine tX12_numberIn_0  (r := ?_)
  refine tX12_numberIn_1  (r := ?_)
  refine tX12_numberIn_3 (hd := (by omega)) (ha := (by first | assumption | (repeat (first | assumption | exact At.set_eq2 (by first | omega | (simp only [hset, hnew]; omega) | rfl | decide) | exact At.new_eq2 _ _ (by first | omega | (simp only [hset, hnew]; omega) | rfl | decide) | refine At.set_ne ?_ (by first | omega | (simp only [hset, hnew]; omega) | rfl | decide) | refine At.new_ne ?_)))) (call := s_mis (d := 2) rx (k := 40) (by decide)) (k := ?_)
  rintro x_ h_ ⟨hx_, e_⟩
  rw [e_, hx_]
  refine tX12_numberIn_6  (kt := fun c_6 => ?_) (kf := fun c_6 => ?_)
  · have ek : ¬ kdP K s = 40 := fun z => by rw [if_pos z] at c_6; exact absurd c_6 (by decide)
    refine tX12_numberIn_31  (r := ?_)
    refine tX12_numberIn_32 (ha := (by first | assumption | (repeat (first | assumption | exact At.set_eq2 (by first | omega | (simp only [hset, hnew]; omega) | rfl | decide) | exact At.new_eq2 _ _ (by first | omega | (simp only [hset, hnew]; omega) | rfl | decide) | refine At.set_ne ?_ (by first | omega | (simp only [hset, hnew]; omega) | rfl | decide) | refine At.new_ne ?_)))) (hv := rfl) (r := ?_)
    refine tX12_numberIn_35  (r := ?_)
    refine tX12_numberIn_36 (ha := (by first | assumption | (repeat (first | assumption | exact At.set_eq2 (by first | omega | (simp only [hset, hnew]; omega) | rfl | decide) | exact At.new_eq2 _ _ (by first | omega | (simp only [hset, hnew]; omega) | rfl | decide) | refine At.set_ne ?_ (by first | omega | (simp only [hset, hnew]; omega) | rfl | decide) | refine At.new_ne ?_)))) (hv := rfl) (r := ?_)
    refine tX12_numberIn_39 (ha := (by first | assumption | (repeat (first | assumption | exact At.set_eq2 (by first | omega | (simp only [hset, hnew]; omega) | rfl | decide) | exact At.new_eq2 _ _ (by first | omega | (simp only [hset, hnew]; omega) | rfl | decide) | refine At.set_ne ?_ (by first | omega | (simp only [hset, hnew]; omega) | rfl | decide) | refine At.new_ne ?_)))) (hx := rfl) (hj := (by omega)) (hn := (by decide)) (r := ?_)
    refine tX12_numberIn_40  (r := ?_)
    refine tX12_numberIn_41  (r := ?_)
    refine tX12_numberIn_42  (r := ?_)
    refine tX12_numberIn_44 (hd := (by omega)) (ha := (by first | assumption | (repeat (first | assumption | exact At.set_eq2 (by first | omega | (simp only [hset, hnew]; omega) | rfl | decide) | exact At.new_eq2 _ _ (by first | omega | (simp only [hset, hnew]; omega) | rfl | decide) | refine At.set_ne ?_ (by first | omega | (simp only [hset, hnew]; omega) | rfl | decide) | refine At.new_ne ?_)))) (call := s_mtake (d := 4) (by omega) rx (k := 40) (by decide)) (k := ?_)
    intro h1 rx1
    refine tX12_numberIn_47  (r := ?_)
    refine tX12_numberIn_48  (hP := ?_)
    refine ⟨_, rfl, fun z => ?_, rx1.eqv (nu_wr ek)⟩
    rw [← (nu_wr ek).2.1, tkP_wr ek, wrP_er] at z
    exact absurd z (by decide)
  · have ek : kdP K s = 40 := Classical.byContradiction (fun z => by rw [if_neg z] at c_6; exact c_6 rfl)
    obtain ⟨k40, v40, v99⟩ := rx.va ek
    have e1 := (rx.nx (by omega)).2
    have hx3 := x3 _ b3 k40
    rw [← v40] at hx3
    refine tX12_numberIn_9  (r := ?_)
    refine tX12_numberIn_10 (ha := (by first | assumption | (repeat (first | assumption | exact At.set_eq2 (by first | omega | (simp only [hset, hnew]; omega) | rfl | decide) | exact At.new_eq2 _ _ (by first | omega | (simp only [hset, hnew]; omega) | rfl | decide) | refine At.set_ne ?_ (by first | omega | (simp only [hset, hnew]; omega) | rfl | decide) | refine At.new_ne ?_)))) (hv := rfl) (r := ?_)
    refine tX12_numberIn_13  (r := ?_)
    refine tX12_numberIn_14 (ha := (by first | assumption | (repeat (first | assumption | exact At.set_eq2 (by first | omega | (simp only [hset, hnew]; omega) | rfl | decide) | exact At.new_eq2 _ _ (by first | omega | (simp only [hset, hnew]; omega) | rfl | decide) | refine At.set_ne ?_ (by first | omega | (simp only [hset, hnew]; omega) | rfl | decide) | refine At.new_ne ?_)))) (hv := rfl) (r := ?_)
    refine tX12_numberIn_17 (ha := (by first | assumption | (repeat (first | assumption | exact At.set_eq2 (by first | omega | (simp only [hset, hnew]; omega) | rfl | decide) | exact At.new_eq2 _ _ (by first | omega | (simp only [hset, hnew]; omega) | rfl | decide) | refine At.set_ne ?_ (by first | omega | (simp only [hset, hnew]; omega) | rfl | decide) | refine At.new_ne ?_)))) (hx := rfl) (hj := (by omega)) (hn := (by decide)) (r := ?_)
    rw [hx3]
    refine tX12_numberIn_18  (r := ?_)
    refine tX12_numberIn_19  (r := ?_)
    refine tX12_numberIn_20 (hd := (by omega)) (call := s_misIn (d := 3)) (k := ?_)
    rintro x_ h_ ⟨hx_, e_⟩
    rw [e_, hx_]
    refine tX12_numberIn_23  (kt := fun c_23 => ?_) (kf := fun c_23 => ?_)
    · have hin : (lo ≤ nI (vaP K s) ∧ nI (vaP K s) ≤ hi) := Classical.byContradiction (fun z => by rw [if_neg z] at c_23; exact c_23 rfl)
      have es : (if bad then rpP 5 s else s) = s := by
        by_cases z : pEr s = 0
        · exact if_neg (fun q => ((hb z ek).mp q) hin)
        · rw [rp_no z, if_same]
      rw [es]
      refine tX12_numberIn_31  (r := ?_)
      refine tX12_numberIn_32 (ha := (by first | assumption | (repeat (first | assumption | exact At.set_eq2 (by first | omega | (simp only [hset, hnew]; omega) | rfl | decide) | exact At.new_eq2 _ _ (by first | omega | (simp only [hset, hnew]; omega) | rfl | decide) | refine At.set_ne ?_ (by first | omega | (simp only [hset, hnew]; omega) | rfl | decide) | refine At.new_ne ?_)))) (hv := rfl) (r := ?_)
      refine tX12_numberIn_35  (r := ?_)
      refine tX12_numberIn_36 (ha := (by first | assumption | (repeat (first | assumption | exact At.set_eq2 (by first | omega | (simp only [hset, hnew]; omega) | rfl | decide) | exact At.new_eq2 _ _ (by first | omega | (simp only [hset, hnew]; omega) | rfl | decide) | refine At.set_ne ?_ (by first | omega | (simp only [hset, hnew]; omega) | rfl | decide) | refine At.new_ne ?_)))) (hv := rfl) (r := ?_)
      refine tX12_numberIn_39 (ha := (by first | assumption | (repeat (first | assumption | exact At.set_eq2 (by first | omega | (simp only [hset, hnew]; omega) | rfl | decide) | exact At.new_eq2 _ _ (by first | omega | (simp only [hset, hnew]; omega) | rfl | decide) | refine At.set_ne ?_ (by first | omega | (simp only [hset, hnew]; omega) | rfl | decide) | refine At.new_ne ?_)))) (hx := rfl) (hj := (by omega)) (hn := (by decide)) (r := ?_)
      rw [hx3]
      refine tX12_numberIn_40  (r := ?_)
      refine tX12_numberIn_41  (r := ?_)
      refine tX12_numberIn_42  (r := ?_)
      refine tX12_numberIn_44 (hd := (by omega)) (ha := (by first | assumption | (repeat (first | assumption | exact At.set_eq2 (by first | omega | (simp only [hset, hnew]; omega) | rfl | decide) | exact At.new_eq2 _ _ (by first | omega | (simp only [hset, hnew]; omega) | rfl | decide) | refine At.set_ne ?_ (by first | omega | (simp only [hset, hnew]; omega) | rfl | decide) | refine At.new_ne ?_)))) (call := s_mtake (d := 4) (by omega) rx (k := 40) (by decide)) (k := ?_)
      intro h1 rx1
      refine tX12_numberIn_47  (r := ?_)
      refine tX12_numberIn_48  (hP := ?_)
      exact ⟨_, rfl, fun _ => rfl, rx1⟩
    · have hin : ¬ (lo ≤ nI (vaP K s) ∧ nI (vaP K s) ≤ hi) := fun z => by rw [if_pos z] at c_23; exact absurd c_23 (by decide)
      have es : (if bad then rpP 5 s else s) = rpP 5 s := by
        by_cases z : pEr s = 0
        · exact if_pos ((hb z ek).mpr hin)
        · rw [rp_no z, if_same]
      rw [es]
      refine tX12_numberIn_26  (r := ?_)
      refine tX12_numberIn_27  (r := ?_)
      refine tX12_numberIn_28 (hd := (by omega)) (ha := (by first | assumption | (repeat (first | assumption | exact At.set_eq2 (by first | omega | (simp only [hset, hnew]; omega) | rfl | decide) | exact At.new_eq2 _ _ (by first | omega | (simp only [hset, hnew]; omega) | rfl | decide) | refine At.set_ne ?_ (by first | omega | (simp only [hset, hnew]; omega) | rfl | decide) | refine At.new_ne ?_)))) (call := s_mmark (d := 4) rx (n := 5) (by decide)) (k := ?_)
      intro h1 rx1
      obtain ⟨⟨th1, by1, ea1, p1⟩, -, -, -, -, -, -, -, -, -, -, u1, -⟩ := id rx1
      have w3b := u1.at y3 (by omega) (by omega) (by omega)
      refine tX12_numberIn_31  (r := ?_)
      refine tX12_numberIn_32 (ha := (by first | assumption | (repeat (first | assumption | exact At.set_eq2 (by first | omega | (simp only [hset, hnew]; omega) | rfl | decide) | exact At.new_eq2 _ _ (by first | omega | (simp only [hset, hnew]; omega) | rfl | decide) | refine At.set_ne ?_ (by first | omega | (simp only [hset, hnew]; omega) | rfl | decide) | refine At.new_ne ?_)))) (hv := rfl) (r := ?_)
      refine tX12_numberIn_35  (r := ?_)
      refine tX12_numberIn_36 (ha := (by first | assumption | (repeat (first | assumption | exact At.set_eq2 (by first | omega | (simp only [hset, hnew]; omega) | rfl | decide) | exact At.new_eq2 _ _ (by first | omega | (simp only [hset, hnew]; omega) | rfl | decide) | refine At.set_ne ?_ (by first | omega | (simp only [hset, hnew]; omega) | rfl | decide) | refine At.new_ne ?_)))) (hv := rfl) (r := ?_)
      refine tX12_numberIn_39 (ha := w3b) (hx := (by rw [rpP_po])) (hj := (by omega)) (hn := (by decide)) (r := ?_)
      rw [hx3]
      refine tX12_numberIn_40  (r := ?_)
      refine tX12_numberIn_41  (r := ?_)
      refine tX12_numberIn_42  (r := ?_)
      refine tX12_numberIn_44 (hd := (by omega)) (ha := (by first | assumption | (repeat (first | assumption | exact At.set_eq2 (by first | omega | (simp only [hset, hnew]; omega) | rfl | decide) | exact At.new_eq2 _ _ (by first | omega | (simp only [hset, hnew]; omega) | rfl | decide) | refine At.set_ne ?_ (by first | omega | (simp only [hset, hnew]; omega) | rfl | decide) | refine At.new_ne ?_)))) (call := s_mtake (d := 4) (by omega) rx1 (k := 40) (by decide)) (k := ?_)
      intro h2 rx2
      refine tX12_numberIn_47  (r := ?_)
      refine tX12_numberIn_48  (hP := ?_)
      exact ⟨_, rfl, fun _ => rfl, rx2⟩

theorem nI_rng {v hi : Nat} (hv : v ≤ 9999) (hh : hi ≤ 9999) : (nI 0 ≤ nI v ∧ nI v ≤ nI hi) ↔ v ≤ hi := ⟨fun z => (nI_leI (by omega) (by omega)).mp z.2, fun z => ⟨(nI_leI (by decide) (by omega)).mpr (Nat.zero_le _), (nI_leI (by omega) (by omega)).mpr z⟩⟩
theorem nI_m1 {v : Nat} (hv : v ≤ 9999) : ¬ (nI 0 ≤ nI v ∧ nI v ≤ (-1 : Int32)) := fun z => by
  have := z.2
  rw [ci_le_m1 (by omega)] at this
  exact this

set_option maxHeartbeats 4000000 in
set_option maxRecDepth 100000 in
theorem s_mhold (hd : 8 ≤ d) (rx : RxM h h m K T L s 0 g no) {k l : Nat} (hk : k ≤ 8) (hl : l < 500) (g6 : g.1 ≤ 6) (hla : pEr s = 0 → g.1 = bLa (pBk s)) {f : Nat → Int32} (ab : At h (m + 28 + 3) (.inl (0, 54, .inl f))) : RQ G mX12_hold d 0 [some (.ref m), some (.int (nI k)), some (.int (nI l)), none] [] h (Rv fun h1 => ∃ v, RxM h1 h1 m K T L (tkP K 40 (if (nI 200 < nI (vaP K s) ∨ bLa (pBk s) ≤ l) then rpP 5 s else s)) 0 g no ∧ (pEr (tkP K 40 (if (nI 200 < nI (vaP K s) ∨ bLa (pBk s) ≤ l) then rpP 5 s else s)) = 0 → v = nI (vaP K s)) ∧ At h1 (m + 28 + 3) (.inl (0, 54, .inl (if l < 6 then upd f (6 * k + l) v else f))) ∧ h1.1 = h.1 ∧ h1.2.1 = h.2.1 ∧ ∀ i c, At h i c → i ≠ m → i ≠ m + 28 → i ≠ m + 28 + 3 → (i < m + 28 + 16 ∨ m + 28 + 19 ≤ i) → At h1 i c) := by
  obtain ⟨⟨th, by_, ea, a0⟩, a1, -, -, -, -, -, -, -, -, -, u, -⟩ := id rx
  refine tX12_hold_0  (r := ?_)
  refine tX12_hold_1  (r := ?_)
  refine tX12_hold_2  (r := ?_)
  refine tX12_hold_3  (r := ?_)
  refine tX12_hold_4 (ha := (by first | assumption | (repeat (first | assumption | exact At.set_eq2 (by first | omega | (simp only [hset, hnew]; omega) | rfl | decide) | exact At.new_eq2 _ _ (by first | omega | (simp only [hset, hnew]; omega) | rfl | decide) | refine At.set_ne ?_ (by first | omega | (simp only [hset, hnew]; omega) | rfl | decide) | refine At.new_ne ?_)))) (hv := rfl) (r := ?_)
  refine tX12_hold_7 (ha := (by first | assumption | (repeat (first | assumption | exact At.set_eq2 (by first | omega | (simp only [hset, hnew]; omega) | rfl | decide) | exact At.new_eq2 _ _ (by first | omega | (simp only [hset, hnew]; omega) | rfl | decide) | refine At.set_ne ?_ (by first | omega | (simp only [hset, hnew]; omega) | rfl | decide) | refine At.new_ne ?_)))) (hv := rfl) (r := ?_)
  refine tX12_hold_10  (kt := fun c_10 => ?_) (kf := fun c_10 => ?_)
  · have ge : ¬ l < g.1 := fun z => by have := (nI_leI (by omega) (by omega)).mp c_10; omega
    refine tX12_hold_19  (r := ?_)
    refine tX12_hold_20 (hd := (by omega)) (ha := (by first | assumption | (repeat (first | assumption | exact At.set_eq2 (by first | omega | (simp only [hset, hnew]; omega) | rfl | decide) | exact At.new_eq2 _ _ (by first | omega | (simp only [hset, hnew]; omega) | rfl | decide) | refine At.set_ne ?_ (by first | omega | (simp only [hset, hnew]; omega) | rfl | decide) | refine At.new_ne ?_)))) (call := s_mnum (d := 6) (by decide) rx (bad := (nI 200 < nI (vaP K s) ∨ bLa (pBk s) ≤ l)) (db := inferInstance) (fun z ek => by
  obtain ⟨-, -, v99⟩ := rx.va ek
  have gl : bLa (pBk s) ≤ l := by rw [← hla z]; omega
  exact ⟨fun _ => nI_m1 v99, fun _ => Or.inr gl⟩)) (k := ?_)
    rintro v h1 ⟨hv, rx1⟩
    obtain ⟨⟨th1, by1, ea1, p1⟩, pp1, -, -, -, -, -, -, -, -, -, u1, -⟩ := id rx1
    have wb := u1.at ab (by omega) (by omega) (by omega)
    have lb := wb.1
    refine tX12_hold_23  (r := ?_)
    refine tX12_hold_24  (r := ?_)
    refine tX12_hold_25  (r := ?_)
    refine tX12_hold_27  (kt := fun c_27 => ?_) (kf := fun c_27 => ?_)
    · have l6 : ¬ l < 6 := fun z => by have := (nI_leI (by decide) (by omega)).mp c_27; omega
      refine tX12_hold_45  (hP := ?_)
      exact ⟨rfl, v, rx1.self, hv, by rw [if_neg l6]; exact wb, u1.1, u1.2.1, fun i c a e1 e2 e3 e4 => u1.at a e1 e2 e4⟩
    · have l6 : l < 6 := Nat.lt_of_not_le (fun z => c_27 ((nI_leI (by decide) (by omega)).mpr z))
      refine tX12_hold_30  (r := ?_)
      refine tX12_hold_31 (ha := (by first | assumption | (repeat (first | assumption | exact At.set_eq2 (by first | omega | (simp only [hset, hnew]; omega) | rfl | decide) | exact At.new_eq2 _ _ (by first | omega | (simp only [hset, hnew]; omega) | rfl | decide) | refine At.set_ne ?_ (by first | omega | (simp only [hset, hnew]; omega) | rfl | decide) | refine At.new_ne ?_)))) (hv := rfl) (r := ?_)
      refine tX12_hold_34 (ha := (by first | assumption | (repeat (first | assumption | exact At.set_eq2 (by first | omega | (simp only [hset, hnew]; omega) | rfl | decide) | exact At.new_eq2 _ _ (by first | omega | (simp only [hset, hnew]; omega) | rfl | decide) | refine At.set_ne ?_ (by first | omega | (simp only [hset, hnew]; omega) | rfl | decide) | refine At.new_ne ?_)))) (hv := rfl) (r := ?_)
      refine tX12_hold_37  (r := ?_)
      refine tX12_hold_39  (r := ?_)
      refine tX12_hold_40  (r := ?_)
      rw [nI_mulN]
      refine tX12_hold_41  (r := ?_)
      refine tX12_hold_42  (r := ?_)
      rw [nI_add]
      refine tX12_hold_43  (r := ?_)
      refine tX12_hold_44 (ha := wb) (hx := rfl) (hj := (by omega)) (hn := (by decide)) (r := ?_)
      refine tX12_hold_45  (hP := ?_)
      refine ⟨rfl, v, rx1.self.out (by omega), hv, ?_, u1.1, u1.2.1, fun i c a e1 e2 e3 e4 => At.set_ne (u1.at a e1 e2 e4) e3⟩
      rw [if_pos l6]
      exact At.set_eq2 lb
  · have lt : l < g.1 := Nat.lt_of_not_le (fun z => c_10 ((nI_leI (by omega) (by omega)).mpr z))
    refine tX12_hold_13  (r := ?_)
    refine tX12_hold_16 (r := ?_)
    refine tX12_hold_20 (hd := (by omega)) (ha := (by first | assumption | (repeat (first | assumption | exact At.set_eq2 (by first | omega | (simp only [hset, hnew]; omega) | rfl | decide) | exact At.new_eq2 _ _ (by first | omega | (simp only [hset, hnew]; omega) | rfl | decide) | refine At.set_ne ?_ (by first | omega | (simp only [hset, hnew]; omega) | rfl | decide) | refine At.new_ne ?_)))) (call := s_mnum (d := 6) (by decide) rx (bad := (nI 200 < nI (vaP K s) ∨ bLa (pBk s) ≤ l)) (db := inferInstance) (fun z ek => by
  obtain ⟨-, -, v99⟩ := rx.va ek
  rw [nI_rng v99 (by decide), nI_ltI (by decide) (by omega), ← hla z]
  omega)) (k := ?_)
    rintro v h1 ⟨hv, rx1⟩
    obtain ⟨⟨th1, by1, ea1, p1⟩, pp1, -, -, -, -, -, -, -, -, -, u1, -⟩ := id rx1
    have wb := u1.at ab (by omega) (by omega) (by omega)
    have lb := wb.1
    refine tX12_hold_23  (r := ?_)
    refine tX12_hold_24  (r := ?_)
    refine tX12_hold_25  (r := ?_)
    refine tX12_hold_27  (kt := fun c_27 => ?_) (kf := fun c_27 => ?_)
    · have l6 : ¬ l < 6 := fun z => by have := (nI_leI (by decide) (by omega)).mp c_27; omega
      refine tX12_hold_45  (hP := ?_)
      exact ⟨rfl, v, rx1.self, hv, by rw [if_neg l6]; exact wb, u1.1, u1.2.1, fun i c a e1 e2 e3 e4 => u1.at a e1 e2 e4⟩
    · have l6 : l < 6 := Nat.lt_of_not_le (fun z => c_27 ((nI_leI (by decide) (by omega)).mpr z))
      refine tX12_hold_30  (r := ?_)
      refine tX12_hold_31 (ha := (by first | assumption | (repeat (first | assumption | exact At.set_eq2 (by first | omega | (simp only [hset, hnew]; omega) | rfl | decide) | exact At.new_eq2 _ _ (by first | omega | (simp only [hset, hnew]; omega) | rfl | decide) | refine At.set_ne ?_ (by first | omega | (simp only [hset, hnew]; omega) | rfl | decide) | refine At.new_ne ?_)))) (hv := rfl) (r := ?_)
      refine tX12_hold_34 (ha := (by first | assumption | (repeat (first | assumption | exact At.set_eq2 (by first | omega | (simp only [hset, hnew]; omega) | rfl | decide) | exact At.new_eq2 _ _ (by first | omega | (simp only [hset, hnew]; omega) | rfl | decide) | refine At.set_ne ?_ (by first | omega | (simp only [hset, hnew]; omega) | rfl | decide) | refine At.new_ne ?_)))) (hv := rfl) (r := ?_)
      refine tX12_hold_37  (r := ?_)
      refine tX12_hold_39  (r := ?_)
      refine tX12_hold_40  (r := ?_)
      rw [nI_mulN]
      refine tX12_hold_41  (r := ?_)
      refine tX12_hold_42  (r := ?_)
      rw [nI_add]
      refine tX12_hold_43  (r := ?_)
      refine tX12_hold_44 (ha := wb) (hx := rfl) (hj := (by omega)) (hn := (by decide)) (r := ?_)
      refine tX12_hold_45  (hP := ?_)
      refine ⟨rfl, v, rx1.self.out (by omega), hv, ?_, u1.1, u1.2.1, fun i c a e1 e2 e3 e4 => At.set_ne (u1.at a e1 e2 e4) e3⟩
      rw [if_pos l6]
      exact At.set_eq2 lb

end RMO
