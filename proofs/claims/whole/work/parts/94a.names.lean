/-! the reference looks names up -/
section RMB
variable {G : GT} {d : Nat} {h0 h : AH} {m : Nat} {K : TKS} {T : List Nat} {L : Nat → Nat} {s : PST} {dp : Nat} {g : GCT} {no : Nat}

theorem RxM.k39 (rx : RxM h0 h m K T L s dp g no) (e : kdP K s = 39) : K.2.1 (pPo s) = 39 := by
  have e2 : kdP K s = kdT K (pPo s) := if_neg (rx.nx (by omega)).2
  rw [e2, rx.ne42.1] at e
  exact e

set_option maxHeartbeats 4000000 in
set_option maxRecDepth 100000 in
theorem s_msame_l (rx : RxM h0 h m K T L s dp g no) {a b : Nat} (ha : a < K.1) (ha2 : K.2.1 a = 39) (hb : b < K.1) (hb2 : K.2.1 b = 39) (el : L a = L b) : ∀ (n i : Nat) , L a ≤ i + n → i ≤ L a → (∀ k, k < i → T.getD (K.2.2.1 a + k) 0 = T.getD (K.2.2.1 b + k) 0) → RQ G mX12_isSameName d 19 [some (.ref m), some (.int (nI a)), some (.int (nI b)), some (.int (nI i))] [] h (Ri fun v h1 => v = nI (if K.2.2.2 a = K.2.2.2 b then 1 else 0) ∧ h1 = h) := by
  have ex : ∀ (i : Nat) , i = L a → (∀ k, k < i → T.getD (K.2.2.1 a + k) 0 = T.getD (K.2.2.1 b + k) 0) → RQ G mX12_isSameName d 19 [some (.ref m), some (.int (nI a)), some (.int (nI b)), some (.int (nI i))] [] h (Ri fun v h1 => v = nI (if K.2.2.2 a = K.2.2.2 b then 1 else 0) ∧ h1 = h) := by
    intro i  hi hk
    subst hi
    obtain ⟨⟨th, by_, ea, a0⟩, a1, ⟨q2, a2, c2⟩, ⟨q3, a3, c3⟩, ⟨q4, a4, c4⟩, b1, b2, b3, b4, b5, b6, u, tk, nm⟩ := id rx
    obtain ⟨⟨v1, y1, x1⟩, ⟨v2, y2, x2⟩, ⟨v3, y3, x3⟩, ⟨v4, y4, x4⟩, ⟨v5, y5, x5⟩, tw⟩ := id tk
    have k401 := tw.2.1
    have w1 := u.at y1 (by omega) (by omega) (by omega)
    have w2 := u.at y2 (by omega) (by omega) (by omega)
    have w3 := u.at y3 (by omega) (by omega) (by omega)
    have w4 := u.at y4 (by omega) (by omega) (by omega)
    have w5 := u.at y5 (by omega) (by omega) (by omega)
    have z0 := a0.1
    have z1 := a1.1
    have l2_ := a2.1
    have l3_ := a3.1
    have l4_ := a4.1
    have tS := tw.2.2.2.2.2.1 a b ha hb ha2 hb2
    have tA := tw.2.2.2.2.1 a ha ha2
    have tB := tw.2.2.2.2.1 b hb hb2
    have t16 := tw.2.2.2.2.2.2.1
    have t256 := tw.2.2.2.2.2.2.2
    refine tX12_isSameName_19  (r := ?_)
    refine tX12_isSameName_20  (r := ?_)
    refine tX12_isSameName_21 (ha := (by first | assumption | (repeat (first | assumption | exact At.set_eq2 (by first | omega | (simp only [hset, hnew]; omega) | rfl | decide) | exact At.new_eq2 _ _ (by first | omega | (simp only [hset, hnew]; omega) | rfl | decide) | refine At.set_ne ?_ (by first | omega | (simp only [hset, hnew]; omega) | rfl | decide) | refine At.new_ne ?_)))) (hv := rfl) (r := ?_)
    refine tX12_isSameName_24  (r := ?_)
    refine tX12_isSameName_25 (ha := (by first | assumption | (repeat (first | assumption | exact At.set_eq2 (by first | omega | (simp only [hset, hnew]; omega) | rfl | decide) | exact At.new_eq2 _ _ (by first | omega | (simp only [hset, hnew]; omega) | rfl | decide) | refine At.set_ne ?_ (by first | omega | (simp only [hset, hnew]; omega) | rfl | decide) | refine At.new_ne ?_)))) (hx := rfl) (hj := (by omega)) (hn := (by decide)) (r := ?_)
    rw [x5 _ ha ha2]
    refine tX12_isSameName_26  (kf := fun c_ => by exfalso; exact c_ ((nI_leI (by omega) (by omega)).mpr (by omega))) (kt := fun _ => ?_)
    refine tX12_isSameName_66  (r := ?_)
    refine tX12_isSameName_67 (hb := (by first | exact Or.inl rfl | exact Or.inr rfl | assumption)) (hP := ?_)
    refine ⟨_, rfl, ?_, rfl⟩
    rw [if_pos (tS.mp ⟨el, hk⟩)]
  intro n
  induction n with
  | zero => exact fun i  h1_ h2_ => ex i  (by omega)
  | succ n ih =>
    intro i  h1_ h2_ hk
    by_cases hi : i = L a
    · exact ex i  hi hk
    have hi2 : i < L a := by omega
    obtain ⟨⟨th, by_, ea, a0⟩, a1, ⟨q2, a2, c2⟩, ⟨q3, a3, c3⟩, ⟨q4, a4, c4⟩, b1, b2, b3, b4, b5, b6, u, tk, nm⟩ := id rx
    obtain ⟨⟨v1, y1, x1⟩, ⟨v2, y2, x2⟩, ⟨v3, y3, x3⟩, ⟨v4, y4, x4⟩, ⟨v5, y5, x5⟩, tw⟩ := id tk
    have k401 := tw.2.1
    have w1 := u.at y1 (by omega) (by omega) (by omega)
    have w2 := u.at y2 (by omega) (by omega) (by omega)
    have w3 := u.at y3 (by omega) (by omega) (by omega)
    have w4 := u.at y4 (by omega) (by omega) (by omega)
    have w5 := u.at y5 (by omega) (by omega) (by omega)
    have z0 := a0.1
    have z1 := a1.1
    have l2_ := a2.1
    have l3_ := a3.1
    have l4_ := a4.1
    have tS := tw.2.2.2.2.2.1 a b ha hb ha2 hb2
    have tA := tw.2.2.2.2.1 a ha ha2
    have tB := tw.2.2.2.2.1 b hb hb2
    have t16 := tw.2.2.2.2.2.2.1
    have t256 := tw.2.2.2.2.2.2.2
    refine tX12_isSameName_19  (r := ?_)
    refine tX12_isSameName_20  (r := ?_)
    refine tX12_isSameName_21 (ha := (by first | assumption | (repeat (first | assumption | exact At.set_eq2 (by first | omega | (simp only [hset, hnew]; omega) | rfl | decide) | exact At.new_eq2 _ _ (by first | omega | (simp only [hset, hnew]; omega) | rfl | decide) | refine At.set_ne ?_ (by first | omega | (simp only [hset, hnew]; omega) | rfl | decide) | refine At.new_ne ?_)))) (hv := rfl) (r := ?_)
    refine tX12_isSameName_24  (r := ?_)
    refine tX12_isSameName_25 (ha := (by first | assumption | (repeat (first | assumption | exact At.set_eq2 (by first | omega | (simp only [hset, hnew]; omega) | rfl | decide) | exact At.new_eq2 _ _ (by first | omega | (simp only [hset, hnew]; omega) | rfl | decide) | refine At.set_ne ?_ (by first | omega | (simp only [hset, hnew]; omega) | rfl | decide) | refine At.new_ne ?_)))) (hx := rfl) (hj := (by omega)) (hn := (by decide)) (r := ?_)
    rw [x5 _ ha ha2]
    refine tX12_isSameName_26  (kt := fun c_ => by exfalso; exact absurd ((nI_leI (by omega) (by omega)).mp c_) (by omega)) (kf := fun _ => ?_)
    refine tX12_isSameName_29  (r := ?_)
    refine tX12_isSameName_30 (ha := (by first | assumption | (repeat (first | assumption | exact At.set_eq2 (by first | omega | (simp only [hset, hnew]; omega) | rfl | decide) | exact At.new_eq2 _ _ (by first | omega | (simp only [hset, hnew]; omega) | rfl | decide) | refine At.set_ne ?_ (by first | omega | (simp only [hset, hnew]; omega) | rfl | decide) | refine At.new_ne ?_)))) (hv := rfl) (r := ?_)
    refine tX12_isSameName_33  (r := ?_)
    refine tX12_isSameName_34 (ha := (by first | assumption | (repeat (first | assumption | exact At.set_eq2 (by first | omega | (simp only [hset, hnew]; omega) | rfl | decide) | exact At.new_eq2 _ _ (by first | omega | (simp only [hset, hnew]; omega) | rfl | decide) | refine At.set_ne ?_ (by first | omega | (simp only [hset, hnew]; omega) | rfl | decide) | refine At.new_ne ?_)))) (hv := rfl) (r := ?_)
    refine tX12_isSameName_37  (r := ?_)
    refine tX12_isSameName_38 (ha := (by first | assumption | (repeat (first | assumption | exact At.set_eq2 (by first | omega | (simp only [hset, hnew]; omega) | rfl | decide) | exact At.new_eq2 _ _ (by first | omega | (simp only [hset, hnew]; omega) | rfl | decide) | refine At.set_ne ?_ (by first | omega | (simp only [hset, hnew]; omega) | rfl | decide) | refine At.new_ne ?_)))) (hx := rfl) (hj := (by omega)) (hn := (by decide)) (r := ?_)
    rw [x4 _ ha]
    refine tX12_isSameName_39  (r := ?_)
    refine tX12_isSameName_40  (r := ?_)
    rw [nI_add]
    refine tX12_isSameName_41 (ha := (by first | assumption | (repeat (first | assumption | exact At.set_eq2 (by first | omega | (simp only [hset, hnew]; omega) | rfl | decide) | exact At.new_eq2 _ _ (by first | omega | (simp only [hset, hnew]; omega) | rfl | decide) | refine At.set_ne ?_ (by first | omega | (simp only [hset, hnew]; omega) | rfl | decide) | refine At.new_ne ?_)))) (hx := rfl) (hj := (by omega)) (hn := (by decide)) (r := ?_)
    rw [x1 _ (by omega)]
    refine tX12_isSameName_42  (r := ?_)
    refine tX12_isSameName_43 (ha := (by first | assumption | (repeat (first | assumption | exact At.set_eq2 (by first | omega | (simp only [hset, hnew]; omega) | rfl | decide) | exact At.new_eq2 _ _ (by first | omega | (simp only [hset, hnew]; omega) | rfl | decide) | refine At.set_ne ?_ (by first | omega | (simp only [hset, hnew]; omega) | rfl | decide) | refine At.new_ne ?_)))) (hv := rfl) (r := ?_)
    refine tX12_isSameName_46  (r := ?_)
    refine tX12_isSameName_47 (ha := (by first | assumption | (repeat (first | assumption | exact At.set_eq2 (by first | omega | (simp only [hset, hnew]; omega) | rfl | decide) | exact At.new_eq2 _ _ (by first | omega | (simp only [hset, hnew]; omega) | rfl | decide) | refine At.set_ne ?_ (by first | omega | (simp only [hset, hnew]; omega) | rfl | decide) | refine At.new_ne ?_)))) (hv := rfl) (r := ?_)
    refine tX12_isSameName_50  (r := ?_)
    refine tX12_isSameName_51 (ha := (by first | assumption | (repeat (first | assumption | exact At.set_eq2 (by first | omega | (simp only [hset, hnew]; omega) | rfl | decide) | exact At.new_eq2 _ _ (by first | omega | (simp only [hset, hnew]; omega) | rfl | decide) | refine At.set_ne ?_ (by first | omega | (simp only [hset, hnew]; omega) | rfl | decide) | refine At.new_ne ?_)))) (hx := rfl) (hj := (by omega)) (hn := (by decide)) (r := ?_)
    rw [x4 _ hb]
    refine tX12_isSameName_52  (r := ?_)
    refine tX12_isSameName_53  (r := ?_)
    rw [nI_add]
    refine tX12_isSameName_54 (ha := (by first | assumption | (repeat (first | assumption | exact At.set_eq2 (by first | omega | (simp only [hset, hnew]; omega) | rfl | decide) | exact At.new_eq2 _ _ (by first | omega | (simp only [hset, hnew]; omega) | rfl | decide) | refine At.set_ne ?_ (by first | omega | (simp only [hset, hnew]; omega) | rfl | decide) | refine At.new_ne ?_)))) (hx := rfl) (hj := (by omega)) (hn := (by decide)) (r := ?_)
    rw [x1 _ (by omega)]
    refine tX12_isSameName_55  (kt := fun c_55 => ?_) (kf := fun c_55 => ?_)
    · have eq : T.getD (K.2.2.1 a + i) 0 = T.getD (K.2.2.1 b + i) 0 := (nI_eq (Nat.lt_trans (t256 _ (by omega)) (by decide)) (Nat.lt_trans (t256 _ (by omega)) (by decide))).mp c_55
      refine tX12_isSameName_60  (r := ?_)
      rw [nI_add]
      refine tX12_isSameName_63 (r := ?_)
      refine ih (i + 1) (by omega) (by omega) (fun k hk2 => ?_)
      by_cases z : k = i
      · rw [z]
        exact eq
      · exact hk k (by omega)
    · have ne : ¬ T.getD (K.2.2.1 a + i) 0 = T.getD (K.2.2.1 b + i) 0 := fun z => c_55 (congrArg nI z)
      refine tX12_isSameName_58  (r := ?_)
      refine tX12_isSameName_59 (hb := (by first | exact Or.inl rfl | exact Or.inr rfl | assumption)) (hP := ?_)
      refine ⟨_, rfl, ?_, rfl⟩
      rw [if_neg (fun z => ne ((tS.mpr z).2 i hi2))]

set_option maxHeartbeats 4000000 in
set_option maxRecDepth 100000 in
theorem s_msame (rx : RxM h0 h m K T L s dp g no) {a b : Nat} (ha : a < K.1) (ha2 : K.2.1 a = 39) (hb : b < K.1) (hb2 : K.2.1 b = 39) : RQ G mX12_isSameName d 0 [some (.ref m), some (.int (nI a)), some (.int (nI b)), none] [] h (Ri fun v h1 => v = nI (if K.2.2.2 a = K.2.2.2 b then 1 else 0) ∧ h1 = h) := by
  obtain ⟨⟨th, by_, ea, a0⟩, a1, ⟨q2, a2, c2⟩, ⟨q3, a3, c3⟩, ⟨q4, a4, c4⟩, b1, b2, b3, b4, b5, b6, u, tk, nm⟩ := id rx
  obtain ⟨⟨v1, y1, x1⟩, ⟨v2, y2, x2⟩, ⟨v3, y3, x3⟩, ⟨v4, y4, x4⟩, ⟨v5, y5, x5⟩, tw⟩ := id tk
  have k401 := tw.2.1
  have w1 := u.at y1 (by omega) (by omega) (by omega)
  have w2 := u.at y2 (by omega) (by omega) (by omega)
  have w3 := u.at y3 (by omega) (by omega) (by omega)
  have w4 := u.at y4 (by omega) (by omega) (by omega)
  have w5 := u.at y5 (by omega) (by omega) (by omega)
  have z0 := a0.1
  have z1 := a1.1
  have l2_ := a2.1
  have l3_ := a3.1
  have l4_ := a4.1
  have tS := tw.2.2.2.2.2.1 a b ha hb ha2 hb2
  have tA := tw.2.2.2.2.1 a ha ha2
  have tB := tw.2.2.2.2.1 b hb hb2
  have t16 := tw.2.2.2.2.2.2.1
  have t256 := tw.2.2.2.2.2.2.2
  refine tX12_isSameName_0  (r := ?_)
  refine tX12_isSameName_1 (ha := (by first | assumption | (repeat (first | assumption | exact At.set_eq2 (by first | omega | (simp only [hset, hnew]; omega) | rfl | decide) | exact At.new_eq2 _ _ (by first | omega | (simp only [hset, hnew]; omega) | rfl | decide) | refine At.set_ne ?_ (by first | omega | (simp only [hset, hnew]; omega) | rfl | decide) | refine At.new_ne ?_)))) (hv := rfl) (r := ?_)
  refine tX12_isSameName_4  (r := ?_)
  refine tX12_isSameName_5 (ha := (by first | assumption | (repeat (first | assumption | exact At.set_eq2 (by first | omega | (simp only [hset, hnew]; omega) | rfl | decide) | exact At.new_eq2 _ _ (by first | omega | (simp only [hset, hnew]; omega) | rfl | decide) | refine At.set_ne ?_ (by first | omega | (simp only [hset, hnew]; omega) | rfl | decide) | refine At.new_ne ?_)))) (hx := rfl) (hj := (by omega)) (hn := (by decide)) (r := ?_)
  rw [x5 _ ha ha2]
  refine tX12_isSameName_6  (r := ?_)
  refine tX12_isSameName_7 (ha := (by first | assumption | (repeat (first | assumption | exact At.set_eq2 (by first | omega | (simp only [hset, hnew]; omega) | rfl | decide) | exact At.new_eq2 _ _ (by first | omega | (simp only [hset, hnew]; omega) | rfl | decide) | refine At.set_ne ?_ (by first | omega | (simp only [hset, hnew]; omega) | rfl | decide) | refine At.new_ne ?_)))) (hv := rfl) (r := ?_)
  refine tX12_isSameName_10  (r := ?_)
  refine tX12_isSameName_11 (ha := (by first | assumption | (repeat (first | assumption | exact At.set_eq2 (by first | omega | (simp only [hset, hnew]; omega) | rfl | decide) | exact At.new_eq2 _ _ (by first | omega | (simp only [hset, hnew]; omega) | rfl | decide) | refine At.set_ne ?_ (by first | omega | (simp only [hset, hnew]; omega) | rfl | decide) | refine At.new_ne ?_)))) (hx := rfl) (hj := (by omega)) (hn := (by decide)) (r := ?_)
  rw [x5 _ hb hb2]
  refine tX12_isSameName_12  (kt := fun c_12 => ?_) (kf := fun c_12 => ?_)
  · have el : L a = L b := (nI_eq (by omega) (by omega)).mp c_12
    refine tX12_isSameName_17  (r := ?_)
    refine tX12_isSameName_18  (r := ?_)
    exact s_msame_l rx ha ha2 hb hb2 el (L a) 0 (by omega) (by omega) (fun k hk => absurd hk (Nat.not_lt_zero k))
  · have el : ¬ L a = L b := fun z => c_12 (congrArg nI z)
    refine tX12_isSameName_15  (r := ?_)
    refine tX12_isSameName_16 (hb := (by first | exact Or.inl rfl | exact Or.inr rfl | assumption)) (hP := ?_)
    refine ⟨_, rfl, ?_, rfl⟩
    rw [if_neg (fun z => el (tS.mpr z).1)]

set_option maxHeartbeats 4000000 in
set_option maxRecDepth 100000 in
theorem s_mknown_l (hd : 1 ≤ d) (rx : RxM h0 h m K T L s dp g no) {ft : Nat → Int32} {t : Nat → Nat} (n1 : At h0 (m + 6) (.inl (0, 20, .inl ft))) (n4 : g.2.2.2.2.2 ≤ 20) (n5 : ∀ k, k < g.2.2.2.2.2 → ft k = nI (t k) ∧ t k < K.1 ∧ K.2.1 (t k) = 39) (e39 : kdP K s = 39) : ∀ (n i : Nat) , g.2.2.2.2.2 ≤ i + n → i ≤ g.2.2.2.2.2 → (∀ k, k < i → vvT K (t k) ≠ vaP K s) → RQ G mX12_known d 2 [some (.ref m), some (.int (nI i))] [] h (Ri fun v h1 => v = oI (fnN (fun k => vvT K (t k)) (vaP K s) g.2.2.2.2.2) ∧ h1 = h) := by
  have ex : ∀ (i : Nat) , i = g.2.2.2.2.2 → (∀ k, k < i → vvT K (t k) ≠ vaP K s) → RQ G mX12_known d 2 [some (.ref m), some (.int (nI i))] [] h (Ri fun v h1 => v = oI (fnN (fun k => vvT K (t k)) (vaP K s) g.2.2.2.2.2) ∧ h1 = h) := by
    intro i  hi hk
    subst hi
    obtain ⟨⟨th, by_, ea, a0⟩, a1, ⟨q2, a2, c2⟩, ⟨q3, a3, c3⟩, ⟨q4, a4, c4⟩, b1, b2, b3, b4, b5, b6, u, tk, nm⟩ := id rx
    obtain ⟨⟨v1, y1, x1⟩, ⟨v2, y2, x2⟩, ⟨v3, y3, x3⟩, ⟨v4, y4, x4⟩, ⟨v5, y5, x5⟩, tw⟩ := id tk
    have k401 := tw.2.1
    have w1 := u.at y1 (by omega) (by omega) (by omega)
    have w2 := u.at y2 (by omega) (by omega) (by omega)
    have w3 := u.at y3 (by omega) (by omega) (by omega)
    have w4 := u.at y4 (by omega) (by omega) (by omega)
    have w5 := u.at y5 (by omega) (by omega) (by omega)
    have z0 := a0.1
    have z1 := a1.1
    have l2_ := a2.1
    have l3_ := a3.1
    have l4_ := a4.1
    have w6 := u.at n1 (by omega) (by omega) (by omega)
    obtain ⟨pn, e1⟩ := rx.nx (by omega)
    have k39 := rx.k39 e39
    have v39 : vaP K s = K.2.2.2 (pPo s) := if_pos b3
    refine tX12_known_2  (r := ?_)
    refine tX12_known_3  (r := ?_)
    refine tX12_known_4 (ha := (by first | assumption | (repeat (first | assumption | exact At.set_eq2 (by first | omega | (simp only [hset, hnew]; omega) | rfl | decide) | exact At.new_eq2 _ _ (by first | omega | (simp only [hset, hnew]; omega) | rfl | decide) | refine At.set_ne ?_ (by first | omega | (simp only [hset, hnew]; omega) | rfl | decide) | refine At.new_ne ?_)))) (hv := rfl) (r := ?_)
    refine tX12_known_7  (kf := fun c_ => by exfalso; exact c_ ((nI_leI (by omega) (by omega)).mpr (by omega))) (kt := fun _ => ?_)
    refine tX12_known_35  (r := ?_)
    refine tX12_known_36  (hP := ?_)
    refine ⟨_, rfl, ?_, rfl⟩
    rw [fnN_none.mpr hk]
    rfl
  intro n
  induction n with
  | zero => exact fun i  h1_ h2_ => ex i  (by omega)
  | succ n ih =>
    intro i  h1_ h2_ hk
    by_cases hi : i = g.2.2.2.2.2
    · exact ex i  hi hk
    have hi2 : i < g.2.2.2.2.2 := by omega
    obtain ⟨⟨th, by_, ea, a0⟩, a1, ⟨q2, a2, c2⟩, ⟨q3, a3, c3⟩, ⟨q4, a4, c4⟩, b1, b2, b3, b4, b5, b6, u, tk, nm⟩ := id rx
    obtain ⟨⟨v1, y1, x1⟩, ⟨v2, y2, x2⟩, ⟨v3, y3, x3⟩, ⟨v4, y4, x4⟩, ⟨v5, y5, x5⟩, tw⟩ := id tk
    have k401 := tw.2.1
    have w1 := u.at y1 (by omega) (by omega) (by omega)
    have w2 := u.at y2 (by omega) (by omega) (by omega)
    have w3 := u.at y3 (by omega) (by omega) (by omega)
    have w4 := u.at y4 (by omega) (by omega) (by omega)
    have w5 := u.at y5 (by omega) (by omega) (by omega)
    have z0 := a0.1
    have z1 := a1.1
    have l2_ := a2.1
    have l3_ := a3.1
    have l4_ := a4.1
    have w6 := u.at n1 (by omega) (by omega) (by omega)
    obtain ⟨pn, e1⟩ := rx.nx (by omega)
    have k39 := rx.k39 e39
    have v39 : vaP K s = K.2.2.2 (pPo s) := if_pos b3
    refine tX12_known_2  (r := ?_)
    refine tX12_known_3  (r := ?_)
    refine tX12_known_4 (ha := (by first | assumption | (repeat (first | assumption | exact At.set_eq2 (by first | omega | (simp only [hset, hnew]; omega) | rfl | decide) | exact At.new_eq2 _ _ (by first | omega | (simp only [hset, hnew]; omega) | rfl | decide) | refine At.set_ne ?_ (by first | omega | (simp only [hset, hnew]; omega) | rfl | decide) | refine At.new_ne ?_)))) (hv := rfl) (r := ?_)
    refine tX12_known_7  (kt := fun c_ => by exfalso; exact absurd ((nI_leI (by omega) (by omega)).mp c_) (by omega)) (kf := fun _ => ?_)
    refine tX12_known_10  (r := ?_)
    refine tX12_known_11  (r := ?_)
    refine tX12_known_12 (ha := (by first | assumption | (repeat (first | assumption | exact At.set_eq2 (by first | omega | (simp only [hset, hnew]; omega) | rfl | decide) | exact At.new_eq2 _ _ (by first | omega | (simp only [hset, hnew]; omega) | rfl | decide) | refine At.set_ne ?_ (by first | omega | (simp only [hset, hnew]; omega) | rfl | decide) | refine At.new_ne ?_)))) (hv := rfl) (r := ?_)
    refine tX12_known_15  (r := ?_)
    refine tX12_known_16 (ha := (by first | assumption | (repeat (first | assumption | exact At.set_eq2 (by first | omega | (simp only [hset, hnew]; omega) | rfl | decide) | exact At.new_eq2 _ _ (by first | omega | (simp only [hset, hnew]; omega) | rfl | decide) | refine At.set_ne ?_ (by first | omega | (simp only [hset, hnew]; omega) | rfl | decide) | refine At.new_ne ?_)))) (hx := rfl) (hj := (by omega)) (hn := (by decide)) (r := ?_)
    rw [(n5 i hi2).1]
    have vt : vvT K (t i) = K.2.2.2 (t i) := if_pos (n5 i hi2).2.1
    refine tX12_known_17  (r := ?_)
    refine tX12_known_18 (ha := (by first | assumption | (repeat (first | assumption | exact At.set_eq2 (by first | omega | (simp only [hset, hnew]; omega) | rfl | decide) | exact At.new_eq2 _ _ (by first | omega | (simp only [hset, hnew]; omega) | rfl | decide) | refine At.set_ne ?_ (by first | omega | (simp only [hset, hnew]; omega) | rfl | decide) | refine At.new_ne ?_)))) (hv := rfl) (r := ?_)
    refine tX12_known_21 (hd := (by omega)) (ha := (by first | assumption | (repeat (first | assumption | exact At.set_eq2 (by first | omega | (simp only [hset, hnew]; omega) | rfl | decide) | exact At.new_eq2 _ _ (by first | omega | (simp only [hset, hnew]; omega) | rfl | decide) | refine At.set_ne ?_ (by first | omega | (simp only [hset, hnew]; omega) | rfl | decide) | refine At.new_ne ?_)))) (call := s_msame (d := 0) rx (n5 i hi2).2.1 (n5 i hi2).2.2 b3 k39) (k := ?_)
    rintro x_ h_ ⟨hx_, e_⟩
    rw [e_, hx_]
    refine tX12_known_24  (kt := fun c_24 => ?_) (kf := fun c_24 => ?_)
    · have ne : ¬ K.2.2.2 (t i) = K.2.2.2 (pPo s) := fun z => by rw [if_pos z] at c_24; exact absurd c_24 (by decide)
      refine tX12_known_29  (r := ?_)
      rw [nI_add]
      refine tX12_known_32 (r := ?_)
      refine ih (i + 1) (by omega) (by omega) (fun k hk2 => ?_)
      by_cases z : k = i
      · rw [z, vt, v39]
        exact ne
      · exact hk k (by omega)
    · have eq : K.2.2.2 (t i) = K.2.2.2 (pPo s) := Classical.byContradiction (fun z => by rw [if_neg z] at c_24; exact c_24 rfl)
      refine tX12_known_27  (r := ?_)
      refine tX12_known_28  (hP := ?_)
      refine ⟨_, rfl, ?_, rfl⟩
      rw [fnN_first (by rw [vt, v39]; exact eq) hk hi2]
      rfl

set_option maxHeartbeats 4000000 in
set_option maxRecDepth 100000 in
theorem s_mknown (hd : 1 ≤ d) (rx : RxM h0 h m K T L s dp g no) {ft : Nat → Int32} {t : Nat → Nat} (n1 : At h0 (m + 6) (.inl (0, 20, .inl ft))) (n4 : g.2.2.2.2.2 ≤ 20) (n5 : ∀ k, k < g.2.2.2.2.2 → ft k = nI (t k) ∧ t k < K.1 ∧ K.2.1 (t k) = 39) (e39 : kdP K s = 39) : RQ G mX12_known d 0 [some (.ref m), none] [] h (Ri fun v h1 => v = oI (fnN (fun k => vvT K (t k)) (vaP K s) g.2.2.2.2.2) ∧ h1 = h) := by
  refine tX12_known_0  (r := ?_)
  refine tX12_known_1  (r := ?_)
  exact s_mknown_l hd rx n1 n4 n5 e39 g.2.2.2.2.2 0 (by omega) (by omega) (fun k hk => absurd hk (Nat.not_lt_zero k))

/-- what a name behind a word is: a label (0), a jar (1) -/
def nbO (K : TKS) (w : Nat) (s : PST) : Option Nat := if w = 0 then lbO K s else jbO K s
theorem nm_is {w nm : Nat} (hw : w = 0 ∨ w = 1) {t kd nu : Nat → Nat} (hp : NmP K nm t kd nu (nmN (pDf s))) : (∀ i, nbO K w s = some i → ∃ k, fnN (fun k => vvT K (t k)) (vaP K s) nm = some k ∧ k < nm ∧ kd k = w ∧ nu k = i) ∧ (nbO K w s = none → ∀ k, fnN (fun k => vvT K (t k)) (vaP K s) nm = some k → kd k ≠ w) := by
  obtain ⟨hn, p1, p2, p3, p4, p5⟩ := hp
  have go : ∀ i k0, k0 < nm → nu k0 = i → kd k0 = w → vvT K (t k0) = vaP K s → ∃ k, fnN (fun k => vvT K (t k)) (vaP K s) nm = some k ∧ k < nm ∧ kd k = w ∧ nu k = i := fun i k0 h1 h2 h3 h4 => ⟨k0, fnN_first (f := fun k => vvT K (t k)) (i := k0) h4 (fun k hk z => by
    have := p5 k k0 (by omega) h1 (by rw [h4]; exact z)
    omega) h1, h1, h3, h2⟩
  rcases hw with rfl | rfl
  · have eo : nbO K 0 s = lbO K s := rfl
    refine ⟨fun i hi => ?_, fun hn2 k hk z => ?_⟩
    · rw [eo] at hi
      obtain ⟨f1, f2, -⟩ := fnN_some hi
      obtain ⟨k0, q1, q2, q3⟩ := p2 i f1
      have q4 := p1 k0 q1
      refine go i k0 q1 q3 q2 ?_
      rcases q4 with q | q | q
      · rw [← q.2.2, q3]
        exact f2
      · omega
      · omega
    · rw [eo] at hn2
      obtain ⟨f1, f2, -⟩ := fnN_some hk
      rcases p1 k f1 with q | q | q
      · exact fnN_none.mp hn2 _ q.2.1 (q.2.2.trans f2)
      · omega
      · omega
  · have eo : nbO K 1 s = jbO K s := rfl
    refine ⟨fun i hi => ?_, fun hn2 k hk z => ?_⟩
    · rw [eo] at hi
      obtain ⟨f1, f2, -⟩ := fnN_some hi
      obtain ⟨k0, q1, q2, q3⟩ := p3 i f1
      have q4 := p1 k0 q1
      refine go i k0 q1 q3 q2 ?_
      rcases q4 with q | q | q
      · omega
      · rw [← q.2.2, q3]
        exact f2
      · omega
    · rw [eo] at hn2
      obtain ⟨f1, f2, -⟩ := fnN_some hk
      rcases p1 k f1 with q | q | q
      · omega
      · exact fnN_none.mp hn2 _ q.2.1 (q.2.2.trans f2)
      · omega

theorem Eqv.nm {w : Nat} {s : PST} (e : kdP K s ≠ 39) : Eqv (tkP K 39 s) (tkP K 39 (rpO (nbO K w s) s)) := by
  have k : ∀ o : Option Nat, kdP K (rpO o s) = kdP K s := fun o => by
    unfold rpO rpP kdP
    by_cases z : o = none
    · rw [if_pos z]
      by_cases z2 : pEr s = 0
      · rw [if_pos z2, if_neg (show ¬ (3 : Nat) = 1 by decide), if_neg (by omega)]
      · rw [if_neg z2]
    · rw [if_neg z]
  rw [tkP_wr e, tkP_wr (by rw [k]; exact e)]
  unfold rpO
  by_cases z : nbO K w s = none
  · rw [if_pos z]
    unfold rpP
    by_cases z2 : pEr s = 0
    · rw [if_pos z2]
      unfold wrP
      rw [if_neg (by omega), if_neg (show ¬ (3 : Nat) = 1 by decide)]
      exact Eqv.mk2 (fun q => absurd q (by decide))
    · rw [if_neg z2]
      exact Eqv.rf _
  · rw [if_neg z]
    exact Eqv.rf _

set_option maxHeartbeats 4000000 in
set_option maxRecDepth 100000 in
theorem s_mname_no (hd : 3 ≤ d) (rx : RxM h0 h m K T L s dp g no) {w : Nat} {x2 : Int32} (hw : w = 0 ∨ w = 1) (e : pEr s = 0 → kdP K s = 39 → nbO K w s = none) : RQ G mX12_name d 39 [some (.ref m), some (.int (nI w)), some (.int x2), some (.int (nI 0))] [] h (Ri fun v h1 => (pEr (tkP K 39 (rpO (nbO K w s) s)) = 0 → v = nI ((nbO K w s).getD 0)) ∧ RxM h0 h1 m K T L (tkP K 39 (rpO (nbO K w s) s)) dp g no) := by
  obtain ⟨⟨th, by_, ea, a0⟩, a1, ⟨q2, a2, c2⟩, ⟨q3, a3, c3⟩, ⟨q4, a4, c4⟩, b1, b2, b3, b4, b5, b6, u, tk, nm⟩ := id rx
  obtain ⟨⟨v1, y1, x1⟩, ⟨v2, y2, x2⟩, ⟨v3, y3, x3⟩, ⟨v4, y4, x4⟩, ⟨v5, y5, x5⟩, tw⟩ := id tk
  have k401 := tw.2.1
  have w1 := u.at y1 (by omega) (by omega) (by omega)
  have w2 := u.at y2 (by omega) (by omega) (by omega)
  have w3 := u.at y3 (by omega) (by omega) (by omega)
  have w4 := u.at y4 (by omega) (by omega) (by omega)
  have w5 := u.at y5 (by omega) (by omega) (by omega)
  have z0 := a0.1
  have z1 := a1.1
  have l2_ := a2.1
  have l3_ := a3.1
  have l4_ := a4.1
  obtain ⟨ft, fk, fn, t, n1, n2, n3, n4, n5, n6⟩ := id nm
  have wk := u.at n2 (by omega) (by omega) (by omega)
  have wn := u.at n3 (by omega) (by omega) (by omega)
  have q20 : g.2.2.2.2.2 ≤ 20 := n4
  refine tX12_name_39  (r := ?_)
  refine tX12_name_40  (r := ?_)
  refine tX12_name_42 (hd := (by omega)) (ha := (by first | assumption | (repeat (first | assumption | exact At.set_eq2 (by first | omega | (simp only [hset, hnew]; omega) | rfl | decide) | exact At.new_eq2 _ _ (by first | omega | (simp only [hset, hnew]; omega) | rfl | decide) | refine At.set_ne ?_ (by first | omega | (simp only [hset, hnew]; omega) | rfl | decide) | refine At.new_ne ?_)))) (call := s_mis (d := 2) rx (k := 39) (by decide)) (k := ?_)
  rintro x_ h_ ⟨hx_, e_⟩
  rw [e_, hx_]
  refine tX12_name_45  (kt := fun c_45 => ?_) (kf := fun c_45 => ?_)
  · have ek : ¬ kdP K s = 39 := fun z => by rw [if_pos z] at c_45; exact absurd c_45 (by decide)
    refine tX12_name_57  (r := ?_)
    refine tX12_name_58  (r := ?_)
    refine tX12_name_60 (hd := (by omega)) (ha := (by first | assumption | (repeat (first | assumption | exact At.set_eq2 (by first | omega | (simp only [hset, hnew]; omega) | rfl | decide) | exact At.new_eq2 _ _ (by first | omega | (simp only [hset, hnew]; omega) | rfl | decide) | refine At.set_ne ?_ (by first | omega | (simp only [hset, hnew]; omega) | rfl | decide) | refine At.new_ne ?_)))) (call := s_mtake (d := 2) (by omega) rx (k := 39) (by decide)) (k := ?_)
    intro h1 rx1
    have rx2 := rx1.eqv (Eqv.nm (w := w) ek)
    refine tX12_name_63  (r := ?_)
    refine tX12_name_64  (kf := fun c_ => by exfalso; exact c_ rfl) (kt := fun _ => ?_)
    refine tX12_name_76  (r := ?_)
    refine tX12_name_77  (hP := ?_)
    refine ⟨_, rfl, fun z => ?_, rx2⟩
    exfalso
    rw [← (Eqv.nm (w := w) ek).2.1, tkP_wr ek, wrP_er] at z
    exact absurd z (by decide)
  · have ek : kdP K s = 39 := Classical.byContradiction (fun z => by rw [if_neg z] at c_45; exact c_45 rfl)
    refine tX12_name_48  (r := ?_)
    refine tX12_name_49  (kt := fun c_ => by exfalso; exact c_ rfl) (kf := fun _ => ?_)
    refine tX12_name_52  (r := ?_)
    refine tX12_name_53  (r := ?_)
    refine tX12_name_54 (hd := (by omega)) (ha := (by first | assumption | (repeat (first | assumption | exact At.set_eq2 (by first | omega | (simp only [hset, hnew]; omega) | rfl | decide) | exact At.new_eq2 _ _ (by first | omega | (simp only [hset, hnew]; omega) | rfl | decide) | refine At.set_ne ?_ (by first | omega | (simp only [hset, hnew]; omega) | rfl | decide) | refine At.new_ne ?_)))) (call := s_mmark (d := 2) rx (n := 3) (by decide)) (k := ?_)
    intro h1 rx1
    have e3 : rpP 3 s = rpO (nbO K w s) s := by
      unfold rpO
      by_cases z : pEr s = 0
      · rw [if_pos (e z ek)]
      · rw [show rpP 3 s = s from if_neg z]
        split <;> rfl
    rw [e3] at rx1
    obtain ⟨⟨th1, by1, ea1, p0⟩, -⟩ := id rx1
    refine tX12_name_57  (r := ?_)
    refine tX12_name_58  (r := ?_)
    refine tX12_name_60 (hd := (by omega)) (ha := (by first | assumption | (repeat (first | assumption | exact At.set_eq2 (by first | omega | (simp only [hset, hnew]; omega) | rfl | decide) | exact At.new_eq2 _ _ (by first | omega | (simp only [hset, hnew]; omega) | rfl | decide) | refine At.set_ne ?_ (by first | omega | (simp only [hset, hnew]; omega) | rfl | decide) | refine At.new_ne ?_)))) (call := s_mtake (d := 2) (by omega) rx1 (k := 39) (by decide)) (k := ?_)
    intro h2 rx2
    refine tX12_name_63  (r := ?_)
    refine tX12_name_64  (kf := fun c_ => by exfalso; exact c_ rfl) (kt := fun _ => ?_)
    refine tX12_name_76  (r := ?_)
    refine tX12_name_77  (hP := ?_)
    refine ⟨_, rfl, fun z => ?_, rx2⟩
    obtain ⟨z1, -⟩ := tkP_er z
    obtain ⟨z2, z3⟩ := rpO_ne z1
    rw [z3] at z1
    exact absurd (e z1 ek) z2

set_option maxHeartbeats 4000000 in
set_option maxRecDepth 100000 in
theorem s_mname_yes (hd : 3 ≤ d) (rx : RxM h0 h m K T L s dp g no) {w k : Nat} {fn : Nat → Int32} (an : At h0 (m + 8) (.inl (0, 20, .inl fn))) (hk : k < 20) (hw : w = 0 ∨ w = 1) (ek : kdP K s = 39) (e : pEr s = 0 → ∃ i, nbO K w s = some i ∧ fn k = nI i) : RQ G mX12_name d 39 [some (.ref m), some (.int (nI w)), some (.int (nI k)), some (.int (nI 1))] [] h (Ri fun v h1 => (pEr (tkP K 39 (rpO (nbO K w s) s)) = 0 → v = nI ((nbO K w s).getD 0)) ∧ RxM h0 h1 m K T L (tkP K 39 (rpO (nbO K w s) s)) dp g no) := by
  obtain ⟨⟨th, by_, ea, a0⟩, a1, ⟨q2, a2, c2⟩, ⟨q3, a3, c3⟩, ⟨q4, a4, c4⟩, b1, b2, b3, b4, b5, b6, u, tk, nm⟩ := id rx
  obtain ⟨⟨v1, y1, x1⟩, ⟨v2, y2, x2⟩, ⟨v3, y3, x3⟩, ⟨v4, y4, x4⟩, ⟨v5, y5, x5⟩, tw⟩ := id tk
  have k401 := tw.2.1
  have w1 := u.at y1 (by omega) (by omega) (by omega)
  have w2 := u.at y2 (by omega) (by omega) (by omega)
  have w3 := u.at y3 (by omega) (by omega) (by omega)
  have w4 := u.at y4 (by omega) (by omega) (by omega)
  have w5 := u.at y5 (by omega) (by omega) (by omega)
  have z0 := a0.1
  have z1 := a1.1
  have l2_ := a2.1
  have l3_ := a3.1
  have l4_ := a4.1
  have er : rpO (nbO K w s) s = s := by
    unfold rpO
    by_cases z : pEr s = 0
    · obtain ⟨i, e1, -⟩ := e z
      rw [e1]
      rfl
    · split
      · exact if_neg z
      · rfl
  refine tX12_name_39  (r := ?_)
  refine tX12_name_40  (r := ?_)
  refine tX12_name_42 (hd := (by omega)) (ha := (by first | assumption | (repeat (first | assumption | exact At.set_eq2 (by first | omega | (simp only [hset, hnew]; omega) | rfl | decide) | exact At.new_eq2 _ _ (by first | omega | (simp only [hset, hnew]; omega) | rfl | decide) | refine At.set_ne ?_ (by first | omega | (simp only [hset, hnew]; omega) | rfl | decide) | refine At.new_ne ?_)))) (call := s_mis (d := 2) rx (k := 39) (by decide)) (k := ?_)
  rintro x_ h_ ⟨hx_, e_⟩
  rw [e_, hx_, if_pos ek]
  refine tX12_name_45  (kt := fun c_ => by exfalso; exact absurd c_ (by decide)) (kf := fun _ => ?_)
  refine tX12_name_48  (r := ?_)
  refine tX12_name_49  (kf := fun c_ => by exfalso; exact absurd c_ (by decide)) (kt := fun _ => ?_)
  refine tX12_name_57  (r := ?_)
  refine tX12_name_58  (r := ?_)
  refine tX12_name_60 (hd := (by omega)) (ha := (by first | assumption | (repeat (first | assumption | exact At.set_eq2 (by first | omega | (simp only [hset, hnew]; omega) | rfl | decide) | exact At.new_eq2 _ _ (by first | omega | (simp only [hset, hnew]; omega) | rfl | decide) | refine At.set_ne ?_ (by first | omega | (simp only [hset, hnew]; omega) | rfl | decide) | refine At.new_ne ?_)))) (call := s_mtake (d := 2) (by omega) rx (k := 39) (by decide)) (k := ?_)
  intro h1 rx1
  obtain ⟨⟨th1, by1, ea1, p0⟩, -, -, -, -, -, -, -, -, -, -, u1, -⟩ := id rx1
  have wn := u1.at an (by omega) (by omega) (by omega)
  refine tX12_name_63  (r := ?_)
  refine tX12_name_64  (kt := fun c_ => by exfalso; exact absurd c_ (by decide)) (kf := fun _ => ?_)
  refine tX12_name_67  (r := ?_)
  refine tX12_name_68 (ha := (by first | assumption | (repeat (first | assumption | exact At.set_eq2 (by first | omega | (simp only [hset, hnew]; omega) | rfl | decide) | exact At.new_eq2 _ _ (by first | omega | (simp only [hset, hnew]; omega) | rfl | decide) | refine At.set_ne ?_ (by first | omega | (simp only [hset, hnew]; omega) | rfl | decide) | refine At.new_ne ?_)))) (hv := rfl) (r := ?_)
  refine tX12_name_71  (r := ?_)
  refine tX12_name_72 (ha := (by first | assumption | (repeat (first | assumption | exact At.set_eq2 (by first | omega | (simp only [hset, hnew]; omega) | rfl | decide) | exact At.new_eq2 _ _ (by first | omega | (simp only [hset, hnew]; omega) | rfl | decide) | refine At.set_ne ?_ (by first | omega | (simp only [hset, hnew]; omega) | rfl | decide) | refine At.new_ne ?_)))) (hx := rfl) (hj := hk) (hn := (by decide)) (r := ?_)
  refine tX12_name_73 (r := ?_)
  refine tX12_name_77  (hP := ?_)
  refine ⟨_, rfl, fun z => ?_, by rw [er]; exact rx1⟩
  rw [er] at z
  obtain ⟨z1, -⟩ := tkP_er z
  obtain ⟨i, e1, e2⟩ := e z1
  rw [e1, e2]
  rfl

set_option maxHeartbeats 4000000 in
set_option maxRecDepth 100000 in
theorem s_mname (hd : 3 ≤ d) (rx : RxM h0 h m K T L s dp g no) {w : Nat} (hw : w = 0 ∨ w = 1) : RQ G mX12_name d 0 [some (.ref m), some (.int (nI w)), none, none] [] h (Ri fun v h1 => (pEr (tkP K 39 (rpO (nbO K w s) s)) = 0 → v = nI ((nbO K w s).getD 0)) ∧ RxM h0 h1 m K T L (tkP K 39 (rpO (nbO K w s) s)) dp g no) := by
  obtain ⟨⟨th, by_, ea, a0⟩, a1, ⟨q2, a2, c2⟩, ⟨q3, a3, c3⟩, ⟨q4, a4, c4⟩, b1, b2, b3, b4, b5, b6, u, tk, nm⟩ := id rx
  obtain ⟨⟨v1, y1, x1⟩, ⟨v2, y2, x2⟩, ⟨v3, y3, x3⟩, ⟨v4, y4, x4⟩, ⟨v5, y5, x5⟩, tw⟩ := id tk
  have k401 := tw.2.1
  have w1 := u.at y1 (by omega) (by omega) (by omega)
  have w2 := u.at y2 (by omega) (by omega) (by omega)
  have w3 := u.at y3 (by omega) (by omega) (by omega)
  have w4 := u.at y4 (by omega) (by omega) (by omega)
  have w5 := u.at y5 (by omega) (by omega) (by omega)
  have z0 := a0.1
  have z1 := a1.1
  have l2_ := a2.1
  have l3_ := a3.1
  have l4_ := a4.1
  obtain ⟨ft, fk, fn, t, n1, n2, n3, n4, n5, n6⟩ := id nm
  have wk := u.at n2 (by omega) (by omega) (by omega)
  have wn := u.at n3 (by omega) (by omega) (by omega)
  have q20 : g.2.2.2.2.2 ≤ 20 := n4
  refine tX12_name_0  (r := ?_)
  refine tX12_name_1  (r := ?_)
  refine tX12_name_3 (hd := (by omega)) (ha := (by first | assumption | (repeat (first | assumption | exact At.set_eq2 (by first | omega | (simp only [hset, hnew]; omega) | rfl | decide) | exact At.new_eq2 _ _ (by first | omega | (simp only [hset, hnew]; omega) | rfl | decide) | refine At.set_ne ?_ (by first | omega | (simp only [hset, hnew]; omega) | rfl | decide) | refine At.new_ne ?_)))) (call := s_mis (d := 2) rx (k := 39) (by decide)) (k := ?_)
  rintro x_ h_ ⟨hx_, e_⟩
  rw [e_, hx_]
  refine tX12_name_6  (kt := fun c_6 => ?_) (kf := fun c_6 => ?_)
  · have ek : ¬ kdP K s = 39 := fun z => by rw [if_pos z] at c_6; exact absurd c_6 (by decide)
    refine tX12_name_16  (r := ?_)
    refine tX12_name_17  (r := ?_)
    refine tX12_name_18  (r := ?_)
    refine tX12_name_19  (r := ?_)
    refine tX12_name_20  (kf := fun c_ => by exfalso; exact c_ rfl) (kt := fun _ => ?_)
    refine tX12_name_37  (r := ?_)
    refine tX12_name_38  (r := ?_)
    exact s_mname_no hd rx hw (fun _ z => absurd z ek)
  · have ek : kdP K s = 39 := Classical.byContradiction (fun z => by rw [if_neg z] at c_6; exact c_6 rfl)
    refine tX12_name_9  (r := ?_)
    refine tX12_name_10 (hd := (by omega)) (ha := (by first | assumption | (repeat (first | assumption | exact At.set_eq2 (by first | omega | (simp only [hset, hnew]; omega) | rfl | decide) | exact At.new_eq2 _ _ (by first | omega | (simp only [hset, hnew]; omega) | rfl | decide) | refine At.set_ne ?_ (by first | omega | (simp only [hset, hnew]; omega) | rfl | decide) | refine At.new_ne ?_)))) (call := s_mknown (d := 2) (by decide) rx n1 n4 n5 ek) (k := ?_)
    rintro x_ h_ ⟨hx_, e_⟩
    rw [e_, hx_]
    have I1 : (oI (fnN (fun k => vvT K (t k)) (vaP K s) g.2.2.2.2.2) = -1) ↔ fnN (fun k => vvT K (t k)) (vaP K s) g.2.2.2.2.2 = none := oI_m1 (fun k e => by have := fnN_lt k e; omega)
    refine tX12_name_13 (r := ?_)
    refine tX12_name_17  (r := ?_)
    refine tX12_name_18  (r := ?_)
    refine tX12_name_19  (r := ?_)
    refine tX12_name_20  (kt := fun c_20 => ?_) (kf := fun c_20 => ?_)
    · have en := I1.mp c_20
      refine tX12_name_37  (r := ?_)
      refine tX12_name_38  (r := ?_)
      exact s_mname_no hd rx hw (fun z _ => by
        obtain ⟨kd, nu, -, hp⟩ := n6 z
        refine Option.eq_none_iff_forall_ne_some.mpr (fun i hi => ?_)
        obtain ⟨k, k1, -⟩ := (nm_is hw hp).1 i hi
        rw [en] at k1
        exact nomatch k1)
    · obtain ⟨k, ek2⟩ := Option.ne_none_iff_exists'.mp (fun z => c_20 (I1.mpr z))
      have hk20 : k < g.2.2.2.2.2 := fnN_lt k ek2
      rw [ek2]
      refine tX12_name_23  (r := ?_)
      refine tX12_name_24 (ha := (by first | assumption | (repeat (first | assumption | exact At.set_eq2 (by first | omega | (simp only [hset, hnew]; omega) | rfl | decide) | exact At.new_eq2 _ _ (by first | omega | (simp only [hset, hnew]; omega) | rfl | decide) | refine At.set_ne ?_ (by first | omega | (simp only [hset, hnew]; omega) | rfl | decide) | refine At.new_ne ?_)))) (hv := rfl) (r := ?_)
      refine tX12_name_27  (r := ?_)
      refine tX12_name_28 (ha := (by first | assumption | (repeat (first | assumption | exact At.set_eq2 (by first | omega | (simp only [hset, hnew]; omega) | rfl | decide) | exact At.new_eq2 _ _ (by first | omega | (simp only [hset, hnew]; omega) | rfl | decide) | refine At.set_ne ?_ (by first | omega | (simp only [hset, hnew]; omega) | rfl | decide) | refine At.new_ne ?_)))) (hx := rfl) (hj := (by omega)) (hn := (by decide)) (r := ?_)
      refine tX12_name_29  (r := ?_)
      refine tX12_name_30  (kt := fun c_30 => ?_) (kf := fun c_30 => ?_)
      · have hne : pEr s = 0 → kdP K s = 39 → nbO K w s = none := fun z _ => by
          obtain ⟨kd, nu, hkn, hp⟩ := n6 z
          refine Option.eq_none_iff_forall_ne_some.mpr (fun i hi => ?_)
          obtain ⟨k9, k1, -, k3, -⟩ := (nm_is hw hp).1 i hi
          rw [ek2] at k1
          cases k1
          exact c_30 (by rw [(hkn k hk20).1, k3])
        refine tX12_name_37  (r := ?_)
        refine tX12_name_38  (r := ?_)
        exact s_mname_no hd rx hw hne
      · refine tX12_name_33  (r := ?_)
        refine tX12_name_34 (r := ?_)
        refine tX12_name_38  (r := ?_)
        refine s_mname_yes hd rx n3 (by omega) hw ek (fun z => ?_)
        obtain ⟨kd, nu, hkn, hp⟩ := n6 z
        have kw : kd k = w := by
          have c9 := c_30
          rw [(hkn k hk20).1] at c9
          have k5 : kd k < 6 := by
            rcases hp.2.1 k hk20 with q | q | q <;> omega
          exact (nI_eq (by omega) (by omega)).mp c9
        cases eo : nbO K w s with
        | none => exact absurd kw ((nm_is hw hp).2 eo k ek2)
        | some i =>
          obtain ⟨k9, k1, -, -, k4⟩ := (nm_is hw hp).1 i eo
          rw [ek2] at k1
          cases k1
          exact ⟨i, rfl, by rw [(hkn k hk20).2, k4]⟩

end RMB
