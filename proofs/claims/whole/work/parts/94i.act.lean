/-! the reference's acts, one after another -/
section RMI
variable {G : GT} {d : Nat} {h0 h : AH} {m : Nat} {K : TKS} {T : List Nat} {L : Nat → Nat} {s : PST} {dp : Nat} {g : GCT} {no : Nat}

theorem so_act {k : Nat} (hk : k < 43) (h : 9 ≤ soK k ∧ soK k ≤ 14) (h2 : soK k ≠ 10) : k = 9 ∨ k = 11 ∨ k = 12 ∨ k = 13 ∨ k = 14 := by
  have key : (List.range 43).all (fun k => decide (9 ≤ soK k ∧ soK k ≤ 14 → soK k ≠ 10 → k = 9 ∨ k = 11 ∨ k = 12 ∨ k = 13 ∨ k = 14)) = true := by decide +kernel
  exact of_decide_eq_true (List.all_eq_true.mp key k (List.mem_range.mpr hk)) h h2
theorem abP_po : pPo (abP s) = pPo s := by
  unfold abP
  rw [pPo_up]
  split
  · exact rpP_po
  · rfl
theorem abP_er1 (h : pEr s ≠ 1) : pEr (abP s) ≠ 1 := by
  unfold abP
  rw [pEr_up]
  split
  · unfold rpP
    split
    · exact (by decide : (4 : Nat) ≠ 1)
    · exact h
  · exact h
theorem abP_kd (h : pEr s ≠ 1) : kdP K (abP s) = kdP K s := by
  unfold kdP
  rw [if_neg h, if_neg (abP_er1 h), abP_po]
theorem abP_eq (h : nAn (pBk s) < 60) : abP s = upP acD s := by
  unfold abP
  rw [if_neg (by omega)]
theorem abP_0 (h : pEr (abP s) = 0) : pEr s = 0 ∧ nAn (pBk s) < 60 ∧ nAn (pBk (abP s)) = nAn (pBk s) + 1 ∧ nAc (pBk (abP s)) = nAc (pBk s) := by
  by_cases z : 60 ≤ nAn (pBk s)
  · unfold abP at h
    rw [if_pos z] at h
    exact (rpP_er (by decide) (upP_er0 h)).elim
  · rw [abP_eq (by omega)] at h ⊢
    have h2 := upP_er0 h
    rw [upP_e h2]
    exact ⟨h2, by omega, rfl, rfl⟩
theorem Eqv.ab : Eqv (upP acD s) s := Eqv.up (f := acD) (fun _ => ⟨rfl, rfl⟩) s
theorem RaM.er {s1 : PST} (rx : RxM h h m K T L s1 0 g no) {s2 : PST} (e : Eqv s1 s2) (e1 : pEr s1 ≠ 0) (ax : AcX h m s g.2.2.2.2.1) (h60 : g.2.2.2.2.1 ≤ 60) (u : Uy h0 h m (m + 28 + 12)) : RaM h0 h m K T L s2 g no := ⟨rx.eqv e, ax.to (fun _ _ a _ _ => a) (fun z => absurd (e.2.1.trans z) e1), fun z => absurd (e.2.1.trans z) e1, h60, u⟩
theorem s_mact69 (hd : 80 ≤ d) (rx : RxM h h m K T L (abP s) 0 g no) (ax : AcX h m s g.2.2.2.2.1) (hn : pEr s = 0 → g.2.2.2.2.1 = nAn (pBk s)) (h60 : g.2.2.2.2.1 ≤ 60) (u0 : Uy h0 h m (m + 28 + 12)) (e1 : pEr s ≠ 1) (ek : kdP K s = 9 ∨ kdP K s = 11 ∨ kdP K s = 12 ∨ kdP K s = 13 ∨ kdP K s = 14) : RQ G mX12_act d 69 [some (.ref m), some (.int (nI g.2.2.2.2.1)), none] [] h (Rv fun h1 => ∃ ac1 no1, RaM h0 h1 m K T L (acP K s) (gAc g ac1) no1 ∧ no1 + pPo s ≤ no + pPo (acP K s) ∧ (pEr (acP K s) ≠ 1 → pPo s + 1 ≤ pPo (acP K s))) := by
  have ax2 : AcX h m (abP s) g.2.2.2.2.1 := ax.to (fun _ _ a _ _ => a) (fun z => ⟨(abP_0 z).1, (abP_0 z).2.2.2⟩)
  have hn2 : pEr (abP s) = 0 → nAn (pBk s) = g.2.2.2.2.1 ∧ g.2.2.2.2.1 + 1 = nAn (pBk (abP s)) ∧ g.2.2.2.2.1 < 60 := fun z => by
    obtain ⟨z1, z2, z3, -⟩ := abP_0 z
    have := hn z1
    omega
  have ka := abP_kd (K := K) e1
  have pp : pPo (abP s) = pPo s := abP_po
  have fin : ∀ F : PST, acP K s = F → RQ G mX12_act d 69 [some (.ref m), some (.int (nI g.2.2.2.2.1)), none] [] h (Rv fun h1 => ∃ ac1 no1, RaM h0 h1 m K T L F (gAc g ac1) no1 ∧ no1 + pPo (abP s) ≤ no + pPo F ∧ pPo (abP s) + 1 ≤ pPo F) → RQ G mX12_act d 69 [some (.ref m), some (.int (nI g.2.2.2.2.1)), none] [] h (Rv fun h1 => ∃ ac1 no1, RaM h0 h1 m K T L (acP K s) (gAc g ac1) no1 ∧ no1 + pPo s ≤ no + pPo (acP K s) ∧ (pEr (acP K s) ≠ 1 → pPo s + 1 ≤ pPo (acP K s))) := fun F eF r => by
    rw [eF]
    refine r.imp (fun o9 h9 q9 => ?_)
    obtain ⟨q1, a1, n1, q2, q3, q4⟩ := q9
    exact ⟨q1, a1, n1, q2, by omega, fun _ => by omega⟩
  rcases ek with ek | ek | ek | ek | ek
  · exact fin (awP K (nAn (pBk s)) (abP s)) (if_pos ek) (s_mac9 hd rx ax2 hn2 h60 u0 (ka.trans ek))
  · exact fin (ahP K (nAn (pBk s)) (abP s)) (by unfold acP; rw [if_neg (by omega), if_pos ek]) (s_mac11 (by omega) rx ax2 hn2 h60 u0 (ka.trans ek))
  · exact fin (aoP K 12 (nAn (pBk s)) (abP s)) (by unfold acP; rw [if_neg (by omega), if_neg (by omega), if_neg (by omega), ek]) (s_mac12 (by omega) rx ax2 hn2 h60 u0 (ka.trans ek))
  · exact fin (ajP K (nAn (pBk s)) (abP s)) (by unfold acP; rw [if_neg (by omega), if_neg (by omega), if_pos ek]) (s_mac13 (by omega) rx ax2 hn2 h60 u0 (ka.trans ek))
  · exact fin (aoP K 14 (nAn (pBk s)) (abP s)) (by unfold acP; rw [if_neg (by omega), if_neg (by omega), if_neg (by omega), ek]) (s_mac14 (by omega) rx ax2 hn2 h60 u0 (ka.trans ek))
theorem ac_bad (e1 : pEr s ≠ 1) (h : ¬ (kdP K s = 9 ∨ kdP K s = 11 ∨ kdP K s = 12 ∨ kdP K s = 13 ∨ kdP K s = 14)) : Eqv (wrP s) (acP K s) := by
  have e : acP K s = aoP K (kdP K s) (nAn (pBk s)) (abP s) := by
    unfold acP
    rw [if_neg (by omega), if_neg (by omega), if_neg (by omega)]
  rw [e]
  have ks : kdP K (stP (kdP K s) 0 (abP s)) = kdP K s := by
    rw [(Eqv.st _).kd]
    exact abP_kd e1
  have e2 : aoP K (kdP K s) (nAn (pBk s)) (abP s) = upP (arD (nAn (pBk s)) (kdP K s, 0, 0, 0)) (wrP (stP (kdP K s) 0 (abP s))) := by
    unfold aoP
    rw [if_neg (by omega), tkP_wr (by rw [ks]; omega)]
  rw [e2]
  refine Eqv.trans ?_ (Eqv.ar _).symm
  unfold wrP
  have n1 : pEr (stP (kdP K s) 0 (abP s)) ≠ 1 := by
    unfold stP
    rw [pEr_up]
    exact abP_er1 e1
  rw [if_neg e1, if_neg n1, stP_po, abP_po]
  exact Eqv.mk2 (fun z => absurd z (by decide))

theorem if_same {p : Prop} {dp : Decidable p} {α : Type} (a : α) : (if p then a else a) = a := by
  split <;> rfl
set_option maxHeartbeats 4000000 in
set_option maxRecDepth 100000 in
theorem s_mact (hd : 80 ≤ d) (ra : RaM h0 h m K T L s g no) (e1 : pEr s ≠ 1) : RQ G mX12_act d 0 [some (.ref m), none, none] [] h (Rv fun h1 => ∃ ac1 no1, RaM h0 h1 m K T L (acP K s) (gAc g ac1) no1 ∧ no1 + pPo s ≤ no + pPo (acP K s) ∧ (pEr (acP K s) ≠ 1 → pPo s + 1 ≤ pPo (acP K s))) := by
  obtain ⟨rx, ax, hn, h60, u0⟩ := ra
  have g60 : g.2.2.2.2.1 ≤ 60 := h60
  obtain ⟨⟨th, by_, ea, a0⟩, a1, ⟨q2, a2, c2⟩, ⟨q3, a3, c3⟩, ⟨q4, a4, c4⟩, b1, b2, b3, b4, b5, b6, u, tk, nm⟩ := id rx
  obtain ⟨⟨v1, y1, x1⟩, ⟨v2, y2, x2⟩, ⟨v3, y3, x3⟩, ⟨v4, y4, x4⟩, ⟨v5, y5, x5⟩, tw⟩ := id tk
  have k401 := tw.2.1
  have w1 := u.at y1 (by omega) (by omega) (by omega)
  have w2 := u.at y2 (by omega) (by omega) (by omega)
  have w3 := u.at y3 (by omega) (by omega) (by omega)
  have w4 := u.at y4 (by omega) (by omega) (by omega)
  have w5 := u.at y5 (by omega) (by omega) (by omega)
  have z0 := a0.1
  have z1 := a1.1
  have l2_ := a2.1
  have l3_ := a3.1
  have l4_ := a4.1
  have kv : K.2.1 (pPo s) = kdP K s := by
    have e2 : kdP K s = kdT K (pPo s) := if_neg e1
    rw [e2, rx.ne42.1]
  have k43 := rx.ne42.2
  have so52 := soK_lt (K.2.1 (pPo s))
  refine tX12_act_0  (r := ?_)
  refine tX12_act_2  (r := ?_)
  refine tX12_act_3 (ha := (by first | assumption | (repeat (first | assumption | exact At.set_eq2 (by first | omega | (simp only [hset, hnew]; omega) | rfl | decide) | exact At.new_eq2 _ _ (by first | omega | (simp only [hset, hnew]; omega) | rfl | decide) | refine At.set_ne ?_ (by first | omega | (simp only [hset, hnew]; omega) | rfl | decide) | refine At.new_ne ?_)))) (hv := rfl) (r := ?_)
  refine tX12_act_6 (ha := (by first | assumption | (repeat (first | assumption | exact At.set_eq2 (by first | omega | (simp only [hset, hnew]; omega) | rfl | decide) | exact At.new_eq2 _ _ (by first | omega | (simp only [hset, hnew]; omega) | rfl | decide) | refine At.set_ne ?_ (by first | omega | (simp only [hset, hnew]; omega) | rfl | decide) | refine At.new_ne ?_)))) (hv := rfl) (r := ?_)
  refine tX12_act_9 (hd := (by omega)) (r := ?_)
  rw [nI_minN (by decide) (by omega), Nat.min_eq_right h60]
  refine tX12_act_12  (r := ?_)
  refine tX12_act_13  (r := ?_)
  refine tX12_act_14 (ha := (by first | assumption | (repeat (first | assumption | exact At.set_eq2 (by first | omega | (simp only [hset, hnew]; omega) | rfl | decide) | exact At.new_eq2 _ _ (by first | omega | (simp only [hset, hnew]; omega) | rfl | decide) | refine At.set_ne ?_ (by first | omega | (simp only [hset, hnew]; omega) | rfl | decide) | refine At.new_ne ?_)))) (hv := rfl) (r := ?_)
  refine tX12_act_17  (kt := fun c_ => by exfalso; rw [if_neg e1] at c_; exact c_ rfl) (kf := fun _ => ?_)
  refine tX12_act_20  (r := ?_)
  refine tX12_act_21 (ha := (by first | assumption | (repeat (first | assumption | exact At.set_eq2 (by first | omega | (simp only [hset, hnew]; omega) | rfl | decide) | exact At.new_eq2 _ _ (by first | omega | (simp only [hset, hnew]; omega) | rfl | decide) | refine At.set_ne ?_ (by first | omega | (simp only [hset, hnew]; omega) | rfl | decide) | refine At.new_ne ?_)))) (hv := rfl) (r := ?_)
  refine tX12_act_24  (r := ?_)
  refine tX12_act_25 (ha := (by first | assumption | (repeat (first | assumption | exact At.set_eq2 (by first | omega | (simp only [hset, hnew]; omega) | rfl | decide) | exact At.new_eq2 _ _ (by first | omega | (simp only [hset, hnew]; omega) | rfl | decide) | refine At.set_ne ?_ (by first | omega | (simp only [hset, hnew]; omega) | rfl | decide) | refine At.new_ne ?_)))) (hv := rfl) (r := ?_)
  refine tX12_act_28 (ha := (by first | assumption | (repeat (first | assumption | exact At.set_eq2 (by first | omega | (simp only [hset, hnew]; omega) | rfl | decide) | exact At.new_eq2 _ _ (by first | omega | (simp only [hset, hnew]; omega) | rfl | decide) | refine At.set_ne ?_ (by first | omega | (simp only [hset, hnew]; omega) | rfl | decide) | refine At.new_ne ?_)))) (hx := rfl) (hj := (by omega)) (hn := (by decide)) (r := ?_)
  rw [x2 _ b3]
  show RQ _ _ _ _ _ (.int (nI (soK (K.2.1 (pPo s)))) :: _) _ _
  refine tX12_act_29  (r := ?_)
  refine tX12_act_31  (r := ?_)
  refine tX12_act_33 (hd := (by omega)) (call := s_misIn (d := 3)) (k := ?_)
  rintro x_ h_ ⟨hx_, e_⟩
  rw [e_, hx_]
  refine tX12_act_36  (kt := fun c_36 => ?_) (kf := fun c_36 => ?_)
  · have es : ¬ (9 ≤ soK (K.2.1 (pPo s)) ∧ soK (K.2.1 (pPo s)) ≤ 14) := fun z => by
      rw [if_pos ⟨(nI_leI (by decide) (by omega)).mpr z.1, (nI_leI (by omega) (by decide)).mpr z.2⟩] at c_36
      exact absurd c_36 (by decide)
    refine tX12_act_53  (r := ?_)
    refine tX12_act_54 (hd := (by omega)) (ha := (by first | assumption | (repeat (first | assumption | exact At.set_eq2 (by first | omega | (simp only [hset, hnew]; omega) | rfl | decide) | exact At.new_eq2 _ _ (by first | omega | (simp only [hset, hnew]; omega) | rfl | decide) | refine At.set_ne ?_ (by first | omega | (simp only [hset, hnew]; omega) | rfl | decide) | refine At.new_ne ?_)))) (call := s_mwrong (d := 40) rx) (k := ?_)
    intro h1 rx1
    obtain ⟨-, -, -, -, -, -, -, -, -, -, -, u1, -⟩ := id rx1
    refine tX12_act_57  (hP := ?_)
    have nk : ¬ (kdP K s = 9 ∨ kdP K s = 11 ∨ kdP K s = 12 ∨ kdP K s = 13 ∨ kdP K s = 14) := by
      rw [← kv]
      rintro (z | z | z | z | z) <;> (rw [z] at es; exact es (by decide))
    have EQ := ac_bad e1 nk
    have ew : pPo (wrP s) = pPo s := by
      unfold wrP
      split <;> rfl
    refine ⟨rfl, g.2.2.2.2.1, no, RaM.er (s := s) (g := g) rx1.self EQ (by rw [wrP_er]; decide) (ax.to (fun i c a _ _ => u1.at a (by omega) (by omega) (by omega)) (fun z => ⟨z, rfl⟩)) h60 (u0.trans (u1.y (by omega))), by rw [← EQ.1, ew]; exact Nat.le_refl _, fun z => absurd ((EQ.2.1.symm.trans (wrP_er s))) z⟩
  · have es : 9 ≤ soK (K.2.1 (pPo s)) ∧ soK (K.2.1 (pPo s)) ≤ 14 := Classical.byContradiction (fun z => by
      rw [if_neg (fun q => z ⟨(nI_leI (by decide) (by omega)).mp q.1, (nI_leI (by omega) (by decide)).mp q.2⟩)] at c_36
      exact c_36 rfl)
    refine tX12_act_39  (r := ?_)
    refine tX12_act_40 (ha := (by first | assumption | (repeat (first | assumption | exact At.set_eq2 (by first | omega | (simp only [hset, hnew]; omega) | rfl | decide) | exact At.new_eq2 _ _ (by first | omega | (simp only [hset, hnew]; omega) | rfl | decide) | refine At.set_ne ?_ (by first | omega | (simp only [hset, hnew]; omega) | rfl | decide) | refine At.new_ne ?_)))) (hv := rfl) (r := ?_)
    refine tX12_act_43  (r := ?_)
    refine tX12_act_44 (ha := (by first | assumption | (repeat (first | assumption | exact At.set_eq2 (by first | omega | (simp only [hset, hnew]; omega) | rfl | decide) | exact At.new_eq2 _ _ (by first | omega | (simp only [hset, hnew]; omega) | rfl | decide) | refine At.set_ne ?_ (by first | omega | (simp only [hset, hnew]; omega) | rfl | decide) | refine At.new_ne ?_)))) (hv := rfl) (r := ?_)
    refine tX12_act_47 (ha := (by first | assumption | (repeat (first | assumption | exact At.set_eq2 (by first | omega | (simp only [hset, hnew]; omega) | rfl | decide) | exact At.new_eq2 _ _ (by first | omega | (simp only [hset, hnew]; omega) | rfl | decide) | refine At.set_ne ?_ (by first | omega | (simp only [hset, hnew]; omega) | rfl | decide) | refine At.new_ne ?_)))) (hx := rfl) (hj := (by omega)) (hn := (by decide)) (r := ?_)
    rw [x2 _ b3]
    show RQ _ _ _ _ _ (.int (nI (soK (K.2.1 (pPo s)))) :: _) _ _
    refine tX12_act_48  (r := ?_)
    refine tX12_act_50  (kt := fun c_50 => ?_) (kf := fun c_50 => ?_)
    · have ne10 : soK (K.2.1 (pPo s)) ≠ 10 := fun z => c_50 (congrArg nI z)
      have ek := so_act k43 es ne10
      rw [kv] at ek
      refine tX12_act_58  (r := ?_)
      refine tX12_act_59  (r := ?_)
      refine tX12_act_61  (kt := fun c_61 => ?_) (kf := fun c_61 => ?_)
      · have n60 : g.2.2.2.2.1 < 60 := by
          have : g.2.2.2.2.1 ≠ 60 := fun z => c_61 (congrArg nI z)
          omega
        have eab : Eqv s (abP s) := by
          by_cases z : pEr s = 0
          · rw [abP_eq (by rw [← hn z]; exact n60)]
            exact Eqv.ab.symm
          · unfold abP
            have z2 : ∀ n, rpP n s = s := fun n => if_neg z
            rw [z2, if_same]
            exact Eqv.ab.symm
        exact s_mact69 hd (rx.eqv eab) ax hn h60 u0 e1 ek
      · have n60 : g.2.2.2.2.1 = 60 := (nI_eq (by omega) (by decide)).mp c_61
        have eab : Eqv (rpP 4 s) (abP s) := by
          by_cases z : pEr s = 0
          · unfold abP
            rw [if_pos (by rw [← hn z, n60]; decide)]
            exact Eqv.ab.symm
          · have z2 : ∀ n, rpP n s = s := fun n => if_neg z
            unfold abP
            rw [z2, if_same]
            exact Eqv.ab.symm
        refine tX12_act_64  (r := ?_)
        refine tX12_act_65  (r := ?_)
        refine tX12_act_66 (hd := (by omega)) (ha := (by first | assumption | (repeat (first | assumption | exact At.set_eq2 (by first | omega | (simp only [hset, hnew]; omega) | rfl | decide) | exact At.new_eq2 _ _ (by first | omega | (simp only [hset, hnew]; omega) | rfl | decide) | refine At.set_ne ?_ (by first | omega | (simp only [hset, hnew]; omega) | rfl | decide) | refine At.new_ne ?_)))) (call := s_mmark (d := 40) rx (n := 4) (by decide)) (k := ?_)
        intro h1 rx1
        obtain ⟨-, -, -, -, -, -, -, -, -, -, -, u1, -⟩ := id rx1
        exact s_mact69 hd (rx1.self.eqv eab) (ax.to (fun i c a _ _ => u1.at a (by omega) (by omega) (by omega)) (fun z => ⟨z, rfl⟩)) hn h60 (u0.trans (u1.y (by omega))) e1 ek
    · have e10 : soK (K.2.1 (pPo s)) = 10 := (nI_eq (by omega) (by decide)).mp c_50
      refine tX12_act_53  (r := ?_)
      refine tX12_act_54 (hd := (by omega)) (ha := (by first | assumption | (repeat (first | assumption | exact At.set_eq2 (by first | omega | (simp only [hset, hnew]; omega) | rfl | decide) | exact At.new_eq2 _ _ (by first | omega | (simp only [hset, hnew]; omega) | rfl | decide) | refine At.set_ne ?_ (by first | omega | (simp only [hset, hnew]; omega) | rfl | decide) | refine At.new_ne ?_)))) (call := s_mwrong (d := 40) rx) (k := ?_)
      intro h1 rx1
      obtain ⟨-, -, -, -, -, -, -, -, -, -, -, u1, -⟩ := id rx1
      refine tX12_act_57  (hP := ?_)
      have nk : ¬ (kdP K s = 9 ∨ kdP K s = 11 ∨ kdP K s = 12 ∨ kdP K s = 13 ∨ kdP K s = 14) := by
        rw [← kv]
        rintro (z | z | z | z | z) <;> (rw [z] at e10; exact absurd e10 (by decide))
      have EQ := ac_bad e1 nk
      have ew : pPo (wrP s) = pPo s := by
        unfold wrP
        split <;> rfl
      refine ⟨rfl, g.2.2.2.2.1, no, RaM.er (s := s) (g := g) rx1.self EQ (by rw [wrP_er]; decide) (ax.to (fun i c a _ _ => u1.at a (by omega) (by omega) (by omega)) (fun z => ⟨z, rfl⟩)) h60 (u0.trans (u1.y (by omega))), by rw [← EQ.1, ew]; exact Nat.le_refl _, fun z => absurd ((EQ.2.1.symm.trans (wrP_er s))) z⟩

end RMI
