/-! the reference reads all lines -/
section RMY
variable {G : GT} {d : Nat} {h0 h h1 hA : AH} {m : Nat} {K : TKS} {T : List Nat} {L : Nat → Nat} {s s1 t a b c : PST} {dp : Nat} {g g1 : GCT} {no no1 : Nat} {P : OC → AH → Prop}
theorem RlM.tk {w : Nat} (rl : RlM h0 h m K T L s g no) (rx : RxM h h1 m K T L (tkP K w s) 0 g no) : RlM h0 h1 m K T L (tkP K w s) g no := by
  obtain ⟨-, -, -, -, -, -, -, -, -, -, -, u1, -⟩ := id rx
  obtain ⟨rr, ln, hg, g6, g8, gi6, kp⟩ := rl
  have pb : pBk (tkP K w s) = pBk s := congrArg (fun d : DRF => d.1) tk_df
  refine ⟨rr.to rx.self (fun i c a e1 e2 => u1.at a (by omega) (by omega) (by omega)) ⟨rfl, rfl⟩ (fun z => ⟨(tkP_er z).1, by rw [pb], by rw [pb], by rw [pb], by rw [pb]⟩), ln.to (fun i c a e1 e2 => u1.at a (by omega) (by omega) (by omega)) (fun z => ⟨(tkP_er z).1, ?_⟩), fun z => ?_, g6, g8, gi6, kp.trans (Ux.kp u1)⟩
  · unfold lnS
    rw [pb, tk_df]
  · rw [pb]
    exact hg (tkP_er z).1

set_option maxHeartbeats 4000000 in
set_option maxRecDepth 100000 in
theorem s_mlines (hd : 1000 ≤ d) (kk : ∀ h1 g1 no1 (s1 : PST), RlM h0 h1 m K T L s1 g1 no1 → s1 = lsP K 400 t → (pEr s1 = 1 ∨ kdP K s1 = 41) → RQ G mX12_teach d 75 [some (.ref m)] [] h1 P) : ∀ (n : Nat) (h : AH) (s : PST) (g : GCT) (no : Nat), lsP K n s = lsP K 400 t → (pEr s ≠ 1 → 800 ≤ 2 * n + pPo s) → PiE s → RlM h0 h m K T L s g no → RQ G mX12_teach d 41 [some (.ref m)] [] h P := by
  intro n
  induction n with
  | zero =>
    intro h s g no es hi hz rl
    have rx := rl.1.1.1
    obtain ⟨⟨th, by_, ea, a0⟩, a1, ⟨q2, a2, c2⟩, ⟨q3, a3, c3⟩, ⟨q4, a4, c4⟩, b1, b2, b3, b4, b5, b6, u, tk, nm⟩ := id rx
    obtain ⟨⟨v1, y1, x1⟩, ⟨v2, y2, x2⟩, ⟨v3, y3, x3⟩, ⟨v4, y4, x4⟩, ⟨v5, y5, x5⟩, tw⟩ := id tk
    have k401 := tw.2.1
    have w1 := u.at y1 (by omega) (by omega) (by omega)
    have w2 := u.at y2 (by omega) (by omega) (by omega)
    have w3 := u.at y3 (by omega) (by omega) (by omega)
    have w4 := u.at y4 (by omega) (by omega) (by omega)
    have w5 := u.at y5 (by omega) (by omega) (by omega)
    have z0 := a0.1
    have z1 := a1.1
    have l2_ := a2.1
    have l3_ := a3.1
    have l4_ := a4.1
    have e1 : pEr s = 1 := Classical.byContradiction (fun z => by
      have := hi z
      omega)
    refine tX12_teach_41  (r := ?_)
    refine tX12_teach_42 (ha := (by first | assumption | (repeat (first | assumption | exact At.set_eq2 (by first | omega | (simp only [hset, hnew]; omega) | rfl | decide) | exact At.new_eq2 _ _ (by first | omega | (simp only [hset, hnew]; omega) | rfl | decide) | refine At.set_ne ?_ (by first | omega | (simp only [hset, hnew]; omega) | rfl | decide) | refine At.new_ne ?_)))) (hv := rfl) (r := ?_)
    refine tX12_teach_45  (kf := fun c_ => by exfalso; rw [if_pos e1] at c_; exact absurd c_ (by decide)) (kt := fun _ => ?_)
    exact kk h g no s rl es (Or.inl e1)
  | succ n ih =>
    intro h s g no es hi hz rl
    have rx := rl.1.1.1
    obtain ⟨⟨th, by_, ea, a0⟩, a1, ⟨q2, a2, c2⟩, ⟨q3, a3, c3⟩, ⟨q4, a4, c4⟩, b1, b2, b3, b4, b5, b6, u, tk, nm⟩ := id rx
    obtain ⟨⟨v1, y1, x1⟩, ⟨v2, y2, x2⟩, ⟨v3, y3, x3⟩, ⟨v4, y4, x4⟩, ⟨v5, y5, x5⟩, tw⟩ := id tk
    have k401 := tw.2.1
    have w1 := u.at y1 (by omega) (by omega) (by omega)
    have w2 := u.at y2 (by omega) (by omega) (by omega)
    have w3 := u.at y3 (by omega) (by omega) (by omega)
    have w4 := u.at y4 (by omega) (by omega) (by omega)
    have w5 := u.at y5 (by omega) (by omega) (by omega)
    have z0 := a0.1
    have z1 := a1.1
    have l2_ := a2.1
    have l3_ := a3.1
    have l4_ := a4.1
    refine tX12_teach_41  (r := ?_)
    refine tX12_teach_42 (ha := (by first | assumption | (repeat (first | assumption | exact At.set_eq2 (by first | omega | (simp only [hset, hnew]; omega) | rfl | decide) | exact At.new_eq2 _ _ (by first | omega | (simp only [hset, hnew]; omega) | rfl | decide) | refine At.set_ne ?_ (by first | omega | (simp only [hset, hnew]; omega) | rfl | decide) | refine At.new_ne ?_)))) (hv := rfl) (r := ?_)
    refine tX12_teach_45  (kt := fun c_45 => ?_) (kf := fun c_45 => ?_)
    · have e1 : pEr s = 1 := Classical.byContradiction (fun z => by rw [if_neg z] at c_45; exact c_45 rfl)
      have en : lsP K (n + 1) s = s := if_neg (fun z => z.2 e1)
      exact kk h g no s rl (en.symm.trans es) (Or.inl e1)
    · have e1 : ¬ pEr s = 1 := fun z => by rw [if_pos z] at c_45; exact absurd c_45 (by decide)
      have kv : K.2.1 (pPo s) = kdP K s := by
        have e2 : kdP K s = kdT K (pPo s) := if_neg e1
        rw [e2, rx.ne42.1]
      have k43 := rx.ne42.2
      have so52 := soK_lt (K.2.1 (pPo s))
      refine tX12_teach_48  (r := ?_)
      refine tX12_teach_49 (ha := (by first | assumption | (repeat (first | assumption | exact At.set_eq2 (by first | omega | (simp only [hset, hnew]; omega) | rfl | decide) | exact At.new_eq2 _ _ (by first | omega | (simp only [hset, hnew]; omega) | rfl | decide) | refine At.set_ne ?_ (by first | omega | (simp only [hset, hnew]; omega) | rfl | decide) | refine At.new_ne ?_)))) (hv := rfl) (r := ?_)
      refine tX12_teach_52  (r := ?_)
      refine tX12_teach_53 (ha := (by first | assumption | (repeat (first | assumption | exact At.set_eq2 (by first | omega | (simp only [hset, hnew]; omega) | rfl | decide) | exact At.new_eq2 _ _ (by first | omega | (simp only [hset, hnew]; omega) | rfl | decide) | refine At.set_ne ?_ (by first | omega | (simp only [hset, hnew]; omega) | rfl | decide) | refine At.new_ne ?_)))) (hv := rfl) (r := ?_)
      refine tX12_teach_56 (ha := (by first | assumption | (repeat (first | assumption | exact At.set_eq2 (by first | omega | (simp only [hset, hnew]; omega) | rfl | decide) | exact At.new_eq2 _ _ (by first | omega | (simp only [hset, hnew]; omega) | rfl | decide) | refine At.set_ne ?_ (by first | omega | (simp only [hset, hnew]; omega) | rfl | decide) | refine At.new_ne ?_)))) (hx := rfl) (hj := (by omega)) (hn := (by decide)) (r := ?_)
      rw [x2 _ b3]
      show RQ _ _ _ _ _ (.int (nI (soK (K.2.1 (pPo s)))) :: _) _ _
      refine tX12_teach_57  (r := ?_)
      refine tX12_teach_59  (kt := fun c_59 => ?_) (kf := fun c_59 => ?_)
      · have e41 : K.2.1 (pPo s) = 41 := soK_inj k43 (by decide) ((nI_eq (by omega) (by decide)).mp c_59)
        rw [kv] at e41
        have en : lsP K (n + 1) s = s := if_neg (fun z => z.1 e41)
        exact kk h g no s rl (en.symm.trans es) (Or.inr e41)
      · have e41 : kdP K s ≠ 41 := fun z => c_59 (by rw [kv, z]; rfl)
        have en : lsP K (n + 1) s = lsP K n (tkP K 31 (lnP K s)) := if_pos ⟨e41, e1⟩
        have h9 := hi e1
        refine tX12_teach_62  (r := ?_)
        refine tX12_teach_63 (hd := (by omega)) (ha := (by first | assumption | (repeat (first | assumption | exact At.set_eq2 (by first | omega | (simp only [hset, hnew]; omega) | rfl | decide) | exact At.new_eq2 _ _ (by first | omega | (simp only [hset, hnew]; omega) | rfl | decide) | refine At.set_ne ?_ (by first | omega | (simp only [hset, hnew]; omega) | rfl | decide) | refine At.new_ne ?_)))) (call := s_mline (d := 980) (by decide) rl hz) (k := ?_)
        rintro h1 ⟨g1, no1, rl1⟩
        obtain ⟨⟨th1, by1, ea1, p1_⟩, -⟩ := id rl1.1.1.1
        refine tX12_teach_66  (r := ?_)
        refine tX12_teach_67  (r := ?_)
        refine tX12_teach_69 (hd := (by omega)) (ha := (by first | assumption | (repeat (first | assumption | exact At.set_eq2 (by first | omega | (simp only [hset, hnew]; omega) | rfl | decide) | exact At.new_eq2 _ _ (by first | omega | (simp only [hset, hnew]; omega) | rfl | decide) | refine At.set_ne ?_ (by first | omega | (simp only [hset, hnew]; omega) | rfl | decide) | refine At.new_ne ?_)))) (call := s_mtake (d := 980) (by decide) rl1.1.1.1 (k := 31) (by decide)) (k := ?_)
        intro h2 rx2
        refine tX12_teach_72 (r := ?_)
        exact ih h2 (tkP K 31 (lnP K s)) g1 no1 (en.symm.trans es) (fun z => by
          have q1 := tkP_po1 z
          have q2 : pEr (lnP K s) ≠ 1 := fun w => z (by rw [tkP_1 w]; exact w)
          have q3 := ln_po q2 e1
          omega) (hz.ln.tk) (rl1.tk rx2)

end RMY
