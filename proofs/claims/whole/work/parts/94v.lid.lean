/-! the reference's lines: lids -/
section RMV
variable {G : GT} {d : Nat} {h0 h h1 hA : AH} {m : Nat} {K : TKS} {T : List Nat} {L : Nat → Nat} {s s1 t a b c : PST} {dp : Nat} {g g1 : GCT} {no no1 : Nat} {P : OC → AH → Prop}
theorem rpO_df {o : Option Nat} : pDf (rpO o s) = pDf s := by
  unfold rpO
  split
  · exact rp_df
  · rfl
theorem li_up {v j l : Nat} (z : pEr b = 0) (ed : pDf b = pDf s) (lt : bLi (pBk s) < 6) : pBk (upP (liD v j l) b) = (bLa (pBk s), bJa (pBk s), bLi (pBk s) + 1, bSe (pBk s), bWy (pBk s), upN (bLl (pBk s)) (bLi (pBk s)) l, upN (bRu (pBk s)) (bLi (pBk s)) (bRs (pBk s), bRs (pBk s)), bRs (pBk s), bSc (pBk s), bNd (pBk s)) ∧ dfE (pDf (upP (liD v j l) b)) = dfE (pDf s) ∧ dfO (pDf (upP (liD v j l) b)) = upN (dfO (pDf s)) (bLi (pBk s)) j := by
  have e2 : liD v j l (pDf s) = ((bLa (pBk s), bJa (pBk s), bLi (pBk s) + 1, bSe (pBk s), bWy (pBk s), upN (bLl (pBk s)) (bLi (pBk s)) l, upN (bRu (pBk s)) (bLi (pBk s)) (bRs (pBk s), bRs (pBk s)), bRs (pBk s), bSc (pBk s), bNd (pBk s)), dfL (pDf s), dfJ (pDf s), upN (dfI (pDf s)) (bLi (pBk s)) v, dfE (pDf s), upN (dfO (pDf s)) (bLi (pBk s)) j) := if_pos lt
  rw [upP_e z]
  show (liD v j l (pDf b)).1 = _ ∧ dfE (liD v j l (pDf b)) = _ ∧ dfO (liD v j l (pDf b)) = _
  rw [ed, e2]
  exact ⟨rfl, rfl, rfl⟩
/-- what a lid's line does ahead of its rules -/
theorem i4_0 (h : pEr (i4P K s) = 0) : pEr s = 0 ∧ bLi (pBk s) < 6 ∧ pEr (tkP K 39 (jaP K (i1P K s))) = 0 ∧ pEr (i3P K (i2P K (i1P K s))) = 0 ∧ pBk (i4P K s) = (bLa (pBk s), bJa (pBk s), bLi (pBk s) + 1, bSe (pBk s), bWy (pBk s), upN (bLl (pBk s)) (bLi (pBk s)) ((lbO K (i2P K (i1P K s))).getD 0), upN (bRu (pBk s)) (bLi (pBk s)) (bRs (pBk s), bRs (pBk s)), bRs (pBk s), bSc (pBk s), bNd (pBk s)) ∧ dfE (pDf (i4P K s)) = dfE (pDf s) ∧ dfO (pDf (i4P K s)) = upN (dfO (pDf s)) (bLi (pBk s)) ((jbO K (i1P K s)).getD 0) := by
  unfold i4P at h ⊢
  have h3 := upP_er0 h
  have h3' := h3
  unfold i3P at h3'
  have h2 := laP_er0 (tkP_er h3').1
  unfold i2P at h2
  have h2b := (tkP_er h2).1
  have h1 := jaP_er0 (tkP_er h2b).1
  unfold i1P at h1
  have h0 := (tkP_er (tkP_er h1).1).1
  unfold niP at h0
  obtain ⟨z1, z2, z3, z4⟩ := nw_0 h0
  have z5 := of_decide_eq_false z3
  have zb : pBk (tkP K 5 s) = pBk s := congrArg (fun d : DRF => d.1) tk_df
  rw [zb] at z5
  have lt : bLi (pBk s) < 6 := by omega
  have ed : pDf (i3P K (i2P K (i1P K s))) = pDf s := by
    unfold i3P laP
    rw [tk_df, rpO_df]
    unfold i2P jaP
    rw [tk_df, tk_df, rpO_df]
    unfold i1P niP
    rw [tk_df, tk_df, z4, tk_df]
  have q := li_up (v := vaP K (niP K s)) (j := (jbO K (i1P K s)).getD 0) (l := (lbO K (i2P K (i1P K s))).getD 0) h3 ed lt
  exact ⟨(tkP_er z1).1, lt, h2b, h3, q.1, q.2.1, q.2.2⟩
theorem i4_lnr : Lnr (vaP K (niP K s)) (i1P K s) (tkP K 6 (tkP K 39 (upP (lnD (vaP K (niP K s))) (niP K s)))) := ((Lnr.st _).tk).tk

set_option maxHeartbeats 4000000 in
set_option maxRecDepth 100000 in
theorem s_mli71 (hd : 800 ≤ d) {x1 : Option Value} (kk : ∀ h1 ac1 ru1 no1 (s1 : PST), RrM h0 h1 m K T L s1 (gRu (gAc g ac1) ru1) no1 → s1 = rsP K 400 t → RQ G mX12_lid d 87 [some (.ref m), x1] [] h1 P) : ∀ (n : Nat) (h : AH) (s : PST) (ac ru no : Nat), rsP K n s = rsP K 400 t → (pEr s ≠ 1 → 400 ≤ n + pPo s) → (pEr s = 0 → RlK s) → RrM h0 h m K T L s (gRu (gAc g ac) ru) no → RQ G mX12_lid d 71 [some (.ref m), x1] [] h P := by
  intro n
  induction n with
  | zero =>
    intro h s ac ru no es hi hl rr
    have rx := rr.1.1
    obtain ⟨⟨th, by_, ea, a0⟩, -⟩ := id rx
    have nk : ¬ kdP K s = 8 := fun z => by
      have h1 := hi (rx.nx (by omega)).2
      exact rx.last (by omega) (by omega)
    refine tX12_lid_71  (r := ?_)
    refine tX12_lid_72  (r := ?_)
    refine tX12_lid_74 (hd := (by omega)) (ha := (by first | assumption | (repeat (first | assumption | exact At.set_eq2 (by first | omega | (simp only [hset, hnew]; omega) | rfl | decide) | exact At.new_eq2 _ _ (by first | omega | (simp only [hset, hnew]; omega) | rfl | decide) | refine At.set_ne ?_ (by first | omega | (simp only [hset, hnew]; omega) | rfl | decide) | refine At.new_ne ?_)))) (call := s_mis (d := 10) rx (k := 8) (by decide)) (k := ?_)
    rintro x_ h_ ⟨hx_, e_⟩
    rw [e_, hx_, if_neg nk]
    refine tX12_lid_77  (kf := fun c_ => by exfalso; exact c_ rfl) (kt := fun _ => ?_)
    exact kk h ac ru no s rr es
  | succ n ih =>
    intro h s ac ru no es hi hl rr
    have rx := rr.1.1
    obtain ⟨⟨th, by_, ea, a0⟩, -⟩ := id rx
    by_cases ek : kdP K s = 8
    · have en : rsP K (n + 1) s = rsP K n (rlP K s) := if_pos ek
      have e1 := (rx.nx (by omega)).2
      have hi1 := hi e1
      refine tX12_lid_71  (r := ?_)
      refine tX12_lid_72  (r := ?_)
      refine tX12_lid_74 (hd := (by omega)) (ha := (by first | assumption | (repeat (first | assumption | exact At.set_eq2 (by first | omega | (simp only [hset, hnew]; omega) | rfl | decide) | exact At.new_eq2 _ _ (by first | omega | (simp only [hset, hnew]; omega) | rfl | decide) | refine At.set_ne ?_ (by first | omega | (simp only [hset, hnew]; omega) | rfl | decide) | refine At.new_ne ?_)))) (call := s_mis (d := 10) rx (k := 8) (by decide)) (k := ?_)
      rintro x_ h_ ⟨hx_, e_⟩
      rw [e_, hx_, if_pos ek]
      refine tX12_lid_77  (kt := fun c_ => by exfalso; exact absurd c_ (by decide)) (kf := fun _ => ?_)
      refine tX12_lid_80  (r := ?_)
      refine tX12_lid_81 (hd := (by omega)) (ha := (by first | assumption | (repeat (first | assumption | exact At.set_eq2 (by first | omega | (simp only [hset, hnew]; omega) | rfl | decide) | exact At.new_eq2 _ _ (by first | omega | (simp only [hset, hnew]; omega) | rfl | decide) | refine At.set_ne ?_ (by first | omega | (simp only [hset, hnew]; omega) | rfl | decide) | refine At.new_ne ?_)))) (call := s_mrule (d := 750) (by decide) rr e1 (fun z => (hl z).1)) (k := ?_)
      rintro h2 ⟨ac2, ru2, no2, rr2, hb2, hp2⟩
      refine tX12_lid_84 (r := ?_)
      exact ih h2 (rlP K s) ac2 ru2 no2 (en.symm.trans es) (fun z => by have := hp2 z; omega) (fun z => (rl_I z (fun w => (hl w).1)).1.key (hl (rl_0 z (fun w => (hl w).1)).1).1) rr2
    · have en : rsP K (n + 1) s = s := if_neg ek
      refine tX12_lid_71  (r := ?_)
      refine tX12_lid_72  (r := ?_)
      refine tX12_lid_74 (hd := (by omega)) (ha := (by first | assumption | (repeat (first | assumption | exact At.set_eq2 (by first | omega | (simp only [hset, hnew]; omega) | rfl | decide) | exact At.new_eq2 _ _ (by first | omega | (simp only [hset, hnew]; omega) | rfl | decide) | refine At.set_ne ?_ (by first | omega | (simp only [hset, hnew]; omega) | rfl | decide) | refine At.new_ne ?_)))) (call := s_mis (d := 10) rx (k := 8) (by decide)) (k := ?_)
      rintro x_ h_ ⟨hx_, e_⟩
      rw [e_, hx_, if_neg ek]
      refine tX12_lid_77  (kf := fun c_ => by exfalso; exact c_ rfl) (kt := fun _ => ?_)
      exact kk h ac ru no s rr (en.symm.trans es)

set_option maxHeartbeats 4000000 in
set_option maxRecDepth 100000 in
theorem s_mli21 (hd : 40 ≤ d) (rx : RxM h h m K T L a 0 g no) {k : Nat} (hk : k ≤ 6) {f4 f5 f6 : Nat → Int32} (r4 : At h (m + 28 + 4) (.inl (0, 7, .inl f4))) (r5 : At h (m + 28 + 5) (.inl (0, 7, .inl f5))) (r6 : At h (m + 28 + 6) (.inl (0, 7, .inl f6))) (kk : ∀ h1 v1 v2, RxM h1 h1 m K T L (tkP K 39 (laP K (tkP K 7 (tkP K 39 (jaP K a))))) 0 g no → At h1 (m + 28 + 4) (.inl (0, 7, .inl (upd f4 k v1))) → At h1 (m + 28 + 5) (.inl (0, 7, .inl (upd f5 k v2))) → At h1 (m + 28 + 6) (.inl (0, 7, .inl (upd f6 k (nI g.2.2.2.1)))) → (pEr (tkP K 39 (jaP K a)) = 0 → v1 = nI ((jbO K a).getD 0)) → (pEr (tkP K 39 (laP K (tkP K 7 (tkP K 39 (jaP K a))))) = 0 → v2 = nI ((lbO K (tkP K 7 (tkP K 39 (jaP K a)))).getD 0)) → Kp h h1 m (fun i => i = m + 28 + 4 ∨ i = m + 28 + 5 ∨ i = m + 28 + 6) → RQ G mX12_lid d 71 [some (.ref m), some (.int (nI k))] [] h1 P) : RQ G mX12_lid d 21 [some (.ref m), some (.int (nI k))] [] h P := by
  obtain ⟨⟨th, by_, ea, a0⟩, a1, -⟩ := id rx
  have l5_ := r5.1
  have l6_ := r6.1
  refine tX12_lid_21  (r := ?_)
  refine tX12_lid_22 (ha := (by first | assumption | (repeat (first | assumption | exact At.set_eq2 (by first | omega | (simp only [hset, hnew]; omega) | rfl | decide) | exact At.new_eq2 _ _ (by first | omega | (simp only [hset, hnew]; omega) | rfl | decide) | refine At.set_ne ?_ (by first | omega | (simp only [hset, hnew]; omega) | rfl | decide) | refine At.new_ne ?_)))) (hv := rfl) (r := ?_)
  refine tX12_lid_25 (ha := (by first | assumption | (repeat (first | assumption | exact At.set_eq2 (by first | omega | (simp only [hset, hnew]; omega) | rfl | decide) | exact At.new_eq2 _ _ (by first | omega | (simp only [hset, hnew]; omega) | rfl | decide) | refine At.set_ne ?_ (by first | omega | (simp only [hset, hnew]; omega) | rfl | decide) | refine At.new_ne ?_)))) (hv := rfl) (r := ?_)
  refine tX12_lid_28  (r := ?_)
  refine tX12_lid_29  (r := ?_)
  refine tX12_lid_30  (r := ?_)
  refine tX12_lid_31 (hd := (by omega)) (ha := (by first | assumption | (repeat (first | assumption | exact At.set_eq2 (by first | omega | (simp only [hset, hnew]; omega) | rfl | decide) | exact At.new_eq2 _ _ (by first | omega | (simp only [hset, hnew]; omega) | rfl | decide) | refine At.set_ne ?_ (by first | omega | (simp only [hset, hnew]; omega) | rfl | decide) | refine At.new_ne ?_)))) (call := s_mname (d := 20) (by decide) rx (w := 1) (by decide)) (k := ?_)
  rintro v1 h1 ⟨hv1, rx1⟩
  rw [nb_1, jaP_eq] at hv1 rx1
  obtain ⟨⟨th1, by1, ea1, p1⟩, pp1, -, -, -, -, -, -, -, -, -, u1, -⟩ := id rx1
  have w4 := u1.at r4 (by omega) (by omega) (by omega)
  have w5 := u1.at r5 (by omega) (by omega) (by omega)
  have w6 := u1.at r6 (by omega) (by omega) (by omega)
  have l4 := w4.1
  have rx2 := rx1.self.out (i := m + 28 + 4) (c := (.inl (0, 7, .inl (upd f4 k v1)))) (by omega)
  have q4 := At.set_eq2 (c := (.inl (0, 7, .inl (upd f4 k v1)))) l4
  have q5 := At.set_ne (i := m + 28 + 4) (c := (.inl (0, 7, .inl (upd f4 k v1)))) w5 (by omega)
  have q6 := At.set_ne (i := m + 28 + 4) (c := (.inl (0, 7, .inl (upd f4 k v1)))) w6 (by omega)
  have p1b := At.set_ne (i := m + 28 + 4) (c := (.inl (0, 7, .inl (upd f4 k v1)))) p1 (by omega)
  have k1 := (Ux.kp (S := (fun i => i = m + 28 + 4 ∨ i = m + 28 + 5 ∨ i = m + 28 + 6)) u1).set (i := m + 28 + 4) (c := (.inl (0, 7, .inl (upd f4 k v1)))) (by omega)
  refine tX12_lid_34 (ha := w4) (hx := rfl) (hj := (by omega)) (hn := (by decide)) (r := ?_)
  refine tX12_lid_35  (r := ?_)
  refine tX12_lid_36  (r := ?_)
  refine tX12_lid_38 (hd := (by omega)) (ha := (by first | assumption | (repeat (first | assumption | exact At.set_eq2 (by first | omega | (simp only [hset, hnew]; omega) | rfl | decide) | exact At.new_eq2 _ _ (by first | omega | (simp only [hset, hnew]; omega) | rfl | decide) | refine At.set_ne ?_ (by first | omega | (simp only [hset, hnew]; omega) | rfl | decide) | refine At.new_ne ?_)))) (call := s_mtake (d := 20) (by decide) rx2 (k := 7) (by decide)) (k := ?_)
  intro h3 rx3
  obtain ⟨⟨th3, by3, ea3, p3⟩, pp3, -, -, -, -, -, -, -, -, -, u3, -⟩ := id rx3
  refine tX12_lid_41  (r := ?_)
  refine tX12_lid_42 (ha := (by first | assumption | (repeat (first | assumption | exact At.set_eq2 (by first | omega | (simp only [hset, hnew]; omega) | rfl | decide) | exact At.new_eq2 _ _ (by first | omega | (simp only [hset, hnew]; omega) | rfl | decide) | refine At.set_ne ?_ (by first | omega | (simp only [hset, hnew]; omega) | rfl | decide) | refine At.new_ne ?_)))) (hv := rfl) (r := ?_)
  refine tX12_lid_45 (ha := (by first | assumption | (repeat (first | assumption | exact At.set_eq2 (by first | omega | (simp only [hset, hnew]; omega) | rfl | decide) | exact At.new_eq2 _ _ (by first | omega | (simp only [hset, hnew]; omega) | rfl | decide) | refine At.set_ne ?_ (by first | omega | (simp only [hset, hnew]; omega) | rfl | decide) | refine At.new_ne ?_)))) (hv := rfl) (r := ?_)
  refine tX12_lid_48  (r := ?_)
  refine tX12_lid_49  (r := ?_)
  refine tX12_lid_50  (r := ?_)
  refine tX12_lid_51 (hd := (by omega)) (ha := (by first | assumption | (repeat (first | assumption | exact At.set_eq2 (by first | omega | (simp only [hset, hnew]; omega) | rfl | decide) | exact At.new_eq2 _ _ (by first | omega | (simp only [hset, hnew]; omega) | rfl | decide) | refine At.set_ne ?_ (by first | omega | (simp only [hset, hnew]; omega) | rfl | decide) | refine At.new_ne ?_)))) (call := s_mname (d := 20) (by decide) rx3 (w := 0) (by decide)) (k := ?_)
  rintro v2 h4 ⟨hv2, rx4⟩
  rw [nb_0, laP_eq] at hv2 rx4
  obtain ⟨⟨th4, by4, ea4, p4⟩, pp4, -, -, -, -, -, -, -, -, -, u4, -⟩ := id rx4
  have y4 := u4.at q4 (by omega) (by omega) (by omega)
  have y5 := u4.at q5 (by omega) (by omega) (by omega)
  have y6 := u4.at q6 (by omega) (by omega) (by omega)
  have l5 := y5.1
  have l6 := y6.1
  have rx5 := (rx4.self.out (i := m + 28 + 5) (c := (.inl (0, 7, .inl (upd f5 k v2)))) (by omega)).out (i := m + 28 + 6) (c := (.inl (0, 7, .inl (upd f6 k (nI g.2.2.2.1))))) (by omega)
  have k2 := ((k1.trans (Ux.kp u4)).set (i := m + 28 + 5) (c := (.inl (0, 7, .inl (upd f5 k v2)))) (by omega)).set (i := m + 28 + 6) (c := (.inl (0, 7, .inl (upd f6 k (nI g.2.2.2.1))))) (by omega)
  refine tX12_lid_54 (ha := y5) (hx := rfl) (hj := (by omega)) (hn := (by decide)) (r := ?_)
  refine tX12_lid_55  (r := ?_)
  refine tX12_lid_56 (ha := (by first | assumption | (repeat (first | assumption | exact At.set_eq2 (by first | omega | (simp only [hset, hnew]; omega) | rfl | decide) | exact At.new_eq2 _ _ (by first | omega | (simp only [hset, hnew]; omega) | rfl | decide) | refine At.set_ne ?_ (by first | omega | (simp only [hset, hnew]; omega) | rfl | decide) | refine At.new_ne ?_)))) (hv := rfl) (r := ?_)
  refine tX12_lid_59 (ha := (by first | assumption | (repeat (first | assumption | exact At.set_eq2 (by first | omega | (simp only [hset, hnew]; omega) | rfl | decide) | exact At.new_eq2 _ _ (by first | omega | (simp only [hset, hnew]; omega) | rfl | decide) | refine At.set_ne ?_ (by first | omega | (simp only [hset, hnew]; omega) | rfl | decide) | refine At.new_ne ?_)))) (hv := rfl) (r := ?_)
  refine tX12_lid_62  (r := ?_)
  refine tX12_lid_63  (r := ?_)
  refine tX12_lid_64 (ha := (by first | assumption | (repeat (first | assumption | exact At.set_eq2 (by first | omega | (simp only [hset, hnew]; omega) | rfl | decide) | exact At.new_eq2 _ _ (by first | omega | (simp only [hset, hnew]; omega) | rfl | decide) | refine At.set_ne ?_ (by first | omega | (simp only [hset, hnew]; omega) | rfl | decide) | refine At.new_ne ?_)))) (hv := rfl) (r := ?_)
  refine tX12_lid_67 (ha := (by first | assumption | (repeat (first | assumption | exact At.set_eq2 (by first | omega | (simp only [hset, hnew]; omega) | rfl | decide) | exact At.new_eq2 _ _ (by first | omega | (simp only [hset, hnew]; omega) | rfl | decide) | refine At.set_ne ?_ (by first | omega | (simp only [hset, hnew]; omega) | rfl | decide) | refine At.new_ne ?_)))) (hv := rfl) (r := ?_)
  refine tX12_lid_70 (ha := (At.set_ne y6 (by omega))) (hx := rfl) (hj := (by omega)) (hn := (by decide)) (r := ?_)
  exact kk _ v1 v2 rx5 (At.set_ne (At.set_ne y4 (by omega)) (by omega)) (At.set_ne (At.set_eq2 l5) (by omega)) (At.set_eq2 l6) hv1 hv2 k2

end RMV
