/-! the reference's line, whichever it is -/
section RMX
variable {G : GT} {d : Nat} {h0 h h1 hA : AH} {m : Nat} {K : TKS} {T : List Nat} {L : Nat → Nat} {s s1 t a b c : PST} {dp : Nat} {g g1 : GCT} {no no1 : Nat} {P : OC → AH → Prop}
theorem rs_w : ∀ (n : Nat) (s : PST), kdP K s ≠ 8 → rsP K n s = s
  | 0, _, _ => rfl
  | _ + 1, _, h => if_neg h
theorem rpO_w {o : Option Nat} (h : pEr s ≠ 0) : rpO o s = s := by
  unfold rpO
  rw [rp_no h, if_same]
/-- a line that begins with another word -/
theorem ln_bad (h : kdP K s ≠ 0 ∧ kdP K s ≠ 1 ∧ kdP K s ≠ 5) : lnP K s = wrP s := by
  have e0 : lnP K s = ilP K s := by
    unfold lnP
    rw [if_neg h.1, if_neg h.2.1]
  have w1 := wrP_er s
  have w0 : pEr (wrP s) ≠ 0 := by omega
  have e1 : niP K s = wrP s := by
    unfold niP
    rw [tkP_wr h.2.2, nw_e w0]
  have e2 : i1P K s = wrP s := by
    unfold i1P
    rw [e1, tkP_1 w1, tkP_1 w1]
  have e3 : i2P K (wrP s) = wrP s := by
    unfold i2P jaP
    rw [rpO_w w0, tkP_1 w1, tkP_1 w1]
  have e4 : i3P K (wrP s) = wrP s := by
    unfold i3P laP
    rw [rpO_w w0, tkP_1 w1]
  have e5 : i4P K s = wrP s := by
    unfold i4P
    rw [e2, e3, e4, upP_n w0]
  rw [e0]
  unfold ilP
  rw [e5]
  exact rs_w 400 _ (by rw [show kdP K (wrP s) = 42 from if_pos w1]; decide)
/-- beans of jars to come are none -/
def PiE (s : PST) : Prop := pEr s = 0 → ∀ j l, bJa (pBk s) ≤ j → dfE (pDf s) j l = 0
theorem PiE.tk {w : Nat} (p : PiE s) : PiE (tkP K w s) := fun z j l hj => by
  have pb : pBk (tkP K w s) = pBk s := congrArg (fun d : DRF => d.1) tk_df
  rw [pb] at hj
  rw [tk_df]
  exact p (tkP_er z).1 j l hj
theorem PiE.ln (p : PiE s) : PiE (lnP K s) := fun z => by
  by_cases k0 : kdP K s = 0
  · have e : lnP K s = llP K s := if_pos k0
    rw [e] at z ⊢
    obtain ⟨z1, z2, z3⟩ := ll_0 z
    have q := la_get z3 z2
    intro j l hj
    rw [q.2.1] at hj
    have q3 := congrArg (fun x : LNS => x.2.2.1) q.2.2.2.1
    have q4 : dfE (pDf (llP K s)) = dfE (pDf s) := q3
    rw [q4]
    exact p z1 j l hj
  · by_cases k1 : kdP K s = 1
    · have e : lnP K s = jlP K s := by
        unfold lnP
        rw [if_neg k0, if_pos k1]
      rw [e] at z ⊢
      obtain ⟨z1, z2, -, -, -, -, zB, zE, -⟩ := jl_0 z
      intro j l hj
      rw [zB] at hj
      have hj2 : bJa (pBk s) + 1 ≤ j := hj
      rw [zE j (by omega)]
      exact p z1 j l (by omega)
    · have e : lnP K s = ilP K s := by
        unfold lnP
        rw [if_neg k0, if_neg k1]
      rw [e] at z ⊢
      obtain ⟨z1, -, -, -, -, zJ, -, -, -, -, zE, -⟩ := il_1 z
      intro j l hj
      rw [zJ] at hj
      rw [zE]
      exact p z1 j l hj

set_option maxHeartbeats 4000000 in
set_option maxRecDepth 100000 in
theorem s_mline1 (hd : 70 ≤ d) (rl : RlM h0 h m K T L s g no) (ek : kdP K s = 1) (hz : PiE s) : RQ G mX12_line d 0 [some (.ref m)] [] h (Rv fun h1 => ∃ g1 no1, RlM h0 h1 m K T L (lnP K s) g1 no1) := by
  have rx := rl.1.1.1
  obtain ⟨⟨th, by_, ea, a0⟩, a1, -⟩ := id rx
  refine tX12_line_0  (r := ?_)
  refine tX12_line_1  (r := ?_)
  refine tX12_line_2 (hd := (by omega)) (ha := (by first | assumption | (repeat (first | assumption | exact At.set_eq2 (by first | omega | (simp only [hset, hnew]; omega) | rfl | decide) | exact At.new_eq2 _ _ (by first | omega | (simp only [hset, hnew]; omega) | rfl | decide) | refine At.set_ne ?_ (by first | omega | (simp only [hset, hnew]; omega) | rfl | decide) | refine At.new_ne ?_)))) (call := s_mtakes (d := 20) (by omega) rx (k := 0) (by decide)) (k := ?_)
  rintro x_ h_ ⟨hx_, -, tn_⟩
  have e_ := tn_ (by omega)
  rw [e_, hx_, if_neg (by omega)]
  refine tX12_line_5  (kf := fun c_ => by exfalso; exact c_ rfl) (kt := fun _ => ?_)
  refine tX12_line_39  (r := ?_)
  refine tX12_line_40  (r := ?_)
  refine tX12_line_41 (hd := (by omega)) (ha := (by first | assumption | (repeat (first | assumption | exact At.set_eq2 (by first | omega | (simp only [hset, hnew]; omega) | rfl | decide) | exact At.new_eq2 _ _ (by first | omega | (simp only [hset, hnew]; omega) | rfl | decide) | refine At.set_ne ?_ (by first | omega | (simp only [hset, hnew]; omega) | rfl | decide) | refine At.new_ne ?_)))) (call := s_mtakes (d := 20) (by omega) rx (k := 1) (by decide)) (k := ?_)
  rintro x_ h1 ⟨hx_, ty_, -⟩
  have rx1 := ty_ ek
  rw [hx_, if_pos ek]
  obtain ⟨⟨th1, by1, ea1, p1_⟩, pp1, -, -, -, -, -, -, -, -, -, u1, -⟩ := id rx1
  refine tX12_line_44  (kt := fun c_ => by exfalso; exact absurd c_ (by decide)) (kf := fun _ => ?_)
  refine tX12_line_47  (r := ?_)
  refine tX12_line_48 (hd := (by omega)) (ha := (by first | assumption | (repeat (first | assumption | exact At.set_eq2 (by first | omega | (simp only [hset, hnew]; omega) | rfl | decide) | exact At.new_eq2 _ _ (by first | omega | (simp only [hset, hnew]; omega) | rfl | decide) | refine At.set_ne ?_ (by first | omega | (simp only [hset, hnew]; omega) | rfl | decide) | refine At.new_ne ?_)))) (call := s_mjarl (d := 60) (by decide) rl rx1.self (Ux.kp u1) ek (fun z l => hz z _ l (Nat.le_refl _))) (k := ?_)
  rintro h2 ⟨g2, no2, rl2⟩
  refine tX12_line_51 (r := ?_)
  refine tX12_line_73  (hP := ?_)
  have e : lnP K s = jlP K s := by
    unfold lnP
    rw [if_neg (by omega), if_pos ek]
  rw [e]
  exact ⟨rfl, g2, no2, rl2⟩

set_option maxHeartbeats 4000000 in
set_option maxRecDepth 100000 in
theorem s_mline5 (hd : 950 ≤ d) (rl : RlM h0 h m K T L s g no) (ek : kdP K s = 5) : RQ G mX12_line d 0 [some (.ref m)] [] h (Rv fun h1 => ∃ g1 no1, RlM h0 h1 m K T L (lnP K s) g1 no1) := by
  have rx := rl.1.1.1
  obtain ⟨⟨th, by_, ea, a0⟩, a1, -⟩ := id rx
  refine tX12_line_0  (r := ?_)
  refine tX12_line_1  (r := ?_)
  refine tX12_line_2 (hd := (by omega)) (ha := (by first | assumption | (repeat (first | assumption | exact At.set_eq2 (by first | omega | (simp only [hset, hnew]; omega) | rfl | decide) | exact At.new_eq2 _ _ (by first | omega | (simp only [hset, hnew]; omega) | rfl | decide) | refine At.set_ne ?_ (by first | omega | (simp only [hset, hnew]; omega) | rfl | decide) | refine At.new_ne ?_)))) (call := s_mtakes (d := 20) (by omega) rx (k := 0) (by decide)) (k := ?_)
  rintro x_ h_ ⟨hx_, -, tn_⟩
  have e_ := tn_ (by omega)
  rw [e_, hx_, if_neg (by omega)]
  refine tX12_line_5  (kf := fun c_ => by exfalso; exact c_ rfl) (kt := fun _ => ?_)
  refine tX12_line_39  (r := ?_)
  refine tX12_line_40  (r := ?_)
  refine tX12_line_41 (hd := (by omega)) (ha := (by first | assumption | (repeat (first | assumption | exact At.set_eq2 (by first | omega | (simp only [hset, hnew]; omega) | rfl | decide) | exact At.new_eq2 _ _ (by first | omega | (simp only [hset, hnew]; omega) | rfl | decide) | refine At.set_ne ?_ (by first | omega | (simp only [hset, hnew]; omega) | rfl | decide) | refine At.new_ne ?_)))) (call := s_mtakes (d := 20) (by omega) rx (k := 1) (by decide)) (k := ?_)
  rintro x_ h_ ⟨hx_, -, tn_⟩
  have e_ := tn_ (by omega)
  rw [e_, hx_, if_neg (by omega)]
  refine tX12_line_44  (kf := fun c_ => by exfalso; exact c_ rfl) (kt := fun _ => ?_)
  refine tX12_line_54  (r := ?_)
  refine tX12_line_55  (r := ?_)
  refine tX12_line_56 (hd := (by omega)) (ha := (by first | assumption | (repeat (first | assumption | exact At.set_eq2 (by first | omega | (simp only [hset, hnew]; omega) | rfl | decide) | exact At.new_eq2 _ _ (by first | omega | (simp only [hset, hnew]; omega) | rfl | decide) | refine At.set_ne ?_ (by first | omega | (simp only [hset, hnew]; omega) | rfl | decide) | refine At.new_ne ?_)))) (call := s_mtakes (d := 20) (by omega) rx (k := 5) (by decide)) (k := ?_)
  rintro x_ h1 ⟨hx_, ty_, -⟩
  have rx1 := ty_ ek
  rw [hx_, if_pos ek]
  obtain ⟨⟨th1, by1, ea1, p1_⟩, pp1, -, -, -, -, -, -, -, -, -, u1, -⟩ := id rx1
  refine tX12_line_59  (kt := fun c_ => by exfalso; exact absurd c_ (by decide)) (kf := fun _ => ?_)
  refine tX12_line_62  (r := ?_)
  refine tX12_line_63 (hd := (by omega)) (ha := (by first | assumption | (repeat (first | assumption | exact At.set_eq2 (by first | omega | (simp only [hset, hnew]; omega) | rfl | decide) | exact At.new_eq2 _ _ (by first | omega | (simp only [hset, hnew]; omega) | rfl | decide) | refine At.set_ne ?_ (by first | omega | (simp only [hset, hnew]; omega) | rfl | decide) | refine At.new_ne ?_)))) (call := s_mlidl (d := 900) (by decide) rl rx1.self (Ux.kp u1) ek) (k := ?_)
  rintro h2 ⟨g2, no2, rl2⟩
  refine tX12_line_66 (r := ?_)
  refine tX12_line_73  (hP := ?_)
  have e : lnP K s = ilP K s := by
    unfold lnP
    rw [if_neg (by omega), if_neg (by omega)]
  rw [e]
  exact ⟨rfl, g2, no2, rl2⟩

set_option maxHeartbeats 4000000 in
set_option maxRecDepth 100000 in
theorem s_mlinew (hd : 30 ≤ d) (rl : RlM h0 h m K T L s g no) (ek : kdP K s ≠ 0 ∧ kdP K s ≠ 1 ∧ kdP K s ≠ 5) : RQ G mX12_line d 0 [some (.ref m)] [] h (Rv fun h1 => ∃ g1 no1, RlM h0 h1 m K T L (lnP K s) g1 no1) := by
  have rx := rl.1.1.1
  obtain ⟨⟨th, by_, ea, a0⟩, a1, -⟩ := id rx
  refine tX12_line_0  (r := ?_)
  refine tX12_line_1  (r := ?_)
  refine tX12_line_2 (hd := (by omega)) (ha := (by first | assumption | (repeat (first | assumption | exact At.set_eq2 (by first | omega | (simp only [hset, hnew]; omega) | rfl | decide) | exact At.new_eq2 _ _ (by first | omega | (simp only [hset, hnew]; omega) | rfl | decide) | refine At.set_ne ?_ (by first | omega | (simp only [hset, hnew]; omega) | rfl | decide) | refine At.new_ne ?_)))) (call := s_mtakes (d := 20) (by omega) rx (k := 0) (by decide)) (k := ?_)
  rintro x_ h_ ⟨hx_, -, tn_⟩
  have e_ := tn_ (by omega)
  rw [e_, hx_, if_neg (by omega)]
  refine tX12_line_5  (kf := fun c_ => by exfalso; exact c_ rfl) (kt := fun _ => ?_)
  refine tX12_line_39  (r := ?_)
  refine tX12_line_40  (r := ?_)
  refine tX12_line_41 (hd := (by omega)) (ha := (by first | assumption | (repeat (first | assumption | exact At.set_eq2 (by first | omega | (simp only [hset, hnew]; omega) | rfl | decide) | exact At.new_eq2 _ _ (by first | omega | (simp only [hset, hnew]; omega) | rfl | decide) | refine At.set_ne ?_ (by first | omega | (simp only [hset, hnew]; omega) | rfl | decide) | refine At.new_ne ?_)))) (call := s_mtakes (d := 20) (by omega) rx (k := 1) (by decide)) (k := ?_)
  rintro x_ h_ ⟨hx_, -, tn_⟩
  have e_ := tn_ (by omega)
  rw [e_, hx_, if_neg (by omega)]
  refine tX12_line_44  (kf := fun c_ => by exfalso; exact c_ rfl) (kt := fun _ => ?_)
  refine tX12_line_54  (r := ?_)
  refine tX12_line_55  (r := ?_)
  refine tX12_line_56 (hd := (by omega)) (ha := (by first | assumption | (repeat (first | assumption | exact At.set_eq2 (by first | omega | (simp only [hset, hnew]; omega) | rfl | decide) | exact At.new_eq2 _ _ (by first | omega | (simp only [hset, hnew]; omega) | rfl | decide) | refine At.set_ne ?_ (by first | omega | (simp only [hset, hnew]; omega) | rfl | decide) | refine At.new_ne ?_)))) (call := s_mtakes (d := 20) (by omega) rx (k := 5) (by decide)) (k := ?_)
  rintro x_ h_ ⟨hx_, -, tn_⟩
  have e_ := tn_ (by omega)
  rw [e_, hx_, if_neg (by omega)]
  refine tX12_line_59  (kf := fun c_ => by exfalso; exact c_ rfl) (kt := fun _ => ?_)
  refine tX12_line_69  (r := ?_)
  refine tX12_line_70 (hd := (by omega)) (ha := (by first | assumption | (repeat (first | assumption | exact At.set_eq2 (by first | omega | (simp only [hset, hnew]; omega) | rfl | decide) | exact At.new_eq2 _ _ (by first | omega | (simp only [hset, hnew]; omega) | rfl | decide) | refine At.set_ne ?_ (by first | omega | (simp only [hset, hnew]; omega) | rfl | decide) | refine At.new_ne ?_)))) (call := s_mwrong (d := 20) rx) (k := ?_)
  intro h1 rx1
  obtain ⟨-, -, -, -, -, -, -, -, -, -, -, u1, -⟩ := id rx1
  refine tX12_line_73  (hP := ?_)
  rw [ln_bad ek]
  obtain ⟨rr, ln, hg, g6, g8, gi6, kp⟩ := rl
  have w0 : ¬ pEr (wrP s) = 0 := by
    rw [wrP_er]
    decide
  exact ⟨rfl, g, no, rr.to rx1.self (fun i c a e1 e2 => u1.at a (by omega) (by omega) (by omega)) ⟨rfl, rfl⟩ (fun z => absurd z w0), ln.to (fun i c a e1 e2 => u1.at a (by omega) (by omega) (by omega)) (fun z => absurd z w0), fun z => absurd z w0, g6, g8, gi6, kp.trans (Ux.kp u1)⟩

theorem rl_po : pPo s ≤ pPo (rlP K s) := by
  unfold rlP
  rw [pPo_up]
  exact Nat.le_trans rbP_po.1 (Nat.le_trans rtP_po raP_po)
theorem rs_po : ∀ (n : Nat) (s : PST), pPo s ≤ pPo (rsP K n s)
  | 0, _ => Nat.le_refl _
  | n + 1, s => by
    unfold rsP
    split
    · exact Nat.le_trans rl_po (rs_po n _)
    · exact Nat.le_refl _
theorem i4_po (ek : kdP K s = 5) : pPo s + 1 ≤ pPo (i4P K s) := by
  have p0 : pPo (tkP K 5 s) = pPo s + 1 := by rw [(tkP_y (K := K) (s := s) ek (by decide)).1]
  have q1 : pPo (i4P K s) = pPo (i3P K (i2P K (i1P K s))) := by
    unfold i4P
    exact pPo_up
  have q2 : ∀ x : PST, pPo x ≤ pPo (i3P K x) := fun x => by
    unfold i3P
    refine Nat.le_trans ?_ tkP_po.1
    rw [laP_po]
    exact Nat.le_refl _
  have q3 : ∀ x : PST, pPo x ≤ pPo (i2P K x) := fun x => by
    unfold i2P
    refine Nat.le_trans ?_ tkP_po.1
    refine Nat.le_trans ?_ tkP_po.1
    rw [jaP_po]
    exact Nat.le_refl _
  have q4 : pPo (tkP K 5 s) ≤ pPo (i1P K s) := by
    unfold i1P
    refine Nat.le_trans ?_ tkP_po.1
    refine Nat.le_trans ?_ tkP_po.1
    unfold niP
    rw [nw_po]
    exact Nat.le_refl _
  have q5 := q3 (i1P K s)
  have q6 := q2 (i2P K (i1P K s))
  omega

theorem s_mline (hd : 950 ≤ d) (rl : RlM h0 h m K T L s g no) (hz : PiE s) : RQ G mX12_line d 0 [some (.ref m)] [] h (Rv fun h1 => ∃ g1 no1, RlM h0 h1 m K T L (lnP K s) g1 no1) := by
  by_cases k0 : kdP K s = 0
  · exact s_mline0 (by omega) rl k0
  · by_cases k1 : kdP K s = 1
    · exact s_mline1 (by omega) rl k1 hz
    · by_cases k5 : kdP K s = 5
      · exact s_mline5 hd rl k5
      · exact s_mlinew (by omega) rl ⟨k0, k1, k5⟩
theorem ln_po (h : pEr (lnP K s) ≠ 1) (e1 : pEr s ≠ 1) : pPo s + 1 ≤ pPo (lnP K s) := by
  by_cases k0 : kdP K s = 0
  · have e : lnP K s = llP K s := if_pos k0
    rw [e]
    unfold llP
    have p0 : pPo (tkP K 0 s) = pPo s + 1 := by rw [(tkP_y (K := K) (s := s) k0 (by decide)).1]
    refine Nat.le_trans ?_ tkP_po.1
    rw [pPo_up]
    unfold nlP
    rw [nw_po, p0]
    exact Nat.le_refl _
  · by_cases k1 : kdP K s = 1
    · have e : lnP K s = jlP K s := by
        unfold lnP
        rw [if_neg k0, if_pos k1]
      rw [e]
      have p0 : pPo (tkP K 1 s) = pPo s + 1 := by rw [(tkP_y (K := K) (s := s) k1 (by decide)).1]
      have p1 := j1_po (K := K) (s := s)
      have p2 := j2_po (K := K) (a := j1P K s)
      have p3 := j3_po (K := K) (v := vaP K (j1P K s)) (b := j2P K (j1P K s))
      have p4 := ho_po (K := K) (s := j3P K (vaP K (j1P K s)) (j2P K (j1P K s))) (l := 0)
      have p5 := hs_po (K := K) 399 1 (hoP K 0 (j3P K (vaP K (j1P K s)) (j2P K (j1P K s))))
      unfold jlP
      omega
    · by_cases k5 : kdP K s = 5
      · have e : lnP K s = ilP K s := by
          unfold lnP
          rw [if_neg k0, if_neg k1]
        rw [e]
        unfold ilP
        exact Nat.le_trans (i4_po k5) (rs_po 400 _)
      · rw [ln_bad ⟨k0, k1, k5⟩] at h
        exact absurd (wrP_er s) h

end RMX
