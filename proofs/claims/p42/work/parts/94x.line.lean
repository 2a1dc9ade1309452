/-! the reference's line, whichever it is -/
section RMX
variable {G : GT} {d : Nat} {h0 h h1 hA : AH} {m : Nat} {K : TKS} {T : List Nat} {L : Nat → Nat} {s s1 t a b c : PST} {dp : Nat} {g g1 : GCT} {no no1 : Nat} {P : OC → AH → Prop}
theorem rs_w : ∀ (n : Nat) (s : PST), kdP K s ≠ 8 → rsP K n s = s
  | 0, _, _ => rfl
  | _ + 1, _, h => if_neg h
theorem rpO_w {o : Option Nat} (h : pEr s ≠ 0) : rpO o s = s := by
  unfold rpO
  rw [rp_no h, if_same]
/-- a line that begins with another word -/
theorem ln_bad (h : kdP K s ≠ 0 ∧ kdP K s ≠ 1 ∧ kdP K s ≠ 5) : lnP K s = wrP s := by
  have e0 : lnP K s = ilP K s := by
    unfold lnP
    rw [if_neg h.1, if_neg h.2.1]
  have w1 := wrP_er s
  have w0 : pEr (wrP s) ≠ 0 := by omega
  have e1 : niP K s = wrP s := by
    unfold niP
    rw [tkP_wr h.2.2, nw_e w0]
  have e2 : i1P K s = wrP s := by
    unfold i1P
    rw [e1, tkP_1 w1, tkP_1 w1]
  have e3 : i2P K (wrP s) = wrP s := by
    unfold i2P jaP
    rw [rpO_w w0, tkP_1 w1, tkP_1 w1]
  have e4 : i3P K (wrP s) = wrP s := by
    unfold i3P laP
    rw [rpO_w w0, tkP_1 w1]
  have e5 : i4P K s = wrP s := by
    unfold i4P
    rw [e2, e3, e4, upP_n w0]
  rw [e0]
  unfold ilP
  rw [e5]
  exact rs_w 400 _ (by rw [show kdP K (wrP s) = 42 from if_pos w1]; decide)
/-- beans of jars to come are none -/
def PiE (s : PST) : Prop := pEr s = 0 → ∀ j l, bJa (pBk s) ≤ j → dfE (pDf s) j l = 0
theorem PiE.tk {w : Nat} (p : PiE s) : PiE (tkP K w s) := fun z j l hj => by
  have pb : pBk (tkP K w s) = pBk s := congrArg (fun d : DRF => d.1) tk_df
  rw [pb] at hj
  rw [tk_df]
  exact p (tkP_er z).1 j l hj
theorem PiE.ln (p : PiE s) : PiE (lnP K s) := fun z => by
  by_cases k0 : kdP K s = 0
  · have e : lnP K s = llP K s := if_pos k0
    rw [e] at z ⊢
    obtain ⟨z1, z2, z3⟩ := ll_0 z
    have q := la_get z3 z2
    intro j l hj
    rw [q.2.1] at hj
    have q3 := congrArg (fun x : LNS => x.2.2.1) q.2.2.2.1
    have q4 : dfE (pDf (llP K s)) = dfE (pDf s) := q3
    rw [q4]
    exact p z1 j l hj
  · by_cases k1 : kdP K s = 1
    · have e : lnP K s = jlP K s := by
        unfold lnP
        rw [if_neg k0, if_pos k1]
      rw [e] at z ⊢
      obtain ⟨z1, z2, -, -, -, -, zB, zE, -⟩ := jl_0 z
      intro j l hj
      rw [zB] at hj
      have hj2 : bJa (pBk s) + 1 ≤ j := hj
      rw [zE j (by omega)]
      exact p z1 j l (by omega)
    · have e : lnP K s = ilP K s := by
        unfold lnP
        rw [if_neg k0, if_neg k1]
      rw [e] at z ⊢
      obtain ⟨z1, -, -, -, -, zJ, -, -, -, -, zE, -⟩ := il_1 z
      intro j l hj
      rw [zJ] at hj
      rw [zE]
      exact p z1 j l hj

theorem rl_po : pPo s ≤ pPo (rlP K s) := by
  unfold rlP
  rw [pPo_up]
  exact Nat.le_trans rbP_po.1 (Nat.le_trans rtP_po raP_po)
theorem rs_po : ∀ (n : Nat) (s : PST), pPo s ≤ pPo (rsP K n s)
  | 0, _ => Nat.le_refl _
  | n + 1, s => by
    unfold rsP
    split
    · exact Nat.le_trans rl_po (rs_po n _)
    · exact Nat.le_refl _
theorem i4_po (ek : kdP K s = 5) : pPo s + 1 ≤ pPo (i4P K s) := by
  have p0 : pPo (tkP K 5 s) = pPo s + 1 := by rw [(tkP_y (K := K) (s := s) ek (by decide)).1]
  have q1 : pPo (i4P K s) = pPo (i3P K (i2P K (i1P K s))) := by
    unfold i4P
    exact pPo_up
  have q2 : ∀ x : PST, pPo x ≤ pPo (i3P K x) := fun x => by
    unfold i3P
    refine Nat.le_trans ?_ tkP_po.1
    rw [laP_po]
    exact Nat.le_refl _
  have q3 : ∀ x : PST, pPo x ≤ pPo (i2P K x) := fun x => by
    unfold i2P
    refine Nat.le_trans ?_ tkP_po.1
    refine Nat.le_trans ?_ tkP_po.1
    rw [jaP_po]
    exact Nat.le_refl _
  have q4 : pPo (tkP K 5 s) ≤ pPo (i1P K s) := by
    unfold i1P
    refine Nat.le_trans ?_ tkP_po.1
    refine Nat.le_trans ?_ tkP_po.1
    unfold niP
    rw [nw_po]
    exact Nat.le_refl _
  have q5 := q3 (i1P K s)
  have q6 := q2 (i2P K (i1P K s))
  omega

theorem ln_po (h : pEr (lnP K s) ≠ 1) (e1 : pEr s ≠ 1) : pPo s + 1 ≤ pPo (lnP K s) := by
  by_cases k0 : kdP K s = 0
  · have e : lnP K s = llP K s := if_pos k0
    rw [e]
    unfold llP
    have p0 : pPo (tkP K 0 s) = pPo s + 1 := by rw [(tkP_y (K := K) (s := s) k0 (by decide)).1]
    refine Nat.le_trans ?_ tkP_po.1
    rw [pPo_up]
    unfold nlP
    rw [nw_po, p0]
    exact Nat.le_refl _
  · by_cases k1 : kdP K s = 1
    · have e : lnP K s = jlP K s := by
        unfold lnP
        rw [if_neg k0, if_pos k1]
      rw [e]
      have p0 : pPo (tkP K 1 s) = pPo s + 1 := by rw [(tkP_y (K := K) (s := s) k1 (by decide)).1]
      have p1 := j1_po (K := K) (s := s)
      have p2 := j2_po (K := K) (a := j1P K s)
      have p3 := j3_po (K := K) (v := vaP K (j1P K s)) (b := j2P K (j1P K s))
      have p4 := ho_po (K := K) (s := j3P K (vaP K (j1P K s)) (j2P K (j1P K s))) (l := 0)
      have p5 := hs_po (K := K) 399 1 (hoP K 0 (j3P K (vaP K (j1P K s)) (j2P K (j1P K s))))
      unfold jlP
      omega
    · by_cases k5 : kdP K s = 5
      · have e : lnP K s = ilP K s := by
          unfold lnP
          rw [if_neg k0, if_neg k1]
        rw [e]
        unfold ilP
        exact Nat.le_trans (i4_po k5) (rs_po 400 _)
      · rw [ln_bad ⟨k0, k1, k5⟩] at h
        exact absurd (wrP_er s) h

end RMX
