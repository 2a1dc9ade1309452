/-! the reference's lines: lids -/
section RMV
variable {G : GT} {d : Nat} {h0 h h1 hA : AH} {m : Nat} {K : TKS} {T : List Nat} {L : Nat → Nat} {s s1 t a b c : PST} {dp : Nat} {g g1 : GCT} {no no1 : Nat} {P : OC → AH → Prop}
theorem rpO_df {o : Option Nat} : pDf (rpO o s) = pDf s := by
  unfold rpO
  split
  · exact rp_df
  · rfl
theorem li_up {v j l : Nat} (z : pEr b = 0) (ed : pDf b = pDf s) (lt : bLi (pBk s) < 6) : pBk (upP (liD v j l) b) = (bLa (pBk s), bJa (pBk s), bLi (pBk s) + 1, bSe (pBk s), bWy (pBk s), upN (bLl (pBk s)) (bLi (pBk s)) l, upN (bRu (pBk s)) (bLi (pBk s)) (bRs (pBk s), bRs (pBk s)), bRs (pBk s), bSc (pBk s), bNd (pBk s)) ∧ dfE (pDf (upP (liD v j l) b)) = dfE (pDf s) ∧ dfO (pDf (upP (liD v j l) b)) = upN (dfO (pDf s)) (bLi (pBk s)) j := by
  have e2 : liD v j l (pDf s) = ((bLa (pBk s), bJa (pBk s), bLi (pBk s) + 1, bSe (pBk s), bWy (pBk s), upN (bLl (pBk s)) (bLi (pBk s)) l, upN (bRu (pBk s)) (bLi (pBk s)) (bRs (pBk s), bRs (pBk s)), bRs (pBk s), bSc (pBk s), bNd (pBk s)), dfL (pDf s), dfJ (pDf s), upN (dfI (pDf s)) (bLi (pBk s)) v, dfE (pDf s), upN (dfO (pDf s)) (bLi (pBk s)) j) := if_pos lt
  rw [upP_e z]
  show (liD v j l (pDf b)).1 = _ ∧ dfE (liD v j l (pDf b)) = _ ∧ dfO (liD v j l (pDf b)) = _
  rw [ed, e2]
  exact ⟨rfl, rfl, rfl⟩
/-- what a lid's line does ahead of its rules -/
theorem i4_0 (h : pEr (i4P K s) = 0) : pEr s = 0 ∧ bLi (pBk s) < 6 ∧ pEr (tkP K 39 (jaP K (i1P K s))) = 0 ∧ pEr (i3P K (i2P K (i1P K s))) = 0 ∧ pBk (i4P K s) = (bLa (pBk s), bJa (pBk s), bLi (pBk s) + 1, bSe (pBk s), bWy (pBk s), upN (bLl (pBk s)) (bLi (pBk s)) ((lbO K (i2P K (i1P K s))).getD 0), upN (bRu (pBk s)) (bLi (pBk s)) (bRs (pBk s), bRs (pBk s)), bRs (pBk s), bSc (pBk s), bNd (pBk s)) ∧ dfE (pDf (i4P K s)) = dfE (pDf s) ∧ dfO (pDf (i4P K s)) = upN (dfO (pDf s)) (bLi (pBk s)) ((jbO K (i1P K s)).getD 0) := by
  unfold i4P at h ⊢
  have h3 := upP_er0 h
  have h3' := h3
  unfold i3P at h3'
  have h2 := laP_er0 (tkP_er h3').1
  unfold i2P at h2
  have h2b := (tkP_er h2).1
  have h1 := jaP_er0 (tkP_er h2b).1
  unfold i1P at h1
  have h0 := (tkP_er (tkP_er h1).1).1
  unfold niP at h0
  obtain ⟨z1, z2, z3, z4⟩ := nw_0 h0
  have z5 := of_decide_eq_false z3
  have zb : pBk (tkP K 5 s) = pBk s := congrArg (fun d : DRF => d.1) tk_df
  rw [zb] at z5
  have lt : bLi (pBk s) < 6 := by omega
  have ed : pDf (i3P K (i2P K (i1P K s))) = pDf s := by
    unfold i3P laP
    rw [tk_df, rpO_df]
    unfold i2P jaP
    rw [tk_df, tk_df, rpO_df]
    unfold i1P niP
    rw [tk_df, tk_df, z4, tk_df]
  have q := li_up (v := vaP K (niP K s)) (j := (jbO K (i1P K s)).getD 0) (l := (lbO K (i2P K (i1P K s))).getD 0) h3 ed lt
  exact ⟨(tkP_er z1).1, lt, h2b, h3, q.1, q.2.1, q.2.2⟩
theorem i4_lnr : Lnr (vaP K (niP K s)) (i1P K s) (tkP K 6 (tkP K 39 (upP (lnD (vaP K (niP K s))) (niP K s)))) := ((Lnr.st _).tk).tk

end RMV
