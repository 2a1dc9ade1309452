/-! the reference's lines: jars -/
theorem se_df {v w : Nat} {d : DRF} (h : 0 < bJa d.1) : seD v w d = ((bLa d.1, bJa d.1, bLi d.1, upN (bSe d.1) (bJa d.1 - 1) v, upN (bWy d.1) (bJa d.1 - 1) (w - 24), bLl d.1, bRu d.1, bRs d.1, bSc d.1, bNd d.1), d.2) := if_pos h
theorem Eqv.se {v w : Nat} (s : PST) : Eqv (upP (seD v w) s) s := Eqv.up (f := seD v w) (fun d => by
  unfold seD
  split
  · exact ⟨rfl, rfl⟩
  · exact ⟨rfl, rfl⟩) s
theorem hs_er0 {K : TKS} : ∀ (n l : Nat) (s : PST), pEr (hsP K n l s) = 0 → pEr s = 0
  | 0, _, _, h => h
  | n + 1, l, s, h => by
    unfold hsP at h
    split at h
    · exact (tkP_er (ho_0 (hs_er0 n _ _ h)).1).1
    · exact h
theorem hs_B {K : TKS} : ∀ (n l : Nat) (s : PST), pBk (hsP K n l s) = pBk s
  | 0, _, _ => rfl
  | n + 1, l, s => by
    unfold hsP
    split
    · exact (hs_B n _ _).trans (ho_B.trans (congrArg (fun d : DRF => d.1) tk_df))
    · rfl
theorem ho_E {K : TKS} {l j : Nat} {s : PST} (hj : j + 1 ≠ bJa (pBk s)) : dfE (pDf (hoP K l s)) j = dfE (pDf s) j ∧ dfO (pDf (hoP K l s)) = dfO (pDf s) := by
  rcases ho_df (K := K) (l := l) (s := s) with e | e
  · rw [e]
    exact ⟨rfl, rfl⟩
  · rw [e]
    refine ⟨?_, be_df.2.2.2.2⟩
    unfold beD
    split
    · rename_i z
      have z1 : 0 < bJa (pBk s) := z.1
      have hj2 : j + 1 ≠ bJa (pDf s).1 := hj
      have z2 : 0 < bJa (pDf s).1 := z.1
      exact if_neg (by omega)
    · rfl
theorem hs_E {K : TKS} {j : Nat} : ∀ (n l : Nat) (s : PST), j + 1 ≠ bJa (pBk s) → dfE (pDf (hsP K n l s)) j = dfE (pDf s) j ∧ dfO (pDf (hsP K n l s)) = dfO (pDf s)
  | 0, _, _, _ => ⟨rfl, rfl⟩
  | n + 1, l, s, hj => by
    unfold hsP
    split
    · have pb : pBk (tkP K 32 s) = pBk s := congrArg (fun d : DRF => d.1) tk_df
      have h1 := ho_E (K := K) (l := l) (j := j) (s := tkP K 32 s) (by rw [pb]; exact hj)
      have h2 := hs_E (K := K) (j := j) n (l + 1) (hoP K l (tkP K 32 s)) (by rw [ho_B, pb]; exact hj)
      rw [tk_df] at h1
      exact ⟨h2.1.trans h1.1, h2.2.trans h1.2⟩
    · exact ⟨rfl, rfl⟩
section RMS
variable {G : GT} {d : Nat} {h0 h h1 : AH} {m : Nat} {K : TKS} {T : List Nat} {L : Nat → Nat} {s s1 t a b c : PST} {dp : Nat} {g g1 : GCT} {no no1 : Nat} {P : OC → AH → Prop}
theorem j1_0 (h : pEr (j1P K s) = 0) : pEr s = 0 ∧ bJa (pBk s) < 8 ∧ pDf (j1P K s) = jaD (vaP K (njP K s)) (pDf s) := by
  unfold j1P at h ⊢
  have h1 := (tkP_er (tkP_er h).1).1
  have h2 := upP_er0 h1
  have h3 := h2
  unfold njP at h3
  obtain ⟨z1, z2, z3, z4⟩ := nw_0 h3
  have z5 := of_decide_eq_false z3
  have e : pDf (njP K s) = pDf s := by
    unfold njP
    rw [z4, tk_df]
  refine ⟨(tkP_er z1).1, ?_, ?_⟩
  · have : pBk (tkP K 1 s) = pBk s := congrArg (fun d : DRF => d.1) tk_df
    rw [this] at z5
    omega
  · rw [tk_df, tk_df, upP_e h2]
    exact congrArg (jaD (vaP K (njP K s))) e
theorem j2_0 (h : pEr (j2P K a) = 0) : pEr a = 0 ∧ pDf (j2P K a) = pDf a ∧ nI 1 ≤ nI (vaP K a) ∧ nI (vaP K a) ≤ nI 9 := by
  unfold j2P at h ⊢
  have h1 := (tkP_er (tkP_er h).1).1
  rw [tk_df, tk_df]
  split at h1
  · exact (rpP_er (by decide) h1).elim
  · rename_i z
    rw [if_neg z]
    exact ⟨h1, rfl, Int32.not_lt.mp (fun q => z (Or.inl q)), Int32.not_lt.mp (fun q => z (Or.inr q))⟩
theorem j3_0 {v : Nat} (h : pEr (j3P K v b) = 0) : pEr b = 0 ∧ (kdP K b = 24 ∨ kdP K b = 25 ∨ kdP K b = 26) ∧ pDf (j3P K v b) = seD v (kdP K b) (pDf b) := by
  unfold j3P at h ⊢
  have h1 := upP_er0 (tkP_er h).1
  obtain ⟨h2, h3, -⟩ := tkP_er h1
  refine ⟨h2, ?_, ?_⟩
  · unfold wyW at h3
    split at h3 <;> omega
  · rw [tk_df, upP_e h1]
    exact congrArg (seD v (kdP K b)) tk_df
theorem ja_df {v : Nat} {d : DRF} (h : bJa d.1 < 8) : jaD v d = ((bLa d.1, bJa d.1 + 1, bLi d.1, bSe d.1, bWy d.1, bLl d.1, bRu d.1, bRs d.1, bSc d.1, bNd d.1), dfL d, upN (dfJ d) (bJa d.1) v, dfI d, dfE d, dfO d) := if_pos h
/-- what a jar's line does with the draft, but for the beans of that jar -/
theorem jl_0 (h : pEr (jlP K s) = 0) : pEr s = 0 ∧ bJa (pBk s) < 8 ∧ pEr (j1P K s) = 0 ∧ pEr (j2P K (j1P K s)) = 0 ∧ pEr (j3P K (vaP K (j1P K s)) (j2P K (j1P K s))) = 0 ∧ (kdP K (j2P K (j1P K s)) = 24 ∨ kdP K (j2P K (j1P K s)) = 25 ∨ kdP K (j2P K (j1P K s)) = 26) ∧ pBk (jlP K s) = (bLa (pBk s), bJa (pBk s) + 1, bLi (pBk s), upN (bSe (pBk s)) (bJa (pBk s)) (vaP K (j1P K s)), upN (bWy (pBk s)) (bJa (pBk s)) (kdP K (j2P K (j1P K s)) - 24), bLl (pBk s), bRu (pBk s), bRs (pBk s), bSc (pBk s), bNd (pBk s)) ∧ (∀ j, j ≠ bJa (pBk s) → dfE (pDf (jlP K s)) j = dfE (pDf s) j) ∧ dfO (pDf (jlP K s)) = dfO (pDf s) ∧ dfE (pDf (j3P K (vaP K (j1P K s)) (j2P K (j1P K s)))) = dfE (pDf s) ∧ pBk (j3P K (vaP K (j1P K s)) (j2P K (j1P K s))) = pBk (jlP K s) := by
  have eq : jlP K s = hsP K 399 1 (hoP K 0 (j3P K (vaP K (j1P K s)) (j2P K (j1P K s)))) := rfl
  rw [eq] at h ⊢
  have h3 := (ho_0 (hs_er0 399 1 _ h)).1
  obtain ⟨h2, k2, d3⟩ := j3_0 h3
  obtain ⟨h1, d2, -, -⟩ := j2_0 h2
  obtain ⟨h0, lt, d1⟩ := j1_0 h1
  rw [ja_df lt] at d1
  rw [d1] at d2
  rw [d2, se_df (Nat.succ_pos _)] at d3
  have b3 : pBk (j3P K (vaP K (j1P K s)) (j2P K (j1P K s))) = (bLa (pBk s), bJa (pBk s) + 1, bLi (pBk s), upN (bSe (pBk s)) (bJa (pBk s)) (vaP K (j1P K s)), upN (bWy (pBk s)) (bJa (pBk s)) (kdP K (j2P K (j1P K s)) - 24), bLl (pBk s), bRu (pBk s), bRs (pBk s), bSc (pBk s), bNd (pBk s)) := congrArg (fun d : DRF => d.1) d3
  have bj : bJa (pBk (j3P K (vaP K (j1P K s)) (j2P K (j1P K s)))) = bJa (pBk s) + 1 := congrArg (fun B : BK => bJa B) b3
  have e3 : dfE (pDf (j3P K (vaP K (j1P K s)) (j2P K (j1P K s)))) = dfE (pDf s) := by
    have q := congrArg (fun d : DRF => dfE d) d3
    exact q
  have o3 : dfO (pDf (j3P K (vaP K (j1P K s)) (j2P K (j1P K s)))) = dfO (pDf s) := by
    have q := congrArg (fun d : DRF => dfO d) d3
    exact q
  have bF : pBk (hsP K 399 1 (hoP K 0 (j3P K (vaP K (j1P K s)) (j2P K (j1P K s))))) = pBk (j3P K (vaP K (j1P K s)) (j2P K (j1P K s))) := (hs_B 399 1 _).trans ho_B
  have row : ∀ j, j ≠ bJa (pBk s) → dfE (pDf (hsP K 399 1 (hoP K 0 (j3P K (vaP K (j1P K s)) (j2P K (j1P K s)))))) j = dfE (pDf s) j ∧ dfO (pDf (hsP K 399 1 (hoP K 0 (j3P K (vaP K (j1P K s)) (j2P K (j1P K s)))))) = dfO (pDf s) := fun j hj => by
    have q1 := hs_E (K := K) (j := j) 399 1 (hoP K 0 (j3P K (vaP K (j1P K s)) (j2P K (j1P K s)))) (by rw [ho_B, bj]; omega)
    have q2 := ho_E (K := K) (l := 0) (j := j) (s := j3P K (vaP K (j1P K s)) (j2P K (j1P K s))) (by rw [bj]; omega)
    exact ⟨q1.1.trans (q2.1.trans (congrFun e3 j)), q1.2.trans (q2.2.trans o3)⟩
  exact ⟨h0, lt, h1, h2, h3, k2, bF.trans b3, fun j hj => (row j hj).1, (row (bJa (pBk s) + 1) (by omega)).2, e3, bF.symm⟩
theorem j3c_0 (h : pEr (j3P K (vaP K (j1P K s)) (j2P K (j1P K s))) = 0) : pEr s = 0 ∧ bJa (pBk s) < 8 ∧ bLa (pBk (j3P K (vaP K (j1P K s)) (j2P K (j1P K s)))) = bLa (pBk s) ∧ bJa (pBk (j3P K (vaP K (j1P K s)) (j2P K (j1P K s)))) = bJa (pBk s) + 1 ∧ dfE (pDf (j3P K (vaP K (j1P K s)) (j2P K (j1P K s)))) = dfE (pDf s) := by
  obtain ⟨h2, k2, d3⟩ := j3_0 h
  obtain ⟨h1, d2, -, -⟩ := j2_0 h2
  obtain ⟨h0, lt, d1⟩ := j1_0 h1
  rw [ja_df lt] at d1
  rw [d1] at d2
  rw [d2, se_df (Nat.succ_pos _)] at d3
  refine ⟨h0, lt, ?_, ?_, ?_⟩
  · have q := congrArg (fun d : DRF => bLa d.1) d3
    exact q
  · have q := congrArg (fun d : DRF => bJa d.1) d3
    exact q
  · have q := congrArg (fun d : DRF => dfE d) d3
    exact q
theorem ho_po {l : Nat} : pPo s ≤ pPo (hoP K l s) := by
  unfold hoP
  refine Nat.le_trans ?_ tkP_po.1
  rw [pPo_up]
  split
  · rw [rpP_po]
    exact Nat.le_refl _
  · exact Nat.le_refl _
theorem hs_po : ∀ (n l : Nat) (s : PST), pPo s ≤ pPo (hsP K n l s)
  | 0, _, _ => Nat.le_refl _
  | n + 1, l, s => by
    unfold hsP
    split
    · exact Nat.le_trans (Nat.le_trans tkP_po.1 ho_po) (hs_po n _ _)
    · exact Nat.le_refl _
theorem j1_po : pPo (tkP K 1 s) ≤ pPo (j1P K s) := by
  unfold j1P
  refine Nat.le_trans ?_ tkP_po.1
  refine Nat.le_trans ?_ tkP_po.1
  rw [pPo_up]
  unfold njP
  rw [nw_po]
  exact Nat.le_refl _
theorem j2_po : pPo a ≤ pPo (j2P K a) := by
  unfold j2P
  refine Nat.le_trans ?_ tkP_po.1
  refine Nat.le_trans ?_ tkP_po.1
  split
  · rw [rpP_po]
    exact Nat.le_refl _
  · exact Nat.le_refl _
theorem j3_po {v : Nat} : pPo b ≤ pPo (j3P K v b) := by
  unfold j3P
  refine Nat.le_trans ?_ tkP_po.1
  rw [pPo_up]
  exact tkP_po.1
theorem NiX.same {x n z : Nat} {f f2 : Nat → Nat} {H : AH} (q : NiX h x n (okc s z) f) (e : ∀ c, At h x c → At H x c) (es : pEr s1 = 0 → pEr s = 0 ∧ f2 = f) : NiX H x n (okc s1 z) f2 := by
  obtain ⟨g, a, c⟩ := q
  refine ⟨g, e _ a, fun k hk => ?_⟩
  by_cases w : pEr s1 = 0
  · obtain ⟨e1, e2⟩ := es w
    rw [e2]
    refine c k ?_
    unfold okc at hk ⊢
    rw [if_pos w] at hk
    rw [if_pos e1]
    exact hk
  · exact absurd hk (okc_0 w)

end RMS
