/-! SENSE of lines: what is always so of the draft -/
theorem tk_k {K : TKS} (ok : KOk K) {w : Nat} (hw : w < 41) {s : PST} (l : pPo s < K.1) : pPo (tkP K w s) < K.1 := by
  unfold tkP
  by_cases e1 : pEr s = 1
  · rw [if_pos e1]
    exact l
  · rw [if_neg e1]
    by_cases e2 : kdP K s = w
    · rw [if_pos e2]
      show pPo s + 1 < K.1
      unfold kdP at e2
      rw [if_neg e1] at e2
      unfold kdT at e2
      rw [if_pos l] at e2
      exact ok.2.1 _ l (by omega)
    · rw [if_neg e2]
      exact l
theorem nwu_po {K : TKS} {f : Bool} {F : DRF → DRF} {t : PST} : pPo (upP F (nwP K f t)) = pPo t := pPo_up.trans nw_po
theorem nw_df {K : TKS} {f : Bool} {s : PST} : pDf (nwP K f s) = pDf s := by
  unfold nwP
  by_cases z : f = true
  · rw [if_pos z, rp_df]
    split
    · rfl
    · exact rp_df
  · rw [if_neg z]
    split
    · rfl
    · exact rp_df
theorem ll_k {K : TKS} (ok : KOk K) {s : PST} (l : pPo s < K.1) : pPo (llP K s) < K.1 ∧ pPo s ≤ pPo (llP K s) := by
  unfold llP nlP
  refine ⟨tk_k ok (by decide) (by rw [nwu_po]; exact tk_k ok (by decide) l), Nat.le_trans ?_ tkP_po.1⟩
  rw [nwu_po]
  exact tkP_po.1
theorem j1_k {K : TKS} (ok : KOk K) {s : PST} (l : pPo s < K.1) : pPo (j1P K s) < K.1 ∧ pPo s ≤ pPo (j1P K s) := by
  unfold j1P njP
  refine ⟨tk_k ok (by decide) (tk_k ok (by decide) (by rw [nwu_po]; exact tk_k ok (by decide) l)), Nat.le_trans ?_ (Nat.le_trans tkP_po.1 tkP_po.1)⟩
  rw [nwu_po]
  exact tkP_po.1
theorem if_po {p : Prop} [Decidable p] {n : Nat} {s : PST} : pPo (if p then rpP n s else s) = pPo s := by
  split
  · exact rpP_po
  · rfl
theorem j2_k {K : TKS} (ok : KOk K) {s : PST} (l : pPo s < K.1) : pPo (j2P K s) < K.1 := by
  unfold j2P
  refine tk_k ok (by decide) (tk_k ok (by decide) ?_)
  rw [if_po]
  exact l
theorem j3_k {K : TKS} (ok : KOk K) {v : Nat} {s : PST} (l : pPo s < K.1) : pPo (j3P K v s) < K.1 := by
  unfold j3P
  refine tk_k ok (by decide) ?_
  rw [pPo_up]
  refine tk_k ok ?_ l
  unfold wyW
  split
  · omega
  · decide
theorem ho_k {K : TKS} (ok : KOk K) {v : Nat} {s : PST} (l : pPo s < K.1) : pPo (hoP K v s) < K.1 := by
  unfold hoP
  refine tk_k ok (by decide) ?_
  rw [pPo_up, if_po]
  exact l
theorem hs_k {K : TKS} (ok : KOk K) : ∀ (n v : Nat) (s : PST), pPo s < K.1 → pPo (hsP K n v s) < K.1
  | 0, _, _, l => l
  | n + 1, v, s, l => by
    unfold hsP
    split
    · exact hs_k ok n _ _ (ho_k ok (tk_k ok (by decide) l))
    · exact l
theorem jl_k {K : TKS} (ok : KOk K) {s : PST} (l : pPo s < K.1) : pPo (jlP K s) < K.1 ∧ pPo s ≤ pPo (jlP K s) := by
  obtain ⟨a1, a2⟩ := j1_k ok l
  have a3 := j2_po (K := K) (a := j1P K s)
  have a4 := j3_po (K := K) (v := vaP K (j1P K s)) (b := j2P K (j1P K s))
  have a5 := ho_po (K := K) (l := 0) (s := j3P K (vaP K (j1P K s)) (j2P K (j1P K s)))
  have a6 := hs_po (K := K) 399 1 (hoP K 0 (j3P K (vaP K (j1P K s)) (j2P K (j1P K s))))
  exact ⟨hs_k ok 399 1 _ (ho_k ok (j3_k ok (j2_k ok a1))), Nat.le_trans a2 (Nat.le_trans a3 (Nat.le_trans a4 (Nat.le_trans a5 a6)))⟩
theorem i4_k {K : TKS} (ok : KOk K) {s : PST} (l : pPo s < K.1) : pPo (i4P K s) < K.1 ∧ pPo s ≤ pPo (i4P K s) := by
  have a1 : pPo (i1P K s) < K.1 ∧ pPo s ≤ pPo (i1P K s) := by
    unfold i1P niP
    refine ⟨tk_k ok (by decide) (tk_k ok (by decide) (by rw [nw_po]; exact tk_k ok (by decide) l)), Nat.le_trans ?_ (Nat.le_trans tkP_po.1 tkP_po.1)⟩
    rw [nw_po]
    exact tkP_po.1
  have a2 : ∀ b : PST, pPo b < K.1 → pPo (i2P K b) < K.1 ∧ pPo b ≤ pPo (i2P K b) := fun b lb => by
    unfold i2P
    refine ⟨tk_k ok (by decide) (tk_k ok (by decide) (by rw [jaP_po]; exact lb)), Nat.le_trans ?_ (Nat.le_trans tkP_po.1 tkP_po.1)⟩
    rw [jaP_po]
    exact Nat.le_refl _
  have a3 : ∀ b : PST, pPo b < K.1 → pPo (i3P K b) < K.1 ∧ pPo b ≤ pPo (i3P K b) := fun b lb => by
    unfold i3P
    refine ⟨tk_k ok (by decide) (by rw [laP_po]; exact lb), Nat.le_trans ?_ tkP_po.1⟩
    rw [laP_po]
    exact Nat.le_refl _
  unfold i4P
  rw [pPo_up]
  have b2 := a2 _ a1.1
  have b3 := a3 _ b2.1
  exact ⟨b3.1, Nat.le_trans a1.2 (Nat.le_trans b2.2 b3.2)⟩
theorem okS.mono {B F : BK} {kd n : Nat} (h : okS B kd n) (e2 : bLa B ≤ bLa F) (e3 : bJa B ≤ bJa F) : okS F kd n := ⟨h.1, h.2.1, fun z => Nat.lt_of_lt_of_le (h.2.2.1 z) e2, fun z => Nat.lt_of_lt_of_le (h.2.2.2 z) e3⟩
theorem okN.mono {B F : BK} {so l r : Nat} (h : okN B so l r) (e2 : bLa B ≤ bLa F) : okN F so l r := ⟨h.1, h.2.1, fun z => Nat.lt_of_lt_of_le (h.2.2.1 z) e2, h.2.2.2⟩
/-- other parts of the book have changed -/
theorem Rst.to {K : TKS} {s s' : PST} (q : Rst K s) (e1 : bSc (pBk s') = bSc (pBk s)) (e2 : bNd (pBk s') = bNd (pBk s)) (e3 : bRs (pBk s') = bRs (pBk s)) (l1 : bLa (pBk s) ≤ bLa (pBk s')) (l2 : bJa (pBk s) ≤ bJa (pBk s')) (l3 : bLa (pBk s') ≤ 6 ∧ bJa (pBk s') ≤ 8) (p1 : pPo s ≤ pPo s') (p2 : pPo s' < K.1) : Rst K s' := by
  unfold Rst Wst at q ⊢
  generalize pBk s' = F at e1 e2 e3 l1 l2 l3 ⊢
  generalize pBk s = B at q e1 e2 e3 l1 l2
  have c1 : cSt F = cSt B := congrArg (fun x : SCR => x.1) e1
  have c2 : cKd F = cKd B := congrArg (fun x : SCR => x.2.1) e1
  have c3 : cNu F = cNu B := congrArg (fun x : SCR => x.2.2.1) e1
  have c4 : cTe F = cTe B := congrArg (fun x : SCR => x.2.2.2.1) e1
  have c5 : cTn F = cTn B := congrArg (fun x : SCR => x.2.2.2.2.1) e1
  have c6 : cAe F = cAe B := congrArg (fun x : SCR => x.2.2.2.2.2) e1
  have d1 : nNo F = nNo B := congrArg (fun x : NOD => x.1) e2
  have d2 : nAn F = nAn B := congrArg (fun x : NOD => x.2.1) e2
  have d3 : nSo F = nSo B := congrArg (fun x : NOD => x.2.2.1) e2
  have d4 : nLe F = nLe B := congrArg (fun x : NOD => x.2.2.2.1) e2
  have d5 : nRi F = nRi B := congrArg (fun x : NOD => x.2.2.2.2.1) e2
  have d6 : nRu F = nRu B := congrArg (fun x : NOD => x.2.2.2.2.2.1) e2
  have d7 : nAc F = nAc B := congrArg (fun x : NOD => x.2.2.2.2.2.2) e2
  have ex : Exr B F := ⟨⟨⟨Nat.le_of_eq c1.symm, Nat.le_of_eq d1.symm, fun k _ => ⟨by rw [c2], by rw [c3]⟩, fun k _ => ⟨by rw [d3], by rw [d4], by rw [d5]⟩⟩, Nat.le_of_eq d2.symm, fun k _ => by rw [d7]⟩, Nat.le_of_eq e3.symm, fun r _ => ⟨by rw [c4], by rw [c5], by rw [c6], by rw [d6]⟩, l1, l2⟩
  obtain ⟨⟨⟨-, q1, q2⟩, q3, q4, q5⟩, ⟨q6, q7⟩, q8, q9⟩ := q
  refine ⟨⟨⟨l3, fun k hk => ?_, fun k hk => ?_⟩, by rw [c1]; omega, by rw [d1]; omega, p2⟩, ⟨by rw [d2]; exact q6, fun k hk => ?_⟩, by rw [e3]; exact q8, fun r hr => ?_⟩
  · rw [c2, c3]
    exact (q1 k (by rw [← c1]; exact hk)).mono l1 l2
  · rw [d3, d4, d5]
    exact (q2 k (by rw [← d1]; exact hk)).mono l1
  · exact (q7 k (by rw [← d2]; exact hk)).mono (by rw [d7]) (Nat.le_of_eq d1.symm) l1 l2
  · have hr : r < bRs B := by rw [← e3]; exact hr
    exact ⟨(q9 r hr).1.mono ex hr, fun G i D eg => (q9 r hr).2 G i D (ex.trans eg)⟩
def Eok (B : BK) (E : Nat → Nat → Nat) : Prop := ∀ j k, E j k ≤ 200 ∧ (bLa B ≤ k → E j k = 0) ∧ (bJa B ≤ j → E j k = 0)
def LsB (B : BK) (E : Nat → Nat → Nat) (O : Nat → Nat) : Prop := bLi B ≤ 6 ∧ (∀ j, bSe B j ≤ 9 ∧ bWy B j < 3 ∧ (bJa B ≤ j → bSe B j = 0)) ∧ Eok B E ∧ ∀ i, i < bLi B → bLl B i < bLa B ∧ O i < bJa B ∧ (bRu B i).1 ≤ (bRu B i).2 ∧ (bRu B i).2 ≤ bRs B
def Iv (K : TKS) (s : PST) : Prop := pEr s = 0 → Rst K s ∧ LsB (pBk s) (dfE (pDf s)) (dfO (pDf s))
theorem Iv.tk {K : TKS} (ok : KOk K) {w : Nat} (hw : w < 41) {s : PST} (p : Iv K s) : Iv K (tkP K w s) := fun h => by
  obtain ⟨q1, q2⟩ := p (tkP_er h).1
  have e := tk_B (K := K) (w := w) (s := s)
  have e2 := tk_df (K := K) (w := w) (s := s)
  refine ⟨q1.to (by rw [e]) (by rw [e]) (by rw [e]) (by rw [e]; exact Nat.le_refl _) (by rw [e]; exact Nat.le_refl _) (by rw [e]; exact q1.1.1.1) tkP_po.1 (tk_k ok hw q1.1.2.2.2), ?_⟩
  rw [e, e2]
  exact q2
theorem Iv.ll {K : TKS} (ok : KOk K) {s : PST} (p : Iv K s) : Iv K (llP K s) := fun h => by
  obtain ⟨z1, z2, z3⟩ := ll_0 h
  obtain ⟨q1, b1, b2, b3, b4⟩ := p z1
  have e0 : pDf (llP K s) = ((bLa (pBk s) + 1, bJa (pBk s), bLi (pBk s), bSe (pBk s), bWy (pBk s), bLl (pBk s), bRu (pBk s), bRs (pBk s), bSc (pBk s), bNd (pBk s)), upN (dfL (pDf s)) (bLa (pBk s)) (vaP K (nlP K s)), dfJ (pDf s), dfI (pDf s), dfE (pDf s), dfO (pDf s)) := z3.trans (if_pos z2)
  have eB : pBk (llP K s) = (bLa (pBk s) + 1, bJa (pBk s), bLi (pBk s), bSe (pBk s), bWy (pBk s), bLl (pBk s), bRu (pBk s), bRs (pBk s), bSc (pBk s), bNd (pBk s)) := congrArg (fun d : DRF => d.1) e0
  have eE : dfE (pDf (llP K s)) = dfE (pDf s) := by rw [e0]
  have eO : dfO (pDf (llP K s)) = dfO (pDf s) := by rw [e0]
  have lk := ll_k ok q1.1.2.2.2
  generalize llP K s = t at eB eE eO lk ⊢
  refine ⟨q1.to (by rw [eB]) (by rw [eB]) (by rw [eB]) (by rw [eB]; exact Nat.le_succ _) (by rw [eB]; exact Nat.le_refl _) ?_ lk.2 lk.1, ?_⟩
  · rw [eB]
    exact ⟨z2, q1.1.1.1.2⟩
  · rw [eB, eE, eO]
    exact ⟨b1, b2, fun j k => ⟨(b3 j k).1, fun l => (b3 j k).2.1 (Nat.le_trans (Nat.le_succ _) l), (b3 j k).2.2⟩, fun i hi => ⟨Nat.lt_succ_of_lt (b4 i hi).1, (b4 i hi).2⟩⟩
theorem va_num {K : TKS} (ok : KOk K) {s : PST} (e : pEr s = 0) (h : kdP K s = 40) (l : pPo s < K.1) : vaP K s ≤ 9999 := by
  have v5 : vaP K s = K.2.2.2 (pPo s) := by
    unfold vaP vvT
    exact if_pos l
  rw [v5]
  exact ok.2.2 _ l (kd_of e h l)
theorem ho_Ek {K : TKS} (ok : KOk K) {l : Nat} {s : PST} (h : pEr (hoP K l s) = 0) (lt : pPo s < K.1) (q : Eok (pBk s) (dfE (pDf s))) : Eok (pBk (hoP K l s)) (dfE (pDf (hoP K l s))) := by
  rw [ho_B, (ho_0 h).2]
  unfold hoP at h
  by_cases c : nI 200 < nI (vaP K s) ∨ bLa (pBk s) ≤ l
  · rw [if_pos c] at h
    exact (rpP_er (by decide) (upP_er0 (tkP_er h).1)).elim
  · rw [if_neg c] at h
    obtain ⟨h1, h2, -⟩ := tkP_er h
    rw [kdP_up] at h2
    have v4 := va_num ok (upP_er0 h1) h2 lt
    have v2 : vaP K s ≤ 200 := Nat.le_of_not_lt (fun z => c (Or.inl ((nI_ltI (by decide) (by omega)).mpr z)))
    have lb : l < bLa (pBk s) := Nat.lt_of_not_le (fun z => c (Or.inr z))
    unfold beD
    split
    · rename_i y
      intro j k
      obtain ⟨y1, y2⟩ := y
      show (if j = bJa (pBk s) - 1 then upN (dfE (pDf s) (bJa (pBk s) - 1)) l (vaP K s) else dfE (pDf s) j) k ≤ 200 ∧ (bLa (pBk s) ≤ k → (if j = bJa (pBk s) - 1 then upN (dfE (pDf s) (bJa (pBk s) - 1)) l (vaP K s) else dfE (pDf s) j) k = 0) ∧ (bJa (pBk s) ≤ j → (if j = bJa (pBk s) - 1 then upN (dfE (pDf s) (bJa (pBk s) - 1)) l (vaP K s) else dfE (pDf s) j) k = 0)
      by_cases a : j = bJa (pBk s) - 1
      · rw [if_pos a]
        show (if k = l then vaP K s else dfE (pDf s) (bJa (pBk s) - 1) k) ≤ 200 ∧ (bLa (pBk s) ≤ k → (if k = l then vaP K s else dfE (pDf s) (bJa (pBk s) - 1) k) = 0) ∧ (bJa (pBk s) ≤ j → (if k = l then vaP K s else dfE (pDf s) (bJa (pBk s) - 1) k) = 0)
        have y1 : 0 < bJa (pBk s) := y1
        by_cases b : k = l
        · rw [if_pos b]
          exact ⟨v2, fun z => by omega, fun z => by omega⟩
        · rw [if_neg b, ← a]
          exact q j k
      · rw [if_neg a]
        exact q j k
    · exact q
theorem hs_Ek {K : TKS} (ok : KOk K) : ∀ (n l : Nat) (s : PST), pEr (hsP K n l s) = 0 → pPo s < K.1 → Eok (pBk s) (dfE (pDf s)) → Eok (pBk (hsP K n l s)) (dfE (pDf (hsP K n l s)))
  | 0, _, _, _, _, q => q
  | n + 1, l, s, h, lt, q => by
    by_cases z : kdP K s = 32
    · have e : hsP K (n + 1) l s = hsP K n (l + 1) (hoP K l (tkP K 32 s)) := if_pos z
      rw [e] at h ⊢
      have h1 := hs_er0 n (l + 1) _ h
      have t1 := tk_k ok (w := 32) (by decide) lt
      exact hs_Ek ok n (l + 1) _ h (ho_k ok t1) (ho_Ek ok h1 t1 (by rw [tk_B, tk_df]; exact q))
    · have e : hsP K (n + 1) l s = s := if_neg z
      rw [e]
      exact q
theorem Iv.jl {K : TKS} (ok : KOk K) {s : PST} (p : Iv K s) : Iv K (jlP K s) := fun h => by
  obtain ⟨z1, z2, z3, z4, z5, z6, eB, -, eO, eE3, eB3⟩ := jl_0 h
  obtain ⟨q1, b1, b2, b3, b4⟩ := p z1
  have lk := jl_k ok q1.1.2.2.2
  have l1 := (j1_k ok q1.1.2.2.2).1
  have l3 := j3_k ok (v := vaP K (j1P K s)) (j2_k ok l1)
  have v9 : vaP K (j1P K s) ≤ 9 := by
    obtain ⟨y1, -, -, y4⟩ := j2_0 z4
    have h40 : kdP K (j1P K s) = 40 := by
      have z4 := z4
      unfold j2P at z4
      have w1 := (tkP_er z4).1
      obtain ⟨w2, w3, -⟩ := tkP_er w1
      by_cases c : nI (vaP K (j1P K s)) < nI 1 ∨ nI 9 < nI (vaP K (j1P K s))
      · rw [if_pos c] at w2
        exact (rpP_er (by decide) w2).elim
      · rw [if_neg c] at w3
        exact w3
    have v4 := va_num ok y1 h40 l1
    exact (nI_leI (by omega) (by decide)).mp y4
  have EE : Eok (pBk (jlP K s)) (dfE (pDf (jlP K s))) := by
    have h3 : Eok (pBk (j3P K (vaP K (j1P K s)) (j2P K (j1P K s)))) (dfE (pDf (j3P K (vaP K (j1P K s)) (j2P K (j1P K s))))) := by
      rw [eE3, eB3, eB]
      exact fun j k => ⟨(b3 j k).1, (b3 j k).2.1, fun l => (b3 j k).2.2 (Nat.le_trans (Nat.le_succ _) l)⟩
    have hh : pEr (hsP K 399 1 (hoP K 0 (j3P K (vaP K (j1P K s)) (j2P K (j1P K s))))) = 0 := h
    exact hs_Ek ok 399 1 _ hh (ho_k ok l3) (ho_Ek ok (hs_er0 399 1 _ hh) l3 h3)
  generalize jlP K s = t at eB eO lk EE ⊢
  refine ⟨q1.to (by rw [eB]) (by rw [eB]) (by rw [eB]) (by rw [eB]; exact Nat.le_refl _) (by rw [eB]; exact Nat.le_succ _) ?_ lk.2 lk.1, ?_⟩
  · rw [eB]
    exact ⟨q1.1.1.1.1, z2⟩
  · rw [eO]
    rw [eB] at EE ⊢
    refine ⟨b1, fun j => ?_, EE, fun i hi => ⟨(b4 i hi).1, Nat.lt_succ_of_lt (b4 i hi).2.1, (b4 i hi).2.2⟩⟩
    show (if j = bJa (pBk s) then vaP K (j1P K s) else bSe (pBk s) j) ≤ 9 ∧ (if j = bJa (pBk s) then kdP K (j2P K (j1P K s)) - 24 else bWy (pBk s) j) < 3 ∧ (bJa (pBk s) + 1 ≤ j → (if j = bJa (pBk s) then vaP K (j1P K s) else bSe (pBk s) j) = 0)
    by_cases y : j = bJa (pBk s)
    · rw [if_pos y, if_pos y]
      exact ⟨v9, by omega, fun z => by omega⟩
    · rw [if_neg y, if_neg y]
      exact ⟨(b2 j).1, (b2 j).2.1, fun z => (b2 j).2.2 (by omega)⟩
theorem rs_le {K : TKS} : ∀ (n : Nat) (s : PST), pEr (rsP K n s) = 0 → (pEr s = 0 → RlK s) → bRs (pBk s) ≤ bRs (pBk (rsP K n s))
  | 0, _, _, _ => Nat.le_refl _
  | n + 1, s, h, hl => by
    by_cases z : kdP K s = 8
    · have e : rsP K (n + 1) s = rsP K n (rlP K s) := if_pos z
      rw [e] at h ⊢
      have hl' : pEr s = 0 → 0 < bLi (pBk s) := fun w => (hl w).1
      have hk : pEr (rlP K s) = 0 → RlK (rlP K s) := fun w => (rl_I w hl').1.key (hl' (rl_0 w hl').1)
      have h1 := (rs_I n (rlP K s) h hk).1
      have h2 := (rl_I h1 hl').2
      have h3 := rs_le n _ h hk
      omega
    · have e : rsP K (n + 1) s = s := if_neg z
      rw [e]
      exact Nat.le_refl _
theorem Iv.il {K : TKS} (ok : KOk K) {s : PST} (p : Iv K s) : Iv K (ilP K s) := fun h => by
  obtain ⟨z4, -⟩ := il_0 h
  obtain ⟨-, -, -, -, e4, e4E, e4O⟩ := i4_0 z4
  obtain ⟨z1, z2, zj, zl, f1, f2, f3, f4, f5, f6, f7, f8, f9, f10⟩ := il_1 h
  obtain ⟨q1, b1, b2, b3, b4⟩ := p z1
  have i1d : pDf (i1P K s) = pDf s := by
    unfold i1P niP
    rw [tk_df, tk_df, nw_df, tk_df]
  have i2d : pDf (i2P K (i1P K s)) = pDf s := by
    unfold i2P jaP
    rw [tk_df, tk_df, rpO_df, i1d]
  have key1 : ∀ b : PST, pEr (tkP K 39 (jaP K b)) = 0 → (jbO K b).getD 0 < bJa (pBk b) := fun b z => by
    unfold jaP at z
    have n1 := (rpO_ne (tkP_er z).1).1
    cases el : jbO K b with
    | none => exact absurd el n1
    | some j =>
      unfold jbO at el
      exact (fnN_some el).1
  have key2 : ∀ b : PST, pEr (i3P K b) = 0 → (lbO K b).getD 0 < bLa (pBk b) := fun b z => by
    unfold i3P laP at z
    have n1 := (rpO_ne (tkP_er z).1).1
    cases el : lbO K b with
    | none => exact absurd el n1
    | some j =>
      unfold lbO at el
      exact (fnN_some el).1
  have hj := key1 _ zj
  have hl := key2 _ zl
  rw [show pBk (i1P K s) = pBk s from congrArg (fun d : DRF => d.1) i1d] at hj
  rw [show pBk (i2P K (i1P K s)) = pBk s from congrArg (fun d : DRF => d.1) i2d] at hl
  have lk := i4_k ok q1.1.2.2.2
  have r4 : Rst K (i4P K s) := q1.to (by rw [e4]) (by rw [e4]) (by rw [e4]) (by rw [e4]; exact Nat.le_refl _) (by rw [e4]; exact Nat.le_refl _) (by rw [e4]; exact q1.1.1.1) lk.2 lk.1
  have k4 : RlK (i4P K s) := by
    unfold RlK
    rw [e4]
    exact ⟨Nat.succ_pos _, congrArg Prod.snd (if_pos (Nat.add_sub_cancel (n := bLi (pBk s)) (m := 1)))⟩
  have hR : pEr (rsP K 400 (i4P K s)) = 0 := by
    have h9 := h
    unfold ilP at h9
    exact h9
  have r5 : Rst K (ilP K s) := by
    unfold ilP
    exact rs_sen ok 400 _ hR (fun _ => k4) r4
  have l5 : bRs (pBk (i4P K s)) ≤ bRs (pBk (ilP K s)) := by
    unfold ilP
    exact rs_le 400 _ hR (fun _ => k4)
  have l6 : bRs (pBk s) ≤ bRs (pBk (ilP K s)) := by
    rw [e4] at l5
    exact l5
  refine ⟨r5, ?_⟩
  generalize ilP K s = t at f1 f2 f3 f4 f5 f6 f7 f8 f9 f10 l6 ⊢
  unfold LsB Eok
  rw [f1, f2, f3, f4, f5, f6, f7, f8]
  refine ⟨z2, b2, b3, fun i hi => ?_⟩
  have g1 : (bRu (pBk t) i).1 = if i = bLi (pBk s) then bRs (pBk s) else (bRu (pBk s) i).1 := congrFun f9 i
  have g2 : (bRu (pBk t) i).2 = if i = bLi (pBk s) then bRs (pBk t) else (bRu (pBk s) i).2 := congrFun f10 i
  rw [g1, g2]
  show (if i = bLi (pBk s) then _ else bLl (pBk s) i) < _ ∧ (if i = bLi (pBk s) then _ else dfO (pDf s) i) < _ ∧ _
  by_cases y : i = bLi (pBk s)
  · rw [if_pos y, if_pos y, if_pos y, if_pos y]
    exact ⟨hl, hj, l6, Nat.le_refl _⟩
  · rw [if_neg y, if_neg y, if_neg y, if_neg y]
    obtain ⟨c1, c2, c3, c4⟩ := b4 i (by omega)
    exact ⟨c1, c2, c3, Nat.le_trans c4 l6⟩
theorem Iv.ln {K : TKS} (ok : KOk K) {s : PST} (p : Iv K s) : Iv K (lnP K s) := by
  unfold lnP
  split
  · exact p.ll ok
  · split
    · exact p.jl ok
    · exact p.il ok
theorem Iv.ls {K : TKS} (ok : KOk K) : ∀ (n : Nat) (s : PST), Iv K s → Iv K (lsP K n s)
  | 0, _, p => p
  | n + 1, s, p => by
    unfold lsP
    split
    · exact Iv.ls ok n _ ((p.ln ok).tk ok (by decide))
    · exact p
theorem su_leM {f : Nat → Nat} {m : Nat} (h : ∀ k, f k ≤ m) : ∀ n, su f n ≤ n * m
  | 0 => Nat.zero_le _
  | n + 1 => by
    have := su_leM h n
    have := h n
    show su f n + f n ≤ (n + 1) * m
    rw [Nat.succ_mul]
    omega
/-- the new state -/
def dyN (d : DRF) : DY := (0, dfE d, dfO d, fun _ => none)
theorem Iv.ok {K : TKS} (kk : KOk K) {s : PST} (p : Iv K s) (h : pEr s = 0) : BDok (pBk s) (dyN (pDf s)) := by
  obtain ⟨⟨⟨⟨w1, w2, w3⟩, w4, w5, w6⟩, ⟨a1, a2⟩, r1, r2⟩, b1, b2, b3, b4⟩ := p h
  have k4 := kk.1
  have hs : BSok (pBk s) := by
    refine ⟨⟨by omega, r1, by omega, a1, w2, w3, fun i hi => (b4 i hi).2.2, fun r hr => ⟨(r2 r hr).1.1, (r2 r hr).1.2.1, (r2 r hr).1.2.2, fun k _ hk => a2 k ?_⟩⟩, fun i D hi _ r _ hr => ?_⟩
    · have := (r2 r hr).1.2.2.2
      have hk : k < (nRu (pBk s) r).2.2.2 := hk
      omega
    · have hr2 : r < bRs (pBk s) := Nat.lt_of_lt_of_le hr (b4 i hi).2.2.2
      exact (r2 r hr2).2 (pBk s) i D ⟨Exa.rf _, Nat.le_refl _, fun _ _ => ⟨rfl, rfl, rfl, rfl⟩, Nat.le_refl _, Nat.le_refl _⟩
  exact ⟨w1.1, w1.2, b1, fun i _ => ⟨(b2 i).1, (b2 i).2.1⟩, fun i hi _ => ⟨(b2 i).2.2 hi, fun k _ => (b3 i k).2.2 hi⟩, fun i k _ hk _ => (b3 i k).2.1 hk, fun i _ => su_leM (fun k => (b3 i k).1) 6, fun i hi => ⟨(b4 i hi).1, (b4 i hi).2.1⟩, fun k j _ e => (nomatch (show (none : Option Nat) = some j from e)), fun _ _ => rfl, hs⟩
/-- a draft with nothing in it -/
def bkZ (w te tn ae : Nat → Nat) : BK := (0, 0, 0, fun _ => 0, w, fun _ => 0, fun _ => (0, 0), 0, (0, fun _ => 0, fun _ => 0, te, tn, ae), (0, 0, fun _ => 0, fun _ => 0, fun _ => 0, fun _ => (0, 0, 0, 0), fun _ => (0, 0, 0, 0)))
def dfZ (w te tn ae O : Nat → Nat) : DRF := (bkZ w te tn ae, fun _ => 0, fun _ => 0, fun _ => 0, fun _ _ => 0, O)
theorem Iv.z {K : TKS} {w te tn ae O : Nat → Nat} (hw : ∀ j, w j < 3) (hk : 0 < K.1) : Iv K (0, 0, 0, dfZ w te tn ae O) := fun _ =>
  ⟨⟨⟨⟨⟨Nat.zero_le _, Nat.zero_le _⟩, fun k hk => absurd hk (Nat.not_lt_zero k), fun k hk => absurd hk (Nat.not_lt_zero k)⟩, Nat.le_refl _, Nat.le_refl _, hk⟩, ⟨Nat.zero_le _, fun k hk => absurd hk (Nat.not_lt_zero k)⟩, Nat.zero_le _, fun k hk => absurd hk (Nat.not_lt_zero k)⟩, Nat.zero_le _, fun j => ⟨Nat.zero_le _, hw j, fun _ => rfl⟩, fun j k => ⟨Nat.zero_le _, fun _ => rfl, fun _ => rfl⟩, fun k hk => absurd hk (Nat.not_lt_zero k)⟩
