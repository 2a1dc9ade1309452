/-! the reference's lines: a lid's line as a whole -/
section RMW
variable {G : GT} {d : Nat} {h0 h h1 hA : AH} {m : Nat} {K : TKS} {T : List Nat} {L : Nat → Nat} {s s1 t a b c : PST} {dp : Nat} {g g1 : GCT} {no no1 : Nat} {P : OC → AH → Prop}
theorem i3_er0 (h : pEr (i3P K b) = 0) : pEr b = 0 := by
  unfold i3P at h
  exact laP_er0 (tkP_er h).1
theorem il_0 (h : pEr (ilP K s) = 0) : pEr (i4P K s) = 0 ∧ RlI (i4P K s) (ilP K s) := by
  have e9 : ilP K s = rsP K 400 (i4P K s) := by
    unfold ilP
    rfl
  rw [e9] at h ⊢
  refine rs_I 400 (i4P K s) h (fun z => ?_)
  obtain ⟨-, -, -, -, e, -⟩ := i4_0 z
  unfold RlK
  rw [e]
  exact ⟨Nat.succ_pos _, congrArg Prod.snd (if_pos rfl)⟩
/-- what a lid's line does with the draft -/
theorem il_1 (h : pEr (ilP K s) = 0) : pEr s = 0 ∧ bLi (pBk s) < 6 ∧ pEr (tkP K 39 (jaP K (i1P K s))) = 0 ∧ pEr (i3P K (i2P K (i1P K s))) = 0 ∧ bLa (pBk (ilP K s)) = bLa (pBk s) ∧ bJa (pBk (ilP K s)) = bJa (pBk s) ∧ bLi (pBk (ilP K s)) = bLi (pBk s) + 1 ∧ bSe (pBk (ilP K s)) = bSe (pBk s) ∧ bWy (pBk (ilP K s)) = bWy (pBk s) ∧ bLl (pBk (ilP K s)) = upN (bLl (pBk s)) (bLi (pBk s)) ((lbO K (i2P K (i1P K s))).getD 0) ∧ dfE (pDf (ilP K s)) = dfE (pDf s) ∧ dfO (pDf (ilP K s)) = upN (dfO (pDf s)) (bLi (pBk s)) ((jbO K (i1P K s)).getD 0) ∧ (fun i => (bRu (pBk (ilP K s)) i).1) = upN (fun i => (bRu (pBk s) i).1) (bLi (pBk s)) (bRs (pBk s)) ∧ (fun i => (bRu (pBk (ilP K s)) i).2) = upN (fun i => (bRu (pBk s) i).2) (bLi (pBk s)) (bRs (pBk (ilP K s))) := by
  obtain ⟨h4, i1, i2, i3, i4, i5, i6, i7, i8, i9⟩ := il_0 h
  obtain ⟨h0, lt, hj, h3, e, eE, eO⟩ := i4_0 h4
  rw [e] at i1 i2 i3 i4 i5 i6 i9
  refine ⟨h0, lt, hj, h3, i1, i2, i3, i4, i5, i6, i7.trans eE, i8.trans eO, ?_, ?_⟩
  · rw [i9]
    funext i
    show (if i = bLi (pBk s) + 1 - 1 then ((if bLi (pBk s) + 1 - 1 = bLi (pBk s) then (bRs (pBk s), bRs (pBk s)) else bRu (pBk s) (bLi (pBk s) + 1 - 1)).1, bRs (pBk (ilP K s))) else (if i = bLi (pBk s) then (bRs (pBk s), bRs (pBk s)) else bRu (pBk s) i)).1 = (if i = bLi (pBk s) then bRs (pBk s) else (bRu (pBk s) i).1)
    by_cases y : i = bLi (pBk s)
    · rw [if_pos (by omega), if_pos (by omega), if_pos y]
    · rw [if_neg (by omega), if_neg y, if_neg y]
  · rw [i9]
    funext i
    show (if i = bLi (pBk s) + 1 - 1 then ((if bLi (pBk s) + 1 - 1 = bLi (pBk s) then (bRs (pBk s), bRs (pBk s)) else bRu (pBk s) (bLi (pBk s) + 1 - 1)).1, bRs (pBk (ilP K s))) else (if i = bLi (pBk s) then (bRs (pBk s), bRs (pBk s)) else bRu (pBk s) i)).2 = (if i = bLi (pBk s) then bRs (pBk (ilP K s)) else (bRu (pBk s) i).2)
    by_cases y : i = bLi (pBk s)
    · rw [if_pos (by omega), if_pos y]
    · rw [if_neg (by omega), if_neg y, if_neg y]

end RMW
