/-! the reference's winning act, an act, acts -/
theorem up_ar {k : Nat} {x : Nat × Nat × Nat × Nat} {s : PST} (z : pEr s = 0) : nAc (pBk (upP (arD k x) s)) = upN (nAc (pBk s)) k x ∧ nAn (pBk (upP (arD k x) s)) = nAn (pBk s) := by
  rw [upP_e z]
  exact ⟨rfl, rfl⟩
theorem nb_0 {K : TKS} {s : PST} : nbO K 0 s = lbO K s := rfl
theorem nb_1 {K : TKS} {s : PST} : nbO K 1 s = jbO K s := rfl
theorem laP_eq {K : TKS} {s : PST} : rpO (lbO K s) s = laP K s := rfl
theorem jaP_eq {K : TKS} {s : PST} : rpO (jbO K s) s = jaP K s := rfl
theorem laP_po {K : TKS} {s : PST} : pPo (laP K s) = pPo s := rpO_po
theorem jaP_po {K : TKS} {s : PST} : pPo (jaP K s) = pPo s := rpO_po
theorem laP_er0 {K : TKS} {s : PST} (h : pEr (laP K s) = 0) : pEr s = 0 := rpO_er0 h
theorem jaP_er0 {K : TKS} {s : PST} (h : pEr (jaP K s) = 0) : pEr s = 0 := rpO_er0 h
theorem laP_nb {K : TKS} {s : PST} : laP K s = rpO (nbO K 0 s) s := rfl
theorem jaP_nb {K : TKS} {s : PST} : jaP K s = rpO (nbO K 1 s) s := rfl
section RMI
variable {G : GT} {d : Nat} {h0 h : AH} {m : Nat} {K : TKS} {T : List Nat} {L : Nat → Nat} {s : PST} {dp : Nat} {g : GCT} {no : Nat}

end RMI
