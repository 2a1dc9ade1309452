/-! the reference's rule -/
abbrev RSR : Type := Nat × Nat × Nat × (Nat → Nat) × (Nat → Nat) × (Nat → Nat) × (Nat → Nat × Nat) × Nat × (Nat → Nat) × (Nat → Nat) × (Nat → Nat) × (Nat → Nat × Nat × Nat × Nat) × (Nat → Nat) × (Nat → Nat) × (Nat → Nat) × (Nat → Nat → Nat) × (Nat → Nat)
/-- all but acts, steps, nodes -/
def rsR (s : PST) : RSR := (bLa (pBk s), bJa (pBk s), bLi (pBk s), bSe (pBk s), bWy (pBk s), bLl (pBk s), bRu (pBk s), bRs (pBk s), cTe (pBk s), cTn (pBk s), cAe (pBk s), nRu (pBk s), dfL (pDf s), dfJ (pDf s), dfI (pDf s), dfE (pDf s), dfO (pDf s))
def prR (x : RSD) : RSR := (x.1, x.2.1, x.2.2.1, x.2.2.2.1, x.2.2.2.2.1, x.2.2.2.2.2.1, x.2.2.2.2.2.2.1, x.2.2.2.2.2.2.2.1, x.2.2.2.2.2.2.2.2.1, x.2.2.2.2.2.2.2.2.2.1, x.2.2.2.2.2.2.2.2.2.2.1, x.2.2.2.2.2.2.2.2.2.2.2.2.1, x.2.2.2.2.2.2.2.2.2.2.2.2.2.2)
theorem rsR_of {s s' : PST} (e : rsS s = rsS s') : rsR s = rsR s' := by
  have h1 : ∀ s, rsR s = prR (rsS s) := fun _ => rfl
  rw [h1, h1, e]
theorem rr_up {f : DRF → DRF} (hf : ∀ s, rsR (pPo s, pEr s, pEt s, f (pDf s)) = rsR s) {s : PST} : rsR (upP f s) = rsR s := by
  unfold upP
  split
  · exact hf s
  · rfl
theorem rr_ar {k : Nat} {x : Nat × Nat × Nat × Nat} {s : PST} : rsR (upP (arD k x) s) = rsR s := rr_up (f := arD k x) (fun _ => rfl)
theorem rr_ab {s : PST} : rsR (abP s) = rsR s := by
  unfold abP
  rw [rr_up (f := acD) (fun _ => rfl)]
  split
  · exact rsR_of rs_rp
  · rfl
theorem rs_la {K : TKS} {s : PST} : rsS (laP K s) = rsS s := rs_rpO
theorem rs_ja {K : TKS} {s : PST} : rsS (jaP K s) = rsS s := rs_rpO
theorem rr_ac {K : TKS} {s : PST} : rsR (acP K s) = rsR s := by
  unfold acP
  split
  · unfold awP
    rw [rr_ar, rsR_of ((rs_tk.trans rs_st).trans (rs_la.trans (rs_tk.trans ((rs_sm 6 _).trans rs_tk)))), rr_ab]
  · split
    · unfold ahP
      rw [rr_ar, rsR_of ((rs_tk.trans rs_st).trans (rs_ja.trans rs_tk)), rr_ab]
    · split
      · unfold ajP
        rw [rr_ar, rsR_of ((rs_tk.trans rs_st).trans (rs_la.trans rs_tk)), rr_ab]
      · unfold aoP
        rw [rr_ar, rsR_of (rs_tk.trans rs_st), rr_ab]
theorem rr_as {K : TKS} : ∀ (n : Nat) (s : PST), rsR (asP K n s) = rsR s
  | 0, _ => rfl
  | n + 1, s => by
    unfold asP
    split
    · rw [rr_as n, rr_ac]
    · rfl
theorem rr_get {s s' : PST} (e : rsR s = rsR s') : bRs (pBk s) = bRs (pBk s') ∧ nRu (pBk s) = nRu (pBk s') ∧ bLi (pBk s) = bLi (pBk s') := ⟨congrArg (fun x : RSR => x.2.2.2.2.2.2.2.1) e, congrArg (fun x : RSR => x.2.2.2.2.2.2.2.2.2.2.2.1) e, congrArg (fun x : RSR => x.2.2.1) e⟩
theorem Eqv.ru (s : PST) : Eqv (upP ruD s) s := Eqv.up (f := ruD) (fun d => by
  unfold ruD
  split <;> exact ⟨rfl, rfl⟩) s
theorem Eqv.te (s : PST) : Eqv (upP teD s) s := Eqv.up (f := teD) (fun d => by
  unfold teD
  split <;> exact ⟨rfl, rfl⟩) s
theorem Eqv.ae (s : PST) : Eqv (upP aeD s) s := Eqv.up (f := aeD) (fun d => by
  unfold aeD
  split <;> exact ⟨rfl, rfl⟩) s
theorem Eqv.rr {k : Nat} {x : Nat × Nat × Nat × Nat} (s : PST) : Eqv (upP (rrD k x) s) s := Eqv.up (f := rrD k x) (fun _ => ⟨rfl, rfl⟩) s
/-- rules' ends leave acts and rules as they are -/
theorem te_get {s : PST} : nAc (pBk (upP teD s)) = nAc (pBk s) ∧ nAn (pBk (upP teD s)) = nAn (pBk s) ∧ nRu (pBk (upP teD s)) = nRu (pBk s) ∧ bRs (pBk (upP teD s)) = bRs (pBk s) := by
  unfold upP
  split
  · show nAc (teD (pDf s)).1 = _ ∧ nAn (teD (pDf s)).1 = _ ∧ nRu (teD (pDf s)).1 = _ ∧ bRs (teD (pDf s)).1 = _
    unfold teD
    split <;> exact ⟨rfl, rfl, rfl, rfl⟩
  · exact ⟨rfl, rfl, rfl, rfl⟩
theorem ae_get {s : PST} : nAc (pBk (upP aeD s)) = nAc (pBk s) ∧ nAn (pBk (upP aeD s)) = nAn (pBk s) ∧ nRu (pBk (upP aeD s)) = nRu (pBk s) ∧ bRs (pBk (upP aeD s)) = bRs (pBk s) := by
  unfold upP
  split
  · show nAc (aeD (pDf s)).1 = _ ∧ nAn (aeD (pDf s)).1 = _ ∧ nRu (aeD (pDf s)).1 = _ ∧ bRs (aeD (pDf s)).1 = _
    unfold aeD
    split <;> exact ⟨rfl, rfl, rfl, rfl⟩
  · exact ⟨rfl, rfl, rfl, rfl⟩
theorem rr_get2 {k : Nat} {x : Nat × Nat × Nat × Nat} {s : PST} : nAc (pBk (upP (rrD k x) s)) = nAc (pBk s) ∧ nAn (pBk (upP (rrD k x) s)) = nAn (pBk s) ∧ bRs (pBk (upP (rrD k x) s)) = bRs (pBk s) ∧ (pEr s = 0 → nRu (pBk (upP (rrD k x) s)) = upN (nRu (pBk s)) k x) := by
  unfold upP
  split
  · exact ⟨rfl, rfl, rfl, fun _ => rfl⟩
  · rename_i z
    exact ⟨rfl, rfl, rfl, fun w => absurd w z⟩
theorem rb_0 {K : TKS} {s : PST} (h : pEr (rbP K s) = 0) (hl : pEr s = 0 → 0 < bLi (pBk s)) : pEr s = 0 ∧ bRs (pBk s) < 24 ∧ bRs (pBk (rbP K s)) = bRs (pBk s) + 1 ∧ nRu (pBk (rbP K s)) = nRu (pBk s) ∧ nAc (pBk (rbP K s)) = nAc (pBk s) ∧ nAn (pBk (rbP K s)) = nAn (pBk s) ∧ nNo (pBk (rbP K s)) = nNo (pBk s) := by
  by_cases z : 24 ≤ bRs (pBk s)
  · unfold rbP at h
    rw [if_pos z] at h
    exact (rpP_er (by decide) (tkP_er (upP_er0 h)).1).elim
  · have e : rbP K s = upP ruD (tkP K 8 s) := by
      unfold rbP
      rw [if_neg z]
    rw [e] at h ⊢
    have h2 := upP_er0 h
    obtain ⟨h3, -, h4⟩ := tkP_er h2
    rw [h4] at h2 ⊢
    rw [upP_e h2]
    have l := hl h3
    have e2 : ruD (pDf s) = ((bLa (pBk s), bJa (pBk s), bLi (pBk s), bSe (pBk s), bWy (pBk s), bLl (pBk s), upN (bRu (pBk s)) (bLi (pBk s) - 1) ((bRu (pBk s) (bLi (pBk s) - 1)).1, bRs (pBk s) + 1), bRs (pBk s) + 1, (cSt (pBk s), cKd (pBk s), cNu (pBk s), upN (cTe (pBk s)) (bRs (pBk s)) (cSt (pBk s)), cTn (pBk s), cAe (pBk s)), bNd (pBk s)), (pDf s).2) := if_pos ⟨l, Nat.lt_of_not_le z⟩
    refine ⟨h3, by omega, ?_⟩
    show bRs (ruD (pDf s)).1 = _ ∧ nRu (ruD (pDf s)).1 = _ ∧ nAc (ruD (pDf s)).1 = _ ∧ nAn (ruD (pDf s)).1 = _ ∧ nNo (ruD (pDf s)).1 = _
    rw [e2]
    exact ⟨rfl, rfl, rfl, rfl, rfl⟩
section RMK
variable {G : GT} {d : Nat} {h0 h : AH} {m : Nat} {K : TKS} {T : List Nat} {L : Nat → Nat} {s : PST} {dp : Nat} {g : GCT} {no : Nat} {P : OC → AH → Prop}

theorem as_po {K : TKS} (hp : ∀ s, pPo s ≤ pPo (acP K s)) : ∀ (n : Nat) (s : PST), pPo s ≤ pPo (asP K n s)
  | 0, _ => Nat.le_refl _
  | n + 1, s => by
    unfold asP
    split
    · exact Nat.le_trans (hp s) (as_po hp n _)
    · exact Nat.le_refl _
theorem acP_po {K : TKS} (s : PST) : pPo s ≤ pPo (acP K s) := by
  unfold acP
  split
  · unfold awP
    rw [pPo_up]
    refine Nat.le_trans ?_ tkP_po.1
    rw [stP_po, laP_po]
    refine Nat.le_trans ?_ tkP_po.1
    refine Nat.le_trans ?_ (smP_po 6 _)
    refine Nat.le_trans ?_ tkP_po.1
    rw [abP_po]
    exact Nat.le_refl _
  · split
    · unfold ahP
      rw [pPo_up]
      refine Nat.le_trans ?_ tkP_po.1
      rw [stP_po, jaP_po]
      refine Nat.le_trans ?_ tkP_po.1
      rw [abP_po]
      exact Nat.le_refl _
    · split
      · unfold ajP
        rw [pPo_up]
        refine Nat.le_trans ?_ tkP_po.1
        rw [stP_po, laP_po]
        refine Nat.le_trans ?_ tkP_po.1
        rw [abP_po]
        exact Nat.le_refl _
      · unfold aoP
        rw [pPo_up]
        refine Nat.le_trans ?_ tkP_po.1
        rw [stP_po, abP_po]
        exact Nat.le_refl _
theorem ac_er0 {K : TKS} {s : PST} (h : pEr (acP K s) = 0) : pEr s = 0 := by
  unfold acP at h
  split at h
  · unfold awP at h
    exact (abP_0 (tkP_er (smP_er0 6 _ (tkP_er (laP_er0 (stP_er0 (tkP_er (upP_er0 h)).1))).1)).1).1
  · split at h
    · unfold ahP at h
      exact (abP_0 (tkP_er (jaP_er0 (stP_er0 (tkP_er (upP_er0 h)).1))).1).1
    · split at h
      · unfold ajP at h
        exact (abP_0 (tkP_er (laP_er0 (stP_er0 (tkP_er (upP_er0 h)).1))).1).1
      · unfold aoP at h
        exact (abP_0 (stP_er0 (tkP_er (upP_er0 h)).1)).1
theorem as_er0 {K : TKS} : ∀ (n : Nat) (s : PST), pEr (asP K n s) = 0 → pEr s = 0
  | 0, _, h => h
  | n + 1, s, h => by
    unfold asP at h
    split at h
    · exact ac_er0 (as_er0 n _ h)
    · exact h
theorem rbP_po {K : TKS} {s : PST} : pPo s ≤ pPo (rbP K s) ∧ (pEr (rbP K s) ≠ 1 → pEr s ≠ 1 → pPo s + 1 ≤ pPo (rbP K s)) := by
  have key : ∀ a : PST, pPo a = pPo s → pPo s ≤ pPo (upP ruD (tkP K 8 a)) ∧ (pEr (upP ruD (tkP K 8 a)) ≠ 1 → pPo s + 1 ≤ pPo (upP ruD (tkP K 8 a))) := fun a ha => by
    rw [pPo_up, pEr_up]
    refine ⟨by rw [← ha]; exact tkP_po.1, fun z => ?_⟩
    unfold tkP at z ⊢
    by_cases e1 : pEr a = 1
    · rw [if_pos e1] at z
      exact absurd e1 z
    · rw [if_neg e1] at z ⊢
      by_cases e2 : kdP K a = 8
      · rw [if_pos e2]
        show pPo s + 1 ≤ pPo a + 1
        omega
      · rw [if_neg e2] at z
        exact absurd rfl z
  unfold rbP
  split
  · exact ⟨(key _ rpP_po).1, fun z _ => (key _ rpP_po).2 z⟩
  · exact ⟨(key _ rfl).1, fun z _ => (key _ rfl).2 z⟩
theorem rtP_po {K : TKS} {s : PST} : pPo s ≤ pPo (rtP K s) := by
  unfold rtP
  rw [pPo_up]
  exact Nat.le_trans (teP_po 6 s) tkP_po.1
theorem raP_po {K : TKS} {s : PST} : pPo s ≤ pPo (raP K s) := by
  unfold raP
  rw [pPo_up]
  exact Nat.le_trans (as_po acP_po 400 s) tkP_po.1
theorem raP_er0 {K : TKS} {s : PST} (h : pEr (raP K s) = 0) : pEr s = 0 := by
  unfold raP at h
  exact as_er0 400 s (tkP_er (upP_er0 h)).1
theorem rtP_er0 {K : TKS} {s : PST} (h : pEr (rtP K s) = 0) : pEr s = 0 := by
  unfold rtP at h
  exact teP_er0 6 s (tkP_er (upP_er0 h)).1

end RMK
