/-! what rules and a lid's line do with the draft -/
abbrev RSQ : Type := Nat × Nat × Nat × (Nat → Nat) × (Nat → Nat) × (Nat → Nat) × (Nat → Nat × Nat) × Nat × (Nat → Nat) × (Nat → Nat) × (Nat → Nat) × (Nat → Nat → Nat) × (Nat → Nat)
def rsQ (s : PST) : RSQ := (bLa (pBk s), bJa (pBk s), bLi (pBk s), bSe (pBk s), bWy (pBk s), bLl (pBk s), bRu (pBk s), bRs (pBk s), dfL (pDf s), dfJ (pDf s), dfI (pDf s), dfE (pDf s), dfO (pDf s))
def prQ (x : RSR) : RSQ := (x.1, x.2.1, x.2.2.1, x.2.2.2.1, x.2.2.2.2.1, x.2.2.2.2.2.1, x.2.2.2.2.2.2.1, x.2.2.2.2.2.2.2.1, x.2.2.2.2.2.2.2.2.2.2.2.2)
theorem rsQ_of {s s' : PST} (e : rsR s = rsR s') : rsQ s = rsQ s' := by
  have h1 : ∀ s, rsQ s = prQ (rsR s) := fun _ => rfl
  rw [h1, h1, e]
theorem rq_up {f : DRF → DRF} (hf : ∀ s, rsQ (pPo s, pEr s, pEt s, f (pDf s)) = rsQ s) {s : PST} : rsQ (upP f s) = rsQ s := by
  unfold upP
  split
  · exact hf s
  · rfl
theorem rq_te {s : PST} : rsQ (upP teD s) = rsQ s := rq_up (f := teD) (fun s => by
  unfold teD
  split <;> rfl)
theorem rq_ae {s : PST} : rsQ (upP aeD s) = rsQ s := rq_up (f := aeD) (fun s => by
  unfold aeD
  split <;> rfl)
theorem rq_rr {k : Nat} {x : Nat × Nat × Nat × Nat} {s : PST} : rsQ (upP (rrD k x) s) = rsQ s := rq_up (f := rrD k x) (fun _ => rfl)
theorem rq_rl {K : TKS} {s : PST} : rsQ (rlP K s) = rsQ (rbP K s) := by
  unfold rlP
  rw [rq_rr]
  unfold raP
  rw [rq_ae, rsQ_of (rsR_of rs_tk), rsQ_of (rr_as 400 _)]
  unfold rtP
  rw [rq_te, rsQ_of (rsR_of rs_tk), rsQ_of (rsR_of (rs_te 6 _))]
theorem rl_er0 {K : TKS} {s : PST} (h : pEr (rlP K s) = 0) : pEr (rbP K s) = 0 := by
  unfold rlP at h
  exact rtP_er0 (raP_er0 (upP_er0 h))
/-- a rule more of the latest lid -/
theorem rl_0 {K : TKS} {s : PST} (h : pEr (rlP K s) = 0) (hl : pEr s = 0 → 0 < bLi (pBk s)) : pEr s = 0 ∧ bRs (pBk s) < 24 ∧ rsQ (rlP K s) = (bLa (pBk s), bJa (pBk s), bLi (pBk s), bSe (pBk s), bWy (pBk s), bLl (pBk s), upN (bRu (pBk s)) (bLi (pBk s) - 1) ((bRu (pBk s) (bLi (pBk s) - 1)).1, bRs (pBk s) + 1), bRs (pBk s) + 1, dfL (pDf s), dfJ (pDf s), dfI (pDf s), dfE (pDf s), dfO (pDf s)) := by
  have hb := rl_er0 h
  obtain ⟨h1, h2, -⟩ := rb_0 hb hl
  refine ⟨h1, h2, ?_⟩
  rw [rq_rl]
  have e : rbP K s = upP ruD (tkP K 8 s) := by
    unfold rbP
    rw [if_neg (by omega)]
  rw [e] at hb ⊢
  have h3 := upP_er0 hb
  obtain ⟨-, -, h4⟩ := tkP_er h3
  rw [h4] at h3 ⊢
  rw [upP_e h3]
  have e2 : ruD (pDf s) = ((bLa (pBk s), bJa (pBk s), bLi (pBk s), bSe (pBk s), bWy (pBk s), bLl (pBk s), upN (bRu (pBk s)) (bLi (pBk s) - 1) ((bRu (pBk s) (bLi (pBk s) - 1)).1, bRs (pBk s) + 1), bRs (pBk s) + 1, (cSt (pBk s), cKd (pBk s), cNu (pBk s), upN (cTe (pBk s)) (bRs (pBk s)) (cSt (pBk s)), cTn (pBk s), cAe (pBk s)), bNd (pBk s)), (pDf s).2) := if_pos ⟨hl h1, h2⟩
  show (bLa (ruD (pDf s)).1, bJa (ruD (pDf s)).1, bLi (ruD (pDf s)).1, bSe (ruD (pDf s)).1, bWy (ruD (pDf s)).1, bLl (ruD (pDf s)).1, bRu (ruD (pDf s)).1, bRs (ruD (pDf s)).1, dfL (ruD (pDf s)), dfJ (ruD (pDf s)), dfI (ruD (pDf s)), dfE (ruD (pDf s)), dfO (ruD (pDf s))) = _
  rw [e2]
/-- rules of a lid: so many more, all else as it was -/
def RlI (s s' : PST) : Prop := bLa (pBk s') = bLa (pBk s) ∧ bJa (pBk s') = bJa (pBk s) ∧ bLi (pBk s') = bLi (pBk s) ∧ bSe (pBk s') = bSe (pBk s) ∧ bWy (pBk s') = bWy (pBk s) ∧ bLl (pBk s') = bLl (pBk s) ∧ dfE (pDf s') = dfE (pDf s) ∧ dfO (pDf s') = dfO (pDf s) ∧ bRu (pBk s') = upN (bRu (pBk s)) (bLi (pBk s) - 1) ((bRu (pBk s) (bLi (pBk s) - 1)).1, bRs (pBk s'))
theorem rl_I {K : TKS} {s : PST} (h : pEr (rlP K s) = 0) (hl : pEr s = 0 → 0 < bLi (pBk s)) : RlI s (rlP K s) ∧ bRs (pBk (rlP K s)) = bRs (pBk s) + 1 := by
  obtain ⟨-, -, e⟩ := rl_0 h hl
  injection e with e1 e
  injection e with e2 e
  injection e with e3 e
  injection e with e4 e
  injection e with e5 e
  injection e with e6 e
  injection e with e7 e
  injection e with e8 e
  injection e with e9 e
  injection e with e10 e
  injection e with e11 e
  injection e with e12 e13
  refine ⟨⟨e1, e2, e3, e4, e5, e6, e12, e13, ?_⟩, e8⟩
  rw [e8]
  exact e7
/-- the latest lid's rules end with the last rule -/
def RlK (s : PST) : Prop := 0 < bLi (pBk s) ∧ (bRu (pBk s) (bLi (pBk s) - 1)).2 = bRs (pBk s)
theorem RlI.key {s r : PST} (i : RlI s r) (hl : 0 < bLi (pBk s)) : RlK r := by
  obtain ⟨-, -, i3, -, -, -, -, -, i9⟩ := i
  unfold RlK
  rw [i3, i9]
  exact ⟨hl, congrArg Prod.snd (if_pos rfl)⟩
theorem RlI.trans {s r q : PST} (i : RlI s r) (j : RlI r q) : RlI s q := by
  obtain ⟨j1, j2, j3, j4, j5, j6, j7, j8, j9⟩ := j
  obtain ⟨i1, i2, i3, i4, i5, i6, i7, i8, i9⟩ := i
  refine ⟨j1.trans i1, j2.trans i2, j3.trans i3, j4.trans i4, j5.trans i5, j6.trans i6, j7.trans i7, j8.trans i8, ?_⟩
  rw [j9, i9, i3]
  funext i
  show (if i = bLi (pBk s) - 1 then ((if bLi (pBk s) - 1 = bLi (pBk s) - 1 then ((bRu (pBk s) (bLi (pBk s) - 1)).1, bRs (pBk r)) else bRu (pBk s) (bLi (pBk s) - 1)).1, bRs (pBk q)) else (if i = bLi (pBk s) - 1 then ((bRu (pBk s) (bLi (pBk s) - 1)).1, bRs (pBk r)) else bRu (pBk s) i)) = (if i = bLi (pBk s) - 1 then ((bRu (pBk s) (bLi (pBk s) - 1)).1, bRs (pBk q)) else bRu (pBk s) i)
  by_cases y : i = bLi (pBk s) - 1
  · rw [if_pos y, if_pos y, if_pos rfl]
  · rw [if_neg y, if_neg y, if_neg y]
theorem RlI.rf {s : PST} (h : RlK s) : RlI s s := by
  refine ⟨rfl, rfl, rfl, rfl, rfl, rfl, rfl, rfl, ?_⟩
  funext i
  show bRu (pBk s) i = if i = bLi (pBk s) - 1 then ((bRu (pBk s) (bLi (pBk s) - 1)).1, bRs (pBk s)) else bRu (pBk s) i
  split
  · rename_i z
    rw [z, ← h.2]
  · rfl
theorem rs_I {K : TKS} : ∀ (n : Nat) (s : PST), pEr (rsP K n s) = 0 → (pEr s = 0 → RlK s) → pEr s = 0 ∧ RlI s (rsP K n s)
  | 0, s, h, hl => ⟨h, RlI.rf (hl h)⟩
  | n + 1, s, h, hl => by
    by_cases z : kdP K s = 8
    · have e : rsP K (n + 1) s = rsP K n (rlP K s) := if_pos z
      rw [e] at h ⊢
      have hl' : pEr s = 0 → 0 < bLi (pBk s) := fun w => (hl w).1
      have h1 := rs_I n (rlP K s) h (fun w => (rl_I w hl').1.key (hl' (rl_0 w hl').1))
      exact ⟨(rl_0 h1.1 hl').1, (rl_I h1.1 hl').1.trans h1.2⟩
    · have e : rsP K (n + 1) s = s := if_neg z
      rw [e] at h ⊢
      exact ⟨h, RlI.rf (hl h)⟩
section RMU
variable {G : GT} {d : Nat} {h0 h h1 hA : AH} {m : Nat} {K : TKS} {T : List Nat} {L : Nat → Nat} {s s1 t a b c : PST} {dp : Nat} {g g1 : GCT} {no no1 : Nat} {P : OC → AH → Prop}
/-- the same but for a lid's name -/
def Lnr (v : Nat) (s s' : PST) : Prop := pPo s' = pPo s ∧ pEr s' = pEr s ∧ pEt s' = pEt s ∧ (pEr s = 0 → pDf s' = lnD v (pDf s))
theorem ln_get {v : Nat} {d : DRF} : bLa (lnD v d).1 = bLa d.1 ∧ bJa (lnD v d).1 = bJa d.1 ∧ dfL (lnD v d) = dfL d ∧ dfJ (lnD v d) = dfJ d ∧ ndN (lnD v d).1 = ndN d.1 := by
  unfold lnD
  split <;> exact ⟨rfl, rfl, rfl, rfl, rfl⟩
theorem Lnr.tk {v w : Nat} (e : Lnr v s s1) : Lnr v (tkP K w s) (tkP K w s1) := by
  obtain ⟨e1, e2, e3, e4⟩ := e
  have ek : kdP K s1 = kdP K s := by
    unfold kdP
    rw [e1, e2]
  refine ⟨?_, ?_, ?_, fun z => by rw [tk_df, tk_df]; exact e4 (tkP_er z).1⟩
  · unfold tkP
    rw [ek, e2]
    split
    · exact e1
    · split
      · exact congrArg (· + 1) e1
      · exact e1
  · unfold tkP
    rw [ek, e2]
    split
    · exact e2
    · split
      · rfl
      · rfl
  · unfold tkP
    rw [ek, e2]
    split
    · exact e3
    · split
      · exact e3
      · exact e1
theorem Lnr.rp9 {v : Nat} {o1 o2 : Option Nat} (e : Lnr v s s1) (eo : pEr s = 0 → o2 = o1) : Lnr v (rpO o1 s) (rpO o2 s1) := by
  obtain ⟨e1, e2, e3, e4⟩ := e
  by_cases z : pEr s = 0
  · rw [eo z]
    unfold rpO
    split
    · unfold rpP
      rw [if_pos z, if_pos (e2.trans z)]
      exact ⟨e1, rfl, e1, fun w => absurd w (show ¬ (3 : Nat) = 0 by decide)⟩
    · exact ⟨e1, e2, e3, e4⟩
  · have r1 : ∀ o, rpO o s = s := fun o => by
      unfold rpO
      rw [rp_no z, if_same]
    have r2 : ∀ o, rpO o s1 = s1 := fun o => by
      unfold rpO
      rw [rp_no (fun w => z (e2.symm.trans w)), if_same]
    rw [r1, r2]
    exact ⟨e1, e2, e3, e4⟩
theorem Lnr.lb {v : Nat} (e : Lnr v s s1) (z : pEr s = 0) : lbO K s1 = lbO K s ∧ jbO K s1 = jbO K s := by
  obtain ⟨e1, e2, e3, e4⟩ := e
  have e5 := e4 z
  unfold lbO jbO vaP
  show fnN (dfL (pDf s1)) (vvT K (pPo s1)) (bLa (pDf s1).1) = _ ∧ fnN (dfJ (pDf s1)) (vvT K (pPo s1)) (bJa (pDf s1).1) = _
  rw [e5, ln_get.1, ln_get.2.1, ln_get.2.2.1, ln_get.2.2.2.1, e1]
  exact ⟨rfl, rfl⟩
theorem Lnr.la {v : Nat} (e : Lnr v s s1) : Lnr v (laP K s) (laP K s1) := Lnr.rp9 e (fun z => (e.lb z).1)
theorem Lnr.ja {v : Nat} (e : Lnr v s s1) : Lnr v (jaP K s) (jaP K s1) := Lnr.rp9 e (fun z => (e.lb z).2)
theorem Lnr.st {v : Nat} (s : PST) : Lnr v s (upP (lnD v) s) := ⟨pPo_up, pEr_up, pEt_up, fun z => by rw [upP_e z]⟩
theorem Lnr.eqv {v j l : Nat} (e : Lnr v s s1) : Eqv s1 (upP (liD v j l) s) := by
  obtain ⟨e1, e2, e3, e4⟩ := e
  by_cases z : pEr s = 0
  · rw [upP_e z]
    refine ⟨e1, e2, e3, fun _ => ?_⟩
    have e5 := e4 z
    show ndN (pDf s1).1 = ndN (liD v j l (pDf s)).1 ∧ nmN (pDf s1) = nmN (liD v j l (pDf s))
    rw [e5]
    unfold lnD liD
    by_cases y : bLi (pDf s).1 < 6
    · rw [if_pos y, if_pos y]
      exact ⟨rfl, rfl⟩
    · rw [if_neg y, if_neg y]
      exact ⟨rfl, rfl⟩
  · rw [upP_n z]
    exact ⟨e1, e2, e3, fun w => absurd (e2.symm.trans w) z⟩
end RMU
