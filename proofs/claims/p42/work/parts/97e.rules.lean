/-! SENSE of rules -/
def ruB (B : BK) : BK := (bLa B, bJa B, bLi B, bSe B, bWy B, bLl B, upN (bRu B) (bLi B - 1) ((bRu B (bLi B - 1)).1, bRs B + 1), bRs B + 1, (cSt B, cKd B, cNu B, upN (cTe B) (bRs B) (cSt B), cTn B, cAe B), bNd B)
def teB (B : BK) : BK := scB (cSt B, cKd B, cNu B, cTe B, upN (cTn B) (bRs B - 1) (cSt B), cAe B) B
def aeB (B : BK) : BK := scB (cSt B, cKd B, cNu B, cTe B, cTn B, upN (cAe B) (bRs B - 1) (cSt B)) B
def rrB (k : Nat) (x : Nat × Nat × Nat × Nat) (B : BK) : BK := ndB (nNo B, nAn B, nSo B, nLe B, nRi B, upN (nRu B) k x, nAc B) B
theorem rb_s {K : TKS} {s : PST} (h : pEr (rbP K s) = 0) (hl : 0 < bLi (pBk s)) : pEr (tkP K 8 s) = 0 ∧ pBk (rbP K s) = ruB (pBk s) ∧ pPo (rbP K s) = pPo (tkP K 8 s) ∧ bRs (pBk s) < 24 := by
  obtain ⟨-, h2, -⟩ := rb_0 h (fun _ => hl)
  have e : rbP K s = upP ruD (tkP K 8 s) := by
    unfold rbP
    rw [if_neg (by omega)]
  rw [e] at h ⊢
  have h3 := upP_er0 h
  refine ⟨h3, ?_, pPo_up, h2⟩
  rw [upP_e h3]
  show (ruD (pDf (tkP K 8 s))).1 = _
  rw [tk_df]
  exact congrArg (fun d : DRF => d.1) (show ruD (pDf s) = (ruB (pBk s), (pDf s).2) from if_pos ⟨hl, h2⟩)
theorem te_s {s : PST} (e : pEr s = 0) (h : 0 < bRs (pBk s)) : pBk (upP teD s) = teB (pBk s) := by
  rw [upP_e e]
  exact congrArg (fun d : DRF => d.1) (show teD (pDf s) = (teB (pBk s), (pDf s).2) from if_pos h)
theorem ae_s {s : PST} (e : pEr s = 0) (h : 0 < bRs (pBk s)) : pBk (upP aeD s) = aeB (pBk s) := by
  rw [upP_e e]
  exact congrArg (fun d : DRF => d.1) (show aeD (pDf s) = (aeB (pBk s), (pDf s).2) from if_pos h)
theorem rr_s {s : PST} {k : Nat} {x : Nat × Nat × Nat × Nat} (e : pEr s = 0) : pBk (upP (rrD k x) s) = rrB k x (pBk s) := by
  rw [upP_e e]
  rfl
/-- a book grows: rules too -/
def Exr (B F : BK) : Prop := Exa B F ∧ bRs B ≤ bRs F ∧ (∀ r, r < bRs B → cTe F r = cTe B r ∧ cTn F r = cTn B r ∧ cAe F r = cAe B r ∧ nRu F r = nRu B r) ∧ bLa B ≤ bLa F ∧ bJa B ≤ bJa F
theorem Exr.trans {A B C : BK} (a : Exr A B) (b : Exr B C) : Exr A C := by
  obtain ⟨a1, a2, a3, a4, a5⟩ := a
  obtain ⟨b1, b2, b3, b4, b5⟩ := b
  refine ⟨a1.trans b1, Nat.le_trans a2 b2, fun r hr => ?_, Nat.le_trans a4 b4, Nat.le_trans a5 b5⟩
  have x := a3 r hr
  have y := b3 r (by omega)
  exact ⟨y.1.trans x.1, y.2.1.trans x.2.1, y.2.2.1.trans x.2.2.1, y.2.2.2.trans x.2.2.2⟩
def RuW (B : BK) (r : Nat) : Prop := (cTe B r ≤ cTn B r ∧ cTn B r ≤ cAe B r ∧ cAe B r ≤ cSt B) ∧ ((nRu B r).1 ≤ (nRu B r).2.1 ∧ (nRu B r).2.1 < nNo B) ∧ (nRu B r).2.2.1 ≤ (nRu B r).2.2.2 ∧ (nRu B r).2.2.2 ≤ nAn B
def RuT (F : BK) (i : Nat) (D : DY) (te tn ae : Nat) (x : Nat × Nat × Nat × Nat) : Prop := (∃ y : Int32, (y = nI 0 ∨ y = nI 1) ∧ rnV F D i te (tn - te) [] = some [y] ∧ ∀ v, evN F D i x.1 (x.2.1 + 1 - x.1) v x.2.1 = y) ∧ ∃ D', raV F i tn (ae - tn) D [] = some (D', []) ∧ acC F tn (ae - tn) = x.2.2.2 - x.2.2.1 ∧ ∀ v, (rdV F i x.2.2.1 (x.2.2.2 - x.2.2.1) (D, v)).1 = D'
def RuS (B : BK) (r : Nat) : Prop := ∀ (F : BK) (i : Nat) (D : DY), Exr B F → RuT F i D (cTe F r) (cTn F r) (cAe F r) (nRu F r)
theorem RuW.mono {B F : BK} {r : Nat} (e : Exr B F) (hr : r < bRs B) (w : RuW B r) : RuW F r := by
  obtain ⟨e1, e2, e3, -⟩ := e
  obtain ⟨f1, f2, f3, f4⟩ := e3 r hr
  have g1 := e1.1.1
  have g2 := e1.1.2.1
  have g3 := e1.2.1
  unfold RuW at w ⊢
  rw [f1, f2, f3, f4]
  obtain ⟨⟨w1, w2, w3⟩, ⟨w4, w5⟩, w6, w7⟩ := w
  exact ⟨⟨w1, w2, Nat.le_trans w3 g1⟩, ⟨w4, Nat.lt_of_lt_of_le w5 g2⟩, w6, Nat.le_trans w7 g3⟩
theorem rt_sen {K : TKS} (ok : KOk K) {s : PST} {B : BK} {a b : Nat} (h : pEr (rtP K s) = 0) (eB : pBk s = ruB B) (ws : Wst K a b s) : Wst K a b (rtP K s) ∧ ∃ By, Vse true (ruB B) By (teP K 6 s).2 ∧ Exb (ruB B) By ∧ pBk (rtP K s) = teB By ∧ bRs By = bRs B + 1 ∧ cTe By = upN (cTe B) (bRs B) (cSt B) ∧ cTn By = cTn B ∧ cAe By = cAe B ∧ nRu By = nRu B ∧ nAn By = nAn B ∧ nAc By = nAc B ∧ bLa By = bLa B ∧ bJa By = bJa B := by
  unfold rtP at h ⊢
  have h1 := upP_er0 h
  have hy := teP_sen ok 6 s
  have hr := rs_te (K := K) 6 s
  generalize teP K 6 s = y at h h1 hy hr ⊢
  have h2 := (tkP_er h1).1
  obtain ⟨y1, y2, y3⟩ := hy h2 _ _ ws
  rw [eB] at y2 y3
  have t1 := y1.tk ok (by decide) h1
  have f1 : bRs (pBk y.1) = bRs B + 1 := (congrArg (fun x : RSD => x.2.2.2.2.2.2.2.1) hr).trans (show bRs (pBk s) = _ by rw [eB]; rfl)
  have f2 : cTe (pBk y.1) = upN (cTe B) (bRs B) (cSt B) := (congrArg (fun x : RSD => x.2.2.2.2.2.2.2.2.1) hr).trans (show cTe (pBk s) = _ by rw [eB]; rfl)
  have f3 : cTn (pBk y.1) = cTn B := (congrArg (fun x : RSD => x.2.2.2.2.2.2.2.2.2.1) hr).trans (show cTn (pBk s) = _ by rw [eB]; rfl)
  have f4 : cAe (pBk y.1) = cAe B := (congrArg (fun x : RSD => x.2.2.2.2.2.2.2.2.2.2.1) hr).trans (show cAe (pBk s) = _ by rw [eB]; rfl)
  have f5 : nAn (pBk y.1) = nAn B := (congrArg (fun x : RSD => x.2.2.2.2.2.2.2.2.2.2.2.1) hr).trans (show nAn (pBk s) = _ by rw [eB]; rfl)
  have f6 : nRu (pBk y.1) = nRu B := (congrArg (fun x : RSD => x.2.2.2.2.2.2.2.2.2.2.2.2.1) hr).trans (show nRu (pBk s) = _ by rw [eB]; rfl)
  have f7 : nAc (pBk y.1) = nAc B := (congrArg (fun x : RSD => x.2.2.2.2.2.2.2.2.2.2.2.2.2.1) hr).trans (show nAc (pBk s) = _ by rw [eB]; rfl)
  have f8 : bLa (pBk y.1) = bLa B := (congrArg (fun x : RSD => x.1) hr).trans (show bLa (pBk s) = _ by rw [eB]; rfl)
  have f9 : bJa (pBk y.1) = bJa B := (congrArg (fun x : RSD => x.2.1) hr).trans (show bJa (pBk s) = _ by rw [eB]; rfl)
  have e1 : pBk (upP teD (tkP K 27 y.1)) = teB (pBk y.1) := by
    rw [te_s h1 (by rw [tk_B, f1]; omega), tk_B]
  refine ⟨?_, pBk y.1, y3, y2, e1, f1, f2, f3, f4, f6, f5, f7, f8, f9⟩
  have t2 := t1.low (Nat.le_add_right a 1) (Nat.le_add_right b 1)
  unfold Wst at t2 ⊢
  rw [e1, pPo_up]
  rw [tk_B] at t2
  exact t2
theorem ra_sen {K : TKS} (ok : KOk K) {s : PST} {a b : Nat} (h : pEr (raP K s) = 0) (h0 : 0 < bRs (pBk s)) (ws : Wst K a b s) (wa : WfA (pBk s)) : Wst K a b (raP K s) ∧ ∃ Bz, Ase (pBk s) Bz ∧ Exa (pBk s) Bz ∧ WfA Bz ∧ pBk (raP K s) = aeB Bz ∧ bRs Bz = bRs (pBk s) ∧ cTe Bz = cTe (pBk s) ∧ cTn Bz = cTn (pBk s) ∧ cAe Bz = cAe (pBk s) ∧ nRu Bz = nRu (pBk s) ∧ bLa Bz = bLa (pBk s) ∧ bJa Bz = bJa (pBk s) := by
  unfold raP at h ⊢
  have h1 := upP_er0 h
  have h2 := (tkP_er h1).1
  obtain ⟨y1, y2, y3, y4⟩ := as_sen ok 400 s h2 ws (Exa.rf _) (Ase.rf _) wa
  have hr := rr_as (K := K) 400 s
  generalize asP K 400 s = y at h h1 h2 y1 y2 y3 y4 hr ⊢
  have t1 := y1.tk ok (by decide) h1
  have f1 : bRs (pBk y) = bRs (pBk s) := congrArg (fun x : RSR => x.2.2.2.2.2.2.2.1) hr
  have f2 : cTe (pBk y) = cTe (pBk s) := congrArg (fun x : RSR => x.2.2.2.2.2.2.2.2.1) hr
  have f3 : cTn (pBk y) = cTn (pBk s) := congrArg (fun x : RSR => x.2.2.2.2.2.2.2.2.2.1) hr
  have f4 : cAe (pBk y) = cAe (pBk s) := congrArg (fun x : RSR => x.2.2.2.2.2.2.2.2.2.2.1) hr
  have f5 : nRu (pBk y) = nRu (pBk s) := congrArg (fun x : RSR => x.2.2.2.2.2.2.2.2.2.2.2.1) hr
  have f8 : bLa (pBk y) = bLa (pBk s) := congrArg (fun x : RSR => x.1) hr
  have f9 : bJa (pBk y) = bJa (pBk s) := congrArg (fun x : RSR => x.2.1) hr
  have e1 : pBk (upP aeD (tkP K 28 y)) = aeB (pBk y) := by
    rw [ae_s h1 (by rw [tk_B, f1]; exact h0), tk_B]
  refine ⟨?_, pBk y, y3, y2, y4, e1, f1, f2, f3, f4, f5, f8, f9⟩
  have t2 := t1.low (Nat.le_add_right a 1) (Nat.le_add_right b 1)
  unfold Wst at t2 ⊢
  rw [e1, pPo_up]
  rw [tk_B] at t2
  exact t2
/-- a rule, by its books -/
theorem rl_bk {B By Bz : BK} {rt : Nat} (y1 : Vse true (ruB B) By rt) (y2 : Exb (ruB B) By) (y4 : bRs By = bRs B + 1) (y5 : cTe By = upN (cTe B) (bRs B) (cSt B)) (y6 : cTn By = cTn B) (y7 : cAe By = cAe B) (y8 : nRu By = nRu B) (y9 : nAn By = nAn B) (y10 : nAc By = nAc B) (y11 : bLa By = bLa B) (y12 : bJa By = bJa B) (z1 : Ase (teB By) Bz) (z2 : Exa (teB By) Bz) (z5 : bRs Bz = bRs By) (z6 : cTe Bz = cTe By) (z7 : cTn Bz = upN (cTn By) (bRs By - 1) (cSt By)) (z8 : cAe Bz = cAe By) (z9 : nRu Bz = nRu By) (z10 : bLa Bz = bLa By) (z11 : bJa Bz = bJa By) : Exr B (rrB (bRs B) (nNo B, rt, nAn B, nAn Bz) (aeB Bz)) ∧ RuW (rrB (bRs B) (nNo B, rt, nAn B, nAn Bz) (aeB Bz)) (bRs B) ∧ RuS (rrB (bRs B) (nNo B, rt, nAn B, nAn Bz) (aeB Bz)) (bRs B) := by
  have eb : Exb B Bz := (show Exb B By from y2).trans (show Exb By Bz from z2.1)
  have na : nAn By ≤ nAn Bz := z2.2.1
  obtain ⟨v1, v2, v3⟩ := y1
  have v1 : nNo B ≤ rt := v1
  have l1 : cSt B ≤ cSt By := y2.1
  have l2 : cSt By ≤ cSt Bz := z2.1.1
  have l3 : nNo By ≤ nNo Bz := z2.1.2.1
  have g1 : ∀ r, cTe (rrB (bRs B) (nNo B, rt, nAn B, nAn Bz) (aeB Bz)) r = if r = bRs B then cSt B else cTe B r := fun r => by
    show cTe Bz r = _
    rw [z6, y5]
    rfl
  have g2 : ∀ r, cTn (rrB (bRs B) (nNo B, rt, nAn B, nAn Bz) (aeB Bz)) r = if r = bRs B then cSt By else cTn B r := fun r => by
    show cTn Bz r = _
    rw [z7, y6, y4, Nat.add_sub_cancel]
    rfl
  have g3 : ∀ r, cAe (rrB (bRs B) (nNo B, rt, nAn B, nAn Bz) (aeB Bz)) r = if r = bRs B then cSt Bz else cAe B r := fun r => by
    show upN (cAe Bz) (bRs Bz - 1) (cSt Bz) r = _
    rw [z8, y7, z5, y4, Nat.add_sub_cancel]
    rfl
  have g4 : ∀ r, nRu (rrB (bRs B) (nNo B, rt, nAn B, nAn Bz) (aeB Bz)) r = if r = bRs B then (nNo B, rt, nAn B, nAn Bz) else nRu B r := fun r => by
    show upN (nRu Bz) (bRs B) (nNo B, rt, nAn B, nAn Bz) r = _
    rw [z9, y8]
    rfl
  have g5 : bRs (rrB (bRs B) (nNo B, rt, nAn B, nAn Bz) (aeB Bz)) = bRs B + 1 := z5.trans y4
  refine ⟨⟨⟨eb, ?_, fun k hk => ?_⟩, by rw [g5]; omega, fun r hr => ?_, ?_, ?_⟩, ?_, fun F i D ef => ?_⟩
  · show nAn B ≤ nAn Bz
    omega
  · show nAc Bz k = nAc B k
    rw [z2.2.2 k (by show k < nAn By; omega)]
    show nAc By k = nAc B k
    rw [y10]
  · rw [g1, g2, g3, g4, if_neg (Nat.ne_of_lt hr), if_neg (Nat.ne_of_lt hr), if_neg (Nat.ne_of_lt hr), if_neg (Nat.ne_of_lt hr)]
    exact ⟨rfl, rfl, rfl, rfl⟩
  · show bLa B ≤ bLa Bz
    omega
  · show bJa B ≤ bJa Bz
    omega
  · unfold RuW
    rw [g1, g2, g3, g4, if_pos rfl, if_pos rfl, if_pos rfl, if_pos rfl]
    refine ⟨⟨l1, l2, Nat.le_refl _⟩, ⟨v1, ?_⟩, ?_, Nat.le_refl _⟩
    · show rt < nNo Bz
      omega
    · show nAn B ≤ nAn Bz
      omega
  · obtain ⟨h1, h2, h3, h4⟩ := ef.2.2.1 (bRs B) (by rw [g5]; omega)
    rw [g1, if_pos rfl] at h1
    rw [g2, if_pos rfl] at h2
    rw [g3, if_pos rfl] at h3
    rw [g4, if_pos rfl] at h4
    rw [h1, h2, h3, h4]
    have ea : Exa Bz F := ef.1
    have ef2 : Exb By F := (show Exb By Bz from z2.1).trans ea.1
    obtain ⟨x, x1, x2, x3⟩ := v3 F D i ef2
    obtain ⟨D', a1, a2, a3⟩ := z1 F i D ea
    refine ⟨⟨x, x1 rfl, x2 [], fun v => ?_⟩, D', a1, ?_, fun v => ?_⟩
    · show evN F D i (nNo B) (rt + 1 - nNo B) v rt = x
      rw [v2]
      exact x3 v
    · show acC F (cSt By) (cSt Bz - cSt By) = nAn Bz - nAn B
      rw [← y9]
      exact a2
    · show (rdV F i (nAn B) (nAn Bz - nAn B) (D, v)).1 = D'
      rw [← y9]
      exact a3 v
theorem rl_sen {K : TKS} (ok : KOk K) {s : PST} {a b : Nat} (h : pEr (rlP K s) = 0) (hl : 0 < bLi (pBk s)) (ws : Wst K a b s) (wa : WfA (pBk s)) : Wst K a b (rlP K s) ∧ WfA (pBk (rlP K s)) ∧ Exr (pBk s) (pBk (rlP K s)) ∧ bRs (pBk (rlP K s)) = bRs (pBk s) + 1 ∧ bRs (pBk s) < 24 ∧ RuW (pBk (rlP K s)) (bRs (pBk s)) ∧ RuS (pBk (rlP K s)) (bRs (pBk s)) := by
  unfold rlP at h ⊢
  have h4 := upP_er0 h
  have h3 := raP_er0 h4
  have h2 := rtP_er0 h3
  obtain ⟨t8, eb, pb, lt⟩ := rb_s h2 hl
  have w1 : Wst K a b (rbP K s) := by
    have t := (ws.tk ok (by decide) t8).low (Nat.le_add_right a 1) (Nat.le_add_right b 1)
    unfold Wst at t ⊢
    rw [eb, pb]
    rw [tk_B] at t
    exact t
  generalize rbP K s = s1 at h h4 h3 h2 eb pb w1 ⊢
  obtain ⟨w2, By, y1, y2, y3, y4, y5, y6, y7, y8, y9, y10, y11, y12⟩ := rt_sen ok h3 eb w1
  generalize (teP K 6 s1).2 = rt at h y1 ⊢
  generalize rtP K s1 = s2 at h h4 h3 w2 y3 ⊢
  have wa2 : WfA (pBk s2) := by
    rw [y3]
    refine ⟨by show nAn By ≤ 60; rw [y9]; exact wa.1, fun k hk => ?_⟩
    have hk : k < nAn By := hk
    exact (wa.2 k (by omega)).mono (by show nAc By k = _; rw [y10]) y2.2.1 (Nat.le_of_eq y11.symm) (Nat.le_of_eq y12.symm)
  obtain ⟨w3, Bz, z1, z2, z3, z4, z5, z6, z7, z8, z9, z10, z11⟩ := ra_sen ok h4 (by rw [y3]; show 0 < bRs By; omega) w2 wa2
  generalize raP K s2 = s3 at h h4 w3 z4 ⊢
  rw [y3] at z1 z2 z5 z6 z7 z8 z9 z10 z11
  have e0 : nAn (pBk s2) = nAn (pBk s) := by
    rw [y3]
    exact y9
  obtain ⟨r1, r2, r3⟩ := rl_bk y1 y2 y4 y5 y6 y7 y8 y9 y10 y11 y12 z1 z2 z5 z6 z7 z8 z9 z10 z11
  have eF : pBk (upP (rrD (bRs (pBk s)) (nNo (pBk s), rt, nAn (pBk s2), nAn (pBk s3))) s3) = rrB (bRs (pBk s)) (nNo (pBk s), rt, nAn (pBk s), nAn Bz) (aeB Bz) := by
    rw [rr_s h4, z4, e0]
    rfl
  refine ⟨?_, ?_, ?_⟩
  · unfold Wst at w3 ⊢
    rw [eF, pPo_up]
    rw [z4] at w3
    exact w3
  · rw [eF]
    exact z3
  · rw [eF]
    exact ⟨r1, z5.trans y4, lt, r2, r3⟩
/-- what has been read is well made and makes sense -/
def Rst (K : TKS) (s : PST) : Prop := Wst K 0 0 s ∧ WfA (pBk s) ∧ bRs (pBk s) ≤ 24 ∧ ∀ r, r < bRs (pBk s) → RuW (pBk s) r ∧ RuS (pBk s) r
theorem Rst.rl {K : TKS} (ok : KOk K) {s : PST} (h : pEr (rlP K s) = 0) (hl : 0 < bLi (pBk s)) (q : Rst K s) : Rst K (rlP K s) := by
  obtain ⟨q1, q2, q3, q4⟩ := q
  obtain ⟨a1, a2, a3, a4, a5, a6, a7⟩ := rl_sen ok h hl q1 q2
  refine ⟨a1, a2, by omega, fun r hr => ?_⟩
  by_cases z : r = bRs (pBk s)
  · rw [z]
    exact ⟨a6, a7⟩
  · obtain ⟨b1, b2⟩ := q4 r (by omega)
    exact ⟨b1.mono a3 (by omega), fun F i D ef => b2 F i D (a3.trans ef)⟩
theorem rs_sen {K : TKS} (ok : KOk K) : ∀ (n : Nat) (s : PST), pEr (rsP K n s) = 0 → (pEr s = 0 → RlK s) → Rst K s → Rst K (rsP K n s)
  | 0, _, _, _, q => q
  | n + 1, s, h, hl, q => by
    by_cases z : kdP K s = 8
    · have e : rsP K (n + 1) s = rsP K n (rlP K s) := if_pos z
      rw [e] at h ⊢
      have hl' : pEr s = 0 → 0 < bLi (pBk s) := fun w => (hl w).1
      have hk : pEr (rlP K s) = 0 → RlK (rlP K s) := fun w => (rl_I w hl').1.key (hl' (rl_0 w hl').1)
      have h1 := (rs_I n (rlP K s) h hk).1
      exact rs_sen ok n _ h hk (q.rl ok h1 (hl' (rl_0 h1 hl').1))
    · have e : rsP K (n + 1) s = s := if_neg z
      rw [e]
      exact q
