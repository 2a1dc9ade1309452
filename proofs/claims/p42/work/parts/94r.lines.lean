/-! the reference's lines: labels -/
section RMR
variable {G : GT} {d : Nat} {h0 h h1 : AH} {m : Nat} {K : TKS} {T : List Nat} {L : Nat → Nat} {s s1 t : PST} {dp : Nat} {g g1 : GCT} {no no1 : Nat} {P : OC → AH → Prop}
theorem RuX.to {ru : Nat} (q : RuX h m s ru) (e : ∀ i c, At h i c → m + 28 + 7 < i → i < m + 28 + 12 → At h1 i c) (e2 : pEr s1 = 0 → pEr s = 0 ∧ nRu (pBk s1) = nRu (pBk s)) : RuX h1 m s1 ru := by
  obtain ⟨⟨f1, a1, c1⟩, ⟨f2, a2, c2⟩, ⟨f3, a3, c3⟩, ⟨f4, a4, c4⟩⟩ := q
  by_cases z : pEr s1 = 0
  · obtain ⟨z1, z2⟩ := e2 z
    have z3 : okc s1 ru = okc s ru := by
      unfold okc
      rw [z, z1]
    unfold RuX NiX
    unfold rTf rTe rFa rBa
    rw [z2, z3]
    exact ⟨⟨f1, e _ _ a1 (by omega) (by omega), c1⟩, ⟨f2, e _ _ a2 (by omega) (by omega), c2⟩, ⟨f3, e _ _ a3 (by omega) (by omega), c3⟩, ⟨f4, e _ _ a4 (by omega) (by omega), c4⟩⟩
  · exact ⟨⟨f1, e _ _ a1 (by omega) (by omega), fun k hk => absurd hk (okc_0 z)⟩, ⟨f2, e _ _ a2 (by omega) (by omega), fun k hk => absurd hk (okc_0 z)⟩, ⟨f3, e _ _ a3 (by omega) (by omega), fun k hk => absurd hk (okc_0 z)⟩, ⟨f4, e _ _ a4 (by omega) (by omega), fun k hk => absurd hk (okc_0 z)⟩⟩
theorem RrM.to (rr : RrM h0 h m K T L s g no) (rx : RxM h1 h1 m K T L s1 0 g1 no1) (e : ∀ i c, At h i c → m + 28 + 7 < i → i < m + 28 + 16 → At h1 i c) (eg : g1.2.2.2.1 = g.2.2.2.1 ∧ g1.2.2.2.2.1 = g.2.2.2.2.1) (es : pEr s1 = 0 → pEr s = 0 ∧ nAc (pBk s1) = nAc (pBk s) ∧ nAn (pBk s1) = nAn (pBk s) ∧ nRu (pBk s1) = nRu (pBk s) ∧ bRs (pBk s1) = bRs (pBk s)) : RrM h1 h1 m K T L s1 g1 no1 := by
  obtain ⟨⟨-, ax, hn, h60, -⟩, ru, hr, h24, -⟩ := rr
  unfold RrM RaM
  rw [eg.1, eg.2]
  exact ⟨⟨rx, ax.to (fun i c a e1 e2 => e i c a (by omega) e2) (fun z => ⟨(es z).1, (es z).2.1⟩), fun z => (hn (es z).1).trans (es z).2.2.1.symm, h60, Uy.rf _ _ _⟩, ru.to (fun i c a e1 e2 => e i c a e1 (by omega)) (fun z => ⟨(es z).1, (es z).2.2.2.1⟩), fun z => (hr (es z).1).trans (es z).2.2.2.2.symm, h24, Uy.rf _ _ _⟩
/-- the lines' rows -/
def LnX (h : AH) (m : Nat) (s : PST) (ja li : Nat) : Prop := NiX h (m + 28 + 1) 9 (okc s ja) (fun j => bSe (pBk s) j) ∧ NiX h (m + 28 + 2) 9 (okc s ja) (fun j => 24 + bWy (pBk s) j) ∧ (∃ f : Nat → Int32, At h (m + 28 + 3) (.inl (0, 54, .inl f)) ∧ ∀ j k, j < okc s ja → k < 6 → f (6 * j + k) = nI (dfE (pDf s) j k)) ∧ NiX h (m + 28 + 4) 7 (okc s li) (fun i => dfO (pDf s) i) ∧ NiX h (m + 28 + 5) 7 (okc s li) (fun i => bLl (pBk s) i) ∧ NiX h (m + 28 + 6) 7 (okc s li) (fun i => (bRu (pBk s) i).1) ∧ NiX h (m + 28 + 7) 7 (okc s li) (fun i => (bRu (pBk s) i).2)
abbrev LNS : Type := (Nat → Nat) × (Nat → Nat) × (Nat → Nat → Nat) × (Nat → Nat) × (Nat → Nat) × (Nat → Nat × Nat)
def lnS (s : PST) : LNS := (bSe (pBk s), bWy (pBk s), dfE (pDf s), dfO (pDf s), bLl (pBk s), bRu (pBk s))
theorem LnX.to {ja li : Nat} (q : LnX h m s ja li) (e : ∀ i c, At h i c → m + 28 < i → i < m + 28 + 8 → At h1 i c) (e2 : pEr s1 = 0 → pEr s = 0 ∧ lnS s1 = lnS s) : LnX h1 m s1 ja li := by
  obtain ⟨⟨f1, a1, c1⟩, ⟨f2, a2, c2⟩, ⟨f3, a3, c3⟩, ⟨f4, a4, c4⟩, ⟨f5, a5, c5⟩, ⟨f6, a6, c6⟩, ⟨f7, a7, c7⟩⟩ := q
  have b1 := e _ _ a1 (by omega) (by omega)
  have b2 := e _ _ a2 (by omega) (by omega)
  have b3 := e _ _ a3 (by omega) (by omega)
  have b4 := e _ _ a4 (by omega) (by omega)
  have b5 := e _ _ a5 (by omega) (by omega)
  have b6 := e _ _ a6 (by omega) (by omega)
  have b7 := e _ _ a7 (by omega) (by omega)
  by_cases z : pEr s1 = 0
  · obtain ⟨z1, z2⟩ := e2 z
    have z3 : ∀ n, okc s1 n = okc s n := fun n => by
      unfold okc
      rw [z, z1]
    injection z2 with y1 z2
    injection z2 with y2 z2
    injection z2 with y3 z2
    injection z2 with y4 z2
    injection z2 with y5 y6
    unfold LnX NiX
    rw [z3, z3, y1, y2, y3, y4, y5, y6]
    exact ⟨⟨f1, b1, c1⟩, ⟨f2, b2, c2⟩, ⟨f3, b3, c3⟩, ⟨f4, b4, c4⟩, ⟨f5, b5, c5⟩, ⟨f6, b6, c6⟩, ⟨f7, b7, c7⟩⟩
  · exact ⟨⟨f1, b1, fun k hk => absurd hk (okc_0 z)⟩, ⟨f2, b2, fun k hk => absurd hk (okc_0 z)⟩, ⟨f3, b3, fun j k hj => absurd hj (okc_0 z)⟩, ⟨f4, b4, fun k hk => absurd hk (okc_0 z)⟩, ⟨f5, b5, fun k hk => absurd hk (okc_0 z)⟩, ⟨f6, b6, fun k hk => absurd hk (okc_0 z)⟩, ⟨f7, b7, fun k hk => absurd hk (okc_0 z)⟩⟩
/-- lines are read -/
def RlM (h0 h : AH) (m : Nat) (K : TKS) (T : List Nat) (L : Nat → Nat) (s : PST) (g : GCT) (no : Nat) : Prop := RrM h h m K T L s g no ∧ LnX h m s g.2.1 g.2.2.1 ∧ (pEr s = 0 → g.1 = bLa (pBk s) ∧ g.2.1 = bJa (pBk s) ∧ g.2.2.1 = bLi (pBk s)) ∧ g.1 ≤ 6 ∧ g.2.1 ≤ 8 ∧ g.2.2.1 ≤ 6 ∧ Kp h0 h m (fun i => m + 28 < i ∧ i < m + 28 + 16)
/-- a label's line changes names alone -/
theorem ll_0 (h : pEr (llP K s) = 0) : pEr s = 0 ∧ bLa (pBk s) < 6 ∧ pDf (llP K s) = laD (vaP K (nlP K s)) (pDf s) := by
  unfold llP at h ⊢
  have h1 := (tkP_er h).1
  have h2 := upP_er0 h1
  have h3 := h2
  unfold nlP at h3
  obtain ⟨z1, z2, z3, z4⟩ := nw_0 h3
  have z5 := of_decide_eq_false z3
  have e : pDf (nlP K s) = pDf s := by
    unfold nlP
    rw [z4, tk_df]
  refine ⟨(tkP_er z1).1, ?_, ?_⟩
  · have : pBk (tkP K 0 s) = pBk s := congrArg (fun d : DRF => d.1) tk_df
    rw [this] at z5
    omega
  · rw [tk_df, upP_e h2]
    exact congrArg (laD (vaP K (nlP K s))) e
theorem la_get {v : Nat} {s s1 : PST} (e : pDf s1 = laD v (pDf s)) (h : bLa (pBk s) < 6) : bLa (pBk s1) = bLa (pBk s) + 1 ∧ bJa (pBk s1) = bJa (pBk s) ∧ bLi (pBk s1) = bLi (pBk s) ∧ lnS s1 = lnS s ∧ nAc (pBk s1) = nAc (pBk s) ∧ nAn (pBk s1) = nAn (pBk s) ∧ nRu (pBk s1) = nRu (pBk s) ∧ bRs (pBk s1) = bRs (pBk s) := by
  have e2 : laD v (pDf s) = ((bLa (pBk s) + 1, bJa (pBk s), bLi (pBk s), bSe (pBk s), bWy (pBk s), bLl (pBk s), bRu (pBk s), bRs (pBk s), bSc (pBk s), bNd (pBk s)), upN (dfL (pDf s)) (bLa (pBk s)) v, dfJ (pDf s), dfI (pDf s), dfE (pDf s), dfO (pDf s)) := if_pos h
  rw [e2] at e
  unfold lnS
  show bLa (pDf s1).1 = _ ∧ bJa (pDf s1).1 = _ ∧ bLi (pDf s1).1 = _ ∧ (bSe (pDf s1).1, bWy (pDf s1).1, dfE (pDf s1), dfO (pDf s1), bLl (pDf s1).1, bRu (pDf s1).1) = _ ∧ nAc (pDf s1).1 = _ ∧ nAn (pDf s1).1 = _ ∧ nRu (pDf s1).1 = _ ∧ bRs (pDf s1).1 = _
  rw [e]
  exact ⟨rfl, rfl, rfl, rfl, rfl, rfl, rfl, rfl⟩

end RMR
