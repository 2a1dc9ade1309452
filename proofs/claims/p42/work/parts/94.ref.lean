/-! the reference's reader -/
abbrev ndN (B : BK) : Nat × (Nat → Nat) × (Nat → Nat) × (Nat → Nat) := (nNo B, nSo B, nLe B, nRi B)
abbrev NMS : Type := Nat × Nat × Nat × (Nat → Nat) × (Nat → Nat) × (Nat → Nat)
abbrev nmN (d : DRF) : NMS := (bLa d.1, bJa d.1, bLi d.1, dfL d, dfJ d, dfI d)
/-- the same for values and tests of the reference -/
def Eqv (s s' : PST) : Prop := pPo s = pPo s' ∧ pEr s = pEr s' ∧ pEt s = pEt s' ∧ (pEr s = 0 → ndN (pBk s) = ndN (pBk s') ∧ nmN (pDf s) = nmN (pDf s'))
theorem Eqv.rf (s : PST) : Eqv s s := ⟨rfl, rfl, rfl, fun _ => ⟨rfl, rfl⟩⟩
theorem Eqv.symm {s s' : PST} (e : Eqv s s') : Eqv s' s := ⟨e.1.symm, e.2.1.symm, e.2.2.1.symm, fun z => ⟨(e.2.2.2 (e.2.1.trans z)).1.symm, (e.2.2.2 (e.2.1.trans z)).2.symm⟩⟩
theorem Eqv.trans {s s' s2 : PST} (a : Eqv s s') (b : Eqv s' s2) : Eqv s s2 := ⟨a.1.trans b.1, a.2.1.trans b.2.1, a.2.2.1.trans b.2.2.1, fun z => ⟨(a.2.2.2 z).1.trans (b.2.2.2 (a.2.1.symm.trans z)).1, (a.2.2.2 z).2.trans (b.2.2.2 (a.2.1.symm.trans z)).2⟩⟩
theorem Eqv.kd {K : TKS} {s s' : PST} (e : Eqv s s') : kdP K s = kdP K s' := by
  unfold kdP
  rw [e.1, e.2.1]
theorem Eqv.mk2 {p e t : Nat} {d d' : DRF} (h : e = 0 → ndN d.1 = ndN d'.1 ∧ nmN d = nmN d') : Eqv (p, e, t, d) (p, e, t, d') := ⟨rfl, rfl, rfl, h⟩
theorem Eqv.tk {K : TKS} {w : Nat} {s s' : PST} (e : Eqv s s') : Eqv (tkP K w s) (tkP K w s') := by
  have k := e.kd (K := K)
  obtain ⟨a, b, c, f⟩ := e
  unfold tkP
  rw [k, ← b]
  by_cases h : pEr s = 1
  · rw [if_pos h, if_pos h]
    exact ⟨a, b, c, f⟩
  · rw [if_neg h, if_neg h]
    by_cases h2 : kdP K s' = w
    · rw [if_pos h2, if_pos h2, a, c]
      exact Eqv.mk2 (fun z => f z)
    · rw [if_neg h2, if_neg h2, a]
      exact Eqv.mk2 (fun z => absurd z (by decide))
theorem Eqv.rp {n : Nat} (hn : n ≠ 0) {s s' : PST} (e : Eqv s s') : Eqv (rpP n s) (rpP n s') := by
  obtain ⟨a, b, c, f⟩ := e
  unfold rpP
  rw [← b]
  by_cases h : pEr s = 0
  · rw [if_pos h, if_pos h, a]
    exact Eqv.mk2 (fun z => absurd z hn)
  · rw [if_neg h, if_neg h]
    exact ⟨a, b, c, f⟩
theorem Eqv.no {so l r : Nat} {s s' : PST} (e : Eqv s s') : Eqv (noP so l r s) (noP so l r s') := by
  obtain ⟨a, b, c, f⟩ := e
  unfold noP
  by_cases h : pEr s = 0
  · rw [upP_e h, upP_e (b.symm.trans h), a, b, c]
    refine Eqv.mk2 (fun z => ?_)
    obtain ⟨f1, f2⟩ := f h
    injection f1 with g1 g2
    injection g2 with g2 g3
    injection g3 with g3 g4
    refine ⟨?_, f2⟩
    show (nNo (pBk s) + 1, upN (nSo (pBk s)) (nNo (pBk s)) so, upN (nLe (pBk s)) (nNo (pBk s)) l, upN (nRi (pBk s)) (nNo (pBk s)) r) = (nNo (pBk s') + 1, upN (nSo (pBk s')) (nNo (pBk s')) so, upN (nLe (pBk s')) (nNo (pBk s')) l, upN (nRi (pBk s')) (nNo (pBk s')) r)
    rw [g1, g2, g3, g4]
  · rw [upP_n h, upP_n (fun z => h (b.trans z))]
    exact ⟨a, b, c, f⟩
theorem Eqv.up {f : DRF → DRF} (hf : ∀ d, ndN (f d).1 = ndN d.1 ∧ nmN (f d) = nmN d) (s : PST) : Eqv (upP f s) s := by
  by_cases h : pEr s = 0
  · rw [upP_e h]
    exact ⟨rfl, rfl, rfl, fun _ => hf _⟩
  · rw [upP_n h]
    exact Eqv.rf s
theorem Eqv.st {kd n : Nat} (s : PST) : Eqv (stP kd n s) s := Eqv.up (fun d => by
  unfold stD
  split
  · exact ⟨rfl, rfl⟩
  · exact ⟨rfl, rfl⟩) s
/-- the wrong token -/
def wrP (s : PST) : PST := if pEr s = 1 then s else (pPo s, 1, pPo s, pDf s)
theorem tkP_wr {K : TKS} {w : Nat} {s : PST} (h : kdP K s ≠ w) : tkP K w s = wrP s := by
  unfold tkP wrP
  rw [if_neg h]
theorem wrP_er (s : PST) : pEr (wrP s) = 1 := by
  unfold wrP
  split
  · assumption
  · rfl
theorem tkP_1 {K : TKS} {w : Nat} {s : PST} (h : pEr s = 1) : tkP K w s = s := if_pos h
theorem tkP_y {K : TKS} {w : Nat} {s : PST} (h : kdP K s = w) (hw : w ≠ 42) : tkP K w s = (pPo s + 1, pEr s, pEt s, pDf s) ∧ pEr s ≠ 1 := by
  have e : ¬ pEr s = 1 := fun z => by
    unfold kdP at h
    rw [if_pos z] at h
    exact hw h.symm
  unfold tkP
  rw [if_neg e, if_pos h]
  exact ⟨rfl, e⟩
theorem Eqv.wr {s s' : PST} (e1 : pPo s = pPo s') (e2 : pEr s = pEr s') (e3 : pEt s = pEt s') : Eqv (wrP s) (wrP s') := by
  unfold wrP
  rw [e2]
  by_cases h : pEr s' = 1
  · rw [if_pos h, if_pos h]
    exact ⟨e1, e2, e3, fun z => by rw [e2, h] at z; exact absurd z (by decide)⟩
  · rw [if_neg h, if_neg h, e1]
    exact Eqv.mk2 (fun z => absurd z (by decide))
theorem soK_inj {a b : Nat} (ha : a < 43) (hb : b < 43) (h : soK a = soK b) : a = b := by
  have key : (List.range 43).all (fun a => (List.range 43).all (fun b => soK a != soK b || a == b)) = true := by decide +kernel
  have k1 := List.all_eq_true.mp (List.all_eq_true.mp key a (List.mem_range.mpr ha)) b (List.mem_range.mpr hb)
  rw [h] at k1
  simp only [bne_self_eq_false, Bool.false_or, beq_iff_eq] at k1
  exact k1
theorem soK_lt (a : Nat) : soK a < 52 := by
  by_cases h : a < 43
  · have key : (List.range 43).all (fun a => decide (soK a < 52)) = true := by decide +kernel
    exact of_decide_eq_true (List.all_eq_true.mp key a (List.mem_range.mpr h))
  · have : soK a = 32 := by
      unfold soK
      rw [List.getD_eq_getElem?_getD, List.getElem?_eq_none (by show 43 ≤ a; omega)]
      rfl
    omega
/-- what the reader's tokens are -/
def TwK (K : TKS) (T : List Nat) (L : Nat → Nat) : Prop := 0 < K.1 ∧ K.1 ≤ 401 ∧ (∀ p, p < K.1 → K.2.1 p < 43 ∧ (K.2.1 p < 41 → p + 1 < K.1)) ∧ (∀ p, p < K.1 → K.2.1 p = 40 → K.2.2.2 p ≤ 9999) ∧ (∀ p, p < K.1 → K.2.1 p = 39 → K.2.2.1 p + L p ≤ T.length) ∧ (∀ a b, a < K.1 → b < K.1 → K.2.1 a = 39 → K.2.1 b = 39 → ((L a = L b ∧ ∀ i, i < L a → T.getD (K.2.2.1 a + i) 0 = T.getD (K.2.2.1 b + i) 0) ↔ K.2.2.2 a = K.2.2.2 b)) ∧ T.length ≤ 1600 ∧ ∀ i, i < T.length → T.getD i 0 < 256
def TkM (h : AH) (m : Nat) (K : TKS) (T : List Nat) (L : Nat → Nat) : Prop := NiX h (m + 1) 1600 T.length (fun i => T.getD i 0) ∧ NiX h (m + 2) 402 K.1 (fun k => soK (K.2.1 k)) ∧ (∃ f : Nat → Int32, At h (m + 3) (.inl (0, 402, .inl f)) ∧ ∀ k, k < K.1 → K.2.1 k = 40 → f k = nI (K.2.2.2 k)) ∧ NiX h (m + 4) 402 K.1 K.2.2.1 ∧ (∃ f : Nat → Int32, At h (m + 5) (.inl (0, 402, .inl f)) ∧ ∀ k, k < K.1 → K.2.1 k = 39 → f k = nI (L k)) ∧ TwK K T L
/-- names: their tokens, sorts and numbers -/
def NmP (K : TKS) (nm : Nat) (t kd nu : Nat → Nat) (N : NMS) : Prop := nm = N.1 + N.2.1 + N.2.2.1 ∧ (∀ k, k < nm → (kd k = 0 ∧ nu k < N.1 ∧ N.2.2.2.1 (nu k) = vvT K (t k)) ∨ (kd k = 1 ∧ nu k < N.2.1 ∧ N.2.2.2.2.1 (nu k) = vvT K (t k)) ∨ (kd k = 5 ∧ nu k < N.2.2.1 ∧ N.2.2.2.2.2 (nu k) = vvT K (t k))) ∧ (∀ i, i < N.1 → ∃ k, k < nm ∧ kd k = 0 ∧ nu k = i) ∧ (∀ i, i < N.2.1 → ∃ k, k < nm ∧ kd k = 1 ∧ nu k = i) ∧ (∀ i, i < N.2.2.1 → ∃ k, k < nm ∧ kd k = 5 ∧ nu k = i) ∧ ∀ k k', k < nm → k' < nm → vvT K (t k) = vvT K (t k') → k = k'
def NmM (h : AH) (m : Nat) (K : TKS) (nm : Nat) (ok : Prop) (N : NMS) : Prop := ∃ (ft fk fn : Nat → Int32) (t : Nat → Nat), At h (m + 6) (.inl (0, 20, .inl ft)) ∧ At h (m + 7) (.inl (0, 20, .inl fk)) ∧ At h (m + 8) (.inl (0, 20, .inl fn)) ∧ nm ≤ 20 ∧ (∀ k, k < nm → ft k = nI (t k) ∧ t k < K.1 ∧ K.2.1 (t k) = 39) ∧ (ok → ∃ kd nu : Nat → Nat, (∀ k, k < nm → fk k = nI (kd k) ∧ fn k = nI (nu k)) ∧ NmP K nm t kd nu N)
/-- so many, if there is no error -/
def okc (s : PST) (n : Nat) : Nat := if pEr s = 0 then n else 0
theorem okc_0 {s : PST} {n k : Nat} (h : ¬ pEr s = 0) : ¬ k < okc s n := by
  unfold okc
  rw [if_neg h]
  exact Nat.not_lt_zero k
/-- numbers of the book that it draws: labels, jars, lids, rules, acts, names -/
abbrev GCT : Type := Nat × Nat × Nat × Nat × Nat × Nat
def Ux (h0 h : AH) (m : Nat) : Prop := h.1 = h0.1 ∧ h.2.1 = h0.2.1 ∧ ∀ i, i < h0.1 → i ≠ m → i ≠ m + 28 → (i < m + 28 + 16 ∨ m + 28 + 19 ≤ i) → h.2.2 i = h0.2.2 i
theorem Ux.rf (h : AH) (m : Nat) : Ux h h m := ⟨rfl, rfl, fun _ _ _ _ _ => rfl⟩
theorem Ux.set {h0 h : AH} {m i : Nat} {c : AC} (u : Ux h0 h m) (e : i = m ∨ i = m + 28 ∨ (m + 28 + 16 ≤ i ∧ i < m + 28 + 19)) : Ux h0 (hset h i c) m := ⟨u.1, u.2.1, fun k a b c d => (if_neg (by omega)).trans (u.2.2 k a b c d)⟩
theorem Ux.at {h0 h : AH} {m i : Nat} {c : AC} (u : Ux h0 h m) (a : At h0 i c) (e1 : i ≠ m) (e2 : i ≠ m + 28) (e3 : i < m + 28 + 16 ∨ m + 28 + 19 ≤ i) : At h i c := ⟨by rw [u.1]; exact a.1, (u.2.2 i a.1 e1 e2 e3).trans a.2⟩
def MrO (m : Nat) (s : PST) (dp nm : Nat) (th by_ : Int32) (ea : Int32 × Int32) : AC := ModO m th by_ ea.1 (nI (pPo s)) (nI (if pEr s = 1 then 1 else 0)) (nI (pEr s)) (etI ea.2 (pEr s) (pEt s)) (nI dp) (nI nm)
/-- values and tests are read -/
def RxM (h0 h : AH) (m : Nat) (K : TKS) (T : List Nat) (L : Nat → Nat) (s : PST) (dp : Nat) (g : GCT) (no : Nat) : Prop := (∃ th by_ ea, At h m (MrO m s dp g.2.2.2.2.2 th by_ ea)) ∧ At h (m + 28) (MBoO (m + 28) (nI g.1) (nI g.2.1) (nI g.2.2.1) (nI g.2.2.2.1) (nI g.2.2.2.2.1) (nI no)) ∧ NiX h (m + 28 + 16) 800 (okc s no) (nSo (pBk s)) ∧ NiX h (m + 28 + 17) 800 (okc s no) (nLe (pBk s)) ∧ NiX h (m + 28 + 18) 800 (okc s no) (nRi (pBk s)) ∧ (pEr s = 0 → no = nNo (pBk s)) ∧ no ≤ pPo s ∧ pPo s < K.1 ∧ pEr s ≤ 5 ∧ pEt s < K.1 ∧ dp ≤ 7 ∧ Ux h0 h m ∧ TkM h0 m K T L ∧ NmM h0 m K g.2.2.2.2.2 (pEr s = 0) (nmN (pDf s))
theorem RxM.eqv {h0 h : AH} {m : Nat} {K : TKS} {T : List Nat} {L : Nat → Nat} {s s' : PST} {dp : Nat} {g : GCT} {no : Nat} (rx : RxM h0 h m K T L s dp g no) (e : Eqv s s') : RxM h0 h m K T L s' dp g no := by
  obtain ⟨⟨th, by_, ea, a0⟩, a1, a2, a3, a4, b1, b2, b3, b4, b5, b6, u, tk, ft, fk, fn, t, n1, n2, n3, n4, n5, n6⟩ := rx
  obtain ⟨e1, e2, e3, e4⟩ := e
  unfold MrO at a0
  rw [e1, e2, e3] at a0
  by_cases z : pEr s = 0
  · obtain ⟨f1, f2⟩ := e4 z
    injection f1 with g1 g2
    injection g2 with g2 g3
    injection g3 with g3 g4
    have ek : okc s no = okc s' no := by
      unfold okc
      rw [e2]
    rw [ek] at a2 a3 a4
    rw [g2] at a2
    rw [g3] at a3
    rw [g4] at a4
    exact ⟨⟨th, by_, ea, a0⟩, a1, a2, a3, a4, fun z2 => (b1 z).trans g1, by rw [← e1]; exact b2, by rw [← e1]; exact b3, by rw [← e2]; exact b4, by rw [← e3]; exact b5, b6, u, tk, ft, fk, fn, t, n1, n2, n3, n4, n5, fun z2 => by rw [← f2]; exact n6 z⟩
  · have z' : ¬ pEr s' = 0 := fun q => z (e2.trans q)
    have ek : okc s' no = 0 := if_neg z'
    obtain ⟨q2, w2, -⟩ := a2
    obtain ⟨q3, w3, -⟩ := a3
    obtain ⟨q4, w4, -⟩ := a4
    refine ⟨⟨th, by_, ea, a0⟩, a1, ⟨q2, w2, fun k hk => ?_⟩, ⟨q3, w3, fun k hk => ?_⟩, ⟨q4, w4, fun k hk => ?_⟩, fun z2 => absurd z2 z', by rw [← e1]; exact b2, by rw [← e1]; exact b3, by rw [← e2]; exact b4, by rw [← e3]; exact b5, b6, u, tk, ft, fk, fn, t, n1, n2, n3, n4, n5, fun z2 => absurd z2 z'⟩
    all_goals (rw [ek] at hk; exact absurd hk (Nat.not_lt_zero k))
section RMA
variable {G : GT} {d : Nat} {h0 h : AH} {m : Nat} {K : TKS} {T : List Nat} {L : Nat → Nat} {s : PST} {dp : Nat} {g : GCT} {no : Nat}
theorem RxM.ne42 (rx : RxM h0 h m K T L s dp g no) : kdT K (pPo s) = K.2.1 (pPo s) ∧ K.2.1 (pPo s) < 43 := ⟨if_pos rx.2.2.2.2.2.2.2.1, (rx.2.2.2.2.2.2.2.2.2.2.2.2.1.2.2.2.2.2.2.2.1 _ rx.2.2.2.2.2.2.2.1).1⟩
theorem RxM.kd (rx : RxM h0 h m K T L s dp g no) : kdP K s < 43 := by
  unfold kdP
  split
  · decide
  · rw [rx.ne42.1]
    exact rx.ne42.2
theorem RxM.nx (rx : RxM h0 h m K T L s dp g no) (e : kdP K s < 41) : pPo s + 1 < K.1 ∧ pEr s ≠ 1 := by
  unfold kdP at e
  by_cases z : pEr s = 1
  · rw [if_pos z] at e
    omega
  · rw [if_neg z, rx.ne42.1] at e
    exact ⟨(rx.2.2.2.2.2.2.2.2.2.2.2.2.1.2.2.2.2.2.2.2.1 _ rx.2.2.2.2.2.2.2.1).2 e, z⟩

end RMA
