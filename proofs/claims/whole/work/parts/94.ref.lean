/-! the reference's reader -/
abbrev ndN (B : BK) : Nat × (Nat → Nat) × (Nat → Nat) × (Nat → Nat) := (nNo B, nSo B, nLe B, nRi B)
abbrev NMS : Type := Nat × Nat × Nat × (Nat → Nat) × (Nat → Nat) × (Nat → Nat)
abbrev nmN (d : DRF) : NMS := (bLa d.1, bJa d.1, bLi d.1, dfL d, dfJ d, dfI d)
/-- the same for values and tests of the reference -/
def Eqv (s s' : PST) : Prop := pPo s = pPo s' ∧ pEr s = pEr s' ∧ pEt s = pEt s' ∧ (pEr s = 0 → ndN (pBk s) = ndN (pBk s') ∧ nmN (pDf s) = nmN (pDf s'))
theorem Eqv.rf (s : PST) : Eqv s s := ⟨rfl, rfl, rfl, fun _ => ⟨rfl, rfl⟩⟩
theorem Eqv.symm {s s' : PST} (e : Eqv s s') : Eqv s' s := ⟨e.1.symm, e.2.1.symm, e.2.2.1.symm, fun z => ⟨(e.2.2.2 (e.2.1.trans z)).1.symm, (e.2.2.2 (e.2.1.trans z)).2.symm⟩⟩
theorem Eqv.trans {s s' s2 : PST} (a : Eqv s s') (b : Eqv s' s2) : Eqv s s2 := ⟨a.1.trans b.1, a.2.1.trans b.2.1, a.2.2.1.trans b.2.2.1, fun z => ⟨(a.2.2.2 z).1.trans (b.2.2.2 (a.2.1.symm.trans z)).1, (a.2.2.2 z).2.trans (b.2.2.2 (a.2.1.symm.trans z)).2⟩⟩
theorem Eqv.kd {K : TKS} {s s' : PST} (e : Eqv s s') : kdP K s = kdP K s' := by
  unfold kdP
  rw [e.1, e.2.1]
theorem Eqv.mk2 {p e t : Nat} {d d' : DRF} (h : e = 0 → ndN d.1 = ndN d'.1 ∧ nmN d = nmN d') : Eqv (p, e, t, d) (p, e, t, d') := ⟨rfl, rfl, rfl, h⟩
theorem Eqv.tk {K : TKS} {w : Nat} {s s' : PST} (e : Eqv s s') : Eqv (tkP K w s) (tkP K w s') := by
  have k := e.kd (K := K)
  obtain ⟨a, b, c, f⟩ := e
  unfold tkP
  rw [k, ← b]
  by_cases h : pEr s = 1
  · rw [if_pos h, if_pos h]
    exact ⟨a, b, c, f⟩
  · rw [if_neg h, if_neg h]
    by_cases h2 : kdP K s' = w
    · rw [if_pos h2, if_pos h2, a, c]
      exact Eqv.mk2 (fun z => f z)
    · rw [if_neg h2, if_neg h2, a]
      exact Eqv.mk2 (fun z => absurd z (by decide))
theorem Eqv.rp {n : Nat} (hn : n ≠ 0) {s s' : PST} (e : Eqv s s') : Eqv (rpP n s) (rpP n s') := by
  obtain ⟨a, b, c, f⟩ := e
  unfold rpP
  rw [← b]
  by_cases h : pEr s = 0
  · rw [if_pos h, if_pos h, a]
    exact Eqv.mk2 (fun z => absurd z hn)
  · rw [if_neg h, if_neg h]
    exact ⟨a, b, c, f⟩
theorem Eqv.no {so l r : Nat} {s s' : PST} (e : Eqv s s') : Eqv (noP so l r s) (noP so l r s') := by
  obtain ⟨a, b, c, f⟩ := e
  unfold noP
  by_cases h : pEr s = 0
  · rw [upP_e h, upP_e (b.symm.trans h), a, b, c]
    refine Eqv.mk2 (fun z => ?_)
    obtain ⟨f1, f2⟩ := f h
    injection f1 with g1 g2
    injection g2 with g2 g3
    injection g3 with g3 g4
    refine ⟨?_, f2⟩
    show (nNo (pBk s) + 1, upN (nSo (pBk s)) (nNo (pBk s)) so, upN (nLe (pBk s)) (nNo (pBk s)) l, upN (nRi (pBk s)) (nNo (pBk s)) r) = (nNo (pBk s') + 1, upN (nSo (pBk s')) (nNo (pBk s')) so, upN (nLe (pBk s')) (nNo (pBk s')) l, upN (nRi (pBk s')) (nNo (pBk s')) r)
    rw [g1, g2, g3, g4]
  · rw [upP_n h, upP_n (fun z => h (b.trans z))]
    exact ⟨a, b, c, f⟩
theorem Eqv.up {f : DRF → DRF} (hf : ∀ d, ndN (f d).1 = ndN d.1 ∧ nmN (f d) = nmN d) (s : PST) : Eqv (upP f s) s := by
  by_cases h : pEr s = 0
  · rw [upP_e h]
    exact ⟨rfl, rfl, rfl, fun _ => hf _⟩
  · rw [upP_n h]
    exact Eqv.rf s
theorem Eqv.st {kd n : Nat} (s : PST) : Eqv (stP kd n s) s := Eqv.up (fun d => by
  unfold stD
  split
  · exact ⟨rfl, rfl⟩
  · exact ⟨rfl, rfl⟩) s
/-- the wrong token -/
def wrP (s : PST) : PST := if pEr s = 1 then s else (pPo s, 1, pPo s, pDf s)
theorem tkP_wr {K : TKS} {w : Nat} {s : PST} (h : kdP K s ≠ w) : tkP K w s = wrP s := by
  unfold tkP wrP
  rw [if_neg h]
theorem wrP_er (s : PST) : pEr (wrP s) = 1 := by
  unfold wrP
  split
  · assumption
  · rfl
theorem tkP_1 {K : TKS} {w : Nat} {s : PST} (h : pEr s = 1) : tkP K w s = s := if_pos h
theorem tkP_y {K : TKS} {w : Nat} {s : PST} (h : kdP K s = w) (hw : w ≠ 42) : tkP K w s = (pPo s + 1, pEr s, pEt s, pDf s) ∧ pEr s ≠ 1 := by
  have e : ¬ pEr s = 1 := fun z => by
    unfold kdP at h
    rw [if_pos z] at h
    exact hw h.symm
  unfold tkP
  rw [if_neg e, if_pos h]
  exact ⟨rfl, e⟩
theorem Eqv.wr {s s' : PST} (e1 : pPo s = pPo s') (e2 : pEr s = pEr s') (e3 : pEt s = pEt s') : Eqv (wrP s) (wrP s') := by
  unfold wrP
  rw [e2]
  by_cases h : pEr s' = 1
  · rw [if_pos h, if_pos h]
    exact ⟨e1, e2, e3, fun z => by rw [e2, h] at z; exact absurd z (by decide)⟩
  · rw [if_neg h, if_neg h, e1]
    exact Eqv.mk2 (fun z => absurd z (by decide))
theorem soK_inj {a b : Nat} (ha : a < 43) (hb : b < 43) (h : soK a = soK b) : a = b := by
  have key : (List.range 43).all (fun a => (List.range 43).all (fun b => soK a != soK b || a == b)) = true := by decide +kernel
  have k1 := List.all_eq_true.mp (List.all_eq_true.mp key a (List.mem_range.mpr ha)) b (List.mem_range.mpr hb)
  rw [h] at k1
  simp only [bne_self_eq_false, Bool.false_or, beq_iff_eq] at k1
  exact k1
theorem soK_lt (a : Nat) : soK a < 52 := by
  by_cases h : a < 43
  · have key : (List.range 43).all (fun a => decide (soK a < 52)) = true := by decide +kernel
    exact of_decide_eq_true (List.all_eq_true.mp key a (List.mem_range.mpr h))
  · have : soK a = 32 := by
      unfold soK
      rw [List.getD_eq_getElem?_getD, List.getElem?_eq_none (by show 43 ≤ a; omega)]
      rfl
    omega
/-- what the reader's tokens are -/
def TwK (K : TKS) (T : List Nat) (L : Nat → Nat) : Prop := 0 < K.1 ∧ K.1 ≤ 401 ∧ (∀ p, p < K.1 → K.2.1 p < 43 ∧ (K.2.1 p < 41 → p + 1 < K.1)) ∧ (∀ p, p < K.1 → K.2.1 p = 40 → K.2.2.2 p ≤ 9999) ∧ (∀ p, p < K.1 → K.2.1 p = 39 → K.2.2.1 p + L p ≤ T.length) ∧ (∀ a b, a < K.1 → b < K.1 → K.2.1 a = 39 → K.2.1 b = 39 → ((L a = L b ∧ ∀ i, i < L a → T.getD (K.2.2.1 a + i) 0 = T.getD (K.2.2.1 b + i) 0) ↔ K.2.2.2 a = K.2.2.2 b)) ∧ T.length ≤ 1600 ∧ ∀ i, i < T.length → T.getD i 0 < 256
def TkM (h : AH) (m : Nat) (K : TKS) (T : List Nat) (L : Nat → Nat) : Prop := NiX h (m + 1) 1600 T.length (fun i => T.getD i 0) ∧ NiX h (m + 2) 402 K.1 (fun k => soK (K.2.1 k)) ∧ (∃ f : Nat → Int32, At h (m + 3) (.inl (0, 402, .inl f)) ∧ ∀ k, k < K.1 → K.2.1 k = 40 → f k = nI (K.2.2.2 k)) ∧ NiX h (m + 4) 402 K.1 K.2.2.1 ∧ (∃ f : Nat → Int32, At h (m + 5) (.inl (0, 402, .inl f)) ∧ ∀ k, k < K.1 → K.2.1 k = 39 → f k = nI (L k)) ∧ TwK K T L
/-- names: their tokens, sorts and numbers -/
def NmP (K : TKS) (nm : Nat) (t kd nu : Nat → Nat) (N : NMS) : Prop := nm = N.1 + N.2.1 + N.2.2.1 ∧ (∀ k, k < nm → (kd k = 0 ∧ nu k < N.1 ∧ N.2.2.2.1 (nu k) = vvT K (t k)) ∨ (kd k = 1 ∧ nu k < N.2.1 ∧ N.2.2.2.2.1 (nu k) = vvT K (t k)) ∨ (kd k = 5 ∧ nu k < N.2.2.1 ∧ N.2.2.2.2.2 (nu k) = vvT K (t k))) ∧ (∀ i, i < N.1 → ∃ k, k < nm ∧ kd k = 0 ∧ nu k = i) ∧ (∀ i, i < N.2.1 → ∃ k, k < nm ∧ kd k = 1 ∧ nu k = i) ∧ (∀ i, i < N.2.2.1 → ∃ k, k < nm ∧ kd k = 5 ∧ nu k = i) ∧ ∀ k k', k < nm → k' < nm → vvT K (t k) = vvT K (t k') → k = k'
def NmM (h : AH) (m : Nat) (K : TKS) (nm : Nat) (ok : Prop) (N : NMS) : Prop := ∃ (ft fk fn : Nat → Int32) (t : Nat → Nat), At h (m + 6) (.inl (0, 20, .inl ft)) ∧ At h (m + 7) (.inl (0, 20, .inl fk)) ∧ At h (m + 8) (.inl (0, 20, .inl fn)) ∧ nm ≤ 20 ∧ (∀ k, k < nm → ft k = nI (t k) ∧ t k < K.1 ∧ K.2.1 (t k) = 39) ∧ (ok → ∃ kd nu : Nat → Nat, (∀ k, k < nm → fk k = nI (kd k) ∧ fn k = nI (nu k)) ∧ NmP K nm t kd nu N)
/-- so many, if there is no error -/
def okc (s : PST) (n : Nat) : Nat := if pEr s = 0 then n else 0
theorem okc_0 {s : PST} {n k : Nat} (h : ¬ pEr s = 0) : ¬ k < okc s n := by
  unfold okc
  rw [if_neg h]
  exact Nat.not_lt_zero k
/-- numbers of the book that it draws: labels, jars, lids, rules, acts, names -/
abbrev GCT : Type := Nat × Nat × Nat × Nat × Nat × Nat
def Ux (h0 h : AH) (m : Nat) : Prop := h.1 = h0.1 ∧ h.2.1 = h0.2.1 ∧ ∀ i, i < h0.1 → i ≠ m → i ≠ m + 28 → (i < m + 28 + 16 ∨ m + 28 + 19 ≤ i) → h.2.2 i = h0.2.2 i
theorem Ux.rf (h : AH) (m : Nat) : Ux h h m := ⟨rfl, rfl, fun _ _ _ _ _ => rfl⟩
theorem Ux.set {h0 h : AH} {m i : Nat} {c : AC} (u : Ux h0 h m) (e : i = m ∨ i = m + 28 ∨ (m + 28 + 16 ≤ i ∧ i < m + 28 + 19)) : Ux h0 (hset h i c) m := ⟨u.1, u.2.1, fun k a b c d => (if_neg (by omega)).trans (u.2.2 k a b c d)⟩
theorem Ux.at {h0 h : AH} {m i : Nat} {c : AC} (u : Ux h0 h m) (a : At h0 i c) (e1 : i ≠ m) (e2 : i ≠ m + 28) (e3 : i < m + 28 + 16 ∨ m + 28 + 19 ≤ i) : At h i c := ⟨by rw [u.1]; exact a.1, (u.2.2 i a.1 e1 e2 e3).trans a.2⟩
def MrO (m : Nat) (s : PST) (dp nm : Nat) (th by_ : Int32) (ea : Int32 × Int32) : AC := ModO m th by_ ea.1 (nI (pPo s)) (nI (if pEr s = 1 then 1 else 0)) (nI (pEr s)) (etI ea.2 (pEr s) (pEt s)) (nI dp) (nI nm)
/-- values and tests are read -/
def RxM (h0 h : AH) (m : Nat) (K : TKS) (T : List Nat) (L : Nat → Nat) (s : PST) (dp : Nat) (g : GCT) (no : Nat) : Prop := (∃ th by_ ea, At h m (MrO m s dp g.2.2.2.2.2 th by_ ea)) ∧ At h (m + 28) (MBoO (m + 28) (nI g.1) (nI g.2.1) (nI g.2.2.1) (nI g.2.2.2.1) (nI g.2.2.2.2.1) (nI no)) ∧ NiX h (m + 28 + 16) 800 (okc s no) (nSo (pBk s)) ∧ NiX h (m + 28 + 17) 800 (okc s no) (nLe (pBk s)) ∧ NiX h (m + 28 + 18) 800 (okc s no) (nRi (pBk s)) ∧ (pEr s = 0 → no = nNo (pBk s)) ∧ no ≤ pPo s ∧ pPo s < K.1 ∧ pEr s ≤ 5 ∧ pEt s < K.1 ∧ dp ≤ 7 ∧ Ux h0 h m ∧ TkM h0 m K T L ∧ NmM h0 m K g.2.2.2.2.2 (pEr s = 0) (nmN (pDf s))
theorem RxM.eqv {h0 h : AH} {m : Nat} {K : TKS} {T : List Nat} {L : Nat → Nat} {s s' : PST} {dp : Nat} {g : GCT} {no : Nat} (rx : RxM h0 h m K T L s dp g no) (e : Eqv s s') : RxM h0 h m K T L s' dp g no := by
  obtain ⟨⟨th, by_, ea, a0⟩, a1, a2, a3, a4, b1, b2, b3, b4, b5, b6, u, tk, ft, fk, fn, t, n1, n2, n3, n4, n5, n6⟩ := rx
  obtain ⟨e1, e2, e3, e4⟩ := e
  unfold MrO at a0
  rw [e1, e2, e3] at a0
  by_cases z : pEr s = 0
  · obtain ⟨f1, f2⟩ := e4 z
    injection f1 with g1 g2
    injection g2 with g2 g3
    injection g3 with g3 g4
    have ek : okc s no = okc s' no := by
      unfold okc
      rw [e2]
    rw [ek] at a2 a3 a4
    rw [g2] at a2
    rw [g3] at a3
    rw [g4] at a4
    exact ⟨⟨th, by_, ea, a0⟩, a1, a2, a3, a4, fun z2 => (b1 z).trans g1, by rw [← e1]; exact b2, by rw [← e1]; exact b3, by rw [← e2]; exact b4, by rw [← e3]; exact b5, b6, u, tk, ft, fk, fn, t, n1, n2, n3, n4, n5, fun z2 => by rw [← f2]; exact n6 z⟩
  · have z' : ¬ pEr s' = 0 := fun q => z (e2.trans q)
    have ek : okc s' no = 0 := if_neg z'
    obtain ⟨q2, w2, -⟩ := a2
    obtain ⟨q3, w3, -⟩ := a3
    obtain ⟨q4, w4, -⟩ := a4
    refine ⟨⟨th, by_, ea, a0⟩, a1, ⟨q2, w2, fun k hk => ?_⟩, ⟨q3, w3, fun k hk => ?_⟩, ⟨q4, w4, fun k hk => ?_⟩, fun z2 => absurd z2 z', by rw [← e1]; exact b2, by rw [← e1]; exact b3, by rw [← e2]; exact b4, by rw [← e3]; exact b5, b6, u, tk, ft, fk, fn, t, n1, n2, n3, n4, n5, fun z2 => absurd z2 z'⟩
    all_goals (rw [ek] at hk; exact absurd hk (Nat.not_lt_zero k))
section RMA
variable {G : GT} {d : Nat} {h0 h : AH} {m : Nat} {K : TKS} {T : List Nat} {L : Nat → Nat} {s : PST} {dp : Nat} {g : GCT} {no : Nat}
theorem RxM.ne42 (rx : RxM h0 h m K T L s dp g no) : kdT K (pPo s) = K.2.1 (pPo s) ∧ K.2.1 (pPo s) < 43 := ⟨if_pos rx.2.2.2.2.2.2.2.1, (rx.2.2.2.2.2.2.2.2.2.2.2.2.1.2.2.2.2.2.2.2.1 _ rx.2.2.2.2.2.2.2.1).1⟩
theorem RxM.kd (rx : RxM h0 h m K T L s dp g no) : kdP K s < 43 := by
  unfold kdP
  split
  · decide
  · rw [rx.ne42.1]
    exact rx.ne42.2
theorem RxM.nx (rx : RxM h0 h m K T L s dp g no) (e : kdP K s < 41) : pPo s + 1 < K.1 ∧ pEr s ≠ 1 := by
  unfold kdP at e
  by_cases z : pEr s = 1
  · rw [if_pos z] at e
    omega
  · rw [if_neg z, rx.ne42.1] at e
    exact ⟨(rx.2.2.2.2.2.2.2.2.2.2.2.2.1.2.2.2.2.2.2.2.1 _ rx.2.2.2.2.2.2.2.1).2 e, z⟩

set_option maxHeartbeats 4000000 in
set_option maxRecDepth 100000 in
theorem s_mis (rx : RxM h0 h m K T L s dp g no) {k : Nat} (hk : k < 41) : RQ G mX12_is d 0 [some (.ref m), some (.int (nI (soK k)))] [] h (Ri fun v h1 => v = nI (if kdP K s = k then 1 else 0) ∧ h1 = h) := by
  obtain ⟨⟨th, by_, ea, a0⟩, a1, ⟨q2, a2, c2⟩, ⟨q3, a3, c3⟩, ⟨q4, a4, c4⟩, b1, b2, b3, b4, b5, b6, u, tk, nm⟩ := id rx
  obtain ⟨⟨v1, y1, x1⟩, ⟨v2, y2, x2⟩, ⟨v3, y3, x3⟩, ⟨v4, y4, x4⟩, ⟨v5, y5, x5⟩, tw⟩ := id tk
  have k401 := tw.2.1
  have w1 := u.at y1 (by omega) (by omega) (by omega)
  have w2 := u.at y2 (by omega) (by omega) (by omega)
  have w3 := u.at y3 (by omega) (by omega) (by omega)
  have w4 := u.at y4 (by omega) (by omega) (by omega)
  have w5 := u.at y5 (by omega) (by omega) (by omega)
  have z0 := a0.1
  have z1 := a1.1
  have l2_ := a2.1
  have l3_ := a3.1
  have l4_ := a4.1
  have ew : pEr s ≠ 1 → ((nI (soK (K.2.1 (pPo s))) = nI (soK k)) ↔ kdP K s = k) := fun z => by
    have e1 : kdP K s = K.2.1 (pPo s) := by
      unfold kdP
      rw [if_neg z]
      exact rx.ne42.1
    have l1 := soK_lt (K.2.1 (pPo s))
    have l2 := soK_lt k
    rw [e1, nI_eq (by omega) (by omega)]
    exact ⟨fun q => soK_inj rx.ne42.2 (by omega) q, fun q => by rw [q]⟩
  refine tX12_is_0  (r := ?_)
  refine tX12_is_1 (ha := (by first | assumption | (repeat (first | assumption | exact At.set_eq2 (by first | omega | (simp only [hset, hnew]; omega) | rfl | decide) | exact At.new_eq2 _ _ (by first | omega | (simp only [hset, hnew]; omega) | rfl | decide) | refine At.set_ne ?_ (by first | omega | (simp only [hset, hnew]; omega) | rfl | decide) | refine At.new_ne ?_)))) (hv := rfl) (r := ?_)
  refine tX12_is_4  (kt := fun c_4 => ?_) (kf := fun c_4 => ?_)
  · have e1 : pEr s = 1 := Classical.byContradiction (fun z => by rw [if_neg z] at c_4; exact c_4 rfl)
    refine tX12_is_24  (r := ?_)
    refine tX12_is_25 (hb := (by first | exact Or.inl rfl | exact Or.inr rfl | assumption)) (hP := ?_)
    refine ⟨_, rfl, ?_, rfl⟩
    rw [if_neg (fun z => by unfold kdP at z; rw [if_pos e1] at z; omega)]
  · have e1 : ¬ pEr s = 1 := fun z => by rw [if_pos z] at c_4; exact absurd c_4 (by decide)
    refine tX12_is_7  (r := ?_)
    refine tX12_is_8 (ha := (by first | assumption | (repeat (first | assumption | exact At.set_eq2 (by first | omega | (simp only [hset, hnew]; omega) | rfl | decide) | exact At.new_eq2 _ _ (by first | omega | (simp only [hset, hnew]; omega) | rfl | decide) | refine At.set_ne ?_ (by first | omega | (simp only [hset, hnew]; omega) | rfl | decide) | refine At.new_ne ?_)))) (hv := rfl) (r := ?_)
    refine tX12_is_11  (r := ?_)
    refine tX12_is_12 (ha := (by first | assumption | (repeat (first | assumption | exact At.set_eq2 (by first | omega | (simp only [hset, hnew]; omega) | rfl | decide) | exact At.new_eq2 _ _ (by first | omega | (simp only [hset, hnew]; omega) | rfl | decide) | refine At.set_ne ?_ (by first | omega | (simp only [hset, hnew]; omega) | rfl | decide) | refine At.new_ne ?_)))) (hv := rfl) (r := ?_)
    refine tX12_is_15 (ha := (by first | assumption | (repeat (first | assumption | exact At.set_eq2 (by first | omega | (simp only [hset, hnew]; omega) | rfl | decide) | exact At.new_eq2 _ _ (by first | omega | (simp only [hset, hnew]; omega) | rfl | decide) | refine At.set_ne ?_ (by first | omega | (simp only [hset, hnew]; omega) | rfl | decide) | refine At.new_ne ?_)))) (hx := rfl) (hj := (by omega)) (hn := (by decide)) (r := ?_)
    rw [x2 _ b3]
    refine tX12_is_16  (r := ?_)
    refine tX12_is_17  (kt := fun c_17 => ?_) (kf := fun c_17 => ?_)
    · refine tX12_is_24  (r := ?_)
      refine tX12_is_25 (hb := (by first | exact Or.inl rfl | exact Or.inr rfl | assumption)) (hP := ?_)
      refine ⟨_, rfl, ?_, rfl⟩
      rw [if_neg (fun z => c_17 ((ew e1).mpr z))]
    · refine tX12_is_20  (r := ?_)
      refine tX12_is_21 (r := ?_)
      refine tX12_is_25 (hb := (by first | exact Or.inl rfl | exact Or.inr rfl | assumption)) (hP := ?_)
      refine ⟨_, rfl, ?_, rfl⟩
      rw [if_pos ((ew e1).mp c_17)]

set_option maxHeartbeats 4000000 in
set_option maxRecDepth 100000 in
theorem s_mwrong (rx : RxM h0 h m K T L s dp g no) : RQ G mX12_wrong d 0 [some (.ref m)] [] h (Rv fun h1 => RxM h0 h1 m K T L (wrP s) dp g no) := by
  obtain ⟨⟨th, by_, ea, a0⟩, a1, ⟨q2, a2, c2⟩, ⟨q3, a3, c3⟩, ⟨q4, a4, c4⟩, b1, b2, b3, b4, b5, b6, u, tk, nm⟩ := id rx
  obtain ⟨⟨v1, y1, x1⟩, ⟨v2, y2, x2⟩, ⟨v3, y3, x3⟩, ⟨v4, y4, x4⟩, ⟨v5, y5, x5⟩, tw⟩ := id tk
  have k401 := tw.2.1
  have w1 := u.at y1 (by omega) (by omega) (by omega)
  have w2 := u.at y2 (by omega) (by omega) (by omega)
  have w3 := u.at y3 (by omega) (by omega) (by omega)
  have w4 := u.at y4 (by omega) (by omega) (by omega)
  have w5 := u.at y5 (by omega) (by omega) (by omega)
  have z0 := a0.1
  have z1 := a1.1
  have l2_ := a2.1
  have l3_ := a3.1
  have l4_ := a4.1
  refine tX12_wrong_0  (r := ?_)
  refine tX12_wrong_1 (ha := (by first | assumption | (repeat (first | assumption | exact At.set_eq2 (by first | omega | (simp only [hset, hnew]; omega) | rfl | decide) | exact At.new_eq2 _ _ (by first | omega | (simp only [hset, hnew]; omega) | rfl | decide) | refine At.set_ne ?_ (by first | omega | (simp only [hset, hnew]; omega) | rfl | decide) | refine At.new_ne ?_)))) (hv := rfl) (r := ?_)
  refine tX12_wrong_4  (kt := fun c_4 => ?_) (kf := fun c_4 => ?_)
  · have e1 : ¬ pEr s = 1 := fun z => by rw [if_pos z] at c_4; exact absurd c_4 (by decide)
    have e : wrP s = (pPo s, 1, pPo s, pDf s) := if_neg e1
    rw [e]
    refine tX12_wrong_8  (r := ?_)
    refine tX12_wrong_9  (r := ?_)
    refine tX12_wrong_10 (ha := (by first | assumption | (repeat (first | assumption | exact At.set_eq2 (by first | omega | (simp only [hset, hnew]; omega) | rfl | decide) | exact At.new_eq2 _ _ (by first | omega | (simp only [hset, hnew]; omega) | rfl | decide) | refine At.set_ne ?_ (by first | omega | (simp only [hset, hnew]; omega) | rfl | decide) | refine At.new_ne ?_)))) (hlen := rfl) (hb := (by first | exact Or.inl rfl | exact Or.inr rfl | assumption)) (r := ?_)
    refine tX12_wrong_13  (r := ?_)
    refine tX12_wrong_14  (r := ?_)
    refine tX12_wrong_15 (ha := (by first | assumption | (repeat (first | assumption | exact At.set_eq2 (by first | omega | (simp only [hset, hnew]; omega) | rfl | decide) | exact At.new_eq2 _ _ (by first | omega | (simp only [hset, hnew]; omega) | rfl | decide) | refine At.set_ne ?_ (by first | omega | (simp only [hset, hnew]; omega) | rfl | decide) | refine At.new_ne ?_)))) (hlen := rfl) (r := ?_)
    refine tX12_wrong_18  (r := ?_)
    refine tX12_wrong_19  (r := ?_)
    refine tX12_wrong_20 (ha := (by first | assumption | (repeat (first | assumption | exact At.set_eq2 (by first | omega | (simp only [hset, hnew]; omega) | rfl | decide) | exact At.new_eq2 _ _ (by first | omega | (simp only [hset, hnew]; omega) | rfl | decide) | refine At.set_ne ?_ (by first | omega | (simp only [hset, hnew]; omega) | rfl | decide) | refine At.new_ne ?_)))) (hv := rfl) (r := ?_)
    refine tX12_wrong_23 (ha := (by first | assumption | (repeat (first | assumption | exact At.set_eq2 (by first | omega | (simp only [hset, hnew]; omega) | rfl | decide) | exact At.new_eq2 _ _ (by first | omega | (simp only [hset, hnew]; omega) | rfl | decide) | refine At.set_ne ?_ (by first | omega | (simp only [hset, hnew]; omega) | rfl | decide) | refine At.new_ne ?_)))) (hlen := rfl) (r := ?_)
    refine tX12_wrong_26  (hP := ?_)
    exact ⟨rfl, ⟨⟨th, by_, ea, At.set_eq2 z0⟩, by (first | assumption | (repeat (first | assumption | exact At.set_eq2 (by (first | omega | (simp only [hset, hnew]; omega) | rfl | decide)) | exact At.new_eq2 _ _ (by (first | omega | (simp only [hset, hnew]; omega) | rfl | decide)) | refine At.set_ne ?_ (by (first | omega | (simp only [hset, hnew]; omega) | rfl | decide)) | refine At.new_ne ?_))), ⟨q2, by (first | assumption | (repeat (first | assumption | exact At.set_eq2 (by (first | omega | (simp only [hset, hnew]; omega) | rfl | decide)) | exact At.new_eq2 _ _ (by (first | omega | (simp only [hset, hnew]; omega) | rfl | decide)) | refine At.set_ne ?_ (by (first | omega | (simp only [hset, hnew]; omega) | rfl | decide)) | refine At.new_ne ?_))), (fun k hk => absurd hk (okc_0 (show ¬ (1 : Nat) = 0 by decide)))⟩, ⟨q3, by (first | assumption | (repeat (first | assumption | exact At.set_eq2 (by (first | omega | (simp only [hset, hnew]; omega) | rfl | decide)) | exact At.new_eq2 _ _ (by (first | omega | (simp only [hset, hnew]; omega) | rfl | decide)) | refine At.set_ne ?_ (by (first | omega | (simp only [hset, hnew]; omega) | rfl | decide)) | refine At.new_ne ?_))), (fun k hk => absurd hk (okc_0 (show ¬ (1 : Nat) = 0 by decide)))⟩, ⟨q4, by (first | assumption | (repeat (first | assumption | exact At.set_eq2 (by (first | omega | (simp only [hset, hnew]; omega) | rfl | decide)) | exact At.new_eq2 _ _ (by (first | omega | (simp only [hset, hnew]; omega) | rfl | decide)) | refine At.set_ne ?_ (by (first | omega | (simp only [hset, hnew]; omega) | rfl | decide)) | refine At.new_ne ?_))), (fun k hk => absurd hk (okc_0 (show ¬ (1 : Nat) = 0 by decide)))⟩, fun z => absurd z (show ¬ (1 : Nat) = 0 by decide), b2, b3, (by decide : 1 ≤ 5), b3, b6, ((u.set (Or.inl rfl)).set (Or.inl rfl)).set (Or.inl rfl), tk, (by obtain ⟨ft, fk, fn, t, n1, n2, n3, n4, n5, -⟩ := nm; exact ⟨ft, fk, fn, t, n1, n2, n3, n4, n5, fun z => absurd z (show ¬ (1 : Nat) = 0 by decide)⟩)⟩⟩
  · have e1 : pEr s = 1 := Classical.byContradiction (fun z => by rw [if_neg z] at c_4; exact c_4 rfl)
    have e : wrP s = s := if_pos e1
    rw [e]
    refine tX12_wrong_7  (hP := ?_)
    exact ⟨rfl, rx⟩

set_option maxHeartbeats 4000000 in
set_option maxRecDepth 100000 in
theorem s_mtake (hd : 1 ≤ d) (rx : RxM h0 h m K T L s dp g no) {k : Nat} (hk : k < 41) : RQ G mX12_take d 0 [some (.ref m), some (.int (nI (soK k)))] [] h (Rv fun h1 => RxM h0 h1 m K T L (tkP K k s) dp g no) := by
  obtain ⟨⟨th, by_, ea, a0⟩, a1, ⟨q2, a2, c2⟩, ⟨q3, a3, c3⟩, ⟨q4, a4, c4⟩, b1, b2, b3, b4, b5, b6, u, tk, nm⟩ := id rx
  obtain ⟨⟨v1, y1, x1⟩, ⟨v2, y2, x2⟩, ⟨v3, y3, x3⟩, ⟨v4, y4, x4⟩, ⟨v5, y5, x5⟩, tw⟩ := id tk
  have k401 := tw.2.1
  have w1 := u.at y1 (by omega) (by omega) (by omega)
  have w2 := u.at y2 (by omega) (by omega) (by omega)
  have w3 := u.at y3 (by omega) (by omega) (by omega)
  have w4 := u.at y4 (by omega) (by omega) (by omega)
  have w5 := u.at y5 (by omega) (by omega) (by omega)
  have z0 := a0.1
  have z1 := a1.1
  have l2_ := a2.1
  have l3_ := a3.1
  have l4_ := a4.1
  refine tX12_take_0  (r := ?_)
  refine tX12_take_1  (r := ?_)
  refine tX12_take_2 (hd := (by omega)) (ha := (by first | assumption | (repeat (first | assumption | exact At.set_eq2 (by first | omega | (simp only [hset, hnew]; omega) | rfl | decide) | exact At.new_eq2 _ _ (by first | omega | (simp only [hset, hnew]; omega) | rfl | decide) | refine At.set_ne ?_ (by first | omega | (simp only [hset, hnew]; omega) | rfl | decide) | refine At.new_ne ?_)))) (call := s_mis (d := 0) rx hk) (k := ?_)
  rintro x_ h_ ⟨hx_, e_⟩
  rw [e_, hx_]
  refine tX12_take_5  (kt := fun c_5 => ?_) (kf := fun c_5 => ?_)
  · have ek : ¬ kdP K s = k := fun z => by rw [if_pos z] at c_5; exact absurd c_5 (by decide)
    rw [tkP_wr ek]
    refine tX12_take_21  (r := ?_)
    refine tX12_take_22 (hd := (by omega)) (ha := (by first | assumption | (repeat (first | assumption | exact At.set_eq2 (by first | omega | (simp only [hset, hnew]; omega) | rfl | decide) | exact At.new_eq2 _ _ (by first | omega | (simp only [hset, hnew]; omega) | rfl | decide) | refine At.set_ne ?_ (by first | omega | (simp only [hset, hnew]; omega) | rfl | decide) | refine At.new_ne ?_)))) (call := s_mwrong (d := 0) rx) (k := ?_)
    intro h1 rx1
    refine tX12_take_25  (hP := ?_)
    exact ⟨rfl, rx1⟩
  · have ek : kdP K s = k := Classical.byContradiction (fun z => by rw [if_neg z] at c_5; exact c_5 rfl)
    obtain ⟨pn, e1⟩ := rx.nx (by omega)
    obtain ⟨et, -⟩ := tkP_y (K := K) (s := s) ek (by omega)
    rw [et]
    refine tX12_take_8  (r := ?_)
    refine tX12_take_9  (r := ?_)
    refine tX12_take_10 (ha := (by first | assumption | (repeat (first | assumption | exact At.set_eq2 (by first | omega | (simp only [hset, hnew]; omega) | rfl | decide) | exact At.new_eq2 _ _ (by first | omega | (simp only [hset, hnew]; omega) | rfl | decide) | refine At.set_ne ?_ (by first | omega | (simp only [hset, hnew]; omega) | rfl | decide) | refine At.new_ne ?_)))) (hv := rfl) (r := ?_)
    refine tX12_take_13  (r := ?_)
    refine tX12_take_14  (r := ?_)
    rw [nI_add]
    refine tX12_take_15 (ha := (by first | assumption | (repeat (first | assumption | exact At.set_eq2 (by first | omega | (simp only [hset, hnew]; omega) | rfl | decide) | exact At.new_eq2 _ _ (by first | omega | (simp only [hset, hnew]; omega) | rfl | decide) | refine At.set_ne ?_ (by first | omega | (simp only [hset, hnew]; omega) | rfl | decide) | refine At.new_ne ?_)))) (hlen := rfl) (r := ?_)
    refine tX12_take_18 (r := ?_)
    refine tX12_take_25  (hP := ?_)
    exact ⟨rfl, ⟨⟨th, by_, ea, At.set_eq2 z0⟩, by (first | assumption | (repeat (first | assumption | exact At.set_eq2 (by (first | omega | (simp only [hset, hnew]; omega) | rfl | decide)) | exact At.new_eq2 _ _ (by (first | omega | (simp only [hset, hnew]; omega) | rfl | decide)) | refine At.set_ne ?_ (by (first | omega | (simp only [hset, hnew]; omega) | rfl | decide)) | refine At.new_ne ?_))), ⟨q2, by (first | assumption | (repeat (first | assumption | exact At.set_eq2 (by (first | omega | (simp only [hset, hnew]; omega) | rfl | decide)) | exact At.new_eq2 _ _ (by (first | omega | (simp only [hset, hnew]; omega) | rfl | decide)) | refine At.set_ne ?_ (by (first | omega | (simp only [hset, hnew]; omega) | rfl | decide)) | refine At.new_ne ?_))), c2⟩, ⟨q3, by (first | assumption | (repeat (first | assumption | exact At.set_eq2 (by (first | omega | (simp only [hset, hnew]; omega) | rfl | decide)) | exact At.new_eq2 _ _ (by (first | omega | (simp only [hset, hnew]; omega) | rfl | decide)) | refine At.set_ne ?_ (by (first | omega | (simp only [hset, hnew]; omega) | rfl | decide)) | refine At.new_ne ?_))), c3⟩, ⟨q4, by (first | assumption | (repeat (first | assumption | exact At.set_eq2 (by (first | omega | (simp only [hset, hnew]; omega) | rfl | decide)) | exact At.new_eq2 _ _ (by (first | omega | (simp only [hset, hnew]; omega) | rfl | decide)) | refine At.set_ne ?_ (by (first | omega | (simp only [hset, hnew]; omega) | rfl | decide)) | refine At.new_ne ?_))), c4⟩, b1, Nat.le_succ_of_le b2, pn, b4, b5, b6, u.set (Or.inl rfl), tk, nm⟩⟩

set_option maxHeartbeats 4000000 in
set_option maxRecDepth 100000 in
theorem s_mtakes (hd : 1 ≤ d) (rx : RxM h0 h m K T L s dp g no) {k : Nat} (hk : k < 41) : RQ G mX12_takes d 0 [some (.ref m), some (.int (nI (soK k)))] [] h (Ri fun v h1 => v = nI (if kdP K s = k then 1 else 0) ∧ (kdP K s = k → RxM h0 h1 m K T L (tkP K k s) dp g no) ∧ (¬ kdP K s = k → h1 = h)) := by
  obtain ⟨⟨th, by_, ea, a0⟩, a1, ⟨q2, a2, c2⟩, ⟨q3, a3, c3⟩, ⟨q4, a4, c4⟩, b1, b2, b3, b4, b5, b6, u, tk, nm⟩ := id rx
  obtain ⟨⟨v1, y1, x1⟩, ⟨v2, y2, x2⟩, ⟨v3, y3, x3⟩, ⟨v4, y4, x4⟩, ⟨v5, y5, x5⟩, tw⟩ := id tk
  have k401 := tw.2.1
  have w1 := u.at y1 (by omega) (by omega) (by omega)
  have w2 := u.at y2 (by omega) (by omega) (by omega)
  have w3 := u.at y3 (by omega) (by omega) (by omega)
  have w4 := u.at y4 (by omega) (by omega) (by omega)
  have w5 := u.at y5 (by omega) (by omega) (by omega)
  have z0 := a0.1
  have z1 := a1.1
  have l2_ := a2.1
  have l3_ := a3.1
  have l4_ := a4.1
  refine tX12_takes_0  (r := ?_)
  refine tX12_takes_1  (r := ?_)
  refine tX12_takes_2 (hd := (by omega)) (ha := (by first | assumption | (repeat (first | assumption | exact At.set_eq2 (by first | omega | (simp only [hset, hnew]; omega) | rfl | decide) | exact At.new_eq2 _ _ (by first | omega | (simp only [hset, hnew]; omega) | rfl | decide) | refine At.set_ne ?_ (by first | omega | (simp only [hset, hnew]; omega) | rfl | decide) | refine At.new_ne ?_)))) (call := s_mis (d := 0) rx hk) (k := ?_)
  rintro x_ h_ ⟨hx_, e_⟩
  rw [e_, hx_]
  refine tX12_takes_5  (kt := fun c_5 => ?_) (kf := fun c_5 => ?_)
  · have ek : kdP K s = k := Classical.byContradiction (fun z => by rw [if_neg z] at c_5; exact c_5 rfl)
    obtain ⟨pn, e1⟩ := rx.nx (by omega)
    obtain ⟨et, -⟩ := tkP_y (K := K) (s := s) ek (by omega)
    refine tX12_takes_10  (r := ?_)
    refine tX12_takes_11  (r := ?_)
    refine tX12_takes_12 (ha := (by first | assumption | (repeat (first | assumption | exact At.set_eq2 (by first | omega | (simp only [hset, hnew]; omega) | rfl | decide) | exact At.new_eq2 _ _ (by first | omega | (simp only [hset, hnew]; omega) | rfl | decide) | refine At.set_ne ?_ (by first | omega | (simp only [hset, hnew]; omega) | rfl | decide) | refine At.new_ne ?_)))) (hv := rfl) (r := ?_)
    refine tX12_takes_15  (r := ?_)
    refine tX12_takes_16  (r := ?_)
    rw [nI_add]
    refine tX12_takes_17 (ha := (by first | assumption | (repeat (first | assumption | exact At.set_eq2 (by first | omega | (simp only [hset, hnew]; omega) | rfl | decide) | exact At.new_eq2 _ _ (by first | omega | (simp only [hset, hnew]; omega) | rfl | decide) | refine At.set_ne ?_ (by first | omega | (simp only [hset, hnew]; omega) | rfl | decide) | refine At.new_ne ?_)))) (hlen := rfl) (r := ?_)
    refine tX12_takes_20  (r := ?_)
    refine tX12_takes_21 (hb := (by first | exact Or.inl rfl | exact Or.inr rfl | assumption)) (hP := ?_)
    exact ⟨_, rfl, by rw [if_pos ek], fun _ => by rw [et]; exact ⟨⟨th, by_, ea, At.set_eq2 z0⟩, by (first | assumption | (repeat (first | assumption | exact At.set_eq2 (by (first | omega | (simp only [hset, hnew]; omega) | rfl | decide)) | exact At.new_eq2 _ _ (by (first | omega | (simp only [hset, hnew]; omega) | rfl | decide)) | refine At.set_ne ?_ (by (first | omega | (simp only [hset, hnew]; omega) | rfl | decide)) | refine At.new_ne ?_))), ⟨q2, by (first | assumption | (repeat (first | assumption | exact At.set_eq2 (by (first | omega | (simp only [hset, hnew]; omega) | rfl | decide)) | exact At.new_eq2 _ _ (by (first | omega | (simp only [hset, hnew]; omega) | rfl | decide)) | refine At.set_ne ?_ (by (first | omega | (simp only [hset, hnew]; omega) | rfl | decide)) | refine At.new_ne ?_))), c2⟩, ⟨q3, by (first | assumption | (repeat (first | assumption | exact At.set_eq2 (by (first | omega | (simp only [hset, hnew]; omega) | rfl | decide)) | exact At.new_eq2 _ _ (by (first | omega | (simp only [hset, hnew]; omega) | rfl | decide)) | refine At.set_ne ?_ (by (first | omega | (simp only [hset, hnew]; omega) | rfl | decide)) | refine At.new_ne ?_))), c3⟩, ⟨q4, by (first | assumption | (repeat (first | assumption | exact At.set_eq2 (by (first | omega | (simp only [hset, hnew]; omega) | rfl | decide)) | exact At.new_eq2 _ _ (by (first | omega | (simp only [hset, hnew]; omega) | rfl | decide)) | refine At.set_ne ?_ (by (first | omega | (simp only [hset, hnew]; omega) | rfl | decide)) | refine At.new_ne ?_))), c4⟩, b1, Nat.le_succ_of_le b2, pn, b4, b5, b6, u.set (Or.inl rfl), tk, nm⟩, fun z => absurd ek z⟩
  · have ek : ¬ kdP K s = k := fun z => by rw [if_pos z] at c_5; exact absurd c_5 (by decide)
    refine tX12_takes_8  (r := ?_)
    refine tX12_takes_9 (hb := (by first | exact Or.inl rfl | exact Or.inr rfl | assumption)) (hP := ?_)
    exact ⟨_, rfl, by rw [if_neg ek], fun z => absurd z ek, fun _ => rfl⟩

set_option maxHeartbeats 4000000 in
set_option maxRecDepth 100000 in
theorem s_mmark (rx : RxM h0 h m K T L s dp g no) {n : Nat} (hn : n ≤ 5 ∧ 2 ≤ n) : RQ G mX12_mark d 0 [some (.ref m), some (.int (nI n))] [] h (Rv fun h1 => RxM h0 h1 m K T L (rpP n s) dp g no) := by
  obtain ⟨⟨th, by_, ea, a0⟩, a1, ⟨q2, a2, c2⟩, ⟨q3, a3, c3⟩, ⟨q4, a4, c4⟩, b1, b2, b3, b4, b5, b6, u, tk, nm⟩ := id rx
  obtain ⟨⟨v1, y1, x1⟩, ⟨v2, y2, x2⟩, ⟨v3, y3, x3⟩, ⟨v4, y4, x4⟩, ⟨v5, y5, x5⟩, tw⟩ := id tk
  have k401 := tw.2.1
  have w1 := u.at y1 (by omega) (by omega) (by omega)
  have w2 := u.at y2 (by omega) (by omega) (by omega)
  have w3 := u.at y3 (by omega) (by omega) (by omega)
  have w4 := u.at y4 (by omega) (by omega) (by omega)
  have w5 := u.at y5 (by omega) (by omega) (by omega)
  have z0 := a0.1
  have z1 := a1.1
  have l2_ := a2.1
  have l3_ := a3.1
  have l4_ := a4.1
  refine tX12_mark_0  (r := ?_)
  refine tX12_mark_1 (ha := (by first | assumption | (repeat (first | assumption | exact At.set_eq2 (by first | omega | (simp only [hset, hnew]; omega) | rfl | decide) | exact At.new_eq2 _ _ (by first | omega | (simp only [hset, hnew]; omega) | rfl | decide) | refine At.set_ne ?_ (by first | omega | (simp only [hset, hnew]; omega) | rfl | decide) | refine At.new_ne ?_)))) (hv := rfl) (r := ?_)
  refine tX12_mark_4  (kt := fun c_4 => ?_) (kf := fun c_4 => ?_)
  · have e1 : pEr s = 1 := Classical.byContradiction (fun z => by rw [if_neg z] at c_4; exact c_4 rfl)
    refine tX12_mark_14  (hP := ?_)
    rw [show rpP n s = s from if_neg (by omega)]
    exact ⟨rfl, rx⟩
  · have e1 : ¬ pEr s = 1 := fun z => by rw [if_pos z] at c_4; exact absurd c_4 (by decide)
    refine tX12_mark_7  (r := ?_)
    refine tX12_mark_8 (ha := (by first | assumption | (repeat (first | assumption | exact At.set_eq2 (by first | omega | (simp only [hset, hnew]; omega) | rfl | decide) | exact At.new_eq2 _ _ (by first | omega | (simp only [hset, hnew]; omega) | rfl | decide) | refine At.set_ne ?_ (by first | omega | (simp only [hset, hnew]; omega) | rfl | decide) | refine At.new_ne ?_)))) (hv := rfl) (r := ?_)
    refine tX12_mark_11  (kt := fun c_11 => ?_) (kf := fun c_11 => ?_)
    · have e0 : pEr s = 0 := by simp (disch := omega) only [ci_eq0] at c_11; omega
      refine tX12_mark_15  (r := ?_)
      refine tX12_mark_16  (r := ?_)
      refine tX12_mark_17 (ha := (by first | assumption | (repeat (first | assumption | exact At.set_eq2 (by first | omega | (simp only [hset, hnew]; omega) | rfl | decide) | exact At.new_eq2 _ _ (by first | omega | (simp only [hset, hnew]; omega) | rfl | decide) | refine At.set_ne ?_ (by first | omega | (simp only [hset, hnew]; omega) | rfl | decide) | refine At.new_ne ?_)))) (hlen := rfl) (r := ?_)
      refine tX12_mark_20  (r := ?_)
      refine tX12_mark_21  (r := ?_)
      refine tX12_mark_22 (ha := (by first | assumption | (repeat (first | assumption | exact At.set_eq2 (by first | omega | (simp only [hset, hnew]; omega) | rfl | decide) | exact At.new_eq2 _ _ (by first | omega | (simp only [hset, hnew]; omega) | rfl | decide) | refine At.set_ne ?_ (by first | omega | (simp only [hset, hnew]; omega) | rfl | decide) | refine At.new_ne ?_)))) (hv := rfl) (r := ?_)
      refine tX12_mark_25 (ha := (by first | assumption | (repeat (first | assumption | exact At.set_eq2 (by first | omega | (simp only [hset, hnew]; omega) | rfl | decide) | exact At.new_eq2 _ _ (by first | omega | (simp only [hset, hnew]; omega) | rfl | decide) | refine At.set_ne ?_ (by first | omega | (simp only [hset, hnew]; omega) | rfl | decide) | refine At.new_ne ?_)))) (hlen := rfl) (r := ?_)
      refine tX12_mark_28  (hP := ?_)
      rw [show rpP n s = (pPo s, n, pPo s, pDf s) from if_pos e0]
      have zz : ¬ n = 0 := by omega
      have ei : (if pEr s = 1 then 1 else 0) = (if n = 1 then 1 else 0) := by rw [if_neg e1, if_neg (by omega)]
      refine ⟨rfl, ⟨th, by_, ea, ?_⟩, by (first | assumption | (repeat (first | assumption | exact At.set_eq2 (by (first | omega | (simp only [hset, hnew]; omega) | rfl | decide)) | exact At.new_eq2 _ _ (by (first | omega | (simp only [hset, hnew]; omega) | rfl | decide)) | refine At.set_ne ?_ (by (first | omega | (simp only [hset, hnew]; omega) | rfl | decide)) | refine At.new_ne ?_))), ⟨q2, by (first | assumption | (repeat (first | assumption | exact At.set_eq2 (by (first | omega | (simp only [hset, hnew]; omega) | rfl | decide)) | exact At.new_eq2 _ _ (by (first | omega | (simp only [hset, hnew]; omega) | rfl | decide)) | refine At.set_ne ?_ (by (first | omega | (simp only [hset, hnew]; omega) | rfl | decide)) | refine At.new_ne ?_))), ?_⟩, ⟨q3, by (first | assumption | (repeat (first | assumption | exact At.set_eq2 (by (first | omega | (simp only [hset, hnew]; omega) | rfl | decide)) | exact At.new_eq2 _ _ (by (first | omega | (simp only [hset, hnew]; omega) | rfl | decide)) | refine At.set_ne ?_ (by (first | omega | (simp only [hset, hnew]; omega) | rfl | decide)) | refine At.new_ne ?_))), ?_⟩, ⟨q4, by (first | assumption | (repeat (first | assumption | exact At.set_eq2 (by (first | omega | (simp only [hset, hnew]; omega) | rfl | decide)) | exact At.new_eq2 _ _ (by (first | omega | (simp only [hset, hnew]; omega) | rfl | decide)) | refine At.set_ne ?_ (by (first | omega | (simp only [hset, hnew]; omega) | rfl | decide)) | refine At.new_ne ?_))), ?_⟩, fun z => absurd z zz, b2, b3, hn.1, b3, b6, (u.set (Or.inl rfl)).set (Or.inl rfl), tk, (by obtain ⟨ft, fk, fn, t, n1, n2, n3, n4, n5, -⟩ := nm; exact ⟨ft, fk, fn, t, n1, n2, n3, n4, n5, fun z => absurd z zz⟩)⟩
      · show At _ m (MrO m (pPo s, n, pPo s, pDf s) dp g.2.2.2.2.2 th by_ ea)
        unfold MrO
        rw [← ei, show etI ea.2 (pEr (pPo s, n, pPo s, pDf s)) (pEt (pPo s, n, pPo s, pDf s)) = nI (pPo s) from if_neg zz]
        exact At.set_eq2 z0
      all_goals exact fun k hk => absurd hk (okc_0 zz)
    · have e0 : ¬ pEr s = 0 := fun z => c_11 (by rw [z]; rfl)
      refine tX12_mark_14  (hP := ?_)
      rw [show rpP n s = s from if_neg e0]
      exact ⟨rfl, rx⟩

set_option maxHeartbeats 4000000 in
set_option maxRecDepth 100000 in
theorem s_mdeeper (hd : 1 ≤ d) (rx : RxM h0 h m K T L s dp g no) (h7 : dp < 7) : RQ G mX12_deeper d 0 [some (.ref m)] [] h (Rv fun h1 => (dp = 6 → RxM h0 h1 m K T L (wrP s) (dp + 1) g no) ∧ (dp ≠ 6 → kdP K s < 41 → RxM h0 h1 m K T L ((pPo s + 1, pEr s, pEt s, pDf s)) (dp + 1) g no)) := by
  obtain ⟨⟨th, by_, ea, a0⟩, a1, ⟨q2, a2, c2⟩, ⟨q3, a3, c3⟩, ⟨q4, a4, c4⟩, b1, b2, b3, b4, b5, b6, u, tk, nm⟩ := id rx
  obtain ⟨⟨v1, y1, x1⟩, ⟨v2, y2, x2⟩, ⟨v3, y3, x3⟩, ⟨v4, y4, x4⟩, ⟨v5, y5, x5⟩, tw⟩ := id tk
  have k401 := tw.2.1
  have w1 := u.at y1 (by omega) (by omega) (by omega)
  have w2 := u.at y2 (by omega) (by omega) (by omega)
  have w3 := u.at y3 (by omega) (by omega) (by omega)
  have w4 := u.at y4 (by omega) (by omega) (by omega)
  have w5 := u.at y5 (by omega) (by omega) (by omega)
  have z0 := a0.1
  have z1 := a1.1
  have l2_ := a2.1
  have l3_ := a3.1
  have l4_ := a4.1
  refine tX12_deeper_0  (r := ?_)
  refine tX12_deeper_1 (ha := (by first | assumption | (repeat (first | assumption | exact At.set_eq2 (by first | omega | (simp only [hset, hnew]; omega) | rfl | decide) | exact At.new_eq2 _ _ (by first | omega | (simp only [hset, hnew]; omega) | rfl | decide) | refine At.set_ne ?_ (by first | omega | (simp only [hset, hnew]; omega) | rfl | decide) | refine At.new_ne ?_)))) (hv := rfl) (r := ?_)
  refine tX12_deeper_4  (r := ?_)
  refine tX12_deeper_6  (kt := fun c_6 => ?_) (kf := fun c_6 => ?_)
  · have e6 : dp ≠ 6 := fun z => c_6 (by rw [z])
    refine tX12_deeper_16  (r := ?_)
    refine tX12_deeper_17  (r := ?_)
    refine tX12_deeper_18 (ha := (by first | assumption | (repeat (first | assumption | exact At.set_eq2 (by first | omega | (simp only [hset, hnew]; omega) | rfl | decide) | exact At.new_eq2 _ _ (by first | omega | (simp only [hset, hnew]; omega) | rfl | decide) | refine At.set_ne ?_ (by first | omega | (simp only [hset, hnew]; omega) | rfl | decide) | refine At.new_ne ?_)))) (hv := rfl) (r := ?_)
    refine tX12_deeper_21  (r := ?_)
    refine tX12_deeper_22  (r := ?_)
    rw [nI_add]
    refine tX12_deeper_23 (ha := (by first | assumption | (repeat (first | assumption | exact At.set_eq2 (by first | omega | (simp only [hset, hnew]; omega) | rfl | decide) | exact At.new_eq2 _ _ (by first | omega | (simp only [hset, hnew]; omega) | rfl | decide) | refine At.set_ne ?_ (by first | omega | (simp only [hset, hnew]; omega) | rfl | decide) | refine At.new_ne ?_)))) (hlen := rfl) (r := ?_)
    refine tX12_deeper_26  (r := ?_)
    refine tX12_deeper_27  (r := ?_)
    refine tX12_deeper_28 (ha := (by first | assumption | (repeat (first | assumption | exact At.set_eq2 (by first | omega | (simp only [hset, hnew]; omega) | rfl | decide) | exact At.new_eq2 _ _ (by first | omega | (simp only [hset, hnew]; omega) | rfl | decide) | refine At.set_ne ?_ (by first | omega | (simp only [hset, hnew]; omega) | rfl | decide) | refine At.new_ne ?_)))) (hv := rfl) (r := ?_)
    refine tX12_deeper_31  (r := ?_)
    refine tX12_deeper_32  (r := ?_)
    rw [nI_add]
    refine tX12_deeper_33 (ha := (by first | assumption | (repeat (first | assumption | exact At.set_eq2 (by first | omega | (simp only [hset, hnew]; omega) | rfl | decide) | exact At.new_eq2 _ _ (by first | omega | (simp only [hset, hnew]; omega) | rfl | decide) | refine At.set_ne ?_ (by first | omega | (simp only [hset, hnew]; omega) | rfl | decide) | refine At.new_ne ?_)))) (hlen := rfl) (r := ?_)
    refine tX12_deeper_36  (hP := ?_)
    exact ⟨rfl, fun z => absurd z e6, fun _ hkk => ⟨⟨th, by_, ea, At.set_eq2 z0⟩, by (first | assumption | (repeat (first | assumption | exact At.set_eq2 (by (first | omega | (simp only [hset, hnew]; omega) | rfl | decide)) | exact At.new_eq2 _ _ (by (first | omega | (simp only [hset, hnew]; omega) | rfl | decide)) | refine At.set_ne ?_ (by (first | omega | (simp only [hset, hnew]; omega) | rfl | decide)) | refine At.new_ne ?_))), ⟨q2, by (first | assumption | (repeat (first | assumption | exact At.set_eq2 (by (first | omega | (simp only [hset, hnew]; omega) | rfl | decide)) | exact At.new_eq2 _ _ (by (first | omega | (simp only [hset, hnew]; omega) | rfl | decide)) | refine At.set_ne ?_ (by (first | omega | (simp only [hset, hnew]; omega) | rfl | decide)) | refine At.new_ne ?_))), c2⟩, ⟨q3, by (first | assumption | (repeat (first | assumption | exact At.set_eq2 (by (first | omega | (simp only [hset, hnew]; omega) | rfl | decide)) | exact At.new_eq2 _ _ (by (first | omega | (simp only [hset, hnew]; omega) | rfl | decide)) | refine At.set_ne ?_ (by (first | omega | (simp only [hset, hnew]; omega) | rfl | decide)) | refine At.new_ne ?_))), c3⟩, ⟨q4, by (first | assumption | (repeat (first | assumption | exact At.set_eq2 (by (first | omega | (simp only [hset, hnew]; omega) | rfl | decide)) | exact At.new_eq2 _ _ (by (first | omega | (simp only [hset, hnew]; omega) | rfl | decide)) | refine At.set_ne ?_ (by (first | omega | (simp only [hset, hnew]; omega) | rfl | decide)) | refine At.new_ne ?_))), c4⟩, b1, Nat.le_succ_of_le b2, (rx.nx hkk).1, b4, b5, by omega, (u.set (Or.inl rfl)).set (Or.inl rfl), tk, nm⟩⟩
  · have e6 : dp = 6 := (nI_eq (by omega) (by decide)).mp c_6
    refine tX12_deeper_9  (r := ?_)
    refine tX12_deeper_10 (hd := (by omega)) (ha := (by first | assumption | (repeat (first | assumption | exact At.set_eq2 (by first | omega | (simp only [hset, hnew]; omega) | rfl | decide) | exact At.new_eq2 _ _ (by first | omega | (simp only [hset, hnew]; omega) | rfl | decide) | refine At.set_ne ?_ (by first | omega | (simp only [hset, hnew]; omega) | rfl | decide) | refine At.new_ne ?_)))) (call := s_mwrong (d := 0) rx) (k := ?_)
    intro h1 rx1
    obtain ⟨⟨th1, by1, ea1, p0⟩, p1, ⟨o2, p2, r2⟩, ⟨o3, p3, r3⟩, ⟨o4, p4, r4⟩, f1, f2, f3, f4, f5, f6, u1, tk1, nm1⟩ := id rx1
    have zz0 := p0.1
    refine tX12_deeper_13 (r := ?_)
    refine tX12_deeper_26  (r := ?_)
    refine tX12_deeper_27  (r := ?_)
    refine tX12_deeper_28 (ha := (by first | assumption | (repeat (first | assumption | exact At.set_eq2 (by first | omega | (simp only [hset, hnew]; omega) | rfl | decide) | exact At.new_eq2 _ _ (by first | omega | (simp only [hset, hnew]; omega) | rfl | decide) | refine At.set_ne ?_ (by first | omega | (simp only [hset, hnew]; omega) | rfl | decide) | refine At.new_ne ?_)))) (hv := rfl) (r := ?_)
    refine tX12_deeper_31  (r := ?_)
    refine tX12_deeper_32  (r := ?_)
    rw [nI_add]
    refine tX12_deeper_33 (ha := (by first | assumption | (repeat (first | assumption | exact At.set_eq2 (by first | omega | (simp only [hset, hnew]; omega) | rfl | decide) | exact At.new_eq2 _ _ (by first | omega | (simp only [hset, hnew]; omega) | rfl | decide) | refine At.set_ne ?_ (by first | omega | (simp only [hset, hnew]; omega) | rfl | decide) | refine At.new_ne ?_)))) (hlen := rfl) (r := ?_)
    refine tX12_deeper_36  (hP := ?_)
    exact ⟨rfl, fun _ => ⟨⟨th1, by1, ea1, At.set_eq2 zz0⟩, by (first | assumption | (repeat (first | assumption | exact At.set_eq2 (by (first | omega | (simp only [hset, hnew]; omega) | rfl | decide)) | exact At.new_eq2 _ _ (by (first | omega | (simp only [hset, hnew]; omega) | rfl | decide)) | refine At.set_ne ?_ (by (first | omega | (simp only [hset, hnew]; omega) | rfl | decide)) | refine At.new_ne ?_))), ⟨o2, by (first | assumption | (repeat (first | assumption | exact At.set_eq2 (by (first | omega | (simp only [hset, hnew]; omega) | rfl | decide)) | exact At.new_eq2 _ _ (by (first | omega | (simp only [hset, hnew]; omega) | rfl | decide)) | refine At.set_ne ?_ (by (first | omega | (simp only [hset, hnew]; omega) | rfl | decide)) | refine At.new_ne ?_))), r2⟩, ⟨o3, by (first | assumption | (repeat (first | assumption | exact At.set_eq2 (by (first | omega | (simp only [hset, hnew]; omega) | rfl | decide)) | exact At.new_eq2 _ _ (by (first | omega | (simp only [hset, hnew]; omega) | rfl | decide)) | refine At.set_ne ?_ (by (first | omega | (simp only [hset, hnew]; omega) | rfl | decide)) | refine At.new_ne ?_))), r3⟩, ⟨o4, by (first | assumption | (repeat (first | assumption | exact At.set_eq2 (by (first | omega | (simp only [hset, hnew]; omega) | rfl | decide)) | exact At.new_eq2 _ _ (by (first | omega | (simp only [hset, hnew]; omega) | rfl | decide)) | refine At.set_ne ?_ (by (first | omega | (simp only [hset, hnew]; omega) | rfl | decide)) | refine At.new_ne ?_))), r4⟩, f1, f2, f3, f4, f5, by omega, u1.set (Or.inl rfl), tk1, nm1⟩, fun z => absurd e6 z⟩

set_option maxHeartbeats 4000000 in
set_option maxRecDepth 100000 in
theorem s_mhigher (hd : 2 ≤ d) (rx : RxM h0 h m K T L s (dp + 1) g no) {k : Nat} (hk : k < 41) : RQ G mX12_higher d 0 [some (.ref m), some (.int (nI (soK k)))] [] h (Rv fun h1 => RxM h0 h1 m K T L (tkP K k s) dp g no) := by
  have b6 := rx.2.2.2.2.2.2.2.2.2.2.1
  obtain ⟨⟨th, by_, ea, a0⟩, -⟩ := id rx
  refine tX12_higher_0  (r := ?_)
  refine tX12_higher_1  (r := ?_)
  refine tX12_higher_2 (hd := (by omega)) (ha := (by first | assumption | (repeat (first | assumption | exact At.set_eq2 (by first | omega | (simp only [hset, hnew]; omega) | rfl | decide) | exact At.new_eq2 _ _ (by first | omega | (simp only [hset, hnew]; omega) | rfl | decide) | refine At.set_ne ?_ (by first | omega | (simp only [hset, hnew]; omega) | rfl | decide) | refine At.new_ne ?_)))) (call := s_mtake (d := 1) (by decide) rx hk) (k := ?_)
  intro h1 rx1
  obtain ⟨⟨th1, by1, ea1, p0⟩, p1, ⟨o2, p2, r2⟩, ⟨o3, p3, r3⟩, ⟨o4, p4, r4⟩, f1, f2, f3, f4, f5, f6, u1, tk1, nm1⟩ := id rx1
  have zz0 := p0.1
  refine tX12_higher_5  (r := ?_)
  refine tX12_higher_6  (r := ?_)
  refine tX12_higher_7 (ha := (by first | assumption | (repeat (first | assumption | exact At.set_eq2 (by first | omega | (simp only [hset, hnew]; omega) | rfl | decide) | exact At.new_eq2 _ _ (by first | omega | (simp only [hset, hnew]; omega) | rfl | decide) | refine At.set_ne ?_ (by first | omega | (simp only [hset, hnew]; omega) | rfl | decide) | refine At.new_ne ?_)))) (hv := rfl) (r := ?_)
  refine tX12_higher_10  (r := ?_)
  refine tX12_higher_11  (r := ?_)
  rw [nI_subN (by omega) (by omega), Nat.add_sub_cancel]
  refine tX12_higher_12 (ha := (by first | assumption | (repeat (first | assumption | exact At.set_eq2 (by first | omega | (simp only [hset, hnew]; omega) | rfl | decide) | exact At.new_eq2 _ _ (by first | omega | (simp only [hset, hnew]; omega) | rfl | decide) | refine At.set_ne ?_ (by first | omega | (simp only [hset, hnew]; omega) | rfl | decide) | refine At.new_ne ?_)))) (hlen := rfl) (r := ?_)
  refine tX12_higher_15  (hP := ?_)
  exact ⟨rfl, ⟨⟨th1, by1, ea1, At.set_eq2 zz0⟩, by (first | assumption | (repeat (first | assumption | exact At.set_eq2 (by (first | omega | (simp only [hset, hnew]; omega) | rfl | decide)) | exact At.new_eq2 _ _ (by (first | omega | (simp only [hset, hnew]; omega) | rfl | decide)) | refine At.set_ne ?_ (by (first | omega | (simp only [hset, hnew]; omega) | rfl | decide)) | refine At.new_ne ?_))), ⟨o2, by (first | assumption | (repeat (first | assumption | exact At.set_eq2 (by (first | omega | (simp only [hset, hnew]; omega) | rfl | decide)) | exact At.new_eq2 _ _ (by (first | omega | (simp only [hset, hnew]; omega) | rfl | decide)) | refine At.set_ne ?_ (by (first | omega | (simp only [hset, hnew]; omega) | rfl | decide)) | refine At.new_ne ?_))), r2⟩, ⟨o3, by (first | assumption | (repeat (first | assumption | exact At.set_eq2 (by (first | omega | (simp only [hset, hnew]; omega) | rfl | decide)) | exact At.new_eq2 _ _ (by (first | omega | (simp only [hset, hnew]; omega) | rfl | decide)) | refine At.set_ne ?_ (by (first | omega | (simp only [hset, hnew]; omega) | rfl | decide)) | refine At.new_ne ?_))), r3⟩, ⟨o4, by (first | assumption | (repeat (first | assumption | exact At.set_eq2 (by (first | omega | (simp only [hset, hnew]; omega) | rfl | decide)) | exact At.new_eq2 _ _ (by (first | omega | (simp only [hset, hnew]; omega) | rfl | decide)) | refine At.set_ne ?_ (by (first | omega | (simp only [hset, hnew]; omega) | rfl | decide)) | refine At.new_ne ?_))), r4⟩, f1, f2, f3, f4, f5, by omega, u1.set (Or.inl rfl), tk1, nm1⟩⟩

set_option maxHeartbeats 4000000 in
set_option maxRecDepth 100000 in
theorem s_mnode (rx : RxM h0 h m K T L s dp g no) (hlt : no < pPo s) {so lN rN : Nat} {x1 x2 x3 : Int32} (h1_ : pEr s = 0 → x1 = nI so) (h2_ : pEr s = 0 → x2 = nI lN) (h3_ : pEr s = 0 → x3 = nI rN) : RQ G mX12_node d 0 [some (.ref m), some (.int x1), some (.int x2), some (.int x3), none] [] h (Ri fun v h1 => (pEr s = 0 → v = nI (nNo (pBk s))) ∧ RxM h0 h1 m K T L (noP so lN rN s) dp g (no + 1)) := by
  obtain ⟨⟨th, by_, ea, a0⟩, a1, ⟨q2, a2, c2⟩, ⟨q3, a3, c3⟩, ⟨q4, a4, c4⟩, b1, b2, b3, b4, b5, b6, u, tk, nm⟩ := id rx
  obtain ⟨⟨v1, y1, xx1⟩, ⟨v2, y2, xx2⟩, ⟨v3, y3, xx3⟩, ⟨v4, y4, xx4⟩, ⟨v5, y5, xx5⟩, tw⟩ := id tk
  have k401 := tw.2.1
  have w1 := u.at y1 (by omega) (by omega) (by omega)
  have w2 := u.at y2 (by omega) (by omega) (by omega)
  have w3 := u.at y3 (by omega) (by omega) (by omega)
  have w4 := u.at y4 (by omega) (by omega) (by omega)
  have w5 := u.at y5 (by omega) (by omega) (by omega)
  have z0 := a0.1
  have z1 := a1.1
  have l2_ := a2.1
  have l3_ := a3.1
  have l4_ := a4.1
  refine tX12_node_0  (r := ?_)
  refine tX12_node_1 (ha := (by first | assumption | (repeat (first | assumption | exact At.set_eq2 (by first | omega | (simp only [hset, hnew]; omega) | rfl | decide) | exact At.new_eq2 _ _ (by first | omega | (simp only [hset, hnew]; omega) | rfl | decide) | refine At.set_ne ?_ (by first | omega | (simp only [hset, hnew]; omega) | rfl | decide) | refine At.new_ne ?_)))) (hv := rfl) (r := ?_)
  refine tX12_node_4 (ha := (by first | assumption | (repeat (first | assumption | exact At.set_eq2 (by first | omega | (simp only [hset, hnew]; omega) | rfl | decide) | exact At.new_eq2 _ _ (by first | omega | (simp only [hset, hnew]; omega) | rfl | decide) | refine At.set_ne ?_ (by first | omega | (simp only [hset, hnew]; omega) | rfl | decide) | refine At.new_ne ?_)))) (hv := rfl) (r := ?_)
  refine tX12_node_7  (r := ?_)
  refine tX12_node_9  (r := ?_)
  refine tX12_node_10 (ha := (by first | assumption | (repeat (first | assumption | exact At.set_eq2 (by first | omega | (simp only [hset, hnew]; omega) | rfl | decide) | exact At.new_eq2 _ _ (by first | omega | (simp only [hset, hnew]; omega) | rfl | decide) | refine At.set_ne ?_ (by first | omega | (simp only [hset, hnew]; omega) | rfl | decide) | refine At.new_ne ?_)))) (hv := rfl) (r := ?_)
  refine tX12_node_13 (ha := (by first | assumption | (repeat (first | assumption | exact At.set_eq2 (by first | omega | (simp only [hset, hnew]; omega) | rfl | decide) | exact At.new_eq2 _ _ (by first | omega | (simp only [hset, hnew]; omega) | rfl | decide) | refine At.set_ne ?_ (by first | omega | (simp only [hset, hnew]; omega) | rfl | decide) | refine At.new_ne ?_)))) (hv := rfl) (r := ?_)
  refine tX12_node_16  (r := ?_)
  refine tX12_node_18  (r := ?_)
  refine tX12_node_19 (ha := (by first | assumption | (repeat (first | assumption | exact At.set_eq2 (by first | omega | (simp only [hset, hnew]; omega) | rfl | decide) | exact At.new_eq2 _ _ (by first | omega | (simp only [hset, hnew]; omega) | rfl | decide) | refine At.set_ne ?_ (by first | omega | (simp only [hset, hnew]; omega) | rfl | decide) | refine At.new_ne ?_)))) (hx := rfl) (hj := (by omega)) (hn := (by decide)) (r := ?_)
  refine tX12_node_20  (r := ?_)
  refine tX12_node_21 (ha := (by first | assumption | (repeat (first | assumption | exact At.set_eq2 (by first | omega | (simp only [hset, hnew]; omega) | rfl | decide) | exact At.new_eq2 _ _ (by first | omega | (simp only [hset, hnew]; omega) | rfl | decide) | refine At.set_ne ?_ (by first | omega | (simp only [hset, hnew]; omega) | rfl | decide) | refine At.new_ne ?_)))) (hv := rfl) (r := ?_)
  refine tX12_node_24 (ha := (by first | assumption | (repeat (first | assumption | exact At.set_eq2 (by first | omega | (simp only [hset, hnew]; omega) | rfl | decide) | exact At.new_eq2 _ _ (by first | omega | (simp only [hset, hnew]; omega) | rfl | decide) | refine At.set_ne ?_ (by first | omega | (simp only [hset, hnew]; omega) | rfl | decide) | refine At.new_ne ?_)))) (hv := rfl) (r := ?_)
  refine tX12_node_27  (r := ?_)
  refine tX12_node_29  (r := ?_)
  refine tX12_node_30 (ha := (by first | assumption | (repeat (first | assumption | exact At.set_eq2 (by first | omega | (simp only [hset, hnew]; omega) | rfl | decide) | exact At.new_eq2 _ _ (by first | omega | (simp only [hset, hnew]; omega) | rfl | decide) | refine At.set_ne ?_ (by first | omega | (simp only [hset, hnew]; omega) | rfl | decide) | refine At.new_ne ?_)))) (hx := rfl) (hj := (by omega)) (hn := (by decide)) (r := ?_)
  refine tX12_node_31  (r := ?_)
  refine tX12_node_32 (ha := (by first | assumption | (repeat (first | assumption | exact At.set_eq2 (by first | omega | (simp only [hset, hnew]; omega) | rfl | decide) | exact At.new_eq2 _ _ (by first | omega | (simp only [hset, hnew]; omega) | rfl | decide) | refine At.set_ne ?_ (by first | omega | (simp only [hset, hnew]; omega) | rfl | decide) | refine At.new_ne ?_)))) (hv := rfl) (r := ?_)
  refine tX12_node_35 (ha := (by first | assumption | (repeat (first | assumption | exact At.set_eq2 (by first | omega | (simp only [hset, hnew]; omega) | rfl | decide) | exact At.new_eq2 _ _ (by first | omega | (simp only [hset, hnew]; omega) | rfl | decide) | refine At.set_ne ?_ (by first | omega | (simp only [hset, hnew]; omega) | rfl | decide) | refine At.new_ne ?_)))) (hv := rfl) (r := ?_)
  refine tX12_node_38  (r := ?_)
  refine tX12_node_40  (r := ?_)
  refine tX12_node_41 (ha := (by first | assumption | (repeat (first | assumption | exact At.set_eq2 (by first | omega | (simp only [hset, hnew]; omega) | rfl | decide) | exact At.new_eq2 _ _ (by first | omega | (simp only [hset, hnew]; omega) | rfl | decide) | refine At.set_ne ?_ (by first | omega | (simp only [hset, hnew]; omega) | rfl | decide) | refine At.new_ne ?_)))) (hx := rfl) (hj := (by omega)) (hn := (by decide)) (r := ?_)
  refine tX12_node_42  (r := ?_)
  refine tX12_node_43 (ha := (by first | assumption | (repeat (first | assumption | exact At.set_eq2 (by first | omega | (simp only [hset, hnew]; omega) | rfl | decide) | exact At.new_eq2 _ _ (by first | omega | (simp only [hset, hnew]; omega) | rfl | decide) | refine At.set_ne ?_ (by first | omega | (simp only [hset, hnew]; omega) | rfl | decide) | refine At.new_ne ?_)))) (hv := rfl) (r := ?_)
  refine tX12_node_46  (r := ?_)
  refine tX12_node_47 (ha := (by first | assumption | (repeat (first | assumption | exact At.set_eq2 (by first | omega | (simp only [hset, hnew]; omega) | rfl | decide) | exact At.new_eq2 _ _ (by first | omega | (simp only [hset, hnew]; omega) | rfl | decide) | refine At.set_ne ?_ (by first | omega | (simp only [hset, hnew]; omega) | rfl | decide) | refine At.new_ne ?_)))) (hv := rfl) (r := ?_)
  refine tX12_node_50  (r := ?_)
  refine tX12_node_51  (r := ?_)
  rw [nI_add]
  refine tX12_node_52 (ha := (by first | assumption | (repeat (first | assumption | exact At.set_eq2 (by first | omega | (simp only [hset, hnew]; omega) | rfl | decide) | exact At.new_eq2 _ _ (by first | omega | (simp only [hset, hnew]; omega) | rfl | decide) | refine At.set_ne ?_ (by first | omega | (simp only [hset, hnew]; omega) | rfl | decide) | refine At.new_ne ?_)))) (hlen := rfl) (r := ?_)
  refine tX12_node_55  (r := ?_)
  refine tX12_node_57  (hP := ?_)
  refine ⟨_, rfl, fun z => by rw [← b1 z], ?_⟩
  have UU := (((u.set (i := m + 28 + 16) (c := .inl (0, 800, .inl (fun k => if k = no then x1 else q2 k))) (by omega)).set (i := m + 28 + 17) (c := .inl (0, 800, .inl (fun k => if k = no then x2 else q3 k))) (by omega)).set (i := m + 28 + 18) (c := .inl (0, 800, .inl (fun k => if k = no then x3 else q4 k))) (by omega)).set (i := m + 28) (c := MBoO (m + 28) (nI g.1) (nI g.2.1) (nI g.2.2.1) (nI g.2.2.2.1) (nI g.2.2.2.2.1) (nI (no + 1))) (by omega)
  by_cases e0 : pEr s = 0
  · have e9 : noP so lN rN s = (pPo s, pEr s, pEt s, noD so lN rN (pDf s)) := upP_e e0
    rw [e9]
    have bb := b1 e0
    have ek : okc s no = no := if_pos e0
    rw [ek] at c2 c3 c4
    refine ⟨⟨th, by_, ea, by (first | assumption | (repeat (first | assumption | exact At.set_eq2 (by (first | omega | (simp only [hset, hnew]; omega) | rfl | decide)) | exact At.new_eq2 _ _ (by (first | omega | (simp only [hset, hnew]; omega) | rfl | decide)) | refine At.set_ne ?_ (by (first | omega | (simp only [hset, hnew]; omega) | rfl | decide)) | refine At.new_ne ?_)))⟩, At.set_eq2 z1, ⟨_, by (first | assumption | (repeat (first | assumption | exact At.set_eq2 (by (first | omega | (simp only [hset, hnew]; omega) | rfl | decide)) | exact At.new_eq2 _ _ (by (first | omega | (simp only [hset, hnew]; omega) | rfl | decide)) | refine At.set_ne ?_ (by (first | omega | (simp only [hset, hnew]; omega) | rfl | decide)) | refine At.new_ne ?_))), fun k hk => ?_⟩, ⟨_, by (first | assumption | (repeat (first | assumption | exact At.set_eq2 (by (first | omega | (simp only [hset, hnew]; omega) | rfl | decide)) | exact At.new_eq2 _ _ (by (first | omega | (simp only [hset, hnew]; omega) | rfl | decide)) | refine At.set_ne ?_ (by (first | omega | (simp only [hset, hnew]; omega) | rfl | decide)) | refine At.new_ne ?_))), fun k hk => ?_⟩, ⟨_, by (first | assumption | (repeat (first | assumption | exact At.set_eq2 (by (first | omega | (simp only [hset, hnew]; omega) | rfl | decide)) | exact At.new_eq2 _ _ (by (first | omega | (simp only [hset, hnew]; omega) | rfl | decide)) | refine At.set_ne ?_ (by (first | omega | (simp only [hset, hnew]; omega) | rfl | decide)) | refine At.new_ne ?_))), fun k hk => ?_⟩, fun _ => congrArg (· + 1) bb, hlt, b3, b4, b5, b6, UU, tk, nm⟩
    · have hk : k < no + 1 := by unfold okc at hk; rw [if_pos e0] at hk; exact hk
      show (if k = no then x1 else q2 k) = nI (if k = nNo (pBk s) then so else nSo (pBk s) k)
      rw [← bb, h1_ e0]
      split
      · rfl
      · exact c2 k (by omega)
    · have hk : k < no + 1 := by unfold okc at hk; rw [if_pos e0] at hk; exact hk
      show (if k = no then x2 else q3 k) = nI (if k = nNo (pBk s) then lN else nLe (pBk s) k)
      rw [← bb, h2_ e0]
      split
      · rfl
      · exact c3 k (by omega)
    · have hk : k < no + 1 := by unfold okc at hk; rw [if_pos e0] at hk; exact hk
      show (if k = no then x3 else q4 k) = nI (if k = nNo (pBk s) then rN else nRi (pBk s) k)
      rw [← bb, h3_ e0]
      split
      · rfl
      · exact c4 k (by omega)
  · have e9 : noP so lN rN s = s := upP_n e0
    rw [e9]
    refine ⟨⟨th, by_, ea, by (first | assumption | (repeat (first | assumption | exact At.set_eq2 (by (first | omega | (simp only [hset, hnew]; omega) | rfl | decide)) | exact At.new_eq2 _ _ (by (first | omega | (simp only [hset, hnew]; omega) | rfl | decide)) | refine At.set_ne ?_ (by (first | omega | (simp only [hset, hnew]; omega) | rfl | decide)) | refine At.new_ne ?_)))⟩, At.set_eq2 z1, ⟨_, by (first | assumption | (repeat (first | assumption | exact At.set_eq2 (by (first | omega | (simp only [hset, hnew]; omega) | rfl | decide)) | exact At.new_eq2 _ _ (by (first | omega | (simp only [hset, hnew]; omega) | rfl | decide)) | refine At.set_ne ?_ (by (first | omega | (simp only [hset, hnew]; omega) | rfl | decide)) | refine At.new_ne ?_))), fun k hk => ?_⟩, ⟨_, by (first | assumption | (repeat (first | assumption | exact At.set_eq2 (by (first | omega | (simp only [hset, hnew]; omega) | rfl | decide)) | exact At.new_eq2 _ _ (by (first | omega | (simp only [hset, hnew]; omega) | rfl | decide)) | refine At.set_ne ?_ (by (first | omega | (simp only [hset, hnew]; omega) | rfl | decide)) | refine At.new_ne ?_))), fun k hk => ?_⟩, ⟨_, by (first | assumption | (repeat (first | assumption | exact At.set_eq2 (by (first | omega | (simp only [hset, hnew]; omega) | rfl | decide)) | exact At.new_eq2 _ _ (by (first | omega | (simp only [hset, hnew]; omega) | rfl | decide)) | refine At.set_ne ?_ (by (first | omega | (simp only [hset, hnew]; omega) | rfl | decide)) | refine At.new_ne ?_))), fun k hk => ?_⟩, fun z => absurd z e0, hlt, b3, b4, b5, b6, UU, tk, nm⟩
    all_goals (rw [show okc s (no + 1) = 0 from if_neg e0] at hk; exact absurd hk (Nat.not_lt_zero k))

end RMA
