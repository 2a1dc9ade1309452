/-! SENSE of acts -/
theorem stV_acn {B : BK} {D : DY} {i kd n : Nat} {S : List Int32} (h : isAc kd = true) : stV B D i kd n S = none := by
  simp only [isAc, Bool.or_eq_true, beq_iff_eq] at h
  rcases h with (((h | h) | h) | h) | h <;> subst h <;> rfl
theorem acV_st {B : BK} {D : DY} {i kd n : Nat} {S S1 : List Int32} (h : stV B D i kd n S = some S1) : acV B i kd n D S = some (D, S1) ∧ ¬ isAc kd = true := by
  by_cases c : isAc kd = true
  · rw [stV_acn c] at h
    exact nomatch h
  · refine ⟨?_, c⟩
    unfold acV
    rw [if_neg c, h]
theorem raV_s {B : BK} {D D1 : DY} {i a m : Nat} {S S1 : List Int32} (q : acV B i (cKd B a) (cNu B a) D S = some (D1, S1)) : raV B i a (m + 1) D S = raV B i (a + 1) m D1 S1 := by
  rw [raV, q]
theorem raV_add {B : BK} {i : Nat} : ∀ (m a n : Nat) (D D1 : DY) (S S1 : List Int32), raV B i a m D S = some (D1, S1) → raV B i a (m + n) D S = raV B i (a + m) n D1 S1
  | 0, a, n, D, D1, S, S1, e => by
    have e : (D, S) = (D1, S1) := Option.some.inj e
    injection e with e1 e2
    rw [← e1, ← e2, Nat.zero_add]
    rfl
  | m + 1, a, n, D, D1, S, S1, e => by
    rw [show m + 1 + n = (m + n) + 1 from by omega]
    rw [raV] at e
    cases q : acV B i (cKd B a) (cNu B a) D S with
    | none =>
      rw [q] at e
      exact nomatch e
    | some p =>
      obtain ⟨D2, S2⟩ := p
      rw [q] at e
      rw [raV_s q, show a + (m + 1) = a + 1 + m from by omega]
      exact raV_add m (a + 1) n D2 D1 S2 S1 e
theorem acC_add {B : BK} : ∀ (m a n : Nat), acC B a (m + n) = acC B a m + acC B (a + m) n
  | 0, a, n => by
    rw [Nat.zero_add]
    exact (Nat.zero_add _).symm
  | m + 1, a, n => by
    rw [show m + 1 + n = (m + n) + 1 from by omega]
    show (if isAc (cKd B a) = true then 1 else 0) + acC B (a + 1) (m + n) = (if isAc (cKd B a) = true then 1 else 0) + acC B (a + 1) m + acC B (a + (m + 1)) n
    rw [acC_add m (a + 1) n, show a + (m + 1) = a + 1 + m from by omega]
    omega
theorem raV_rn {B : BK} {D : DY} {i : Nat} : ∀ (m a : Nat) (S S1 : List Int32), rnV B D i a m S = some S1 → raV B i a m D S = some (D, S1) ∧ acC B a m = 0
  | 0, a, S, S1, e => by
    have e : S = S1 := Option.some.inj e
    rw [e]
    exact ⟨rfl, rfl⟩
  | m + 1, a, S, S1, e => by
    rw [rnV] at e
    cases q : stV B D i (cKd B a) (cNu B a) S with
    | none =>
      rw [q] at e
      exact nomatch e
    | some S2 =>
      rw [q] at e
      obtain ⟨z1, z2⟩ := acV_st q
      obtain ⟨i1, i2⟩ := raV_rn m (a + 1) S2 S1 e
      rw [raV_s z1]
      refine ⟨i1, ?_⟩
      show (if isAc (cKd B a) = true then 1 else 0) + acC B (a + 1) m = 0
      rw [if_neg z2, i2]
theorem rdV_add {B : BK} {i : Nat} : ∀ (m k n : Nat) (q : DY × (Nat → Int32)), rdV B i k (m + n) q = rdV B i (k + m) n (rdV B i k m q)
  | 0, k, n, q => by
    rw [Nat.zero_add]
    rfl
  | m + 1, k, n, q => by
    rw [show m + 1 + n = (m + n) + 1 from by omega]
    show rdV B i (k + 1) (m + n) (rdA B i k q) = rdV B i (k + (m + 1)) n (rdV B i (k + 1) m (rdA B i k q))
    rw [rdV_add m (k + 1) n, show k + (m + 1) = k + 1 + m from by omega]
/-- a book grows: steps, nodes, acts -/
def Exa (B F : BK) : Prop := Exb B F ∧ nAn B ≤ nAn F ∧ ∀ k, k < nAn B → nAc F k = nAc B k
theorem Exa.rf (B : BK) : Exa B B := ⟨Exb.rf B, Nat.le_refl _, fun _ _ => rfl⟩
theorem Exa.trans {A B C : BK} (a : Exa A B) (b : Exa B C) : Exa A C := by
  obtain ⟨a1, a2, a3⟩ := a
  obtain ⟨b1, b2, b3⟩ := b
  exact ⟨a1.trans b1, Nat.le_trans a2 b2, fun k hk => (b3 k (by omega)).trans (a3 k hk)⟩
/-- acts in steps and acts in rows do the same -/
def Ase (B0 B : BK) : Prop := ∀ (F : BK) (i : Nat) (D : DY), Exa B F → ∃ D', raV F i (cSt B0) (cSt B - cSt B0) D [] = some (D', []) ∧ acC F (cSt B0) (cSt B - cSt B0) = nAn B - nAn B0 ∧ ∀ v, (rdV F i (nAn B0) (nAn B - nAn B0) (D, v)).1 = D'
theorem Ase.rf (B : BK) : Ase B B := fun F i D _ => by
  refine ⟨D, ?_, ?_, fun v => ?_⟩
  · rw [Nat.sub_self]
    rfl
  · rw [Nat.sub_self, Nat.sub_self]
    rfl
  · rw [Nat.sub_self]
    rfl
theorem Ase.trans {B0 B1 B2 : BK} (e0 : Exa B0 B1) (e1 : Exa B1 B2) (a : Ase B0 B1) (b : Ase B1 B2) : Ase B0 B2 := fun F i D ef => by
  obtain ⟨D1, a1, a2, a3⟩ := a F i D (e1.trans ef)
  obtain ⟨D2, b1, b2, b3⟩ := b F i D1 ef
  have l0 := e0.1.1
  have l1 := e1.1.1
  have l2 := e0.2.1
  have l3 := e1.2.1
  have s1 : cSt B2 - cSt B0 = (cSt B1 - cSt B0) + (cSt B2 - cSt B1) := by omega
  have s2 : cSt B0 + (cSt B1 - cSt B0) = cSt B1 := by omega
  have s3 : nAn B2 - nAn B0 = (nAn B1 - nAn B0) + (nAn B2 - nAn B1) := by omega
  have s4 : nAn B0 + (nAn B1 - nAn B0) = nAn B1 := by omega
  refine ⟨D2, ?_, ?_, fun v => ?_⟩
  · rw [s1, raV_add _ _ _ _ _ _ _ a1, s2]
    exact b1
  · rw [s1, acC_add, s2, a2, b2, ← s3]
  · rw [s3, rdV_add, s4]
    have e := b3 (rdV F i (nAn B0) (nAn B1 - nAn B0) (D, v)).2
    rw [← a3 v] at e
    exact e
def acB (B : BK) : BK := ndB (nNo B, nAn B + 1, nSo B, nLe B, nRi B, nRu B, nAc B) B
def arB (k : Nat) (x : Nat × Nat × Nat × Nat) (B : BK) : BK := ndB (nNo B, nAn B, nSo B, nLe B, nRi B, nRu B, upN (nAc B) k x) B
theorem Exb.ar {B F : BK} {k : Nat} {y : Nat × Nat × Nat × Nat} (e : Exb (arB k y B) F) : Exb B F := ⟨e.1, e.2.1, e.2.2.1, e.2.2.2⟩
theorem Exb.ar' {B F : BK} {k : Nat} {y : Nat × Nat × Nat × Nat} (e : Exb F B) : Exb F (arB k y B) := ⟨e.1, e.2.1, e.2.2.1, e.2.2.2⟩
theorem Ase.win {B B2 : BK} {l r : Nat} (v : Vse false (acB B) B2 r) (e : Exb (acB B) B2) (ha : nAn B2 = nAn B + 1) : Ase B (arB (nAn B) (9, l, nNo B, r) (stX 9 l B2)) := fun F i D ef => by
  have f2 : Exb (stX 9 l B2) F := ef.1.ar
  obtain ⟨-, v2, v3⟩ := v
  obtain ⟨x, -, x2, x3⟩ := v3 F D i ((Exb.st _).trans f2)
  have k := st_kd f2
  have ka : nAc F (nAn B) = (9, l, nNo B, r) := (ef.2.2 (nAn B) (by show nAn B < nAn B2; omega)).trans (if_pos rfl)
  have l0 : cSt B ≤ cSt B2 := e.1
  have c : rnV F D i (cSt B) (cSt B2 - cSt B) [] = some [x] := x2 []
  obtain ⟨r1, r2⟩ := raV_rn _ _ _ _ c
  have s1 : cSt B2 + 1 - cSt B = (cSt B2 - cSt B) + 1 := by omega
  have s2 : cSt B + (cSt B2 - cSt B) = cSt B2 := by omega
  refine ⟨doV F i 9 l x D, ?_, ?_, fun w => ?_⟩
  · show raV F i (cSt B) (cSt B2 + 1 - cSt B) D [] = _
    rw [s1, raV_add _ _ 1 _ _ _ _ r1, s2, raV_s (D1 := doV F i 9 l x D) (S1 := []) (by rw [k.1, k.2]; rfl)]
    rfl
  · show acC F (cSt B) (cSt B2 + 1 - cSt B) = nAn B2 - nAn B
    rw [s1, acC_add, s2, r2]
    show 0 + ((if isAc (cKd F (cSt B2)) = true then 1 else 0) + 0) = nAn B2 - nAn B
    rw [k.1, if_pos (show isAc 9 = true from rfl)]
    omega
  · show (rdV F i (nAn B) (nAn B2 - nAn B) (D, w)).1 = _
    rw [show nAn B2 - nAn B = 1 from by omega]
    show (rdA F i (nAn B) (D, w)).1 = _
    unfold rdA aDo aWh aSf aSu
    rw [ka, if_pos rfl]
    show doV F i 9 l (evN F D i (nNo B) (r + 1 - nNo B) w r) D = _
    have x4 : evN F D i (nNo B) (nNo B2 - nNo B) w r = x := x3 w
    rw [v2, x4]
theorem Ase.one {B B1 : BK} {w x : Nat} (hw : isAc w = true) (h9 : w ≠ 9) (hc : cSt B1 = cSt B) (hn : nAn B1 = nAn B + 1) : Ase B (arB (nAn B) (w, x, 0, 0) (stX w x B1)) := fun F i D ef => by
  obtain ⟨ef1, -, ef3⟩ := ef
  have f2 : Exb (stX w x B1) F := ef1.ar
  have k := st_kd f2
  rw [hc] at k
  have ka : nAc F (nAn B) = (w, x, 0, 0) := (ef3 (nAn B) (by show nAn B < nAn B1; omega)).trans (if_pos rfl)
  have s1 : cSt B1 + 1 - cSt B = 1 := by omega
  have s3 : nAn B1 - nAn B = 1 := by omega
  refine ⟨doV F i w x 0 D, ?_, ?_, fun u => ?_⟩
  · show raV F i (cSt B) (cSt B1 + 1 - cSt B) D [] = _
    rw [s1]
    exact raV_s (m := 0) (D1 := doV F i w x 0 D) (S1 := []) (by
      rw [k.1, k.2]
      unfold acV
      rw [if_pos hw, if_neg h9])
  · show acC F (cSt B) (cSt B1 + 1 - cSt B) = nAn B1 - nAn B
    rw [s1, s3]
    show (if isAc (cKd F (cSt B)) = true then 1 else 0) + 0 = 1
    rw [k.1, if_pos hw]
  · show (rdV F i (nAn B) (nAn B1 - nAn B) (D, u)).1 = _
    rw [s3]
    show (rdA F i (nAn B) (D, u)).1 = _
    unfold rdA aDo aWh aSf aSu
    rw [ka, if_neg h9]
theorem ab_s {s : PST} (h : pEr (abP s) = 0) : pBk (abP s) = acB (pBk s) ∧ ∀ K, kdP K (abP s) = kdP K s := by
  obtain ⟨h1, h2, -⟩ := abP_0 h
  have e : abP s = upP acD s := by
    unfold abP
    rw [if_neg (show ¬ 60 ≤ nAn (pBk s) by omega)]
  rw [e]
  refine ⟨?_, fun K => kdP_up⟩
  rw [upP_e h1]
  rfl
theorem ar_s {s : PST} {k : Nat} {x : Nat × Nat × Nat × Nat} (e : pEr s = 0) : pBk (upP (arD k x) s) = arB k x (pBk s) := by
  rw [upP_e e]
  rfl
theorem Wst.ar {K : TKS} {a b k : Nat} {x : Nat × Nat × Nat × Nat} {s : PST} (e : pEr s = 0) (q : Wst K a b s) : Wst K a b (upP (arD k x) s) := by
  unfold Wst
  rw [ar_s e, pPo_up]
  exact q
theorem Wst.ab {K : TKS} {a b : Nat} {s : PST} (h : pEr (abP s) = 0) (q : Wst K a b s) : Wst K a b (abP s) := by
  unfold Wst
  rw [(ab_s h).1, abP_po]
  exact q
/-- what an act read comes to -/
def Acs (K : TKS) (a b : Nat) (B : BK) (s : PST) : Prop := Wst K a b s ∧ Exa B (pBk s) ∧ Ase B (pBk s) ∧ nAn (pBk s) = nAn B + 1 ∧ okA (pBk s) (nAn B)
theorem one_sen {K : TKS} {a b w x : Nat} {B B1 : BK} {Y : PST} (e : pEr Y = 0) (eY : pBk Y = stX w x B1) (eb : Exb B B1) (hc : cSt B1 = cSt B) (hn : nAn B1 = nAn B + 1) (hac : nAc B1 = nAc B) (hl : bLa B1 = bLa B) (hj0 : bJa B1 = bJa B) (hw : isAc w = true) (h9 : w ≠ 9) (hx : w = 13 → x < bLa B) (hj : w = 11 → x < bJa B) (hx4 : x < 10000) (q : Wst K a b Y) : Acs K a b B (upP (arD (nAn B) (w, x, 0, 0)) Y) := by
  refine ⟨q.ar e, ?_⟩
  rw [ar_s e, eY]
  refine ⟨⟨(eb.trans (Exb.st _)).ar', ?_, fun k hk => ?_⟩, Ase.one hw h9 hc hn, hn, ?_⟩
  · show nAn B ≤ nAn B1
    omega
  · show (if k = nAn B then _ else nAc B1 k) = nAc B k
    rw [if_neg (Nat.ne_of_lt hk), hac]
  · have ka : nAc (arB (nAn B) (w, x, 0, 0) (stX w x B1)) (nAn B) = (w, x, 0, 0) := if_pos rfl
    unfold okA aDo aWh aSf aSu
    rw [ka]
    refine ⟨hw, fun z => ?_, fun z => ?_, hx4, fun z => absurd z h9⟩
    · show x < bLa B1
      rw [hl]
      exact hx (z.resolve_left h9)
    · show x < bJa B1
      rw [hj0]
      exact hj z
theorem acB_x (B : BK) : Exb B (acB B) ∧ cSt (acB B) = cSt B ∧ nAn (acB B) = nAn B + 1 ∧ nAc (acB B) = nAc B ∧ bLa (acB B) = bLa B ∧ bJa (acB B) = bJa B := ⟨⟨Nat.le_refl _, Nat.le_refl _, fun _ _ => ⟨rfl, rfl⟩, fun _ _ => ⟨rfl, rfl, rfl⟩⟩, rfl, rfl, rfl, rfl, rfl⟩
theorem aw_sen {K : TKS} (ok : KOk K) {s1 : PST} {B : BK} {a b : Nat} (eB : pBk s1 = acB B) (h : pEr (awP K (nAn B) s1) = 0) (ws : Wst K a b s1) : Acs K a b B (awP K (nAn B) s1) := by
  unfold awP at h ⊢
  have hy := smP_sen ok 6 (tkP K 9 s1)
  have hy0 := smP_er0 (K := K) 6 (tkP K 9 s1)
  have hr := rs_ac ((rs_sm (K := K) 6 (tkP K 9 s1)).trans rs_tk)
  generalize smP K 6 (tkP K 9 s1) = y at h hy hy0 hr ⊢
  have h2 : pEr (rpO (lbO K (tkP K 10 y.1)) (tkP K 10 y.1)) = 0 := stP_er0 (tkP_er (upP_er0 h)).1
  obtain ⟨n1, n2⟩ := rpO_ne h2
  have n2 : laP K (tkP K 10 y.1) = tkP K 10 y.1 := n2
  rw [n2] at h ⊢
  cases el : lbO K (tkP K 10 y.1) with
  | none => exact absurd el n1
  | some l =>
    rw [el] at h
    have h : pEr (upP (arD (nAn B) (9, l, nNo (pBk s1), y.2)) (tkP K 39 (stP 9 l (tkP K 10 y.1)))) = 0 := h
    show Acs K a b B (upP (arD (nAn B) (9, l, nNo (pBk s1), y.2)) (tkP K 39 (stP 9 l (tkP K 10 y.1))))
    have h1 := upP_er0 h
    have h5 := stP_er0 (tkP_er h1).1
    have h3 := (tkP_er h5).1
    obtain ⟨y1, y2, y3⟩ := hy h3 _ _ (ws.tk ok (by decide) (hy0 h3))
    rw [tk_B, eB] at y2 y3
    have t2 := y1.tk ok (by decide) h5
    have lt : l < bLa (pBk (tkP K 10 y.1)) := (fnN_some el).1
    have l6 := t2.1.1.1
    have t3 := t2.st ok h5 (kd := 9) (n := l) ⟨by decide, by omega, fun _ => lt, fun z => by omega⟩
    have e3 := st_s (kd := 9) (n := l) h5 (t2.c4 ok)
    have t4 := t3.tk ok (by decide) h1
    have eY : pBk (tkP K 39 (stP 9 l (tkP K 10 y.1))) = stX 9 l (pBk y.1) := by rw [tk_B, e3, tk_B]
    rw [tk_B] at lt
    have en : nNo (pBk s1) = nNo B := by rw [eB]; rfl
    rw [en]
    generalize tkP K 39 (stP 9 l (tkP K 10 y.1)) = Y at h1 t4 eY ⊢
    obtain ⟨c1, c2, -⟩ := hr
    rw [eB] at c1 c2
    have c1 : nAc (pBk y.1) = nAc B := c1
    have c2 : nAn (pBk y.1) = nAn B + 1 := c2
    refine ⟨(t4.ar h1).low (by omega) (by omega), ?_⟩
    rw [ar_s h1, eY]
    refine ⟨⟨?_, ?_, fun k hk => ?_⟩, Ase.win y3 y2 c2, c2, ?_⟩
    · exact (((acB_x B).1.trans y2).trans (Exb.st _)).ar'
    · show nAn B ≤ nAn (pBk y.1)
      omega
    · show (if k = nAn B then _ else nAc (pBk y.1) k) = nAc B k
      rw [if_neg (Nat.ne_of_lt hk), c1]
    · have ka : nAc (arB (nAn B) (9, l, nNo B, y.2) (stX 9 l (pBk y.1))) (nAn B) = (9, l, nNo B, y.2) := if_pos rfl
      unfold okA aDo aWh aSf aSu
      rw [ka]
      obtain ⟨v1, v2, -⟩ := y3
      have v1 : nNo B ≤ y.2 := v1
      refine ⟨rfl, fun _ => lt, fun z => absurd z (show ¬ (9 : Nat) = 11 by decide), ?_, fun _ => ⟨v1, ?_⟩⟩
      · show l < 10000
        rw [tk_B] at l6
        omega
      · show y.2 < nNo (pBk y.1)
        omega
theorem aj_sen {K : TKS} (ok : KOk K) {s1 : PST} {B : BK} {a b : Nat} (eB : pBk s1 = acB B) (h : pEr (ajP K (nAn B) s1) = 0) (ws : Wst K a b s1) : Acs K a b B (ajP K (nAn B) s1) := by
  unfold ajP at h ⊢
  have h2 : pEr (rpO (lbO K (tkP K 13 s1)) (tkP K 13 s1)) = 0 := stP_er0 (tkP_er (upP_er0 h)).1
  obtain ⟨n1, n2⟩ := rpO_ne h2
  have n2 : laP K (tkP K 13 s1) = tkP K 13 s1 := n2
  rw [n2] at h ⊢
  cases el : lbO K (tkP K 13 s1) with
  | none => exact absurd el n1
  | some l =>
    rw [el] at h
    have h : pEr (upP (arD (nAn B) (13, l, 0, 0)) (tkP K 39 (stP 13 l (tkP K 13 s1)))) = 0 := h
    show Acs K a b B (upP (arD (nAn B) (13, l, 0, 0)) (tkP K 39 (stP 13 l (tkP K 13 s1))))
    have h1 := upP_er0 h
    have h5 := stP_er0 (tkP_er h1).1
    have t2 := ws.tk ok (by decide) h5
    have lt : l < bLa (pBk (tkP K 13 s1)) := (fnN_some el).1
    have l6 := t2.1.1.1
    have t3 := t2.st ok h5 (kd := 13) (n := l) ⟨by decide, by omega, fun _ => lt, fun z => by omega⟩
    have e3 := st_s (kd := 13) (n := l) h5 (t2.c4 ok)
    have t4 := t3.tk ok (by decide) h1
    have eY : pBk (tkP K 39 (stP 13 l (tkP K 13 s1))) = stX 13 l (acB B) := by rw [tk_B, e3, tk_B, eB]
    rw [tk_B, eB] at lt
    rw [tk_B, eB] at l6
    have lt : l < bLa B := lt
    have l6 : bLa B ≤ 6 := l6
    obtain ⟨p1, p2, p3, p4, p5, p6⟩ := acB_x B
    exact one_sen h1 eY p1 p2 p3 p4 p5 p6 rfl (by decide) (fun _ => lt) (fun z => absurd z (by decide)) (by omega) (t4.low (by omega) (by omega))
theorem ah_sen {K : TKS} (ok : KOk K) {s1 : PST} {B : BK} {a b : Nat} (eB : pBk s1 = acB B) (h : pEr (ahP K (nAn B) s1) = 0) (ws : Wst K a b s1) : Acs K a b B (ahP K (nAn B) s1) := by
  unfold ahP at h ⊢
  have h2 : pEr (rpO (jbO K (tkP K 11 s1)) (tkP K 11 s1)) = 0 := stP_er0 (tkP_er (upP_er0 h)).1
  obtain ⟨n1, n2⟩ := rpO_ne h2
  have n2 : jaP K (tkP K 11 s1) = tkP K 11 s1 := n2
  rw [n2] at h ⊢
  cases el : jbO K (tkP K 11 s1) with
  | none => exact absurd el n1
  | some l =>
    rw [el] at h
    have h : pEr (upP (arD (nAn B) (11, l, 0, 0)) (tkP K 39 (stP 11 l (tkP K 11 s1)))) = 0 := h
    show Acs K a b B (upP (arD (nAn B) (11, l, 0, 0)) (tkP K 39 (stP 11 l (tkP K 11 s1))))
    have h1 := upP_er0 h
    have h5 := stP_er0 (tkP_er h1).1
    have t2 := ws.tk ok (by decide) h5
    have lt : l < bJa (pBk (tkP K 11 s1)) := (fnN_some el).1
    have l6 := t2.1.1.2
    have t3 := t2.st ok h5 (kd := 11) (n := l) ⟨by decide, by omega, fun z => by omega, fun _ => lt⟩
    have e3 := st_s (kd := 11) (n := l) h5 (t2.c4 ok)
    have t4 := t3.tk ok (by decide) h1
    have eY : pBk (tkP K 39 (stP 11 l (tkP K 11 s1))) = stX 11 l (acB B) := by rw [tk_B, e3, tk_B, eB]
    rw [tk_B, eB] at lt
    rw [tk_B, eB] at l6
    have lt : l < bJa B := lt
    have l6 : bJa B ≤ 8 := l6
    obtain ⟨p1, p2, p3, p4, p5, p6⟩ := acB_x B
    exact one_sen h1 eY p1 p2 p3 p4 p5 p6 rfl (by decide) (fun z => absurd z (by decide)) (fun _ => lt) (by omega) (t4.low (by omega) (by omega))
theorem ao_sen {K : TKS} (ok : KOk K) {s1 : PST} {B : BK} {a b w : Nat} (eB : pBk s1 = acB B) (ek : kdP K s1 = w) (h : pEr (aoP K w (nAn B) s1) = 0) (ws : Wst K a b s1) : Acs K a b B (aoP K w (nAn B) s1) := by
  unfold aoP at h ⊢
  have h1 := upP_er0 h
  have h2 : kdP K (upP (stD w 0) s1) = if w = 12 then 12 else 14 := (tkP_er h1).2.1
  rw [kdP_up, ek] at h2
  have hw : w = 12 ∨ w = 14 := by
    split at h2
    · exact Or.inl h2
    · exact Or.inr h2
  rw [← h2] at h h1 ⊢
  obtain ⟨t4, eY⟩ := ws.leaf ok (by omega) h1 (kd := w) (n := 0) ⟨by omega, by decide, fun z => by omega, fun z => by omega⟩
  rw [eB] at eY
  obtain ⟨p1, p2, p3, p4, p5, p6⟩ := acB_x B
  exact one_sen h1 eY p1 p2 p3 p4 p5 p6 (by rcases hw with hw | hw <;> subst hw <;> rfl) (by omega) (fun z => by omega) (fun z => by omega) (by decide) (t4.low (Nat.le_refl _) (by omega))
theorem ac_sen {K : TKS} (ok : KOk K) {s : PST} {a b : Nat} (h : pEr (acP K s) = 0) (ws : Wst K a b s) : Acs K a b (pBk s) (acP K s) ∧ nAn (pBk s) < 60 := by
  have hab : pEr (abP s) = 0 := by
    unfold acP at h
    split at h
    · unfold awP at h
      exact (tkP_er (smP_er0 6 _ (tkP_er (laP_er0 (stP_er0 (tkP_er (upP_er0 h)).1))).1)).1
    · split at h
      · unfold ahP at h
        exact (tkP_er (jaP_er0 (stP_er0 (tkP_er (upP_er0 h)).1))).1
      · split at h
        · unfold ajP at h
          exact (tkP_er (laP_er0 (stP_er0 (tkP_er (upP_er0 h)).1))).1
        · unfold aoP at h
          exact stP_er0 (tkP_er (upP_er0 h)).1
  obtain ⟨e1, e2⟩ := ab_s hab
  have w1 := ws.ab hab
  refine ⟨?_, (abP_0 hab).2.1⟩
  unfold acP at h ⊢
  by_cases c1 : kdP K s = 9
  · rw [if_pos c1] at h ⊢
    exact aw_sen ok e1 h w1
  · rw [if_neg c1] at h ⊢
    by_cases c2 : kdP K s = 11
    · rw [if_pos c2] at h ⊢
      exact ah_sen ok e1 h w1
    · rw [if_neg c2] at h ⊢
      by_cases c3 : kdP K s = 13
      · rw [if_pos c3] at h ⊢
        exact aj_sen ok e1 h w1
      · rw [if_neg c3] at h ⊢
        exact ao_sen ok e1 (e2 K) h w1
theorem okA.mono {B F : BK} {k : Nat} (h : okA B k) (e : nAc F k = nAc B k) (e1 : nNo B ≤ nNo F) (e2 : bLa B ≤ bLa F) (e3 : bJa B ≤ bJa F) : okA F k := by
  unfold okA aDo aWh aSf aSu at h ⊢
  rw [e]
  obtain ⟨h1, h2, h3, h4, h5⟩ := h
  exact ⟨h1, fun z => Nat.lt_of_lt_of_le (h2 z) e2, fun z => Nat.lt_of_lt_of_le (h3 z) e3, h4, fun z => ⟨(h5 z).1, Nat.lt_of_lt_of_le (h5 z).2 e1⟩⟩
def WfA (B : BK) : Prop := nAn B ≤ 60 ∧ ∀ k, k < nAn B → okA B k
theorem ac_lj {K : TKS} {s : PST} : bLa (pBk (acP K s)) = bLa (pBk s) ∧ bJa (pBk (acP K s)) = bJa (pBk s) := ⟨congrArg (fun x : RSR => x.1) (rr_ac (K := K) (s := s)), congrArg (fun x : RSR => x.2.1) (rr_ac (K := K) (s := s))⟩
theorem as_sen {K : TKS} (ok : KOk K) {B0 : BK} {a b : Nat} : ∀ (n : Nat) (s : PST), pEr (asP K n s) = 0 → Wst K a b s → Exa B0 (pBk s) → Ase B0 (pBk s) → WfA (pBk s) → Wst K a b (asP K n s) ∧ Exa B0 (pBk (asP K n s)) ∧ Ase B0 (pBk (asP K n s)) ∧ WfA (pBk (asP K n s))
  | 0, s, _, w, e, v, u => ⟨w, e, v, u⟩
  | n + 1, s, h, w, e, v, u => by
    by_cases z : kdP K s ≠ 28 ∧ pEr s ≠ 1
    · have en : asP K (n + 1) s = asP K n (acP K s) := if_pos z
      rw [en] at h ⊢
      have h1 := as_er0 n _ h
      obtain ⟨⟨a1, a2, a3, a4, a5⟩, a6⟩ := ac_sen ok h1 w
      obtain ⟨b1, b2⟩ := ac_lj (K := K) (s := s)
      refine as_sen ok n _ h a1 (e.trans a2) (Ase.trans e a2 v a3) ⟨by omega, fun k hk => ?_⟩
      by_cases q : k = nAn (pBk s)
      · rw [q]
        exact a5
      · exact (u.2 k (by omega)).mono (a2.2.2 k (by omega)) a2.1.2.1 (Nat.le_of_eq b1.symm) (Nat.le_of_eq b2.symm)
    · have en : asP K (n + 1) s = s := if_neg z
      rw [en]
      exact ⟨w, e, v, u⟩
