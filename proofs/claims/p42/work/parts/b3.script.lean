/-! what reading leaves: steps, rules, lids -/
/-- the steps among what a piece does -/
def stO : List OP3 → List (Nat × Nat)
  | [] => []
  | o :: s => if o.1 = 0 then (o.2.1, o.2.2) :: stO s else stO s
theorem stO_app (a b : List OP3) : stO (a ++ b) = stO a ++ stO b := by
  induction a with
  | nil => rfl
  | cons o s ih =>
    show (if o.1 = 0 then (o.2.1, o.2.2) :: stO (s ++ b) else stO (s ++ b)) = (if o.1 = 0 then (o.2.1, o.2.2) :: stO s else stO s) ++ stO b
    rw [ih]
    by_cases z : o.1 = 0
    · rw [if_pos z, if_pos z]; rfl
    · rw [if_neg z, if_neg z]
/-- steps lie there -/
def StAt (B : BK) (a : Nat) (l : List (Nat × Nat)) : Prop := a + l.length ≤ cSt B ∧ ∀ i (hi : i < l.length), cKd B (a + i) = l[i].1 ∧ cNu B (a + i) = l[i].2
/-- steps come, and acts are counted; all else stays -/
def Sx (d d' : DRF) (l : List (Nat × Nat)) (ac : Nat) : Prop := (d'.2 = d.2 ∧ bLa d'.1 = bLa d.1 ∧ bJa d'.1 = bJa d.1 ∧ bLi d'.1 = bLi d.1 ∧ bSe d'.1 = bSe d.1 ∧ bWy d'.1 = bWy d.1 ∧ bLl d'.1 = bLl d.1 ∧ bRu d'.1 = bRu d.1 ∧ bRs d'.1 = bRs d.1 ∧ cTe d'.1 = cTe d.1 ∧ cTn d'.1 = cTn d.1 ∧ cAe d'.1 = cAe d.1) ∧ nAn d'.1 = nAn d.1 + ac ∧ cSt d'.1 = cSt d.1 + l.length ∧ (∀ k, k < cSt d.1 → cKd d'.1 k = cKd d.1 k ∧ cNu d'.1 k = cNu d.1 k) ∧ ∀ i (hi : i < l.length), cKd d'.1 (cSt d.1 + i) = l[i].1 ∧ cNu d'.1 (cSt d.1 + i) = l[i].2
theorem Sx.rf (d : DRF) : Sx d d [] 0 := ⟨⟨rfl, rfl, rfl, rfl, rfl, rfl, rfl, rfl, rfl, rfl, rfl, rfl⟩, rfl, rfl, fun _ _ => ⟨rfl, rfl⟩, fun i hi => absurd hi (Nat.not_lt_zero i)⟩
theorem Sx.trans {d d1 d2 : DRF} {a b : List (Nat × Nat)} {x y : Nat} (h : Sx d d1 a x) (g : Sx d1 d2 b y) : Sx d d2 (a ++ b) (x + y) := by
  obtain ⟨⟨a1, a2, a3, a4, a5, a6, a7, a8, a9, a10, a11, a12⟩, a13, a14, a15, a16⟩ := h
  obtain ⟨⟨b1, b2, b3, b4, b5, b6, b7, b8, b9, b10, b11, b12⟩, b13, b14, b15, b16⟩ := g
  refine ⟨⟨b1.trans a1, b2.trans a2, b3.trans a3, b4.trans a4, b5.trans a5, b6.trans a6, b7.trans a7, b8.trans a8, b9.trans a9, b10.trans a10, b11.trans a11, b12.trans a12⟩, by omega, by rw [List.length_append]; omega, fun k hk => ?_, fun i hi => ?_⟩
  · obtain ⟨c1, c2⟩ := b15 k (by omega)
    obtain ⟨c3, c4⟩ := a15 k hk
    exact ⟨c1.trans c3, c2.trans c4⟩
  · by_cases z : i < a.length
    · obtain ⟨c1, c2⟩ := b15 (cSt d.1 + i) (by omega)
      obtain ⟨c3, c4⟩ := a16 i z
      rw [List.getElem_append_left z]
      exact ⟨c1.trans c3, c2.trans c4⟩
    · rw [List.length_append] at hi
      obtain ⟨c1, c2⟩ := b16 (i - a.length) (by omega)
      rw [List.getElem_append_right (by omega)]
      rw [a14, show cSt d.1 + a.length + (i - a.length) = cSt d.1 + i by omega] at c1 c2
      exact ⟨c1, c2⟩
theorem Sx.st {d : DRF} {kd n : Nat} (h : cSt d.1 < 400) : Sx d (stD kd n d) [(kd, n)] 0 := by
  unfold stD
  rw [if_pos h]
  refine ⟨⟨rfl, rfl, rfl, rfl, rfl, rfl, rfl, rfl, rfl, rfl, rfl, rfl⟩, rfl, rfl, fun k hk => ⟨if_neg (by omega), if_neg (by omega)⟩, fun i hi => ?_⟩
  have hi : i < 1 := hi
  obtain rfl : i = 0 := by omega
  exact ⟨if_pos rfl, if_pos rfl⟩
theorem Sx.ac (d : DRF) : Sx d (acD d) [] 1 := ⟨⟨rfl, rfl, rfl, rfl, rfl, rfl, rfl, rfl, rfl, rfl, rfl, rfl⟩, rfl, rfl, fun _ _ => ⟨rfl, rfl⟩, fun i hi => absurd hi (Nat.not_lt_zero i)⟩
def o01 (l : List OP3) : Prop := ∀ o ∈ l, o.1 = 0 ∨ o.1 = 1
theorem Sx.ap : ∀ (l : List OP3) (d : DRF), o01 l → cSt d.1 + (stO l).length ≤ 400 → Sx d (apO l d) (stO l) (opA l)
  | [], d, _, _ => Sx.rf d
  | o :: s, d, h, hc => by
    obtain ⟨k, x, y⟩ := o
    have hs : o01 s := fun o ho => h o (List.mem_cons_of_mem _ ho)
    rcases h _ List.mem_cons_self with z | z <;> (have z : k = _ := z; subst z)
    · have hc : cSt d.1 + ((stO s).length + 1) ≤ 400 := hc
      have g := Sx.st (kd := x) (n := y) (d := d) (by omega)
      have g2 := Sx.ap s (stD x y d) hs (by have := g.2.2.1; have this : cSt (stD x y d).1 = cSt d.1 + 1 := this; omega)
      have e := g.trans g2
      rw [Nat.zero_add] at e
      have e1 : opA ((0, x, y) :: s) = opA s := Nat.zero_add _
      rw [e1]
      exact e
    · have hc : cSt d.1 + (stO s).length ≤ 400 := hc
      have e := (Sx.ac d).trans (Sx.ap s (acD d) hs hc)
      exact e
theorem o01.app {a b : List OP3} (h : o01 a) (g : o01 b) : o01 (a ++ b) := fun o ho => (List.mem_append.mp ho).elim (h o) (g o)
theorem o01.one {k n : Nat} : o01 [(0, k, n)] := fun o ho => by
  have := List.mem_singleton.mp ho
  subst this
  exact Or.inl rfl
theorem lf_o (l : ELf) : o01 (lfC l) ∧ (stO (lfC l)).length ≤ 1 := by
  unfold lfC
  split
  · exact ⟨o01.one, Nat.le_refl _⟩
  · split
    · exact ⟨o01.one, Nat.le_refl _⟩
    · split
      · exact ⟨o01.one, Nat.le_refl _⟩
      · exact ⟨o01.one, Nat.le_refl _⟩
theorem va_o (e : EVa) : o01 (vaC e) ∧ (stO (vaC e)).length ≤ 3 := by
  match e with
  | .inl l => exact ⟨(lf_o l).1, Nat.le_trans (lf_o l).2 (by decide)⟩
  | .inr (s, l, m) =>
    refine ⟨(lf_o l).1.app ((lf_o m).1.app o01.one), ?_⟩
    have h1 := (lf_o l).2
    have h2 := (lf_o m).2
    show (stO (lfC l ++ (lfC m ++ [(0, sgK s, 0)]))).length ≤ 3
    rw [stO_app, stO_app, List.length_append, List.length_append]
    have : (stO [(0, sgK s, 0)]).length = 1 := rfl
    omega
theorem t0_o (e : ET0) : o01 (t0C e) ∧ (stO (t0C e)).length ≤ 5 := by
  match e with
  | .inl (k, l) => exact ⟨o01.one, (by decide : 1 ≤ 5)⟩
  | .inr (s, e, l) =>
    refine ⟨(va_o e).1.app ((lf_o l).1.app o01.one), ?_⟩
    have h1 := (va_o e).2
    have h2 := (lf_o l).2
    show (stO (vaC e ++ (lfC l ++ [(0, sgK s, 0)]))).length ≤ 5
    rw [stO_app, stO_app, List.length_append, List.length_append]
    have : (stO [(0, sgK s, 0)]).length = 1 := rfl
    omega
theorem t1_o (e : ET1) : o01 (t1C e) ∧ (stO (t1C e)).length ≤ 11 := by
  match e with
  | .inl t => exact ⟨(t0_o t).1, Nat.le_trans (t0_o t).2 (by decide)⟩
  | .inr (s, t, u) =>
    have h1 := (t0_o t).2
    have h2 := (t0_o u).2
    by_cases z : s = 12
    · have e : t1C (.inr (s, t, u)) = t0C t ++ [(0, 15, 0)] := if_pos z
      rw [e]
      refine ⟨(t0_o t).1.app o01.one, ?_⟩
      rw [stO_app, List.length_append]
      have : (stO [(0, 15, 0)]).length = 1 := rfl
      omega
    · have e : t1C (.inr (s, t, u)) = t0C t ++ (t0C u ++ [(0, if s = 13 then 16 else 17, 0)]) := if_neg z
      rw [e]
      refine ⟨(t0_o t).1.app ((t0_o u).1.app o01.one), ?_⟩
      rw [stO_app, stO_app, List.length_append, List.length_append]
      have : (stO [(0, if s = 13 then 16 else 17, 0)]).length = 1 := rfl
      omega
theorem opA0 {l : List OP3} (h : ∀ o ∈ l, o.1 ≠ 1) : opA l = 0 := by
  induction l with
  | nil => rfl
  | cons o s ih =>
    show (if o.1 = 1 then 1 else 0) + opA s = 0
    rw [if_neg (h o List.mem_cons_self), ih (fun o ho => h o (List.mem_cons_of_mem _ ho))]
theorem opR0 {l : List OP3} (h : o01 l) : opR l = 0 := by
  induction l with
  | nil => rfl
  | cons o s ih =>
    show (if o.1 = 2 then 1 else 0) + opR s = 0
    have := h o List.mem_cons_self
    rw [if_neg (by omega), ih (fun o ho => h o (List.mem_cons_of_mem _ ho))]
theorem lf_a (l : ELf) : opA (lfC l) = 0 := by
  unfold lfC
  split
  · rfl
  · split
    · rfl
    · split <;> rfl
theorem va_a (e : EVa) : opA (vaC e) = 0 := by
  match e with
  | .inl l => exact lf_a l
  | .inr (s, l, m) =>
    show opA (lfC l ++ (lfC m ++ [(0, sgK s, 0)])) = 0
    rw [opA_app, opA_app, lf_a, lf_a]
    rfl
theorem t0_a (e : ET0) : opA (t0C e) = 0 := by
  match e with
  | .inl (k, l) => rfl
  | .inr (s, e, l) =>
    show opA (vaC e ++ (lfC l ++ [(0, sgK s, 0)])) = 0
    rw [opA_app, opA_app, lf_a, va_a]
    rfl
theorem t1_a (e : ET1) : opA (t1C e) = 0 := by
  match e with
  | .inl t => exact t0_a t
  | .inr (s, t, u) =>
    by_cases z : s = 12
    · have e : t1C (.inr (s, t, u)) = t0C t ++ [(0, 15, 0)] := if_pos z
      rw [e, opA_app, t0_a]
      rfl
    · have e : t1C (.inr (s, t, u)) = t0C t ++ (t0C u ++ [(0, if s = 13 then 16 else 17, 0)]) := if_neg z
      rw [e, opA_app, opA_app, t0_a, t0_a]
      rfl
theorem ac_o (e : EAc) : o01 (acO e) ∧ (stO (acO e)).length ≤ 4 ∧ opA (acO e) = 1 := by
  obtain ⟨so, w, v⟩ := e
  have h1 : o01 [(1, 0, 0)] := fun o ho => by
    have := List.mem_singleton.mp ho
    subst this
    exact Or.inr rfl
  show o01 ([(1, 0, 0)] ++ (if so = 0 then vaC v ++ [(0, 9, w)] else if so = 1 then [(0, 11, w)] else if so = 2 then [(0, 12, 0)] else if so = 3 then [(0, 13, w)] else [(0, 14, 0)])) ∧ (stO ([(1, 0, 0)] ++ (if so = 0 then vaC v ++ [(0, 9, w)] else if so = 1 then [(0, 11, w)] else if so = 2 then [(0, 12, 0)] else if so = 3 then [(0, 13, w)] else [(0, 14, 0)]))).length ≤ 4 ∧ opA ([(1, 0, 0)] ++ (if so = 0 then vaC v ++ [(0, 9, w)] else if so = 1 then [(0, 11, w)] else if so = 2 then [(0, 12, 0)] else if so = 3 then [(0, 13, w)] else [(0, 14, 0)])) = 1
  split
  · refine ⟨h1.app ((va_o v).1.app o01.one), ?_, ?_⟩
    · rw [stO_app, stO_app, List.length_append, List.length_append]
      have h2 := (va_o v).2
      have h3 : (stO [(0, 9, w)]).length = 1 := rfl
      have h4 : (stO [(1, 0, 0)]).length = 0 := rfl
      omega
    · rw [opA_app, opA_app, va_a]
      rfl
  · split
    · exact ⟨h1.app o01.one, (by decide : 1 ≤ 4), rfl⟩
    · split
      · exact ⟨h1.app o01.one, (by decide : 1 ≤ 4), rfl⟩
      · split
        · exact ⟨h1.app o01.one, (by decide : 1 ≤ 4), rfl⟩
        · exact ⟨h1.app o01.one, (by decide : 1 ≤ 4), rfl⟩
theorem as_o : ∀ (s : List EAc), o01 (asO s) ∧ (stO (asO s)).length ≤ 4 * s.length ∧ opA (asO s) = s.length
  | [] => ⟨(fun o ho => nomatch ho), Nat.le_refl _, rfl⟩
  | a :: s => by
    obtain ⟨h1, h2, h3⟩ := ac_o a
    obtain ⟨g1, g2, g3⟩ := as_o s
    show o01 (acO a ++ asO s) ∧ (stO (acO a ++ asO s)).length ≤ 4 * (s.length + 1) ∧ opA (acO a ++ asO s) = s.length + 1
    refine ⟨h1.app g1, ?_, ?_⟩
    · rw [stO_app, List.length_append]
      omega
    · rw [opA_app]
      omega
/-- a rule lies there -/
def RuAt (B : BK) (r : Nat) (e : ERu) : Prop := cTn B r = cTe B r + (stO (t1C e.1)).length ∧ cAe B r = cTn B r + (stO (asO e.2)).length ∧ StAt B (cTe B r) (stO (t1C e.1)) ∧ StAt B (cTn B r) (stO (asO e.2))
def Grw (B B' : BK) : Prop := cSt B ≤ cSt B' ∧ ∀ k, k < cSt B → cKd B' k = cKd B k ∧ cNu B' k = cNu B k
theorem StAt.mono {B B' : BK} {a : Nat} {l : List (Nat × Nat)} (h : StAt B a l) (g : Grw B B') : StAt B' a l := by
  obtain ⟨h1, h2⟩ := h
  refine ⟨Nat.le_trans h1 g.1, fun i hi => ?_⟩
  obtain ⟨e1, e2⟩ := g.2 (a + i) (by omega)
  obtain ⟨e3, e4⟩ := h2 i hi
  exact ⟨e1.trans e3, e2.trans e4⟩
theorem RuAt.mono {B B' : BK} {r : Nat} {e : ERu} (h : RuAt B r e) (g : Grw B B') (e1 : cTe B' r = cTe B r) (e2 : cTn B' r = cTn B r) (e3 : cAe B' r = cAe B r) : RuAt B' r e := by
  obtain ⟨h1, h2, h3, h4⟩ := h
  refine ⟨by rw [e1, e2]; exact h1, by rw [e2, e3]; exact h2, by rw [e1]; exact h3.mono g, by rw [e2]; exact h4.mono g⟩
/-- what a rule does to the draft -/
theorem ru_ap {d : DRF} {e : ERu} {i : Nat} (hi : bLi d.1 = i + 1) (hr : bRs d.1 < 24) (he : e.2.length ≤ 3) (hc : cSt d.1 + 23 ≤ 400) : (apO (ruO e) d).2 = d.2 ∧ (bLa (apO (ruO e) d).1 = bLa d.1 ∧ bJa (apO (ruO e) d).1 = bJa d.1 ∧ bLi (apO (ruO e) d).1 = bLi d.1 ∧ bSe (apO (ruO e) d).1 = bSe d.1 ∧ bWy (apO (ruO e) d).1 = bWy d.1 ∧ bLl (apO (ruO e) d).1 = bLl d.1) ∧ bRs (apO (ruO e) d).1 = bRs d.1 + 1 ∧ bRu (apO (ruO e) d).1 = upN (bRu d.1) i ((bRu d.1 i).1, bRs d.1 + 1) ∧ cSt (apO (ruO e) d).1 ≤ cSt d.1 + 23 ∧ nAn (apO (ruO e) d).1 = nAn d.1 + e.2.length ∧ Grw d.1 (apO (ruO e) d).1 ∧ (∀ r, r < bRs d.1 → cTe (apO (ruO e) d).1 r = cTe d.1 r ∧ cTn (apO (ruO e) d).1 r = cTn d.1 r ∧ cAe (apO (ruO e) d).1 r = cAe d.1 r) ∧ RuAt (apO (ruO e) d).1 (bRs d.1) e := by
  obtain ⟨t, s⟩ := e
  have he : s.length ≤ 3 := he
  obtain ⟨t1, t2⟩ := t1_o t
  obtain ⟨s1, s2, s3⟩ := as_o s
  have e0 : apO (ruO (t, s)) d = aeD (apO (asO s) (teD (apO (t1C t) (ruD d)))) := by
    show apO ([(2, 0, 0)] ++ (t1C t ++ ([(3, 0, 0)] ++ (asO s ++ [(4, 0, 0)])))) d = _
    rw [apO_app, apO_app, apO_app, apO_app]
    rfl
  have eR : ruD d = ((bLa d.1, bJa d.1, bLi d.1, bSe d.1, bWy d.1, bLl d.1, upN (bRu d.1) (bLi d.1 - 1) ((bRu d.1 (bLi d.1 - 1)).1, bRs d.1 + 1), bRs d.1 + 1, (cSt d.1, cKd d.1, cNu d.1, upN (cTe d.1) (bRs d.1) (cSt d.1), cTn d.1, cAe d.1), bNd d.1), d.2) := if_pos ⟨by omega, hr⟩
  obtain ⟨⟨a1, a2, a3, a4, a5, a6, a7, a8, a9, a10, a11, a12⟩, a13, a14, a15, a16⟩ := Sx.ap (t1C t) (ruD d) t1 (by rw [eR]; show cSt d.1 + _ ≤ 400; omega)
  generalize hd1 : apO (t1C t) (ruD d) = d1 at *
  rw [eR] at a1 a2 a3 a4 a5 a6 a7 a8 a9 a10 a11 a12 a13 a14 a15 a16
  have a9 : bRs d1.1 = bRs d.1 + 1 := a9
  have a14 : cSt d1.1 = cSt d.1 + (stO (t1C t)).length := a14
  have eT : teD d1 = (scB (cSt d1.1, cKd d1.1, cNu d1.1, cTe d1.1, upN (cTn d1.1) (bRs d1.1 - 1) (cSt d1.1), cAe d1.1) d1.1, d1.2) := if_pos (by omega)
  obtain ⟨⟨b1, b2, b3, b4, b5, b6, b7, b8, b9, b10, b11, b12⟩, b13, b14, b15, b16⟩ := Sx.ap (asO s) (teD d1) s1 (by rw [eT]; show cSt d1.1 + _ ≤ 400; omega)
  generalize hd2 : apO (asO s) (teD d1) = d2 at *
  rw [eT] at b1 b2 b3 b4 b5 b6 b7 b8 b9 b10 b11 b12 b13 b14 b15 b16
  have b9 : bRs d2.1 = bRs d1.1 := b9
  have b14 : cSt d2.1 = cSt d1.1 + (stO (asO s)).length := b14
  have eA : aeD d2 = (scB (cSt d2.1, cKd d2.1, cNu d2.1, cTe d2.1, cTn d2.1, upN (cAe d2.1) (bRs d2.1 - 1) (cSt d2.1)) d2.1, d2.2) := if_pos (by omega)
  have e0 : apO (ruO (t, s)) d = aeD d2 := e0
  rw [e0, eA]
  have ei : bLi d.1 - 1 = i := by omega
  have c10 : cTe d2.1 = upN (cTe d.1) (bRs d.1) (cSt d.1) := b10.trans a10
  have c11 : cTn d2.1 = upN (cTn d1.1) (bRs d1.1 - 1) (cSt d1.1) := b11
  have c11' : cTn d1.1 = cTn d.1 := a11
  have c12 : cAe d2.1 = cAe d.1 := b12.trans a12
  have r1 : bRs d1.1 - 1 = bRs d.1 := by omega
  have r2 : bRs d2.1 - 1 = bRs d.1 := by omega
  have g1 : Grw d.1 d1.1 := ⟨by omega, fun k hk => a15 k hk⟩
  have g2 : Grw d1.1 d2.1 := ⟨by omega, fun k hk => b15 k hk⟩
  have st1 : StAt d1.1 (cSt d.1) (stO (t1C t)) := ⟨by omega, fun j hj => a16 j hj⟩
  have st2 : StAt d2.1 (cSt d1.1) (stO (asO s)) := ⟨by omega, fun j hj => b16 j hj⟩
  refine ⟨b1.trans a1, ⟨b2.trans a2, b3.trans a3, b4.trans a4, b5.trans a5, b6.trans a6, b7.trans a7⟩, ?_, ?_, ?_, ?_, ?_, ?_, ?_⟩
  · show bRs d2.1 = _
    omega
  · show bRu d2.1 = _
    rw [b8]
    show bRu d1.1 = _
    rw [a8]
    show upN (bRu d.1) (bLi d.1 - 1) ((bRu d.1 (bLi d.1 - 1)).1, bRs d.1 + 1) = _
    rw [ei]
  · show cSt d2.1 ≤ _
    omega
  · show nAn d2.1 = _
    have x1 : nAn d2.1 = nAn d1.1 + opA (asO s) := b13
    have x2 : nAn d1.1 = nAn d.1 + opA (t1C t) := a13
    rw [t1_a] at x2
    show nAn d2.1 = nAn d.1 + s.length
    omega
  · exact ⟨Nat.le_trans g1.1 g2.1, fun k hk => by
      obtain ⟨p1, p2⟩ := g1.2 k hk
      obtain ⟨p3, p4⟩ := g2.2 k (by have := g1.1; omega)
      exact ⟨p3.trans p1, p4.trans p2⟩⟩
  · intro r hr
    refine ⟨?_, ?_, ?_⟩
    · show cTe d2.1 r = _
      rw [c10]
      exact if_neg (by omega)
    · show cTn d2.1 r = _
      rw [c11, c11']
      exact if_neg (by omega)
    · show upN (cAe d2.1) (bRs d2.1 - 1) (cSt d2.1) r = _
      rw [c12]
      exact if_neg (by omega)
  · have y1 : cTe d2.1 (bRs d.1) = cSt d.1 := by rw [c10]; exact if_pos rfl
    have y2 : cTn d2.1 (bRs d.1) = cSt d1.1 := by rw [c11]; exact if_pos (by omega)
    have y3 : upN (cAe d2.1) (bRs d2.1 - 1) (cSt d2.1) (bRs d.1) = cSt d2.1 := if_pos (by omega)
    refine ⟨?_, ?_, ?_, ?_⟩
    · show cTn d2.1 (bRs d.1) = cTe d2.1 (bRs d.1) + _
      rw [y1, y2]
      exact a14
    · show upN (cAe d2.1) (bRs d2.1 - 1) (cSt d2.1) (bRs d.1) = cTn d2.1 (bRs d.1) + _
      rw [y3, y2]
      exact b14
    · show StAt d2.1 (cTe d2.1 (bRs d.1)) _
      rw [y1]
      exact st1.mono g2
    · show StAt d2.1 (cTn d2.1 (bRs d.1)) _
      rw [y2]
      exact st2
