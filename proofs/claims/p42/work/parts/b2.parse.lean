/-! reading tests, acts, rules -/
def t0K : ET0 → List (Nat × Nat)
  | .inl (k, l) => [(if k = 10 then 18 else 19, 0), (39, nmL l)]
  | .inr (s, e, l) => vaK e ++ ((sgK s, 0) :: lfK l)
def t0C : ET0 → List OP3
  | .inl (k, l) => [(0, if k = 10 then 18 else 19, l)]
  | .inr (s, e, l) => vaC e ++ (lfC l ++ [(0, sgK s, 0)])
def t1K : ET1 → List (Nat × Nat)
  | .inl t => t0K t
  | .inr (s, t, u) => if s = 12 then (15, 0) :: t0K t else (29, 0) :: (t0K t ++ ((if s = 13 then 16 else 17, 0) :: (t0K u ++ [(30, 0)])))
def t1C : ET1 → List OP3
  | .inl t => t0C t
  | .inr (s, t, u) => if s = 12 then t0C t ++ [(0, 15, 0)] else t0C t ++ (t0C u ++ [(0, if s = 13 then 16 else 17, 0)])
def acK (a : EAc) : List (Nat × Nat) := if a.1 = 0 then (9, 0) :: (vaK a.2.2 ++ [(10, 0), (39, nmL a.2.1)]) else if a.1 = 1 then [(11, 0), (39, nmJ a.2.1)] else if a.1 = 2 then [(12, 0)] else if a.1 = 3 then [(13, 0), (39, nmL a.2.1)] else [(14, 0)]
def acO (a : EAc) : List OP3 := (1, 0, 0) :: (if a.1 = 0 then vaC a.2.2 ++ [(0, 9, a.2.1)] else if a.1 = 1 then [(0, 11, a.2.1)] else if a.1 = 2 then [(0, 12, 0)] else if a.1 = 3 then [(0, 13, a.2.1)] else [(0, 14, 0)])
def asK : List EAc → List (Nat × Nat)
  | [] => []
  | a :: s => acK a ++ asK s
def asO : List EAc → List OP3
  | [] => []
  | a :: s => acO a ++ asO s
def ruK (r : ERu) : List (Nat × Nat) := (8, 0) :: (t1K r.1 ++ ((27, 0) :: (asK r.2 ++ [(28, 0)])))
def ruO (r : ERu) : List OP3 := (2, 0, 0) :: (t1C r.1 ++ ((3, 0, 0) :: (asO r.2 ++ [(4, 0, 0)])))
def rsK : List ERu → List (Nat × Nat)
  | [] => []
  | r :: s => ruK r ++ rsK s
def rsO : List ERu → List OP3
  | [] => []
  | r :: s => ruO r ++ rsO s
section GO2
variable {K : TKS} {la ja p q r et : Nat} {a b : List OP3} {f g : PST → PST}
theorem lf_hd {l : ELf} (ok : okL la l) (h : PosL K p (lfK l)) : kdT K p = 40 ∨ kdT K p = 20 ∨ kdT K p = 22 ∨ kdT K p = 23 ∨ kdT K p = 21 ∨ kdT K p = 2 := by
  obtain ⟨so, n⟩ := l
  rcases ok with ⟨z, h2⟩ | ⟨z, h2⟩ | ⟨z | z, h2⟩ <;> (have z : so = _ := z; subst z)
  · exact Or.inl h.1.1
  · have h1 : kdT K p = wdK n := h.1.1
    rw [h1]
    unfold wdK
    split
    · exact Or.inr (Or.inl rfl)
    · split
      · exact Or.inr (Or.inr (Or.inl rfl))
      · exact Or.inr (Or.inr (Or.inr (Or.inl rfl)))
  · exact Or.inr (Or.inr (Or.inr (Or.inr (Or.inl h.1.1))))
  · exact Or.inr (Or.inr (Or.inr (Or.inr (Or.inr h.1.1))))
theorem va_hd {e : EVa} (ok : okV la e) (h : PosL K p (vaK e)) : kdT K p ≠ 29 ∧ kdT K p ≠ 18 ∧ kdT K p ≠ 19 ∧ kdT K p ≠ 15 := by
  match e, ok, h with
  | .inl l, ok, h =>
    have := lf_hd ok h
    omega
  | .inr (s, l, m), _, h =>
    have h1 : kdT K p = 27 := h.1.1
    omega
theorem GoP.cm {w : Nat} {sm : PST → PST × Nat} (h1 : GoP K la ja sm p q a) (hw : kdT K q = w) (n : w = 33 ∨ w = 34 ∨ w = 35) (h2 : GoP K la ja sm (q + 1) r b) : GoP K la ja (cmP K sm) p r (a ++ (b ++ [(0, w, 0)])) := fun et d hp => by
  obtain ⟨d1, e1, n1⟩ := h1 et d hp.left
  obtain ⟨d2, e2, n2⟩ := h2 et d1 (hp.right n1).left
  have e1 : (sm (p, 0, et, d)).1 = (q, 0, et, d1) := e1
  have e2 : (sm (q + 1, 0, et, d1)).1 = (r, 0, et, d2) := e2
  have hs : sgW w = w := by
    unfold sgW
    by_cases z : w = 33 ∨ w = 34
    · rw [if_pos z]
    · rw [if_neg z]; omega
  refine ⟨noD (soK w) (sm (p, 0, et, d)).2 (sm (q + 1, 0, et, d1)).2 (stD w 0 d2), ?_, ?_⟩
  · show (cmP K sm (p, 0, et, d)).1 = _
    unfold cmP
    rw [e1, kd_go, hw, hs, tk_go hw, e2, jn_go]
  · rw [nz_no, nz_st, n2, n1, apO_app, apO_app]
    rfl
theorem sg_k {s : Nat} (hs : 7 ≤ s ∧ s ≤ 9) : sgK s = 33 ∨ sgK s = 34 ∨ sgK s = 35 := by
  rcases (by omega : s = 7 ∨ s = 8 ∨ s = 9) with rfl | rfl | rfl <;> decide
theorem GoP.t0 {e : ET0} {bb : Nat} {sub : Option (PST → PST × Nat)} (ok : ok0 la e) (h : PosL K p (t0K e)) (n : nS (kdT K (p + (t0K e).length))) : GoP K la ja (kpP K sub (smP K (bb + 1))) p (p + (t0K e).length) (t0C e) ∧ kdT K p ≠ 15 := by
  match e, ok, h, n with
  | .inl (k, l), ok, h, n =>
    obtain ⟨hk, hl⟩ := ok
    have h1 : kdT K p = (if k = 10 then 18 else 19) := h.1.1
    have h2 : kdT K (p + 1) = 39 := h.2.1.1
    have h3 : vvT K (p + 1) = nmL l := h.2.1.2
    have hw : (if k = 10 then 18 else 19) = 18 ∨ (if k = 10 then 18 else 19) = 19 := by
      by_cases z : k = 10
      · rw [if_pos z]; exact Or.inl rfl
      · rw [if_neg z]; exact Or.inr rfl
    refine ⟨GsP.eq (GoP.lk h1 h2 h3 hl) (fun et d _ => ?_), by omega⟩
    show (kpP K sub (smP K (bb + 1)) (p, 0, et, d)).1 = _
    unfold kpP
    rw [kd_go, h1, if_neg (fun z => by omega), if_pos hw]
  | .inr (s, e, l), ok, h, n =>
    obtain ⟨hs, ok1, ok2⟩ := ok
    obtain ⟨h1, h2, h3⟩ := PosL.app h
    obtain ⟨v1, v2, v3, v4⟩ := va_hd ok1 h1
    have hsg : kdT K (p + (vaK e).length) = sgK s := h2.1
    have hk := sg_k hs
    have ns : nS (kdT K (p + (vaK e).length)) := by rw [hsg]; exact ⟨by omega, by omega, by omega⟩
    have el : p + (t0K (.inr (s, e, l))).length = p + (vaK e).length + 1 + (lfK l).length := by
      simp only [t0K, List.length_append, List.length_cons]
      omega
    rw [el] at n ⊢
    refine ⟨GsP.eq (GoP.cm (GoP.va (b := bb) ok1 h1 ns) hsg hk (GoP.vl (b := bb + 1) ok2 h3 n)) (fun et d _ => ?_), v4⟩
    show (kpP K sub (smP K (bb + 1)) (p, 0, et, d)).1 = _
    unfold kpP
    rw [kd_go, if_neg (fun z => v1 z.1), if_neg (fun z => z.elim v2 v3)]
theorem GoP.si0 {kp : PST → PST × Nat} (h : GoP K la ja kp p q a) (n : kdT K p ≠ 15) : GoP K la ja (siP K kp) p q a := GsP.eq h (fun et d _ => by
  have e : ntP K 400 (p, 0, et, d) = ((p, 0, et, d), 0) := by
    show (if kdP K (p, 0, et, d) = 15 then _ else _) = _
    rw [kd_go, if_neg n]
  show (siP K kp (p, 0, et, d)).1 = (kp (p, 0, et, d)).1
  unfold siP
  rw [e]
  rfl)
theorem GoP.si1 {kp : PST → PST × Nat} (h : kdT K p = 15) (n : kdT K (p + 1) ≠ 15) (h2 : GoP K la ja kp (p + 1) q a) : GoP K la ja (siP K kp) p q (a ++ [(0, 15, 0)]) := fun et d hp => by
  obtain ⟨d1, e1, n1⟩ := h2 et d hp.left
  have e1 : (kp (p + 1, 0, et, d)).1 = (q, 0, et, d1) := e1
  have e0 : ntP K 399 (p + 1, 0, et, d) = ((p + 1, 0, et, d), 0) := by
    show (if kdP K (p + 1, 0, et, d) = 15 then _ else _) = _
    rw [kd_go, if_neg n]
  have e : ntP K 400 (p, 0, et, d) = ((p + 1, 0, et, d), 1) := by
    show (if kdP K (p, 0, et, d) = 15 then ((ntP K 399 (tkP K 15 (p, 0, et, d))).1, (ntP K 399 (tkP K 15 (p, 0, et, d))).2 + 1) else _) = _
    rw [kd_go, if_pos h, tk_go h, e0]
  refine ⟨noD 15 (kp (p + 1, 0, et, d)).2 0 (stD 15 0 d1), ?_, ?_⟩
  · show (siP K kp (p, 0, et, d)).1 = _
    unfold siP
    rw [e]
    show noP 15 _ 0 (stP 15 0 (kp (p + 1, 0, et, d)).1) = _
    rw [e1, st_go, no_go]
    rfl
  · rw [nz_no, nz_st, n1, apO_app]
    rfl
/-- neither a sign nor and, or -/
def nT (w : Nat) : Prop := nS w ∧ w ≠ 16 ∧ w ≠ 17
theorem nT.an {w : Nat} (h : nT w) : is16 w = false := by
  have := h.2.1
  unfold is16
  simpa using this
theorem nT.or {w : Nat} (h : nT w) : is17 w = false := by
  have := h.2.2
  unfold is17
  simpa using this
/-- a plain test among tests -/
theorem GoP.tf {e : ET0} {bb : Nat} {sub : Option (PST → PST × Nat)} (ok : ok0 la e) (h : PosL K p (t0K e)) (n : nT (kdT K (p + (t0K e).length))) : GoP K la ja (teF K sub (smP K (bb + 1))) p (p + (t0K e).length) (t0C e) := by
  obtain ⟨g, n15⟩ := GoP.t0 (K := K) (ja := ja) (bb := bb) (sub := sub) ok h n.1
  exact GoP.op0 (GoP.op0 (GoP.si0 g n15) n.an) n.or
theorem te_F (b : Nat) : ∃ sub, teP K (b + 1) = teF K sub (smP K (b + 1)) := ⟨some (teP K b), rfl⟩
/-- two tests in brackets -/
theorem GoP.two {w bb : Nat} {t u : ET0} {sub : Option (PST → PST × Nat)} (hw : w = 16 ∨ w = 17) (ok1 : ok0 la t) (ok2 : ok0 la u) (h : PosL K p (t0K t ++ ((w, 0) :: (t0K u ++ [(30, 0)])))) : GoP K la ja (teF K sub (smP K (bb + 1))) p (p + (t0K t).length + 1 + (t0K u).length) (t0C t ++ (t0C u ++ [(0, w, 0)])) ∧ kdT K (p + (t0K t).length + 1 + (t0K u).length) = 30 := by
  obtain ⟨h1, h2, h3⟩ := PosL.app h
  obtain ⟨h4, h5, -⟩ := PosL.app h3
  have h30 : kdT K (p + (t0K t).length + 1 + (t0K u).length) = 30 := h5.1
  have hw1 : kdT K (p + (t0K t).length) = w := h2.1
  have n30 : nT (kdT K (p + (t0K t).length + 1 + (t0K u).length)) := by rw [h30]; exact ⟨⟨by decide, by decide, by decide⟩, by decide, by decide⟩
  have nw : nS (kdT K (p + (t0K t).length)) := by rw [hw1]; exact ⟨by omega, by omega, by omega⟩
  obtain ⟨g1, m1⟩ := GoP.t0 (K := K) (ja := ja) (bb := bb) (sub := sub) ok1 h1 nw
  obtain ⟨g2, m2⟩ := GoP.t0 (K := K) (ja := ja) (bb := bb) (sub := sub) ok2 h4 n30.1
  refine ⟨?_, h30⟩
  rcases hw with rfl | rfl
  · exact GoP.op0 (GoP.op1 (GoP.si0 g1 m1) hw1 rfl (GoP.si0 g2 m2) n30.an) n30.or
  · exact GoP.op1 (GoP.op0 (GoP.si0 g1 m1) (by rw [hw1]; rfl)) hw1 rfl (GoP.op0 (GoP.si0 g2 m2) n30.an) n30.or
theorem t1K_len {s : Nat} {t u : ET0} (hs : s ≠ 12) : (t1K (.inr (s, t, u))).length = (t0K t).length + (t0K u).length + 3 := by
  simp only [t1K, if_neg hs, List.length_cons, List.length_append, List.length_nil]
  omega
theorem GoP.brk {sub sm : PST → PST × Nat} (hw : kdT K p = 29) (h : GoP K la ja sub (p + 1) q a) (h2 : kdT K q = 30) : GoP K la ja (kpP K (some sub) sm) p (q + 1) a := fun et d hp => by
  obtain ⟨d1, e1, n1⟩ := h et d hp
  have e1 : (sub (p + 1, 0, et, d)).1 = (q, 0, et, d1) := e1
  refine ⟨d1, ?_, n1⟩
  show (kpP K (some sub) sm (p, 0, et, d)).1 = _
  unfold kpP
  rw [kd_go, if_pos ⟨hw, rfl⟩]
  show tkP K 30 (sub (tkP K 29 (p, 0, et, d))).1 = _
  rw [tk_go hw, e1, tk_go h2]
/-- a test -/
theorem GoP.t1 {e : ET1} {bb : Nat} (ok : ok1T la e) (h : PosL K p (t1K e)) (n : nT (kdT K (p + (t1K e).length))) : GoP K la ja (teP K (bb + 2)) p (p + (t1K e).length) (t1C e) := by
  match e, ok, h, n with
  | .inl t, ok, h, n => exact GoP.tf (bb := bb + 1) ok h n
  | .inr (s, t, u), ok, h, n =>
    obtain ⟨hs, ok1, ok2⟩ := ok
    by_cases z : s = 12
    · subst z
      have h1 : kdT K p = 15 := h.1.1
      have h2 : PosL K (p + 1) (t0K t) := h.2
      have el : p + (t1K (.inr (12, t, u))).length = p + 1 + (t0K t).length := by
        show p + ((t0K t).length + 1) = _
        omega
      rw [el] at n ⊢
      obtain ⟨g, m⟩ := GoP.t0 (K := K) (ja := ja) (bb := bb + 1) (sub := some (teP K (bb + 1))) ok1 h2 n.1
      exact GoP.op0 (GoP.op0 (GoP.si1 h1 m g) n.an) n.or
    · have h : PosL K p ((29, 0) :: (t0K t ++ ((if s = 13 then 16 else 17, 0) :: (t0K u ++ [(30, 0)])))) := by
        have e : t1K (.inr (s, t, u)) = (29, 0) :: (t0K t ++ ((if s = 13 then 16 else 17, 0) :: (t0K u ++ [(30, 0)]))) := if_neg z
        rw [e] at h
        exact h
      have hw : (if s = 13 then 16 else 17) = 16 ∨ (if s = 13 then 16 else 17) = 17 := by
        by_cases y : s = 13
        · rw [if_pos y]; exact Or.inl rfl
        · rw [if_neg y]; exact Or.inr rfl
      have ec : t1C (.inr (s, t, u)) = t0C t ++ (t0C u ++ [(0, if s = 13 then 16 else 17, 0)]) := if_neg z
      rw [t1K_len z] at n ⊢
      rw [ec]
      obtain ⟨g1, g2⟩ := GoP.two (K := K) (ja := ja) (bb := bb) (sub := some (teP K bb)) hw ok1 ok2 h.2
      have h29 : kdT K p = 29 := h.1.1
      have g3 := GoP.brk (sm := smP K (bb + 2)) h29 (sub := teP K (bb + 1)) g1 g2
      have e9 : p + 1 + (t0K t).length + 1 + (t0K u).length + 1 = p + ((t0K t).length + (t0K u).length + 3) := by omega
      rw [e9] at g3
      exact GoP.op0 (GoP.op0 (GoP.si0 g3 (by omega)) n.an) n.or
/-- an act -/
theorem ab_go {d : DRF} (h : nAn d.1 < 60) : abP (p, 0, et, d) = (p, 0, et, acD d) := by
  unfold abP
  rw [if_neg (by show ¬ 60 ≤ nAn d.1; omega), up_go]
theorem GsP.ac {e : EAc} (ok : okAc la ja e) (h : PosL K p (acK e)) : GsP K la ja (acP K) p (p + (acK e).length) (acO e) ∧ (kdT K p = 9 ∨ kdT K p = 11 ∨ kdT K p = 12 ∨ kdT K p = 13 ∨ kdT K p = 14) := by
  obtain ⟨so, w, v⟩ := e
  obtain ⟨o1, o2, o3, o4⟩ := ok
  have o1 : so ≤ 4 := o1
  have o2 : so = 1 → w < ja := o2
  have o3 : so ≠ 1 → w < la := o3
  have o4 : okV la v := o4
  have pre : ∀ {l : List OP3} {d : DRF}, Pre la ja d ((1, 0, 0) :: l) → nAn d.1 < 60 ∧ Pre la ja (acD d) l := fun {l d} hp => by
    obtain ⟨p1, p2, p3⟩ := hp
    have p2 : nAn d.1 + (1 + opA l) ≤ 60 := p2
    have p3 : bRs d.1 + (0 + opR l) ≤ 24 := p3
    exact ⟨by omega, p1, by show nAn d.1 + 1 + opA l ≤ 60; omega, by show bRs d.1 + opR l ≤ 24; omega⟩
  rcases (by omega : so = 0 ∨ so = 1 ∨ so = 2 ∨ so = 3 ∨ so = 4) with rfl | rfl | rfl | rfl | rfl
  · have h : PosL K p ((9, 0) :: (vaK v ++ [(10, 0), (39, nmL w)])) := h
    obtain ⟨h1, h2⟩ := h
    obtain ⟨h2, h3, h4, -⟩ := PosL.app h2
    have h1 : kdT K p = 9 := h1.1
    have k10 : kdT K (p + 1 + (vaK v).length) = 10 := h3.1
    have k39 : kdT K (p + 1 + (vaK v).length + 1) = 39 := h4.1
    have v39 : vvT K (p + 1 + (vaK v).length + 1) = nmL w := h4.2
    have hl : w < la := o3 (by decide)
    refine ⟨fun et d hp => ?_, Or.inl h1⟩
    obtain ⟨lt, hp2⟩ := pre hp
    obtain ⟨d1, e1, n1⟩ := GoP.va (K := K) (ja := ja) (b := 5) o4 h2 (by rw [k10]; exact ⟨by decide, by decide, by decide⟩) et (acD d) (Pre.left (b := [(0, 9, w)]) hp2)
    have e1 : (smP K 6 (p + 1, 0, et, acD d)).1 = (p + 1 + (vaK v).length, 0, et, d1) := e1
    have en1 : En la ja d1 := hp2.1.ap n1
    have el : p + (acK (0, w, v)).length = p + 1 + (vaK v).length + 1 + 1 := by
      show p + ((vaK v ++ [(10, 0), (39, nmL w)]).length + 1) = _
      simp only [List.length_append, List.length_cons, List.length_nil]
      omega
    rw [el]
    refine ⟨arD (nAn d.1) (9, w, nNo (acD d).1, (smP K 6 (p + 1, 0, et, acD d)).2) (stD 9 w d1), ?_, ?_⟩
    · unfold acP
      rw [kd_go, h1, if_pos rfl, ab_go lt]
      unfold awP
      rw [tk_go h1, e1, tk_go k10, la_go en1 v39 hl, lb_go en1 v39 hl]
      show upP _ (tkP K 39 (stP 9 w (p + 1 + (vaK v).length + 1, 0, et, d1))) = _
      rw [st_go, tk_go k39, up_go]
      rfl
    · rw [nz_ar, nz_st, n1, nz_ac]
      show _ = apO ((1, 0, 0) :: (vaC v ++ [(0, 9, w)])) (nz d)
      show _ = apO (vaC v ++ [(0, 9, w)]) (acD (nz d))
      rw [apO_app]
      rfl
  · have h1 : kdT K p = 11 := h.1.1
    have k39 : kdT K (p + 1) = 39 := h.2.1.1
    have v39 : vvT K (p + 1) = nmJ w := h.2.1.2
    have hl : w < ja := o2 rfl
    refine ⟨fun et d hp => ?_, Or.inr (Or.inl h1)⟩
    obtain ⟨lt, hp2⟩ := pre (l := [(0, 11, w)]) hp
    refine ⟨arD (nAn d.1) (11, w, 0, 0) (stD 11 w (acD d)), ?_, ?_⟩
    · show acP K (p, 0, et, d) = (p + 1 + 1, _)
      unfold acP
      rw [kd_go, h1, if_neg (by decide), if_pos rfl, ab_go lt]
      unfold ahP
      rw [tk_go h1, ja_go hp2.1 v39 hl, jb_go hp2.1 v39 hl]
      show upP _ (tkP K 39 (stP 11 w (p + 1, 0, et, acD d))) = _
      rw [st_go, tk_go k39, up_go]
      rfl
    · rw [nz_ar, nz_st, nz_ac]
      rfl
  · have h1 : kdT K p = 12 := h.1.1
    refine ⟨fun et d hp => ?_, Or.inr (Or.inr (Or.inl h1))⟩
    obtain ⟨lt, hp2⟩ := pre (l := [(0, 12, 0)]) hp
    refine ⟨arD (nAn d.1) (12, 0, 0, 0) (stD 12 0 (acD d)), ?_, ?_⟩
    · show acP K (p, 0, et, d) = (p + 1, _)
      unfold acP
      rw [kd_go, h1, if_neg (by decide), if_neg (by decide), if_neg (by decide), ab_go lt]
      unfold aoP
      rw [st_go, if_pos rfl, tk_go h1, up_go]
    · rw [nz_ar, nz_st, nz_ac]
      rfl
  · have h1 : kdT K p = 13 := h.1.1
    have k39 : kdT K (p + 1) = 39 := h.2.1.1
    have v39 : vvT K (p + 1) = nmL w := h.2.1.2
    have hl : w < la := o3 (by decide)
    refine ⟨fun et d hp => ?_, Or.inr (Or.inr (Or.inr (Or.inl h1)))⟩
    obtain ⟨lt, hp2⟩ := pre (l := [(0, 13, w)]) hp
    refine ⟨arD (nAn d.1) (13, w, 0, 0) (stD 13 w (acD d)), ?_, ?_⟩
    · show acP K (p, 0, et, d) = (p + 1 + 1, _)
      unfold acP
      rw [kd_go, h1, if_neg (by decide), if_neg (by decide), if_pos rfl, ab_go lt]
      unfold ajP
      rw [tk_go h1, la_go hp2.1 v39 hl, lb_go hp2.1 v39 hl]
      show upP _ (tkP K 39 (stP 13 w (p + 1, 0, et, acD d))) = _
      rw [st_go, tk_go k39, up_go]
      rfl
    · rw [nz_ar, nz_st, nz_ac]
      rfl
  · have h1 : kdT K p = 14 := h.1.1
    refine ⟨fun et d hp => ?_, Or.inr (Or.inr (Or.inr (Or.inr h1)))⟩
    obtain ⟨lt, hp2⟩ := pre (l := [(0, 14, 0)]) hp
    refine ⟨arD (nAn d.1) (14, 0, 0, 0) (stD 14 0 (acD d)), ?_, ?_⟩
    · show acP K (p, 0, et, d) = (p + 1, _)
      unfold acP
      rw [kd_go, h1, if_neg (by decide), if_neg (by decide), if_neg (by decide), ab_go lt]
      unfold aoP
      rw [st_go, if_neg (by decide), tk_go h1, up_go]
    · rw [nz_ar, nz_st, nz_ac]
      rfl
theorem GsP.as : ∀ (s : List EAc) (n p : Nat), s.length < n → (∀ e ∈ s, okAc la ja e) → PosL K p (asK s) → kdT K (p + (asK s).length) = 28 → GsP K la ja (asP K n) p (p + (asK s).length) (asO s)
  | [], n + 1, p, _, _, _, h28 => fun et d _ => ⟨d, by
      have h28 : kdT K p = 28 := h28
      show (if kdP K (p, 0, et, d) ≠ 28 ∧ (0 : Nat) ≠ 1 then _ else _) = _
      rw [kd_go, if_neg (fun z => z.1 h28)]
      rfl, rfl⟩
  | e :: s, n + 1, p, hn, ok, h, h28 => by
    obtain ⟨h1, h2⟩ := PosL.app (a := acK e) (b := asK s) h
    obtain ⟨g, hk⟩ := GsP.ac (ok e List.mem_cons_self) h1
    have el : p + (asK (e :: s)).length = p + (acK e).length + (asK s).length := by
      simp only [asK, List.length_append]
      omega
    rw [el] at h28 ⊢
    have g2 := GsP.as s n (p + (acK e).length) (by simp only [List.length_cons] at hn; omega) (fun x hx => ok x (List.mem_cons_of_mem _ hx)) h2 h28
    refine GsP.eq (g.then g2) (fun et d _ => ?_)
    show (if kdP K (p, 0, et, d) ≠ 28 ∧ (0 : Nat) ≠ 1 then asP K n (acP K (p, 0, et, d)) else _) = _
    rw [kd_go, if_pos ⟨by omega, by decide⟩]
/-- a rule -/
theorem GsP.ru {e : ERu} (ok : okRu la ja e) (h : PosL K p (ruK e)) : GsP K la ja (rlP K) p (p + (ruK e).length) (ruO e) := by
  obtain ⟨t, s⟩ := e
  obtain ⟨o1, o2, o3⟩ := ok
  have o2 : s.length ≤ 3 := o2
  obtain ⟨h1, h2⟩ := h
  have h1 : kdT K p = 8 := h1.1
  have h2 : PosL K (p + 1) (t1K t ++ ((27, 0) :: (asK s ++ [(28, 0)]))) := h2
  obtain ⟨h3, h4, h5⟩ := PosL.app h2
  obtain ⟨h5, h6, -⟩ := PosL.app h5
  have k27 : kdT K (p + 1 + (t1K t).length) = 27 := h4.1
  have k28 : kdT K (p + 1 + (t1K t).length + 1 + (asK s).length) = 28 := h6.1
  have g1 : GsP K la ja (rbP K) p (p + 1) [(2, 0, 0)] := fun et d hp => by
    obtain ⟨-, -, p3⟩ := hp
    have p3 : bRs d.1 + (1 + 0) ≤ 24 := p3
    refine ⟨ruD d, ?_, nz_ru⟩
    unfold rbP
    rw [if_neg (by show ¬ 24 ≤ bRs d.1; omega), tk_go h1, up_go]
  have t6 : GoP K la ja (teP K 6) (p + 1) (p + 1 + (t1K t).length) (t1C t) := GoP.t1 (bb := 4) o1 h3 (by rw [k27]; exact ⟨⟨by decide, by decide, by decide⟩, by decide, by decide⟩)
  have g2 : GsP K la ja (rtP K) (p + 1) (p + 1 + (t1K t).length + 1) (t1C t ++ [(3, 0, 0)]) := fun et d hp => by
    obtain ⟨d1, e1, n1⟩ := t6 et d hp.left
    have e1 : (teP K 6 (p + 1, 0, et, d)).1 = (p + 1 + (t1K t).length, 0, et, d1) := e1
    refine ⟨teD d1, ?_, ?_⟩
    · unfold rtP
      rw [e1, tk_go k27, up_go]
    · rw [nz_te, n1, apO_app]
      rfl
  have a6 := GsP.as s 400 (p + 1 + (t1K t).length + 1) (by omega) o3 h5 k28
  have g3 : GsP K la ja (raP K) (p + 1 + (t1K t).length + 1) (p + 1 + (t1K t).length + 1 + (asK s).length + 1) (asO s ++ [(4, 0, 0)]) := fun et d hp => by
    obtain ⟨d1, e1, n1⟩ := a6 et d hp.left
    refine ⟨aeD d1, ?_, ?_⟩
    · unfold raP
      rw [e1, tk_go k28, up_go]
    · rw [nz_ae, n1, apO_app]
      rfl
  have el : p + (ruK (t, s)).length = p + 1 + (t1K t).length + 1 + (asK s).length + 1 := by
    simp only [ruK, List.length_append, List.length_cons, List.length_nil]
    omega
  have eo : ruO (t, s) = [(2, 0, 0)] ++ ((t1C t ++ [(3, 0, 0)]) ++ (asO s ++ [(4, 0, 0)])) := by
    show (2, 0, 0) :: (t1C t ++ ((3, 0, 0) :: (asO s ++ [(4, 0, 0)]))) = _
    simp only [List.append_assoc, List.cons_append, List.nil_append]
  rw [el, eo]
  intro et d hp
  obtain ⟨d1, e1, n1⟩ := g1 et d hp.left
  obtain ⟨d2, e2, n2⟩ := g2 et d1 (hp.right n1).left
  obtain ⟨d3, e3, n3⟩ := g3 et d2 ((hp.right n1).right n2)
  refine ⟨rrD (bRs (pBk (p, 0, et, d))) (nNo (pBk (p, 0, et, d)), (teP K 6 (rbP K (p, 0, et, d))).2, nAn (pBk (rtP K (rbP K (p, 0, et, d)))), nAn (pBk (raP K (rtP K (rbP K (p, 0, et, d)))))) d3, ?_, ?_⟩
  · have e4 : raP K (rtP K (rbP K (p, 0, et, d))) = (p + 1 + (t1K t).length + 1 + (asK s).length + 1, 0, et, d3) := by rw [e1, e2, e3]
    unfold rlP
    generalize raP K (rtP K (rbP K (p, 0, et, d))) = z at e4 ⊢
    rw [e4, up_go]
  · rw [nz_rr, n3, n2, n1, ← apO_app, ← apO_app]
theorem GsP.rs : ∀ (s : List ERu) (n p : Nat), s.length < n → (∀ e ∈ s, okRu la ja e) → PosL K p (rsK s) → kdT K (p + (rsK s).length) ≠ 8 → GsP K la ja (rsP K n) p (p + (rsK s).length) (rsO s)
  | [], n + 1, p, _, _, _, h8 => fun et d _ => ⟨d, by
      have h8 : kdT K p ≠ 8 := h8
      show (if kdP K (p, 0, et, d) = 8 then _ else _) = _
      rw [kd_go, if_neg h8]
      rfl, rfl⟩
  | e :: s, n + 1, p, hn, ok, h, h8 => by
    obtain ⟨h1, h2⟩ := PosL.app (a := ruK e) (b := rsK s) h
    have g := GsP.ru (ok e List.mem_cons_self) h1
    have k8 : kdT K p = 8 := h1.1.1
    have el : p + (rsK (e :: s)).length = p + (ruK e).length + (rsK s).length := by
      simp only [rsK, List.length_append]
      omega
    rw [el] at h8 ⊢
    have g2 := GsP.rs s n (p + (ruK e).length) (by simp only [List.length_cons] at hn; omega) (fun x hx => ok x (List.mem_cons_of_mem _ hx)) h2 h8
    refine GsP.eq (g.then g2) (fun et d _ => ?_)
    show (if kdP K (p, 0, et, d) = 8 then rsP K n (rlP K (p, 0, et, d)) else _) = _
    rw [kd_go, if_pos k8]
end GO2
