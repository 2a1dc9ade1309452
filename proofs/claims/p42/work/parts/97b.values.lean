/-! SENSE of values and tests, as they are read -/
/-- what tokens are, as far as sense needs it -/
def KOk (K : TKS) : Prop := K.1 ≤ 401 ∧ (∀ p, p < K.1 → K.2.1 p < 41 → p + 1 < K.1) ∧ ∀ p, p < K.1 → K.2.1 p = 40 → K.2.2.2 p ≤ 9999
theorem TwK.kok {K : TKS} {T : List Nat} {L : Nat → Nat} (t : TwK K T L) : KOk K := ⟨t.2.1, fun p hp => (t.2.2.1 p hp).2, t.2.2.2.1⟩
def Wst (K : TKS) (a b : Nat) (s : PST) : Prop := WfB (pBk s) ∧ cSt (pBk s) + a ≤ pPo s ∧ nNo (pBk s) + b ≤ pPo s ∧ pPo s < K.1
theorem Wst.low {K : TKS} {a b a2 b2 : Nat} {s : PST} (q : Wst K a b s) (ha : a2 ≤ a) (hb : b2 ≤ b) : Wst K a2 b2 s := by
  obtain ⟨q1, q2, q3, q4⟩ := q
  exact ⟨q1, by omega, by omega, q4⟩
theorem kd_of {K : TKS} {w : Nat} {s : PST} (e : pEr s = 0) (h : kdP K s = w) (l : pPo s < K.1) : K.2.1 (pPo s) = w := by
  unfold kdP at h
  rw [if_neg (show ¬ pEr s = 1 by omega)] at h
  unfold kdT at h
  rw [if_pos l] at h
  exact h
theorem tk_B {K : TKS} {w : Nat} {s : PST} : pBk (tkP K w s) = pBk s := congrArg (fun d : DRF => d.1) tk_df
theorem Wst.tk {K : TKS} {a b w : Nat} {s : PST} (ok : KOk K) (hw : w < 41) (h : pEr (tkP K w s) = 0) (q : Wst K a b s) : Wst K (a + 1) (b + 1) (tkP K w s) := by
  obtain ⟨h1, h2, h3⟩ := tkP_er h
  obtain ⟨q1, q2, q3, q4⟩ := q
  have k := kd_of h1 h2 q4
  have l := ok.2.1 _ q4 (by omega)
  rw [h3]
  refine ⟨q1, ?_, ?_, l⟩
  · show cSt (pBk s) + (a + 1) ≤ pPo s + 1
    omega
  · show nNo (pBk s) + (b + 1) ≤ pPo s + 1
    omega
theorem st_s {kd n : Nat} {s : PST} (e : pEr s = 0) (h : cSt (pBk s) < 400) : pBk (stP kd n s) = stX kd n (pBk s) := by
  unfold stP
  rw [upP_e e]
  show (stD kd n (pDf s)).1 = _
  unfold stD
  rw [if_pos h]
  rfl
theorem no_s {so l r : Nat} {s : PST} (e : pEr s = 0) : pBk (noP so l r s) = noB so l r (pBk s) := by
  unfold noP
  rw [upP_e e]
  rfl
theorem Wst.c4 {K : TKS} {a b : Nat} {s : PST} (ok : KOk K) (q : Wst K (a + 1) b s) : cSt (pBk s) < 400 := by
  obtain ⟨-, q2, -, q4⟩ := q
  have := ok.1
  omega
theorem Wst.st {K : TKS} {a b kd n : Nat} {s : PST} (ok : KOk K) (e : pEr s = 0) (q : Wst K (a + 1) b s) (h : okS (pBk s) kd n) : Wst K a b (stP kd n s) := by
  have e1 := st_s (kd := kd) (n := n) e (q.c4 ok)
  obtain ⟨q1, q2, q3, q4⟩ := q
  unfold Wst
  rw [e1, stP_po]
  refine ⟨q1.st h, ?_, q3, q4⟩
  show cSt (pBk s) + 1 + a ≤ pPo s
  omega
theorem Wst.no {K : TKS} {a b so l r : Nat} {s : PST} (e : pEr s = 0) (q : Wst K a (b + 1) s) (h : okN (pBk s) so l r) : Wst K a b (noP so l r s) := by
  obtain ⟨q1, q2, q3, q4⟩ := q
  unfold Wst
  rw [no_s e, noP_po]
  refine ⟨q1.no h, q2, ?_, q4⟩
  show nNo (pBk s) + 1 + b ≤ pPo s
  omega
/-- a step ahead of its token -/
theorem Wst.leaf {K : TKS} {a b w kd n : Nat} {s : PST} (ok : KOk K) (hw : w < 41) (h : pEr (tkP K w (stP kd n s)) = 0) (q : Wst K a b s) (hs : okS (pBk s) kd n) : Wst K a (b + 1) (tkP K w (stP kd n s)) ∧ pBk (tkP K w (stP kd n s)) = stX kd n (pBk s) := by
  obtain ⟨h1, h2, h3⟩ := tkP_er h
  have e := stP_er0 h1
  have h2 : kdP K (upP (stD kd n) s) = w := h2
  rw [kdP_up] at h2
  obtain ⟨q1, q2, q3, q4⟩ := q
  have k := kd_of e h2 q4
  have l := ok.2.1 _ q4 (by omega)
  have l4 := ok.1
  have e1 := st_s (kd := kd) (n := n) e (show cSt (pBk s) < 400 by omega)
  have p : pPo (stP kd n s) = pPo s := stP_po
  refine ⟨?_, tk_B.trans e1⟩
  unfold Wst
  rw [tk_B, e1, h3]
  refine ⟨q1.st hs, ?_, ?_, ?_⟩
  · show cSt (pBk s) + 1 + a ≤ pPo (stP kd n s) + 1
    omega
  · show nNo (pBk s) + (b + 1) ≤ pPo (stP kd n s) + 1
    omega
  · show pPo (stP kd n s) + 1 < K.1
    omega
/-- something read: what comes of it -/
def Sen (K : TKS) (bl : Bool) (s : PST) (q : PST × Nat) : Prop := pEr q.1 = 0 → ∀ a b, Wst K a b s → Wst K a b q.1 ∧ Exb (pBk s) (pBk q.1) ∧ Vse bl (pBk s) (pBk q.1) q.2
theorem soW {w : Nat} (h : isW w) : soK w < 60 ∧ ¬ (soK w = 21 ∨ soK w = 2 ∨ soK w = 18 ∨ soK w = 19) ∧ w < 41 ∧ ¬ (w = 21 ∨ w = 2 ∨ w = 18 ∨ w = 19 ∨ w = 9 ∨ w = 13) ∧ w ≠ 11 := by
  rcases h with h | h | h | h | h | h | h | h <;> subst h <;> decide
theorem jn_sen {K : TKS} (ok : KOk K) {b1 b2 : Bool} {B0 : BK} {s : PST} {l w a b : Nat} {y : PST × Nat} (hw : isW w) (hb : ∀ u v, Bl b1 u → Bl b1 v → Bl b2 (jnV w u v)) (h2 : pEr y.1 = 0) (h3 : pEr (tkP K w s) = 0) (hy : Sen K b1 (tkP K w s) y) (ws : Wst K a b s) (e : Exb B0 (pBk s)) (v : Vse b1 B0 (pBk s) l) : Wst K a b (noP (soK w) l y.2 (stP w 0 y.1)) ∧ Exb B0 (pBk (noP (soK w) l y.2 (stP w 0 y.1))) ∧ Vse b2 B0 (pBk (noP (soK w) l y.2 (stP w 0 y.1))) (nNo (pBk y.1)) := by
  obtain ⟨o1, o2, o3, o4, o5⟩ := soW hw
  obtain ⟨t1, t2, t3⟩ := hy h2 _ _ (ws.tk ok o3 h3)
  rw [tk_B] at t2 t3
  have l4 := ok.1
  have u1 := t1.st ok h2 (kd := w) (n := 0) ⟨by omega, by decide, fun z => absurd z o4, fun z => absurd z o5⟩
  have e1 := st_s (kd := w) (n := 0) h2 (t1.c4 ok)
  have es : pEr (stP w 0 y.1) = 0 := by
    unfold stP
    rw [pEr_up]
    exact h2
  have r1 := v.2.1
  have r2 := t3.2.1
  have r3 := ws.2.2.1
  have r4 := ws.2.2.2
  have r5 := t1.2.2.1
  have r6 := t1.2.2.2
  have u2 := u1.no es (so := soK w) (l := l) (r := y.2) ⟨o1, by omega, fun z => absurd z o2, fun _ _ => ⟨by omega, by omega⟩⟩
  refine ⟨u2, ?_⟩
  rw [no_s es, e1]
  exact ⟨((e.trans t2).trans (Exb.st _)).trans (Exb.no _), Vse.jn v t3 e t2 hw hb⟩
theorem lp_sen {K : TKS} (ok : KOk K) {bl : Bool} {op : Nat → Bool} {x : PST → PST × Nat} (hop : ∀ w, op w = true → isW w ∧ ∀ u v, Bl bl u → Bl bl v → Bl bl (jnV w u v)) (hx : ∀ s, Sen K bl s (x s)) (hx0 : ∀ s, pEr (x s).1 = 0 → pEr s = 0) {B0 : BK} {a b : Nat} : ∀ (n : Nat) (q : PST × Nat), pEr (lpP K op x n q).1 = 0 → Wst K a b q.1 → Exb B0 (pBk q.1) → Vse bl B0 (pBk q.1) q.2 → Wst K a b (lpP K op x n q).1 ∧ Exb B0 (pBk (lpP K op x n q).1) ∧ Vse bl B0 (pBk (lpP K op x n q).1) (lpP K op x n q).2
  | 0, q, _, w, e, v => ⟨w, e, v⟩
  | n + 1, q, h, w, e, v => by
    by_cases z : op (kdP K q.1) = true
    · have en : lpP K op x (n + 1) q = lpP K op x n (jnP (kdP K q.1) q.2 (x (tkP K (kdP K q.1) q.1)).2 (x (tkP K (kdP K q.1) q.1)).1) := if_pos z
      rw [en] at h ⊢
      have h1 := lpP_er0 hx0 n _ h
      obtain ⟨w1, w2⟩ := hop _ z
      have hy := hx (tkP K (kdP K q.1) q.1)
      have hy0 := hx0 (tkP K (kdP K q.1) q.1)
      generalize x (tkP K (kdP K q.1) q.1) = y at h h1 hy hy0 ⊢
      have h2 : pEr y.1 = 0 := stP_er0 (noP_er0 h1)
      obtain ⟨j1, j2, j3⟩ := jn_sen ok w1 w2 h2 (hy0 h2) hy w e v
      exact lp_sen ok hop hx hx0 n _ h j1 j2 j3
    · have en : lpP K op x (n + 1) q = q := if_neg z
      rw [en]
      exact ⟨w, e, v⟩
theorem op_sen {K : TKS} (ok : KOk K) {bl : Bool} {op : Nat → Bool} {x : PST → PST × Nat} (hop : ∀ w, op w = true → isW w ∧ ∀ u v, Bl bl u → Bl bl v → Bl bl (jnV w u v)) (hx : ∀ s, Sen K bl s (x s)) (hx0 : ∀ s, pEr (x s).1 = 0 → pEr s = 0) (s : PST) : Sen K bl s (opP K op x s) := fun h a b w => by
  have h0 := lpP_er0 hx0 400 _ h
  obtain ⟨w1, e1, v1⟩ := hx s h0 a b w
  exact lp_sen ok hop hx hx0 400 (x s) h w1 e1 v1
theorem br_sen {K : TKS} (ok : KOk K) {bl : Bool} {s : PST} {u v a b : Nat} (hu : u < 41) (hv : v < 41) {y : PST × Nat} (hy : Sen K bl (tkP K u s) y) (hy0 : pEr y.1 = 0 → pEr (tkP K u s) = 0) (h : pEr (tkP K v y.1) = 0) (ws : Wst K a b s) : Wst K a b (tkP K v y.1) ∧ Exb (pBk s) (pBk (tkP K v y.1)) ∧ Vse bl (pBk s) (pBk (tkP K v y.1)) y.2 := by
  have h1 := (tkP_er h).1
  obtain ⟨t1, t2, t3⟩ := hy h1 _ _ (ws.tk ok hu (hy0 h1))
  rw [tk_B] at t2 t3
  have t4 := t1.tk ok hv h
  rw [tk_B]
  exact ⟨t4.low (by omega) (by omega), t2, t3⟩
theorem lkV_bl {F : BK} {D : DY} {i w l : Nat} (h : w = 18 ∨ w = 19) : lkV F D i w l = nI 0 ∨ lkV F D i w l = nI 1 := by
  rcases h with h | h <;> subst h
  · show (if fiN (po (rt (dF D)) (dB D (dL D i))) 6 = some (rt (dF D) l) then nI 1 else nI 0) = nI 0 ∨ (if fiN (po (rt (dF D)) (dB D (dL D i))) 6 = some (rt (dF D) l) then nI 1 else nI 0) = nI 1
    split
    · exact Or.inr rfl
    · exact Or.inl rfl
  · show (if rt (dF D) (bLl F i) = rt (dF D) l then nI 1 else nI 0) = nI 0 ∨ (if rt (dF D) (bLl F i) = rt (dF D) l then nI 1 else nI 0) = nI 1
    split
    · exact Or.inr rfl
    · exact Or.inl rfl
/-- a word that looks -/
def isLw (w : Nat) : Prop := w = 21 ∨ w = 2 ∨ w = 18 ∨ w = 19 ∨ w = 20 ∨ w = 22 ∨ w = 23
theorem lk_leaf {bl : Bool} {w l : Nat} (h : isLw w) (hb : bl = true → w = 18 ∨ w = 19) (F : BK) (D : DY) (i : Nat) : ∃ x : Int32, Bl bl x ∧ (∀ S, stV F D i w l S = some (x :: S)) ∧ ∀ v, ndV F D i (soK w) l 0 v = x := by
  refine ⟨lkV F D i w l, fun z => lkV_bl (hb z), fun S => ?_, fun v => ?_⟩
  · rcases h with h | h | h | h | h | h | h <;> subst h <;> rfl
  · rcases h with h | h | h | h | h | h | h <;> subst h <;> rfl
theorem so_lw {w : Nat} (h : isLw w) : soK w = w ∧ w < 41 ∧ isLk w = true := by
  rcases h with h | h | h | h | h | h | h <;> subst h <;> decide
theorem lk_sen {K : TKS} (ok : KOk K) {bl : Bool} {w : Nat} (hw : w = 21 ∨ w = 2 ∨ w = 18 ∨ w = 19) (hb : bl = true → w = 18 ∨ w = 19) (s : PST) : Sen K bl s (lkP K w s) := fun h a b ws => by
  have hl : isLw w := by
    unfold isLw
    omega
  obtain ⟨sw1, sw2, sw3⟩ := so_lw hl
  have h : pEr (noP (soK w) ((lbO K (tkP K w s)).getD 0) 0 (tkP K 39 (stP w ((lbO K (tkP K w s)).getD 0) (rpO (lbO K (tkP K w s)) (tkP K w s))))) = 0 := h
  have h1 := noP_er0 h
  have h5 := stP_er0 (tkP_er h1).1
  obtain ⟨n1, n2⟩ := rpO_ne h5
  rw [n2] at h h1 h5
  show Wst K a b (noP (soK w) ((lbO K (tkP K w s)).getD 0) 0 (tkP K 39 (stP w ((lbO K (tkP K w s)).getD 0) (rpO (lbO K (tkP K w s)) (tkP K w s))))) ∧ Exb (pBk s) (pBk (noP (soK w) ((lbO K (tkP K w s)).getD 0) 0 (tkP K 39 (stP w ((lbO K (tkP K w s)).getD 0) (rpO (lbO K (tkP K w s)) (tkP K w s)))))) ∧ Vse bl (pBk s) (pBk (noP (soK w) ((lbO K (tkP K w s)).getD 0) 0 (tkP K 39 (stP w ((lbO K (tkP K w s)).getD 0) (rpO (lbO K (tkP K w s)) (tkP K w s)))))) (nNo (pBk s))
  rw [n2]
  have t1 := ws.tk ok sw2 h5
  cases el : lbO K (tkP K w s) with
  | none => exact absurd el n1
  | some l =>
    rw [el] at h1
    have h1 : pEr (tkP K 39 (stP w l (tkP K w s))) = 0 := h1
    show Wst K a b (noP (soK w) l 0 (tkP K 39 (stP w l (tkP K w s)))) ∧ Exb (pBk s) (pBk (noP (soK w) l 0 (tkP K 39 (stP w l (tkP K w s))))) ∧ Vse bl (pBk s) (pBk (noP (soK w) l 0 (tkP K 39 (stP w l (tkP K w s))))) (nNo (pBk s))
    have lt : l < bLa (pBk (tkP K w s)) := (fnN_some el).1
    rw [tk_B] at lt
    have l4 := ok.1
    have q4 := t1.2.2.2
    have l6 : l < 10000 := by
      have := ws.1.1.1
      omega
    have hs : okS (pBk (tkP K w s)) w l := by
      rw [tk_B]
      exact ⟨by omega, l6, fun _ => lt, fun z => by omega⟩
    have u1 := t1.st ok h5 hs
    have e1 := st_s (kd := w) (n := l) h5 (t1.c4 ok)
    have u2 := u1.tk ok (show 39 < 41 by decide) h1
    have e2 : pBk (tkP K 39 (stP w l (tkP K w s))) = stX w l (pBk s) := by rw [tk_B, e1, tk_B]
    have hn : okN (pBk (tkP K 39 (stP w l (tkP K w s)))) (soK w) l 0 := by
      rw [e2, sw1]
      exact ⟨by omega, l6, fun _ => lt, fun _ z => by rw [sw3] at z; exact absurd z (by decide)⟩
    have u3 := Wst.no h1 u2 hn
    refine ⟨u3.low (by omega) (by omega), ?_⟩
    rw [no_s h1, e2]
    exact ⟨(Exb.st _).trans (Exb.no _), Vse.leaf (fun F D i => lk_leaf hl hb F D i)⟩
theorem at_sen {K : TKS} (ok : KOk K) {sub : Option (PST → PST × Nat)} (hs : ∀ f, sub = some f → ∀ s, Sen K false s (f s)) (hs0 : ∀ f, sub = some f → ∀ s, pEr (f s).1 = 0 → pEr s = 0) (s : PST) : Sen K false s (atP K sub s) := fun h a b ws => by
  unfold atP at h ⊢
  by_cases c1 : kdP K s = 27 ∧ sub.isSome = true
  · rw [if_pos c1] at h ⊢
    cases sub with
    | none => exact absurd c1.2 (by decide)
    | some f =>
      have h : pEr (tkP K 28 (f (tkP K 27 s)).1) = 0 := h
      show Wst K a b (tkP K 28 (f (tkP K 27 s)).1) ∧ Exb (pBk s) (pBk (tkP K 28 (f (tkP K 27 s)).1)) ∧ Vse false (pBk s) (pBk (tkP K 28 (f (tkP K 27 s)).1)) (f (tkP K 27 s)).2
      exact br_sen ok (by decide) (by decide) (hs f rfl _) (hs0 f rfl _) h ws
  · rw [if_neg c1] at h ⊢
    by_cases c2 : kdP K s = 21 ∨ kdP K s = 2
    · rw [if_pos c2] at h ⊢
      exact lk_sen ok (bl := false) (w := kdP K s) (by omega) (fun z => absurd z Bool.false_ne_true) s h a b ws
    · rw [if_neg c2] at h ⊢
      by_cases c3 : kdP K s = 20 ∨ kdP K s = 22 ∨ kdP K s = 23
      · rw [if_pos c3] at h ⊢
        generalize kdP K s = w at c1 c2 c3 h ⊢
        have hl : isLw w := by
          unfold isLw
          omega
        obtain ⟨sw1, sw2, sw3⟩ := so_lw hl
        have h : pEr (noP (soK w) 0 0 (tkP K w (stP w 0 s))) = 0 := h
        show Wst K a b (noP (soK w) 0 0 (tkP K w (stP w 0 s))) ∧ Exb (pBk s) (pBk (noP (soK w) 0 0 (tkP K w (stP w 0 s)))) ∧ Vse false (pBk s) (pBk (noP (soK w) 0 0 (tkP K w (stP w 0 s)))) (nNo (pBk s))
        have h1 := noP_er0 h
        obtain ⟨u2, e2⟩ := ws.leaf ok sw2 h1 (kd := w) (n := 0) ⟨by omega, by decide, fun z => by omega, fun z => by omega⟩
        have u3 := Wst.no h1 u2 (so := soK w) (l := 0) (r := 0) (by
          rw [sw1]
          exact ⟨by omega, by decide, fun z => by omega, fun _ z => by rw [sw3] at z; exact absurd z (by decide)⟩)
        refine ⟨u3, ?_⟩
        rw [no_s h1, e2]
        exact ⟨(Exb.st _).trans (Exb.no _), Vse.leaf (fun F D i => lk_leaf (bl := false) hl (fun z => absurd z Bool.false_ne_true) F D i)⟩
      · rw [if_neg c3] at h ⊢
        have h : pEr (noP 31 (vaP K s) 0 (tkP K 40 (stP 40 (vaP K s) s))) = 0 := h
        show Wst K a b (noP 31 (vaP K s) 0 (tkP K 40 (stP 40 (vaP K s) s))) ∧ Exb (pBk s) (pBk (noP 31 (vaP K s) 0 (tkP K 40 (stP 40 (vaP K s) s)))) ∧ Vse false (pBk s) (pBk (noP 31 (vaP K s) 0 (tkP K 40 (stP 40 (vaP K s) s)))) (nNo (pBk s))
        have h1 := noP_er0 h
        obtain ⟨h2, h3, -⟩ := tkP_er h1
        have e := stP_er0 h2
        have h3 : kdP K (upP (stD 40 (vaP K s)) s) = 40 := h3
        rw [kdP_up] at h3
        have k := kd_of e h3 ws.2.2.2
        have v4 := ok.2.2 _ ws.2.2.2 k
        have v5 : vaP K s = K.2.2.2 (pPo s) := by
          unfold vaP vvT
          exact if_pos ws.2.2.2
        rw [← v5] at v4
        generalize vaP K s = v at h h1 h2 h3 v4 v5 ⊢
        obtain ⟨u2, e2⟩ := ws.leaf ok (by decide) h1 (kd := 40) (n := v) ⟨by decide, by omega, fun z => by omega, fun z => by omega⟩
        have u3 := Wst.no h1 u2 (so := 31) (l := v) (r := 0) ⟨by decide, by omega, fun z => by omega, fun z => absurd rfl z⟩
        refine ⟨u3, ?_⟩
        rw [no_s h1, e2]
        exact ⟨(Exb.st _).trans (Exb.no _), Vse.leaf (fun F D i => ⟨nI v, (fun z => absurd z Bool.false_ne_true), fun S => rfl, fun _ => rfl⟩)⟩
theorem op_38 {w : Nat} (h : is38 w = true) : isW w ∧ ∀ u v, Bl false u → Bl false v → Bl false (jnV w u v) := by
  simp only [is38, beq_iff_eq] at h
  subst h
  exact ⟨by unfold isW; omega, (fun _ _ _ _ z => absurd z Bool.false_ne_true)⟩
theorem op_PM {w : Nat} (h : isPM w = true) : isW w ∧ ∀ u v, Bl false u → Bl false v → Bl false (jnV w u v) := by
  have h := isPM_or h
  exact ⟨by unfold isW; omega, (fun _ _ _ _ z => absurd z Bool.false_ne_true)⟩
theorem bl_16 {u v : Int32} (hu : u = nI 0 ∨ u = nI 1) (hv : v = nI 0 ∨ v = nI 1) : (jnV 16 u v = nI 0 ∨ jnV 16 u v = nI 1) ∧ (jnV 17 u v = nI 0 ∨ jnV 17 u v = nI 1) := by
  rcases hu with hu | hu <;> rcases hv with hv | hv <;> subst hu <;> subst hv <;> decide
theorem op_16 {w : Nat} (h : is16 w = true) : isW w ∧ ∀ u v, Bl true u → Bl true v → Bl true (jnV w u v) := by
  simp only [is16, beq_iff_eq] at h
  subst h
  exact ⟨by unfold isW; omega, fun u v hu hv _ => (bl_16 (hu rfl) (hv rfl)).1⟩
theorem op_17 {w : Nat} (h : is17 w = true) : isW w ∧ ∀ u v, Bl true u → Bl true v → Bl true (jnV w u v) := by
  simp only [is17, beq_iff_eq] at h
  subst h
  exact ⟨by unfold isW; omega, fun u v hu hv _ => (bl_16 (hu rfl) (hv rfl)).2⟩
theorem smF_sen {K : TKS} (ok : KOk K) {sub : Option (PST → PST × Nat)} (hs : ∀ f, sub = some f → ∀ s, Sen K false s (f s)) (hs0 : ∀ f, sub = some f → ∀ s, pEr (f s).1 = 0 → pEr s = 0) (s : PST) : Sen K false s (smF K sub s) :=
  op_sen ok (op := isPM) (x := pdP K sub) (fun w h => op_PM h) (fun s => op_sen ok (op := is38) (x := atP K sub) (fun w h => op_38 h) (fun s => at_sen ok hs hs0 s) (fun s h => atP_er0 hs0 s h) s) (fun s h => opP_er0 (fun s h => atP_er0 hs0 s h) s h) s
theorem smP_sen {K : TKS} (ok : KOk K) : ∀ (b : Nat) (s : PST), Sen K false s (smP K b s)
  | 0, s => smF_sen ok (sub := none) (fun _ e => nomatch e) (fun _ e => nomatch e) s
  | b + 1, s => smF_sen ok (sub := some (smP K b)) (fun f e s => by
      cases e
      exact smP_sen ok b s) (fun f e s h => by
      cases e
      exact smP_er0 b s h) s
