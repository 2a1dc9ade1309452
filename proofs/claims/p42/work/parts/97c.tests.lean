/-! SENSE of tests -/
theorem nt_sen {K : TKS} (ok : KOk K) : ∀ (n : Nat) (s : PST), pEr (ntP K n s).1 = 0 → ∀ a b, Wst K a b s → Wst K (a + (ntP K n s).2) (b + (ntP K n s).2) (ntP K n s).1 ∧ pBk (ntP K n s).1 = pBk s
  | 0, s, _, a, b, w => ⟨w, rfl⟩
  | n + 1, s, h, a, b, w => by
    by_cases z : kdP K s = 15
    · have en : ntP K (n + 1) s = ((ntP K n (tkP K 15 s)).1, (ntP K n (tkP K 15 s)).2 + 1) := if_pos z
      rw [en] at h ⊢
      have h : pEr (ntP K n (tkP K 15 s)).1 = 0 := h
      have h1 := ntP_er0 n _ h
      obtain ⟨i1, i2⟩ := nt_sen ok n _ h _ _ (w.tk ok (by decide) h1)
      rw [tk_B] at i2
      exact ⟨i1.low (by show a + ((ntP K n (tkP K 15 s)).2 + 1) ≤ _; omega) (by show b + ((ntP K n (tkP K 15 s)).2 + 1) ≤ _; omega), i2⟩
    · have en : ntP K (n + 1) s = (s, 0) := if_neg z
      rw [en]
      exact ⟨w, rfl⟩
theorem nn_sen {K : TKS} (ok : KOk K) {B0 : BK} {a b : Nat} {q : PST × Nat} (h : pEr q.1 = 0) (e0 : Exb B0 (pBk q.1)) (h1 : q.2 + 1 = nNo (pBk q.1)) : ∀ n, Wst K a (b + n) q.1 → Wst K a b (nnP n q).1 ∧ Exb (pBk q.1) (pBk (nnP n q).1) ∧ cSt (pBk (nnP n q).1) = cSt (pBk q.1) ∧ (nnP n q).2 + 1 = nNo (pBk (nnP n q).1) ∧ ∀ (F : BK) (D : DY) (i : Nat) (x : Int32), Exb (pBk (nnP n q).1) F → RVs F D i B0 (pBk q.1) q.2 x → RVs F D i B0 (pBk (nnP n q).1) (nnP n q).2 (ntV x n) := by
  intro n
  induction n generalizing b with
  | zero => exact fun w => ⟨w, Exb.rf _, rfl, h1, fun F D i x _ r => r⟩
  | succ n ih =>
    intro w
    obtain ⟨i1, i2, i3, i4, i5⟩ := ih (b := b + 1) (w.low (Nat.le_refl _) (by omega))
    have hn : pEr (nnP n q).1 = 0 := (nnP_er n q).trans h
    show Wst K a b (noP 15 (nnP n q).2 0 (nnP n q).1) ∧ Exb (pBk q.1) (pBk (noP 15 (nnP n q).2 0 (nnP n q).1)) ∧ cSt (pBk (noP 15 (nnP n q).2 0 (nnP n q).1)) = cSt (pBk q.1) ∧ nNo (pBk (nnP n q).1) + 1 = nNo (pBk (noP 15 (nnP n q).2 0 (nnP n q).1)) ∧ ∀ (F : BK) (D : DY) (i : Nat) (x : Int32), Exb (pBk (noP 15 (nnP n q).2 0 (nnP n q).1)) F → RVs F D i B0 (pBk q.1) q.2 x → RVs F D i B0 (pBk (noP 15 (nnP n q).2 0 (nnP n q).1)) (nNo (pBk (nnP n q).1)) (nI 1 - ntV x n)
    generalize nnP n q = p at i1 i2 i3 i4 i5 hn ⊢
    have l4 := ok.1
    have r1 := i1.2.2.1
    have r2 := i1.2.2.2
    have u := Wst.no hn i1 (so := 15) (l := p.2) (r := 0) ⟨by decide, by omega, fun z => by omega, fun _ _ => ⟨by omega, by decide⟩⟩
    refine ⟨u, ?_⟩
    rw [no_s hn]
    refine ⟨i2.trans (Exb.no _), i3, rfl, fun F D i x ef r => ?_⟩
    have r5 := i5 F D i x ((Exb.no _).trans ef) r
    refine RVs.node (e0.trans i2) ef (fun v => ?_)
    show nI 1 - evN F D i (nNo B0) (nNo (pBk p.1) - nNo B0) v p.2 = nI 1 - ntV x n
    rw [r5 v]
theorem si_sen {K : TKS} (ok : KOk K) {kp : PST → PST × Nat} (hk : ∀ s, Sen K true s (kp s)) (hk0 : ∀ s, pEr (kp s).1 = 0 → pEr s = 0) (s : PST) : Sen K true s (siP K kp s) := fun h a b ws => by
  unfold siP at h ⊢
  have h1 : pEr (if (ntP K 400 s).2 % 2 = 1 then stP 15 0 (kp (ntP K 400 s).1).1 else (kp (ntP K 400 s).1).1) = 0 := by
    rw [nnP_er] at h
    exact h
  have h2 : pEr (kp (ntP K 400 s).1).1 = 0 := by
    split at h1
    · exact stP_er0 h1
    · exact h1
  have h3 := hk0 _ h2
  obtain ⟨n1, n2⟩ := nt_sen ok 400 s h3 a b ws
  have k := hk (ntP K 400 s).1
  generalize ntP K 400 s = t at h h1 h2 h3 n1 n2 k ⊢
  obtain ⟨k1, k2, k3⟩ := k h2 _ _ n1
  rw [n2] at k2 k3
  generalize kp t.1 = y at h h1 h2 k1 k2 k3 ⊢
  obtain ⟨v1, v2, v3⟩ := k3
  by_cases o : t.2 % 2 = 1
  · rw [if_pos o] at h h1 ⊢
    have k4 : Wst K (a + 1) (b + t.2) y.1 := k1.low (by omega) (Nat.le_refl _)
    have u1 := k4.st ok h2 (kd := 15) (n := 0) ⟨by decide, by decide, fun z => by omega, fun z => by omega⟩
    have e1 := st_s (kd := 15) (n := 0) h2 (k4.c4 ok)
    have ee : Exb (pBk s) (stX 15 0 (pBk y.1)) := k2.trans (Exb.st _)
    obtain ⟨i1, i2, i3, i4, i5⟩ := nn_sen ok (B0 := pBk s) (q := (stP 15 0 y.1, y.2)) h1 (by show Exb (pBk s) (pBk (stP 15 0 y.1)); rw [e1]; exact ee) (by show y.2 + 1 = nNo (pBk (stP 15 0 y.1)); rw [e1]; exact v2) t.2 u1
    have i2 : Exb (pBk (stP 15 0 y.1)) (pBk (nnP t.2 (stP 15 0 y.1, y.2)).1) := i2
    have i3 : cSt (pBk (nnP t.2 (stP 15 0 y.1, y.2)).1) = cSt (pBk (stP 15 0 y.1)) := i3
    have i5 : ∀ (F : BK) (D : DY) (i : Nat) (x : Int32), Exb (pBk (nnP t.2 (stP 15 0 y.1, y.2)).1) F → RVs F D i (pBk s) (pBk (stP 15 0 y.1)) y.2 x → RVs F D i (pBk s) (pBk (nnP t.2 (stP 15 0 y.1, y.2)).1) (nnP t.2 (stP 15 0 y.1, y.2)).2 (ntV x t.2) := i5
    rw [e1] at i2 i3 i5
    generalize nnP t.2 (stP 15 0 y.1, y.2) = p at h i1 i2 i3 i4 i5 ⊢
    have ll := (ee.trans i2).2.1
    have l3 := i2.2.1
    refine ⟨i1, ee.trans i2, ?_, i4, fun F D i ef => ?_⟩
    · have l5 : nNo (pBk y.1) ≤ nNo (pBk p.1) := l3
      omega
    · have ef1 := i2.trans ef
      obtain ⟨x, x1, x2, x3⟩ := v3 F D i ((Exb.st _).trans ef1)
      refine ⟨ntV x t.2, fun _ => ntV_bl (x1 rfl) _, fun S => ?_, i5 F D i x ef x3⟩
      rw [i3, ntV_eq (x1 rfl), if_pos o]
      exact CVs.step (x := x) (S1 := [x]) k2 ef1 (fun S => x2 S) (fun S => rfl) S
  · rw [if_neg o] at h h1 ⊢
    obtain ⟨i1, i2, i3, i4, i5⟩ := nn_sen ok (B0 := pBk s) (q := (y.1, y.2)) h2 k2 v2 t.2 (k1.low (Nat.le_add_right _ _) (Nat.le_refl _))
    have i2 : Exb (pBk y.1) (pBk (nnP t.2 (y.1, y.2)).1) := i2
    have i3 : cSt (pBk (nnP t.2 (y.1, y.2)).1) = cSt (pBk y.1) := i3
    have i5 : ∀ (F : BK) (D : DY) (i : Nat) (x : Int32), Exb (pBk (nnP t.2 (y.1, y.2)).1) F → RVs F D i (pBk s) (pBk y.1) y.2 x → RVs F D i (pBk s) (pBk (nnP t.2 (y.1, y.2)).1) (nnP t.2 (y.1, y.2)).2 (ntV x t.2) := i5
    generalize nnP t.2 (y.1, y.2) = p at h i1 i2 i3 i4 i5 ⊢
    have l3 := i2.2.1
    refine ⟨i1, k2.trans i2, by omega, i4, fun F D i ef => ?_⟩
    obtain ⟨x, x1, x2, x3⟩ := v3 F D i (i2.trans ef)
    refine ⟨ntV x t.2, fun _ => ntV_bl (x1 rfl) _, fun S => ?_, i5 F D i x ef x3⟩
    rw [i3, ntV_eq (x1 rfl), if_neg o]
    exact x2 S
theorem sg_bl {w : Nat} (h : w = 33 ∨ w = 34 ∨ w = 35) (u v : Int32) : jnV w u v = nI 0 ∨ jnV w u v = nI 1 := by
  rcases h with h | h | h <;> subst h
  · show (if u < v then nI 1 else nI 0) = nI 0 ∨ (if u < v then nI 1 else nI 0) = nI 1
    split
    · exact Or.inr rfl
    · exact Or.inl rfl
  · show (if v < u then nI 1 else nI 0) = nI 0 ∨ (if v < u then nI 1 else nI 0) = nI 1
    split
    · exact Or.inr rfl
    · exact Or.inl rfl
  · show (if u = v then nI 1 else nI 0) = nI 0 ∨ (if u = v then nI 1 else nI 0) = nI 1
    split
    · exact Or.inr rfl
    · exact Or.inl rfl
theorem cm_sen {K : TKS} (ok : KOk K) {sm : PST → PST × Nat} (hm : ∀ s, Sen K false s (sm s)) (hm0 : ∀ s, pEr (sm s).1 = 0 → pEr s = 0) (s : PST) : Sen K true s (cmP K sm s) := fun h a b ws => by
  have h : pEr (noP (soK (kdP K (sm s).1)) (sm s).2 (sm (tkP K (sgW (kdP K (sm s).1)) (sm s).1)).2 (stP (kdP K (sm s).1) 0 (sm (tkP K (sgW (kdP K (sm s).1)) (sm s).1)).1)) = 0 := h
  show Wst K a b (noP (soK (kdP K (sm s).1)) (sm s).2 (sm (tkP K (sgW (kdP K (sm s).1)) (sm s).1)).2 (stP (kdP K (sm s).1) 0 (sm (tkP K (sgW (kdP K (sm s).1)) (sm s).1)).1)) ∧ Exb (pBk s) (pBk (noP (soK (kdP K (sm s).1)) (sm s).2 (sm (tkP K (sgW (kdP K (sm s).1)) (sm s).1)).2 (stP (kdP K (sm s).1) 0 (sm (tkP K (sgW (kdP K (sm s).1)) (sm s).1)).1))) ∧ Vse true (pBk s) (pBk (noP (soK (kdP K (sm s).1)) (sm s).2 (sm (tkP K (sgW (kdP K (sm s).1)) (sm s).1)).2 (stP (kdP K (sm s).1) 0 (sm (tkP K (sgW (kdP K (sm s).1)) (sm s).1)).1))) (nNo (pBk (sm (tkP K (sgW (kdP K (sm s).1)) (sm s).1)).1))
  have h1 := stP_er0 (noP_er0 h)
  have h2 := hm0 _ h1
  obtain ⟨h3, h4, -⟩ := tkP_er h2
  obtain ⟨w1, e1, v1⟩ := hm s h3 a b ws
  have hy := hm (tkP K (sgW (kdP K (sm s).1)) (sm s).1)
  generalize sm s = q at h h1 h2 h3 h4 w1 e1 v1 hy ⊢
  have hw : kdP K q.1 = 33 ∨ kdP K q.1 = 34 ∨ kdP K q.1 = 35 := by
    rw [h4]
    unfold sgW
    split
    · omega
    · exact Or.inr (Or.inr rfl)
  rw [← h4] at h h1 h2 hy ⊢
  generalize sm (tkP K (kdP K q.1) q.1) = y at h h1 hy ⊢
  exact jn_sen ok (b1 := false) (by unfold isW; omega) (fun u v _ _ _ => sg_bl hw u v) h1 h2 hy w1 e1 v1
theorem kp_sen {K : TKS} (ok : KOk K) {sub : Option (PST → PST × Nat)} {sm : PST → PST × Nat} (hs : ∀ f, sub = some f → ∀ s, Sen K true s (f s)) (hs0 : ∀ f, sub = some f → ∀ s, pEr (f s).1 = 0 → pEr s = 0) (hm : ∀ s, Sen K false s (sm s)) (hm0 : ∀ s, pEr (sm s).1 = 0 → pEr s = 0) (s : PST) : Sen K true s (kpP K sub sm s) := fun h a b ws => by
  unfold kpP at h ⊢
  by_cases c1 : kdP K s = 29 ∧ sub.isSome = true
  · rw [if_pos c1] at h ⊢
    cases sub with
    | none => exact absurd c1.2 (by decide)
    | some f =>
      have h : pEr (tkP K 30 (f (tkP K 29 s)).1) = 0 := h
      show Wst K a b (tkP K 30 (f (tkP K 29 s)).1) ∧ Exb (pBk s) (pBk (tkP K 30 (f (tkP K 29 s)).1)) ∧ Vse true (pBk s) (pBk (tkP K 30 (f (tkP K 29 s)).1)) (f (tkP K 29 s)).2
      exact br_sen ok (by decide) (by decide) (hs f rfl _) (hs0 f rfl _) h ws
  · rw [if_neg c1] at h ⊢
    by_cases c2 : kdP K s = 18 ∨ kdP K s = 19
    · rw [if_pos c2] at h ⊢
      exact lk_sen ok (w := kdP K s) (by omega) (fun _ => c2) s h a b ws
    · rw [if_neg c2] at h ⊢
      exact cm_sen ok hm hm0 s h a b ws
theorem teF_sen {K : TKS} (ok : KOk K) {sub : Option (PST → PST × Nat)} {sm : PST → PST × Nat} (hs : ∀ f, sub = some f → ∀ s, Sen K true s (f s)) (hs0 : ∀ f, sub = some f → ∀ s, pEr (f s).1 = 0 → pEr s = 0) (hm : ∀ s, Sen K false s (sm s)) (hm0 : ∀ s, pEr (sm s).1 = 0 → pEr s = 0) (s : PST) : Sen K true s (teF K sub sm s) :=
  op_sen ok (op := is17) (x := boP K sub sm) (fun w h => op_17 h) (fun s => op_sen ok (op := is16) (x := siP K (kpP K sub sm)) (fun w h => op_16 h) (fun s => si_sen ok (fun s => kp_sen ok hs hs0 hm hm0 s) (fun s h => kpP_er0 hs0 hm0 s h) s) (fun s h => siP_er0 (fun s h => kpP_er0 hs0 hm0 s h) s h) s) (fun s h => opP_er0 (fun s h => siP_er0 (fun s h => kpP_er0 hs0 hm0 s h) s h) s h) s
theorem teP_sen {K : TKS} (ok : KOk K) : ∀ (b : Nat) (s : PST), Sen K true s (teP K b s)
  | 0, s => teF_sen ok (sub := none) (fun _ e => nomatch e) (fun _ e => nomatch e) (smP_sen ok 0) (smP_er0 0) s
  | b + 1, s => teF_sen ok (sub := some (teP K b)) (fun f e s => by
      cases e
      exact teP_sen ok b s) (fun f e s h => by
      cases e
      exact teP_er0 b s h) (smP_sen ok (b + 1)) (smP_er0 (b + 1)) s
