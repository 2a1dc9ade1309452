/-! what values and tests leave as it is; the reference's acts -/
abbrev RSD : Type := Nat × Nat × Nat × (Nat → Nat) × (Nat → Nat) × (Nat → Nat) × (Nat → Nat × Nat) × Nat × (Nat → Nat) × (Nat → Nat) × (Nat → Nat) × Nat × (Nat → Nat × Nat × Nat × Nat) × (Nat → Nat × Nat × Nat × Nat) × (Nat → Nat) × (Nat → Nat) × (Nat → Nat) × (Nat → Nat → Nat) × (Nat → Nat)
def rsD (d : DRF) : RSD := (bLa d.1, bJa d.1, bLi d.1, bSe d.1, bWy d.1, bLl d.1, bRu d.1, bRs d.1, cTe d.1, cTn d.1, cAe d.1, nAn d.1, nRu d.1, nAc d.1, dfL d, dfJ d, dfI d, dfE d, dfO d)
def rsS (s : PST) : RSD := rsD (pDf s)
theorem rs_up {f : DRF → DRF} (hf : ∀ d, rsD (f d) = rsD d) {s : PST} : rsS (upP f s) = rsS s := by
  unfold upP
  split
  · exact hf _
  · rfl
theorem rs_tk {K : TKS} {w : Nat} {s : PST} : rsS (tkP K w s) = rsS s := by
  unfold tkP
  split
  · rfl
  · split <;> rfl
theorem rs_rp {n : Nat} {s : PST} : rsS (rpP n s) = rsS s := by
  unfold rpP
  split <;> rfl
theorem rs_rpO {o : Option Nat} {s : PST} : rsS (rpO o s) = rsS s := by
  unfold rpO
  split
  · exact rs_rp
  · rfl
theorem rs_st {kd n : Nat} {s : PST} : rsS (stP kd n s) = rsS s := rs_up (f := stD kd n) (fun d => by
  unfold stD
  split <;> rfl)
theorem rs_no {so l r : Nat} {s : PST} : rsS (noP so l r s) = rsS s := rs_up (f := noD so l r) (fun _ => rfl)
theorem rs_lp {K : TKS} {op : Nat → Bool} {x : PST → PST × Nat} (hx : ∀ s, rsS (x s).1 = rsS s) : ∀ (n : Nat) (q : PST × Nat), rsS (lpP K op x n q).1 = rsS q.1
  | 0, _ => rfl
  | n + 1, q => by
    unfold lpP
    split
    · rw [rs_lp hx n]
      show rsS (noP _ _ _ (stP _ _ _)) = _
      rw [rs_no, rs_st, hx, rs_tk]
    · rfl
theorem rs_op {K : TKS} {op : Nat → Bool} {x : PST → PST × Nat} (hx : ∀ s, rsS (x s).1 = rsS s) (s : PST) : rsS (opP K op x s).1 = rsS s := (rs_lp hx 400 _).trans (hx s)
theorem rs_lk {K : TKS} {w : Nat} {s : PST} : rsS (lkP K w s).1 = rsS s := by
  show rsS (noP _ _ _ (tkP K 39 (stP _ _ (rpO _ _)))) = _
  rw [rs_no, rs_tk, rs_st, rs_rpO, rs_tk]
theorem rs_at {K : TKS} {sub : Option (PST → PST × Nat)} (hs : ∀ f, sub = some f → ∀ s, rsS (f s).1 = rsS s) (s : PST) : rsS (atP K sub s).1 = rsS s := by
  unfold atP
  split
  · cases sub with
    | none =>
      rename_i z
      exact absurd z.2 (by decide)
    | some f =>
      show rsS (tkP K 28 (f (tkP K 27 s)).1) = _
      rw [rs_tk, hs f rfl, rs_tk]
  · split
    · exact rs_lk
    · split
      · show rsS (noP _ _ _ (tkP K _ (stP _ _ s))) = _
        rw [rs_no, rs_tk, rs_st]
      · show rsS (noP _ _ _ (tkP K _ (stP _ _ s))) = _
        rw [rs_no, rs_tk, rs_st]
theorem rs_smF {K : TKS} {sub : Option (PST → PST × Nat)} (hs : ∀ f, sub = some f → ∀ s, rsS (f s).1 = rsS s) (s : PST) : rsS (smF K sub s).1 = rsS s := rs_op (fun s => rs_op (fun s => rs_at hs s) s) s
theorem rs_sm {K : TKS} : ∀ (b : Nat) (s : PST), rsS (smP K b s).1 = rsS s
  | 0, s => rs_smF (sub := none) (fun _ e => nomatch e) s
  | b + 1, s => rs_smF (fun f e s => by
    cases e
    exact rs_sm b s) s
theorem rs_nt {K : TKS} : ∀ (n : Nat) (s : PST), rsS (ntP K n s).1 = rsS s
  | 0, _ => rfl
  | n + 1, s => by
    unfold ntP
    split
    · exact (rs_nt n _).trans rs_tk
    · rfl
theorem rs_nn : ∀ (n : Nat) (q : PST × Nat), rsS (nnP n q).1 = rsS q.1
  | 0, _ => rfl
  | n + 1, q => by
    show rsS (noP _ _ _ _) = _
    rw [rs_no]
    exact rs_nn n q
theorem rs_si {K : TKS} {kp : PST → PST × Nat} (hk : ∀ s, rsS (kp s).1 = rsS s) (s : PST) : rsS (siP K kp s).1 = rsS s := by
  unfold siP
  rw [rs_nn]
  have := (hk (ntP K 400 s).1).trans (rs_nt 400 s)
  show rsS (if _ then _ else _) = _
  split
  · rw [rs_st]
    exact this
  · exact this
theorem rs_kp {K : TKS} {sub : Option (PST → PST × Nat)} {sm : PST → PST × Nat} (hs : ∀ f, sub = some f → ∀ s, rsS (f s).1 = rsS s) (hm : ∀ s, rsS (sm s).1 = rsS s) (s : PST) : rsS (kpP K sub sm s).1 = rsS s := by
  unfold kpP
  split
  · cases sub with
    | none =>
      rename_i z
      exact absurd z.2 (by decide)
    | some f =>
      show rsS (tkP K 30 (f (tkP K 29 s)).1) = _
      rw [rs_tk, hs f rfl, rs_tk]
  · split
    · exact rs_lk
    · show rsS (noP _ _ _ (stP _ _ (sm (tkP K _ (sm s).1)).1)) = _
      rw [rs_no, rs_st, hm, rs_tk, hm]
theorem rs_teF {K : TKS} {sub : Option (PST → PST × Nat)} {sm : PST → PST × Nat} (hs : ∀ f, sub = some f → ∀ s, rsS (f s).1 = rsS s) (hm : ∀ s, rsS (sm s).1 = rsS s) (s : PST) : rsS (teF K sub sm s).1 = rsS s := rs_op (fun s => rs_op (fun s => rs_si (fun s => rs_kp hs hm s) s) s) s
theorem rs_te {K : TKS} : ∀ (b : Nat) (s : PST), rsS (teP K b s).1 = rsS s
  | 0, s => rs_teF (sub := none) (fun _ e => nomatch e) (rs_sm 0) s
  | b + 1, s => rs_teF (fun f e s => by
    cases e
    exact rs_te b s) (rs_sm (b + 1)) s
theorem rs_ac {s s' : PST} (e : rsS s = rsS s') : nAc (pBk s) = nAc (pBk s') ∧ nAn (pBk s) = nAn (pBk s') ∧ nRu (pBk s) = nRu (pBk s') ∧ bRs (pBk s) = bRs (pBk s') := ⟨congrArg (fun x : RSD => x.2.2.2.2.2.2.2.2.2.2.2.2.2.1) e, congrArg (fun x : RSD => x.2.2.2.2.2.2.2.2.2.2.2.1) e, congrArg (fun x : RSD => x.2.2.2.2.2.2.2.2.2.2.2.2.1) e, congrArg (fun x : RSD => x.2.2.2.2.2.2.2.1) e⟩
/-- nothing changes but from lo to the book's end, the book's cell and the reference's -/
def Uy (h0 h : AH) (m lo : Nat) : Prop := h.1 = h0.1 ∧ h.2.1 = h0.2.1 ∧ ∀ i, i < h0.1 → i ≠ m → i ≠ m + 28 → (i < lo ∨ m + 28 + 19 ≤ i) → h.2.2 i = h0.2.2 i
theorem Uy.rf (h : AH) (m lo : Nat) : Uy h h m lo := ⟨rfl, rfl, fun _ _ _ _ _ => rfl⟩
theorem Uy.trans {h0 h h1 : AH} {m lo : Nat} (a : Uy h0 h m lo) (b : Uy h h1 m lo) : Uy h0 h1 m lo := ⟨b.1.trans a.1, b.2.1.trans a.2.1, fun i e1 e2 e3 e4 => (b.2.2 i (by rw [a.1]; exact e1) e2 e3 e4).trans (a.2.2 i e1 e2 e3 e4)⟩
theorem Ux.y {h0 h : AH} {m lo : Nat} (u : Ux h0 h m) (e : lo ≤ m + 28 + 16) : Uy h0 h m lo := ⟨u.1, u.2.1, fun i e1 e2 e3 e4 => u.2.2 i e1 e2 e3 (by omega)⟩
theorem Uy.low {h0 h : AH} {m lo lo2 : Nat} (u : Uy h0 h m lo) (e : lo2 ≤ lo) : Uy h0 h m lo2 := ⟨u.1, u.2.1, fun i e1 e2 e3 e4 => u.2.2 i e1 e2 e3 (by omega)⟩
theorem Uy.set {h0 h : AH} {m lo i : Nat} {c : AC} (u : Uy h0 h m lo) (e : i = m ∨ i = m + 28 ∨ (lo ≤ i ∧ i < m + 28 + 19)) : Uy h0 (hset h i c) m lo := ⟨u.1, u.2.1, fun k a b c d => (if_neg (by omega)).trans (u.2.2 k a b c d)⟩
theorem Uy.at {h0 h : AH} {m lo i : Nat} {c : AC} (u : Uy h0 h m lo) (a : At h0 i c) (e1 : i ≠ m) (e2 : i ≠ m + 28) (e3 : i < lo ∨ m + 28 + 19 ≤ i) : At h i c := ⟨by rw [u.1]; exact a.1, (u.2.2 i a.1 e1 e2 e3).trans a.2⟩
theorem TkM.to {h h1 : AH} {m : Nat} {K : TKS} {T : List Nat} {L : Nat → Nat} (q : TkM h m K T L) (e : ∀ i c, At h i c → m < i → i < m + 6 → At h1 i c) : TkM h1 m K T L := by
  obtain ⟨⟨f1, a1, c1⟩, ⟨f2, a2, c2⟩, ⟨f3, a3, c3⟩, ⟨f4, a4, c4⟩, ⟨f5, a5, c5⟩, w⟩ := q
  exact ⟨⟨f1, e _ _ a1 (by omega) (by omega), c1⟩, ⟨f2, e _ _ a2 (by omega) (by omega), c2⟩, ⟨f3, e _ _ a3 (by omega) (by omega), c3⟩, ⟨f4, e _ _ a4 (by omega) (by omega), c4⟩, ⟨f5, e _ _ a5 (by omega) (by omega), c5⟩, w⟩
theorem NmM.to {h h1 : AH} {m nm : Nat} {K : TKS} {ok : Prop} {N : NMS} (q : NmM h m K nm ok N) (e : ∀ i c, At h i c → m + 5 < i → i < m + 9 → At h1 i c) : NmM h1 m K nm ok N := by
  obtain ⟨ft, fk, fn, t, n1, n2, n3, n4⟩ := q
  exact ⟨ft, fk, fn, t, e _ _ n1 (by omega) (by omega), e _ _ n2 (by omega) (by omega), e _ _ n3 (by omega) (by omega), n4⟩
section RMG
variable {G : GT} {d : Nat} {h0 h : AH} {m : Nat} {K : TKS} {T : List Nat} {L : Nat → Nat} {s : PST} {dp : Nat} {g : GCT} {no : Nat}
theorem RxM.self (rx : RxM h0 h m K T L s dp g no) : RxM h h m K T L s dp g no := by
  obtain ⟨a0, a1, a2, a3, a4, b1, b2, b3, b4, b5, b6, u, tk, nm⟩ := rx
  exact ⟨a0, a1, a2, a3, a4, b1, b2, b3, b4, b5, b6, Ux.rf _ _, tk.to (fun i c a e1 e2 => u.at a (by omega) (by omega) (by omega)), nm.to (fun i c a e1 e2 => u.at a (by omega) (by omega) (by omega))⟩
theorem RxM.out (rx : RxM h h m K T L s dp g no) {i : Nat} {c : AC} (e : m + 28 < i ∧ i < m + 28 + 16) : RxM (hset h i c) (hset h i c) m K T L s dp g no := by
  obtain ⟨⟨th, by_, ea, a0⟩, a1, ⟨q2, a2, c2⟩, ⟨q3, a3, c3⟩, ⟨q4, a4, c4⟩, b1, b2, b3, b4, b5, b6, u, tk, nm⟩ := rx
  exact ⟨⟨th, by_, ea, At.set_ne a0 (by omega)⟩, At.set_ne a1 (by omega), ⟨q2, At.set_ne a2 (by omega), c2⟩, ⟨q3, At.set_ne a3 (by omega), c3⟩, ⟨q4, At.set_ne a4 (by omega), c4⟩, b1, b2, b3, b4, b5, b6, Ux.rf _ _, tk.to (fun i c a e1 e2 => At.set_ne a (by omega)), nm.to (fun i c a e1 e2 => At.set_ne a (by omega))⟩
/-- other numbers in the book's cell -/
theorem RxM.cnt (rx : RxM h h m K T L s dp g no) {g2 : GCT} (e : g2.2.2.2.2.2 = g.2.2.2.2.2) : RxM (hset h (m + 28) (MBoO (m + 28) (nI g2.1) (nI g2.2.1) (nI g2.2.2.1) (nI g2.2.2.2.1) (nI g2.2.2.2.2.1) (nI no))) (hset h (m + 28) (MBoO (m + 28) (nI g2.1) (nI g2.2.1) (nI g2.2.2.1) (nI g2.2.2.2.1) (nI g2.2.2.2.2.1) (nI no))) m K T L s dp g2 no := by
  obtain ⟨⟨th, by_, ea, a0⟩, a1, ⟨q2, a2, c2⟩, ⟨q3, a3, c3⟩, ⟨q4, a4, c4⟩, b1, b2, b3, b4, b5, b6, u, tk, nm⟩ := rx
  rw [← e] at a0 nm
  exact ⟨⟨th, by_, ea, At.set_ne a0 (by omega)⟩, At.set_eq2 a1.1, ⟨q2, At.set_ne a2 (by omega), c2⟩, ⟨q3, At.set_ne a3 (by omega), c3⟩, ⟨q4, At.set_ne a4 (by omega), c4⟩, b1, b2, b3, b4, b5, b6, Ux.rf _ _, tk.to (fun i c a e1 e2 => At.set_ne a (by omega)), nm.to (fun i c a e1 e2 => At.set_ne a (by omega))⟩
/-- the acts' rows -/
def AcX (h : AH) (m : Nat) (s : PST) (ac : Nat) : Prop := NiX h (m + 28 + 12) 61 (okc s ac) (fun k => aDo (pBk s) k) ∧ (∃ f : Nat → Int32, At h (m + 28 + 13) (.inl (0, 61, .inl f)) ∧ ∀ k, k < okc s ac → (aDo (pBk s) k = 9 ∨ aDo (pBk s) k = 11 ∨ aDo (pBk s) k = 13) → f k = nI (aWh (pBk s) k)) ∧ (∃ f : Nat → Int32, At h (m + 28 + 14) (.inl (0, 61, .inl f)) ∧ ∀ k, k < okc s ac → aDo (pBk s) k = 9 → f k = nI (aSf (pBk s) k)) ∧ ∃ f : Nat → Int32, At h (m + 28 + 15) (.inl (0, 61, .inl f)) ∧ ∀ k, k < okc s ac → aDo (pBk s) k = 9 → f k = nI (aSu (pBk s) k)
theorem AcX.to {h h1 : AH} {s s1 : PST} {ac : Nat} (q : AcX h m s ac) (e : ∀ i c, At h i c → m + 28 + 11 < i → i < m + 28 + 16 → At h1 i c) (e2 : pEr s1 = 0 → pEr s = 0 ∧ nAc (pBk s1) = nAc (pBk s)) : AcX h1 m s1 ac := by
  obtain ⟨⟨f1, a1, c1⟩, ⟨f2, a2, c2⟩, ⟨f3, a3, c3⟩, ⟨f4, a4, c4⟩⟩ := q
  by_cases z : pEr s1 = 0
  · obtain ⟨z1, z2⟩ := e2 z
    have z3 : okc s1 ac = okc s ac := by
      unfold okc
      rw [z, z1]
    unfold AcX NiX
    unfold aDo aWh aSf aSu
    rw [z2, z3]
    exact ⟨⟨f1, e _ _ a1 (by omega) (by omega), c1⟩, ⟨f2, e _ _ a2 (by omega) (by omega), c2⟩, ⟨f3, e _ _ a3 (by omega) (by omega), c3⟩, ⟨f4, e _ _ a4 (by omega) (by omega), c4⟩⟩
  · exact ⟨⟨f1, e _ _ a1 (by omega) (by omega), fun k hk => absurd hk (okc_0 z)⟩, ⟨f2, e _ _ a2 (by omega) (by omega), fun k hk => absurd hk (okc_0 z)⟩, ⟨f3, e _ _ a3 (by omega) (by omega), fun k hk => absurd hk (okc_0 z)⟩, ⟨f4, e _ _ a4 (by omega) (by omega), fun k hk => absurd hk (okc_0 z)⟩⟩
/-- so many acts -/
abbrev gAc (g : GCT) (ac : Nat) : GCT := (g.1, g.2.1, g.2.2.1, g.2.2.2.1, ac, g.2.2.2.2.2)
/-- acts are read -/
def RaM (h0 h : AH) (m : Nat) (K : TKS) (T : List Nat) (L : Nat → Nat) (s : PST) (g : GCT) (no : Nat) : Prop := RxM h h m K T L s 0 g no ∧ AcX h m s g.2.2.2.2.1 ∧ (pEr s = 0 → g.2.2.2.2.1 = nAn (pBk s)) ∧ g.2.2.2.2.1 ≤ 60 ∧ Uy h0 h m (m + 28 + 12)

end RMG
