/-! the reference reads sums, single tests -/
theorem noP_er0 {so l r : Nat} {s : PST} (h : pEr (noP so l r s) = 0) : pEr s = 0 := by
  rw [noP_er] at h
  exact h
theorem stP_er0 {kd n : Nat} {s : PST} (h : pEr (stP kd n s) = 0) : pEr s = 0 := by
  unfold stP at h
  rw [pEr_up] at h
  exact h
theorem upP_er0 {f : DRF → DRF} {s : PST} (h : pEr (upP f s) = 0) : pEr s = 0 := by
  rw [pEr_up] at h
  exact h
theorem rpO_er0 {o : Option Nat} {s : PST} (h : pEr (rpO o s) = 0) : pEr s = 0 := by
  obtain ⟨-, e⟩ := rpO_ne h
  rw [e] at h
  exact h
theorem lpP_er0 {K : TKS} {op : Nat → Bool} {x : PST → PST × Nat} (hx : ∀ s, pEr (x s).1 = 0 → pEr s = 0) : ∀ (n : Nat) (q : PST × Nat), pEr (lpP K op x n q).1 = 0 → pEr q.1 = 0
  | 0, _, h => h
  | n + 1, q, h => by
    unfold lpP at h
    split at h
    · exact (tkP_er (hx _ (stP_er0 (noP_er0 (lpP_er0 hx n _ h))))).1
    · exact h
theorem opP_er0 {K : TKS} {op : Nat → Bool} {x : PST → PST × Nat} (hx : ∀ s, pEr (x s).1 = 0 → pEr s = 0) (s : PST) (h : pEr (opP K op x s).1 = 0) : pEr s = 0 := hx _ (lpP_er0 hx 400 _ h)
theorem lkP_er0 {K : TKS} {w : Nat} {s : PST} (h : pEr (lkP K w s).1 = 0) : pEr s = 0 := (tkP_er (rpO_er0 (stP_er0 (tkP_er (noP_er0 h)).1))).1
theorem atP_er0 {K : TKS} {sub : Option (PST → PST × Nat)} (hs : ∀ f, sub = some f → ∀ s, pEr (f s).1 = 0 → pEr s = 0) (s : PST) (h : pEr (atP K sub s).1 = 0) : pEr s = 0 := by
  unfold atP at h
  split at h
  · cases sub with
    | none =>
      rename_i z
      exact absurd z.2 (by decide)
    | some f => exact (tkP_er (hs f rfl _ (tkP_er h).1)).1
  · split at h
    · exact lkP_er0 h
    · split at h
      · exact stP_er0 (tkP_er (noP_er0 h)).1
      · exact stP_er0 (tkP_er (noP_er0 h)).1
theorem smF_er0 {K : TKS} {sub : Option (PST → PST × Nat)} (hs : ∀ f, sub = some f → ∀ s, pEr (f s).1 = 0 → pEr s = 0) (s : PST) (h : pEr (smF K sub s).1 = 0) : pEr s = 0 := opP_er0 (fun s h => opP_er0 (fun s h => atP_er0 hs s h) s h) s h
theorem smP_er0 {K : TKS} : ∀ (b : Nat) (s : PST), pEr (smP K b s).1 = 0 → pEr s = 0
  | 0, s, h => smF_er0 (sub := none) (fun _ e => nomatch e) s h
  | b + 1, s, h => smF_er0 (fun f e s h => by
    cases e
    exact smP_er0 b s h) s h
theorem ntP_er0 {K : TKS} : ∀ (n : Nat) (s : PST), pEr (ntP K n s).1 = 0 → pEr s = 0
  | 0, _, h => h
  | n + 1, s, h => by
    unfold ntP at h
    split at h
    · exact (tkP_er (ntP_er0 n _ h)).1
    · exact h
theorem nnP_er : ∀ (n : Nat) (q : PST × Nat), pEr (nnP n q).1 = pEr q.1
  | 0, _ => rfl
  | n + 1, q => by
    show pEr (noP _ _ _ _) = _
    rw [noP_er]
    exact nnP_er n q
theorem siP_er0 {K : TKS} {kp : PST → PST × Nat} (hk : ∀ s, pEr (kp s).1 = 0 → pEr s = 0) (s : PST) (h : pEr (siP K kp s).1 = 0) : pEr s = 0 := by
  unfold siP at h
  rw [nnP_er] at h
  have h2 : pEr (kp (ntP K 400 s).1).1 = 0 := by
    have h : pEr (if (ntP K 400 s).2 % 2 = 1 then stP 15 0 (kp (ntP K 400 s).1).1 else (kp (ntP K 400 s).1).1) = 0 := h
    split at h
    · exact stP_er0 h
    · exact h
  exact ntP_er0 400 s (hk _ h2)
theorem cmP_er0 {K : TKS} {sm : PST → PST × Nat} (hs : ∀ s, pEr (sm s).1 = 0 → pEr s = 0) (s : PST) (h : pEr (cmP K sm s).1 = 0) : pEr s = 0 := hs _ (tkP_er (hs _ (stP_er0 (noP_er0 h)))).1
theorem kpP_er0 {K : TKS} {sub : Option (PST → PST × Nat)} {sm : PST → PST × Nat} (hs : ∀ f, sub = some f → ∀ s, pEr (f s).1 = 0 → pEr s = 0) (hm : ∀ s, pEr (sm s).1 = 0 → pEr s = 0) (s : PST) (h : pEr (kpP K sub sm s).1 = 0) : pEr s = 0 := by
  unfold kpP at h
  split at h
  · cases sub with
    | none =>
      rename_i z
      exact absurd z.2 (by decide)
    | some f => exact (tkP_er (hs f rfl _ (tkP_er h).1)).1
  · split at h
    · exact lkP_er0 h
    · exact cmP_er0 hm s h
theorem teF_er0 {K : TKS} {sub : Option (PST → PST × Nat)} {sm : PST → PST × Nat} (hs : ∀ f, sub = some f → ∀ s, pEr (f s).1 = 0 → pEr s = 0) (hm : ∀ s, pEr (sm s).1 = 0 → pEr s = 0) (s : PST) (h : pEr (teF K sub sm s).1 = 0) : pEr s = 0 := opP_er0 (fun s h => opP_er0 (fun s h => siP_er0 (fun s h => kpP_er0 hs hm s h) s h) s h) s h
theorem teP_er0 {K : TKS} : ∀ (b : Nat) (s : PST), pEr (teP K b s).1 = 0 → pEr s = 0
  | 0, s, h => teF_er0 (sub := none) (fun _ e => nomatch e) (smP_er0 0) s h
  | b + 1, s, h => teF_er0 (fun f e s h => by
    cases e
    exact teP_er0 b s h) (smP_er0 (b + 1)) s h
section RME
variable {G : GT} {d : Nat} {h0 h : AH} {m : Nat} {K : TKS} {T : List Nat} {L : Nat → Nat} {s : PST} {dp : Nat} {g : GCT} {no : Nat}

end RME
