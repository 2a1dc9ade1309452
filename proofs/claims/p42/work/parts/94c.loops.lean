/-! the reference reads products, sums, tests -/
theorem stP_po {kd n : Nat} {s : PST} : pPo (stP kd n s) = pPo s := pPo_up
theorem lpP_po {K : TKS} {op : Nat → Bool} {x : PST → PST × Nat} (hx : ∀ s, pPo s ≤ pPo (x s).1) : ∀ (n : Nat) (q : PST × Nat), pPo q.1 ≤ pPo (lpP K op x n q).1
  | 0, _ => Nat.le_refl _
  | n + 1, q => by
    unfold lpP
    split
    · refine Nat.le_trans ?_ (lpP_po hx n _)
      show pPo q.1 ≤ pPo (noP _ _ _ (stP _ _ _))
      rw [noP_po, stP_po]
      exact Nat.le_trans tkP_po.1 (hx _)
    · exact Nat.le_refl _
theorem opP_po {K : TKS} {op : Nat → Bool} {x : PST → PST × Nat} (hx : ∀ s, pPo s ≤ pPo (x s).1) (s : PST) : pPo s ≤ pPo (opP K op x s).1 := Nat.le_trans (hx s) (lpP_po hx 400 _)
theorem lkP_po {K : TKS} {w : Nat} {s : PST} : pPo s ≤ pPo (lkP K w s).1 := by
  show pPo s ≤ pPo (noP _ _ _ (tkP K 39 (stP _ _ (rpO _ _))))
  rw [noP_po]
  refine Nat.le_trans ?_ tkP_po.1
  rw [stP_po, rpO_po]
  exact tkP_po.1
theorem atP_po {K : TKS} {sub : Option (PST → PST × Nat)} (hs : ∀ f, sub = some f → ∀ s, pPo s ≤ pPo (f s).1) (s : PST) : pPo s ≤ pPo (atP K sub s).1 := by
  unfold atP
  split
  · cases sub with
    | none =>
      rename_i z
      exact absurd z.2 (by decide)
    | some f => exact Nat.le_trans (Nat.le_trans tkP_po.1 (hs f rfl _)) tkP_po.1
  · split
    · exact lkP_po
    · split
      · show pPo s ≤ pPo (noP _ _ _ (tkP K _ (stP _ _ s)))
        rw [noP_po]
        exact Nat.le_trans (Nat.le_of_eq stP_po.symm) tkP_po.1
      · show pPo s ≤ pPo (noP _ _ _ (tkP K _ (stP _ _ s)))
        rw [noP_po]
        exact Nat.le_trans (Nat.le_of_eq stP_po.symm) tkP_po.1
theorem smF_po {K : TKS} {sub : Option (PST → PST × Nat)} (hs : ∀ f, sub = some f → ∀ s, pPo s ≤ pPo (f s).1) (s : PST) : pPo s ≤ pPo (smF K sub s).1 := opP_po (fun s => opP_po (fun s => atP_po hs s) s) s
theorem smP_po {K : TKS} : ∀ (b : Nat) (s : PST), pPo s ≤ pPo (smP K b s).1
  | 0, s => smF_po (sub := none) (fun _ e => nomatch e) s
  | b + 1, s => smF_po (fun f e s => by
    cases e
    exact smP_po b s) s
theorem ntP_po {K : TKS} : ∀ (n : Nat) (s : PST), pPo s ≤ pPo (ntP K n s).1
  | 0, _ => Nat.le_refl _
  | n + 1, s => by
    unfold ntP
    split
    · exact Nat.le_trans tkP_po.1 (ntP_po n _)
    · exact Nat.le_refl _
theorem nnP_po : ∀ (n : Nat) (q : PST × Nat), pPo (nnP n q).1 = pPo q.1
  | 0, _ => rfl
  | n + 1, q => by
    show pPo (noP _ _ _ _) = _
    rw [noP_po]
    exact nnP_po n q
theorem siP_po {K : TKS} {kp : PST → PST × Nat} (hk : ∀ s, pPo s ≤ pPo (kp s).1) (s : PST) : pPo s ≤ pPo (siP K kp s).1 := by
  unfold siP
  rw [nnP_po]
  have := Nat.le_trans (ntP_po (K := K) 400 s) (hk _)
  show pPo s ≤ pPo (if _ then _ else _)
  split
  · rw [stP_po]
    exact this
  · exact this
theorem cmP_po {K : TKS} {sm : PST → PST × Nat} (hs : ∀ s, pPo s ≤ pPo (sm s).1) (s : PST) : pPo s ≤ pPo (cmP K sm s).1 := by
  show pPo s ≤ pPo (noP _ _ _ (stP _ _ _))
  rw [noP_po, stP_po]
  exact Nat.le_trans (Nat.le_trans (hs s) tkP_po.1) (hs _)
theorem kpP_po {K : TKS} {sub : Option (PST → PST × Nat)} {sm : PST → PST × Nat} (hs : ∀ f, sub = some f → ∀ s, pPo s ≤ pPo (f s).1) (hm : ∀ s, pPo s ≤ pPo (sm s).1) (s : PST) : pPo s ≤ pPo (kpP K sub sm s).1 := by
  unfold kpP
  split
  · cases sub with
    | none =>
      rename_i z
      exact absurd z.2 (by decide)
    | some f => exact Nat.le_trans (Nat.le_trans tkP_po.1 (hs f rfl _)) tkP_po.1
  · split
    · exact lkP_po
    · exact cmP_po hm s
theorem teF_po {K : TKS} {sub : Option (PST → PST × Nat)} {sm : PST → PST × Nat} (hs : ∀ f, sub = some f → ∀ s, pPo s ≤ pPo (f s).1) (hm : ∀ s, pPo s ≤ pPo (sm s).1) (s : PST) : pPo s ≤ pPo (teF K sub sm s).1 := opP_po (fun s => opP_po (fun s => siP_po (fun s => kpP_po hs hm s) s) s) s
theorem teP_po {K : TKS} : ∀ (b : Nat) (s : PST), pPo s ≤ pPo (teP K b s).1
  | 0, s => teF_po (sub := none) (fun _ e => nomatch e) (smP_po 0) s
  | b + 1, s => teF_po (fun f e s => by
    cases e
    exact teP_po b s) (smP_po (b + 1)) s
/-- nothing is read behind the wrong token -/
theorem at_w {K : TKS} {sub : Option (PST → PST × Nat)} {s : PST} (e : pEr s = 1) : (atP K sub s).1 = s := by
  have k : kdP K s = 42 := if_pos e
  have ne : ¬ pEr s = 0 := by omega
  unfold atP
  rw [if_neg (by omega), if_neg (by omega), if_neg (by omega)]
  show noP _ _ _ (tkP K 40 (stP _ _ s)) = s
  have e2 : stP 40 (vaP K s) s = s := upP_n ne
  rw [e2, tkP_1 e]
  exact upP_n ne
theorem lp_w {K : TKS} {op : Nat → Bool} (h42 : op 42 = false) {x : PST → PST × Nat} {q : PST × Nat} (e : pEr q.1 = 1) : ∀ n, lpP K op x n q = q
  | 0 => rfl
  | n + 1 => by
    unfold lpP
    rw [show kdP K q.1 = 42 from if_pos e, h42]
    rfl
theorem sm_w {K : TKS} : ∀ (b : Nat) {s : PST}, pEr s = 1 → (smP K b s).1 = s
  | b, s, e => by
    have go : ∀ sub, (smF K sub s).1 = s := fun sub => by
      have e1 : (pdP K sub s).1 = s := by
        unfold pdP opP
        rw [lp_w rfl (by rw [at_w e]; exact e), at_w e]
      unfold smF opP
      rw [lp_w rfl (by rw [e1]; exact e), e1]
    cases b with
    | zero => exact go none
    | succ b => exact go (some (smP K b))
section RMD
variable {G : GT} {d : Nat} {h0 h : AH} {m : Nat} {K : TKS} {T : List Nat} {L : Nat → Nat} {s : PST} {dp : Nat} {g : GCT} {no : Nat}
theorem RxM.last (rx : RxM h0 h m K T L s dp g no) (h4 : 400 ≤ pPo s) : ¬ kdP K s < 41 := fun z => by
  have h1 := (rx.nx z).1
  have h2 := rx.2.2.2.2.2.2.2.2.2.2.2.2.1.2.2.2.2.2.2.1
  omega

end RMD
