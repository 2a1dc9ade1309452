/-! the reference reads single tests and tests -/
section RMF
variable {G : GT} {d : Nat} {h0 h : AH} {m : Nat} {K : TKS} {T : List Nat} {L : Nat → Nat} {s : PST} {dp : Nat} {g : GCT} {no : Nat}

/-- a token with which no value begins -/
theorem at_bad {sub : Option (PST → PST × Nat)} (h : kdP K s = 29) : Eqv (wrP s) (atP K sub s).1 := by
  unfold atP
  rw [if_neg (by omega), if_neg (by omega), if_neg (by omega)]
  exact Eqv.now (wrP_tk (Eqv.st _).symm (by omega)) (wrP_er s)
theorem sm_bad {b : Nat} (h : kdP K s = 29) : Eqv (wrP s) (smP K b s).1 := by
  have go : ∀ sub, Eqv (wrP s) (smF K sub s).1 := fun sub => by
    have e0 := at_bad (K := K) (sub := sub) h
    have e1 : (pdP K sub s) = atP K sub s := by
      unfold pdP opP
      rw [lp_w rfl (e0.2.1.symm.trans (wrP_er s))]
    have e2 : smF K sub s = atP K sub s := by
      unfold smF opP
      rw [e1, lp_w rfl (e0.2.1.symm.trans (wrP_er s))]
    rw [e2]
    exact e0
  cases b with
  | zero => exact go none
  | succ b => exact go (some (smP K b))
theorem cm_1 {b : Nat} {s1 : PST} (h : pEr (smP K b s).1 = 1) (e : Eqv s1 (smP K b s).1) : Eqv s1 (cmP K (smP K b) s).1 := by
  unfold cmP
  rw [tkP_1 h, sm_w b h]
  show Eqv s1 (noP _ _ _ (stP _ _ _))
  exact Eqv.now (e.trans (Eqv.st _).symm) (e.2.1.trans h)
theorem cm_bad {b : Nat} (h : kdP K s = 29) : Eqv (wrP s) (cmP K (smP K b) s).1 := cm_1 ((sm_bad h).2.1.symm.trans (wrP_er s)) (sm_bad h)
theorem cm_no {b : Nat} (h : ¬ kdP K (smP K b s).1 = 33 ∧ ¬ kdP K (smP K b s).1 = 34 ∧ ¬ kdP K (smP K b s).1 = 35) : Eqv (wrP (smP K b s).1) (cmP K (smP K b) s).1 := by
  unfold cmP
  have e1 : sgW (kdP K (smP K b s).1) = 35 := if_neg (fun z => z.elim h.1 h.2.1)
  rw [e1, tkP_wr h.2.2, sm_w b (wrP_er _)]
  show Eqv _ (noP _ _ _ (stP _ _ _))
  exact Eqv.now (Eqv.st _).symm (wrP_er _)

theorem so_sign {k : Nat} (hk : k < 43) (h : 43 ≤ soK k ∧ soK k ≤ 45) : k = 33 ∨ k = 34 ∨ k = 35 := by
  have key : (List.range 43).all (fun k => decide (43 ≤ soK k ∧ soK k ≤ 45 → k = 33 ∨ k = 34 ∨ k = 35)) = true := by decide +kernel
  exact of_decide_eq_true (List.all_eq_true.mp key k (List.mem_range.mpr hk)) h

/-- a single test, without the class's step -/
def siN (K : TKS) (kp : PST → PST × Nat) (n : Nat) (s : PST) : PST × Nat := nnP (ntP K n s).2 (kp (ntP K n s).1)
theorem siN_po {kp : PST → PST × Nat} (hk : ∀ s, pPo s ≤ pPo (kp s).1) (n : Nat) (s : PST) : pPo s ≤ pPo (siN K kp n s).1 := by
  unfold siN
  rw [nnP_po]
  exact Nat.le_trans (ntP_po n s) (hk _)
theorem nnP_eqv : ∀ (n : Nat) (q q' : PST × Nat), Eqv q.1 q'.1 → q.2 = q'.2 → Eqv (nnP n q).1 (nnP n q').1 ∧ (pEr (nnP n q).1 = 0 → (nnP n q).2 = (nnP n q').2)
  | 0, q, q', e, e2 => ⟨e, fun _ => e2⟩
  | n + 1, q, q', e, e2 => by
    obtain ⟨f1, f2⟩ := nnP_eqv n q q' e e2
    have f3 : pEr (nnP n q).1 = 0 → nNo (pBk (nnP n q).1) = nNo (pBk (nnP n q').1) := fun z => by
      have := (f1.2.2.2 z).1
      injection this
    refine ⟨?_, fun z => ?_⟩
    · show Eqv (noP 15 (nnP n q).2 0 (nnP n q).1) (noP 15 (nnP n q').2 0 (nnP n q').1)
      by_cases z : pEr (nnP n q).1 = 0
      · rw [f2 z]
        exact Eqv.no f1
      · have z' : ¬ pEr (nnP n q').1 = 0 := fun w => z (f1.2.1.trans w)
        unfold noP
        rw [upP_n z, upP_n z']
        exact f1
    · exact f3 (noP_er0 z)
theorem siN_si {kp : PST → PST × Nat} : Eqv (siN K kp 400 s).1 (siP K kp s).1 ∧ (pEr (siN K kp 400 s).1 = 0 → (siN K kp 400 s).2 = (siP K kp s).2) := by
  refine nnP_eqv _ _ _ ?_ rfl
  show Eqv (kp (ntP K 400 s).1).1 (if _ then stP 15 0 (kp (ntP K 400 s).1).1 else (kp (ntP K 400 s).1).1)
  split
  · exact (Eqv.st _).symm
  · exact Eqv.rf _

end RMF
