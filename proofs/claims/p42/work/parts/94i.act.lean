/-! the reference's acts, one after another -/
section RMI
variable {G : GT} {d : Nat} {h0 h : AH} {m : Nat} {K : TKS} {T : List Nat} {L : Nat → Nat} {s : PST} {dp : Nat} {g : GCT} {no : Nat}

theorem so_act {k : Nat} (hk : k < 43) (h : 9 ≤ soK k ∧ soK k ≤ 14) (h2 : soK k ≠ 10) : k = 9 ∨ k = 11 ∨ k = 12 ∨ k = 13 ∨ k = 14 := by
  have key : (List.range 43).all (fun k => decide (9 ≤ soK k ∧ soK k ≤ 14 → soK k ≠ 10 → k = 9 ∨ k = 11 ∨ k = 12 ∨ k = 13 ∨ k = 14)) = true := by decide +kernel
  exact of_decide_eq_true (List.all_eq_true.mp key k (List.mem_range.mpr hk)) h h2
theorem abP_po : pPo (abP s) = pPo s := by
  unfold abP
  rw [pPo_up]
  split
  · exact rpP_po
  · rfl
theorem abP_er1 (h : pEr s ≠ 1) : pEr (abP s) ≠ 1 := by
  unfold abP
  rw [pEr_up]
  split
  · unfold rpP
    split
    · exact (by decide : (4 : Nat) ≠ 1)
    · exact h
  · exact h
theorem abP_kd (h : pEr s ≠ 1) : kdP K (abP s) = kdP K s := by
  unfold kdP
  rw [if_neg h, if_neg (abP_er1 h), abP_po]
theorem abP_eq (h : nAn (pBk s) < 60) : abP s = upP acD s := by
  unfold abP
  rw [if_neg (by omega)]
theorem abP_0 (h : pEr (abP s) = 0) : pEr s = 0 ∧ nAn (pBk s) < 60 ∧ nAn (pBk (abP s)) = nAn (pBk s) + 1 ∧ nAc (pBk (abP s)) = nAc (pBk s) := by
  by_cases z : 60 ≤ nAn (pBk s)
  · unfold abP at h
    rw [if_pos z] at h
    exact (rpP_er (by decide) (upP_er0 h)).elim
  · rw [abP_eq (by omega)] at h ⊢
    have h2 := upP_er0 h
    rw [upP_e h2]
    exact ⟨h2, by omega, rfl, rfl⟩
theorem Eqv.ab : Eqv (upP acD s) s := Eqv.up (f := acD) (fun _ => ⟨rfl, rfl⟩) s
theorem RaM.er {s1 : PST} (rx : RxM h h m K T L s1 0 g no) {s2 : PST} (e : Eqv s1 s2) (e1 : pEr s1 ≠ 0) (ax : AcX h m s g.2.2.2.2.1) (h60 : g.2.2.2.2.1 ≤ 60) (u : Uy h0 h m (m + 28 + 12)) : RaM h0 h m K T L s2 g no := ⟨rx.eqv e, ax.to (fun _ _ a _ _ => a) (fun z => absurd (e.2.1.trans z) e1), fun z => absurd (e.2.1.trans z) e1, h60, u⟩
theorem ac_bad (e1 : pEr s ≠ 1) (h : ¬ (kdP K s = 9 ∨ kdP K s = 11 ∨ kdP K s = 12 ∨ kdP K s = 13 ∨ kdP K s = 14)) : Eqv (wrP s) (acP K s) := by
  have e : acP K s = aoP K (kdP K s) (nAn (pBk s)) (abP s) := by
    unfold acP
    rw [if_neg (by omega), if_neg (by omega), if_neg (by omega)]
  rw [e]
  have ks : kdP K (stP (kdP K s) 0 (abP s)) = kdP K s := by
    rw [(Eqv.st _).kd]
    exact abP_kd e1
  have e2 : aoP K (kdP K s) (nAn (pBk s)) (abP s) = upP (arD (nAn (pBk s)) (kdP K s, 0, 0, 0)) (wrP (stP (kdP K s) 0 (abP s))) := by
    unfold aoP
    rw [if_neg (by omega), tkP_wr (by rw [ks]; omega)]
  rw [e2]
  refine Eqv.trans ?_ (Eqv.ar _).symm
  unfold wrP
  have n1 : pEr (stP (kdP K s) 0 (abP s)) ≠ 1 := by
    unfold stP
    rw [pEr_up]
    exact abP_er1 e1
  rw [if_neg e1, if_neg n1, stP_po, abP_po]
  exact Eqv.mk2 (fun z => absurd z (by decide))

theorem if_same {p : Prop} {dp : Decidable p} {α : Type} (a : α) : (if p then a else a) = a := by
  split <;> rfl
end RMI
