/-! the reference reads values -/
theorem pPo_up {f : DRF → DRF} {s : PST} : pPo (upP f s) = pPo s := by
  unfold upP
  split <;> rfl
theorem pEr_up {f : DRF → DRF} {s : PST} : pEr (upP f s) = pEr s := by
  unfold upP
  split <;> rfl
theorem pEt_up {f : DRF → DRF} {s : PST} : pEt (upP f s) = pEt s := by
  unfold upP
  split <;> rfl
theorem tkP_po {K : TKS} {w : Nat} {s : PST} : pPo s ≤ pPo (tkP K w s) ∧ pPo (tkP K w s) ≤ pPo s + 1 := by
  unfold tkP
  split
  · exact ⟨Nat.le_refl _, Nat.le_succ _⟩
  · split
    · exact ⟨Nat.le_succ _, Nat.le_refl _⟩
    · exact ⟨Nat.le_refl _, Nat.le_succ _⟩
theorem rpP_po {n : Nat} {s : PST} : pPo (rpP n s) = pPo s := by
  unfold rpP
  split <;> rfl
theorem rpO_po {o : Option Nat} {s : PST} : pPo (rpO o s) = pPo s := by
  unfold rpO
  split
  · exact rpP_po
  · rfl
section RMC
variable {G : GT} {d : Nat} {h0 h : AH} {m : Nat} {K : TKS} {T : List Nat} {L : Nat → Nat} {s : PST} {dp : Nat} {g : GCT} {no : Nat}
/-- a method that reads: f is what it does -/
def ExM (G : GT) (M : MI) (d : Nat) (LC : List (Option Value)) (h0 : AH) (m : Nat) (K : TKS) (T : List Nat) (L : Nat → Nat) (dp : Nat) (g : GCT) (f : PST → PST × Nat) : Prop := ∀ h s no, RxM h0 h m K T L s dp g no → RQ G M d 0 LC [] h (Ri fun v h1 => ∃ n1, RxM h0 h1 m K T L (f s).1 dp g n1 ∧ (pEr (f s).1 = 0 → v = nI (f s).2) ∧ n1 + pPo s ≤ no + pPo (f s).1)
theorem RxM.next (rx : RxM h0 h m K T L s dp g no) {th by_ : Int32} {ea : Int32 × Int32} (a0 : At h m (MrO m s dp g.2.2.2.2.2 th by_ ea)) (e : kdP K s < 41) : RxM h0 (hset h m (MrO m (pPo s + 1, pEr s, pEt s, pDf s) dp g.2.2.2.2.2 th by_ ea)) m K T L (pPo s + 1, pEr s, pEt s, pDf s) dp g no := by
  have pn := (rx.nx e).1
  obtain ⟨-, a1, ⟨q2, a2, c2⟩, ⟨q3, a3, c3⟩, ⟨q4, a4, c4⟩, b1, b2, b3, b4, b5, b6, u, tk, nm⟩ := rx
  exact ⟨⟨th, by_, ea, At.set_eq2 a0.1⟩, At.set_ne a1 (by omega), ⟨q2, At.set_ne a2 (by omega), c2⟩, ⟨q3, At.set_ne a3 (by omega), c3⟩, ⟨q4, At.set_ne a4 (by omega), c4⟩, b1, Nat.le_succ_of_le b2, pn, b4, b5, b6, u.set (Or.inl rfl), tk, nm⟩
theorem noP_po {so l r : Nat} {s : PST} : pPo (noP so l r s) = pPo s := pPo_up
theorem noP_er {so l r : Nat} {s : PST} : pEr (noP so l r s) = pEr s := pEr_up

theorem wrP_tk {k : Nat} {s s' : PST} (e : Eqv s s') (h : kdP K s ≠ k) : Eqv (wrP s) (tkP K k s') := by
  rw [tkP_wr (by rw [← e.kd]; exact h)]
  exact Eqv.wr e.1 e.2.1 e.2.2.1
theorem Eqv.now {so l r : Nat} {s s' : PST} (e : Eqv s s') (h : pEr s = 1) : Eqv s (noP so l r s') := by
  have z : ¬ pEr s' = 0 := by
    rw [← e.2.1, h]
    decide
  unfold noP
  rw [upP_n z]
  exact e

end RMC
