/-! the reference reads numbers -/
section RMO
variable {G : GT} {d : Nat} {h0 h : AH} {m : Nat} {K : TKS} {T : List Nat} {L : Nat → Nat} {s : PST} {dp : Nat} {g : GCT} {no : Nat} {P : OC → AH → Prop}
theorem nu_wr {p : Prop} {dq : Decidable p} (ek : kdP K s ≠ 40) : Eqv (tkP K 40 s) (tkP K 40 (if p then rpP 5 s else s)) := by
  by_cases z : p
  · rw [if_pos z, tkP_wr ek, tkP_wr (by rw [rp_kd (by decide)]; exact ek)]
    by_cases y : pEr s = 0
    · unfold wrP rpP
      rw [if_pos y, if_neg (by omega), if_neg (show ¬ (5 : Nat) = 1 by decide)]
      exact Eqv.mk2 (fun q => absurd q (by decide))
    · rw [show rpP 5 s = s from if_neg y]
      exact Eqv.rf _
  · rw [if_neg z]
    exact Eqv.rf _
theorem rp_no {n : Nat} (h : pEr s ≠ 0) : rpP n s = s := if_neg h
theorem RxM.va (rx : RxM h0 h m K T L s dp g no) (ek : kdP K s = 40) : K.2.1 (pPo s) = 40 ∧ vaP K s = K.2.2.2 (pPo s) ∧ vaP K s ≤ 9999 := by
  have e2 : kdP K s = kdT K (pPo s) := if_neg (rx.nx (by omega)).2
  rw [e2, rx.ne42.1] at ek
  have b3 := rx.2.2.2.2.2.2.2.1
  have tw := rx.2.2.2.2.2.2.2.2.2.2.2.2.1.2.2.2.2.2
  have e3 : vaP K s = K.2.2.2 (pPo s) := if_pos b3
  exact ⟨ek, e3, by rw [e3]; exact tw.2.2.2.1 _ b3 ek⟩

theorem nI_rng {v hi : Nat} (hv : v ≤ 9999) (hh : hi ≤ 9999) : (nI 0 ≤ nI v ∧ nI v ≤ nI hi) ↔ v ≤ hi := ⟨fun z => (nI_leI (by omega) (by omega)).mp z.2, fun z => ⟨(nI_leI (by decide) (by omega)).mpr (Nat.zero_le _), (nI_leI (by omega) (by omega)).mpr z⟩⟩
theorem nI_m1 {v : Nat} (hv : v ≤ 9999) : ¬ (nI 0 ≤ nI v ∧ nI v ≤ (-1 : Int32)) := fun z => by
  have := z.2
  rw [ci_le_m1 (by omega)] at this
  exact this

end RMO
