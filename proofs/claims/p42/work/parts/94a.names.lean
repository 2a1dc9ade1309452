/-! the reference looks names up -/
section RMB
variable {G : GT} {d : Nat} {h0 h : AH} {m : Nat} {K : TKS} {T : List Nat} {L : Nat → Nat} {s : PST} {dp : Nat} {g : GCT} {no : Nat}

theorem RxM.k39 (rx : RxM h0 h m K T L s dp g no) (e : kdP K s = 39) : K.2.1 (pPo s) = 39 := by
  have e2 : kdP K s = kdT K (pPo s) := if_neg (rx.nx (by omega)).2
  rw [e2, rx.ne42.1] at e
  exact e

/-- what a name behind a word is: a label (0), a jar (1) -/
def nbO (K : TKS) (w : Nat) (s : PST) : Option Nat := if w = 0 then lbO K s else jbO K s
theorem nm_is {w nm : Nat} (hw : w = 0 ∨ w = 1) {t kd nu : Nat → Nat} (hp : NmP K nm t kd nu (nmN (pDf s))) : (∀ i, nbO K w s = some i → ∃ k, fnN (fun k => vvT K (t k)) (vaP K s) nm = some k ∧ k < nm ∧ kd k = w ∧ nu k = i) ∧ (nbO K w s = none → ∀ k, fnN (fun k => vvT K (t k)) (vaP K s) nm = some k → kd k ≠ w) := by
  obtain ⟨hn, p1, p2, p3, p4, p5⟩ := hp
  have go : ∀ i k0, k0 < nm → nu k0 = i → kd k0 = w → vvT K (t k0) = vaP K s → ∃ k, fnN (fun k => vvT K (t k)) (vaP K s) nm = some k ∧ k < nm ∧ kd k = w ∧ nu k = i := fun i k0 h1 h2 h3 h4 => ⟨k0, fnN_first (f := fun k => vvT K (t k)) (i := k0) h4 (fun k hk z => by
    have := p5 k k0 (by omega) h1 (by rw [h4]; exact z)
    omega) h1, h1, h3, h2⟩
  rcases hw with rfl | rfl
  · have eo : nbO K 0 s = lbO K s := rfl
    refine ⟨fun i hi => ?_, fun hn2 k hk z => ?_⟩
    · rw [eo] at hi
      obtain ⟨f1, f2, -⟩ := fnN_some hi
      obtain ⟨k0, q1, q2, q3⟩ := p2 i f1
      have q4 := p1 k0 q1
      refine go i k0 q1 q3 q2 ?_
      rcases q4 with q | q | q
      · rw [← q.2.2, q3]
        exact f2
      · omega
      · omega
    · rw [eo] at hn2
      obtain ⟨f1, f2, -⟩ := fnN_some hk
      rcases p1 k f1 with q | q | q
      · exact fnN_none.mp hn2 _ q.2.1 (q.2.2.trans f2)
      · omega
      · omega
  · have eo : nbO K 1 s = jbO K s := rfl
    refine ⟨fun i hi => ?_, fun hn2 k hk z => ?_⟩
    · rw [eo] at hi
      obtain ⟨f1, f2, -⟩ := fnN_some hi
      obtain ⟨k0, q1, q2, q3⟩ := p3 i f1
      have q4 := p1 k0 q1
      refine go i k0 q1 q3 q2 ?_
      rcases q4 with q | q | q
      · omega
      · rw [← q.2.2, q3]
        exact f2
      · omega
    · rw [eo] at hn2
      obtain ⟨f1, f2, -⟩ := fnN_some hk
      rcases p1 k f1 with q | q | q
      · omega
      · exact fnN_none.mp hn2 _ q.2.1 (q.2.2.trans f2)
      · omega

theorem Eqv.nm {w : Nat} {s : PST} (e : kdP K s ≠ 39) : Eqv (tkP K 39 s) (tkP K 39 (rpO (nbO K w s) s)) := by
  have k : ∀ o : Option Nat, kdP K (rpO o s) = kdP K s := fun o => by
    unfold rpO rpP kdP
    by_cases z : o = none
    · rw [if_pos z]
      by_cases z2 : pEr s = 0
      · rw [if_pos z2, if_neg (show ¬ (3 : Nat) = 1 by decide), if_neg (by omega)]
      · rw [if_neg z2]
    · rw [if_neg z]
  rw [tkP_wr e, tkP_wr (by rw [k]; exact e)]
  unfold rpO
  by_cases z : nbO K w s = none
  · rw [if_pos z]
    unfold rpP
    by_cases z2 : pEr s = 0
    · rw [if_pos z2]
      unfold wrP
      rw [if_neg (by omega), if_neg (show ¬ (3 : Nat) = 1 by decide)]
      exact Eqv.mk2 (fun q => absurd q (by decide))
    · rw [if_neg z2]
      exact Eqv.rf _
  · rw [if_neg z]
    exact Eqv.rf _

end RMB
