/-! what was drawn against what was read -/
section F0
variable {la e : Nat} {js : List EJa} {ls : List ELi} {dd : DRF}
theorem DrS.mt (h : DrS la js ls dd) : MtB la js ls dd.1 (dyN dd) := ⟨h.1.1, h.1.2.1, h.1.2.2, rfl, fun _ => rfl, fun j hj => ⟨(h.2.2.1 j hj).2.1, (h.2.2.1 j hj).2.2.1, (h.2.2.1 j hj).2.2.2⟩, fun i hi => ⟨(h.2.2.2.2.1 i hi).2.2.1, (h.2.2.2.2.1 i hi).2.1⟩⟩
theorem DrS.li (h : DrS la js ls dd) : ∀ i, i < bLi dd.1 → LiAt dd.1 i (rsA ls i) := by
  intro i hi
  rw [h.1.2.2] at hi
  rw [rsA_at hi]
  exact (h.2.2.2.2.1 i hi).2.2.2
theorem DrS.ru (h : DrS la js ls dd) (ok : okB e la js ls) (r2 : ∀ x ∈ ls, x.2.2.length ≤ 2) : ∀ i, i < bLi dd.1 → (rsA ls i).length ≤ 2 ∧ ∀ e ∈ rsA ls i, okRu (bLa dd.1) (bJa dd.1) e := by
  intro i hi
  rw [h.1.2.2] at hi
  rw [rsA_at hi, h.1.1, h.1.2.1]
  exact ⟨r2 _ (List.getElem_mem hi), (ok.2.2.2.2.2 _ (List.getElem_mem hi)).2.2⟩
end F0
