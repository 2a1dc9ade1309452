/-! the reference's rules -/
section RMJ
variable {G : GT} {d : Nat} {h0 h : AH} {m : Nat} {K : TKS} {T : List Nat} {L : Nat → Nat} {s : PST} {dp : Nat} {g : GCT} {no : Nat} {P : OC → AH → Prop}
/-- the rules' rows -/
def RuX (h : AH) (m : Nat) (s : PST) (ru : Nat) : Prop := NiX h (m + 28 + 8) 25 (okc s ru) (fun r => rTf (pBk s) r) ∧ NiX h (m + 28 + 9) 25 (okc s ru) (fun r => rTe (pBk s) r) ∧ NiX h (m + 28 + 10) 25 (okc s ru) (fun r => rFa (pBk s) r) ∧ NiX h (m + 28 + 11) 25 (okc s ru) (fun r => rBa (pBk s) r)
abbrev gRu (g : GCT) (ru : Nat) : GCT := (g.1, g.2.1, g.2.2.1, ru, g.2.2.2.2)
/-- rules are read -/
def RrM (h0 h : AH) (m : Nat) (K : TKS) (T : List Nat) (L : Nat → Nat) (s : PST) (g : GCT) (no : Nat) : Prop := RaM h h m K T L s g no ∧ RuX h m s g.2.2.2.1 ∧ (pEr s = 0 → g.2.2.2.1 = bRs (pBk s)) ∧ g.2.2.2.1 ≤ 24 ∧ Uy h0 h m (m + 28 + 8)
theorem RuX.fin {H : AH} {s' : PST} {ru : Nat} {f1 f2 f3 f4 : Nat → Int32} {x1 x2 x3 x4 : Int32} {x : Nat × Nat × Nat × Nat} (c1 : ∀ k, k < okc s ru → f1 k = nI (rTf (pBk s) k)) (c2 : ∀ k, k < okc s ru → f2 k = nI (rTe (pBk s) k)) (c3 : ∀ k, k < okc s ru → f3 k = nI (rFa (pBk s) k)) (c4 : ∀ k, k < okc s ru → f4 k = nI (rBa (pBk s) k)) (a1 : At H (m + 28 + 8) (.inl (0, 25, .inl (upd f1 ru x1)))) (a2 : At H (m + 28 + 9) (.inl (0, 25, .inl (upd f2 ru x2)))) (a3 : At H (m + 28 + 10) (.inl (0, 25, .inl (upd f3 ru x3)))) (a4 : At H (m + 28 + 11) (.inl (0, 25, .inl (upd f4 ru x4)))) (hs : pEr s' = 0 → pEr s = 0 ∧ ru < 24 ∧ nRu (pBk s') = upN (nRu (pBk s)) ru x ∧ x1 = nI x.1 ∧ x2 = nI x.2.1 ∧ x3 = nI x.2.2.1 ∧ x4 = nI x.2.2.2) : RuX H m s' (min 24 (ru + 1)) := by
  by_cases z : pEr s' = 0
  · obtain ⟨z0, z1, z2, y1, y2, y3, y4⟩ := hs z
    have e1 : okc s' (min 24 (ru + 1)) = ru + 1 := by
      unfold okc
      rw [if_pos z]
      omega
    have e2 : okc s ru = ru := if_pos z0
    rw [e2] at c1 c2 c3 c4
    unfold RuX NiX
    unfold rTf rTe rFa rBa
    unfold rTf at c1
    unfold rTe at c2
    unfold rFa at c3
    unfold rBa at c4
    rw [e1, z2]
    have ue : upN (nRu (pBk s)) ru x ru = x := if_pos rfl
    have un : ∀ k, k ≠ ru → upN (nRu (pBk s)) ru x k = nRu (pBk s) k := fun k hk => if_neg hk
    refine ⟨⟨_, a1, fun k hk => ?_⟩, ⟨_, a2, fun k hk => ?_⟩, ⟨_, a3, fun k hk => ?_⟩, ⟨_, a4, fun k hk => ?_⟩⟩
    · show (if k = ru then x1 else f1 k) = nI (upN (nRu (pBk s)) ru x k).1
      by_cases q : k = ru
      · rw [q, if_pos rfl, ue, y1]
      · rw [if_neg q, un k q]
        exact c1 k (by omega)
    · show (if k = ru then x2 else f2 k) = nI (upN (nRu (pBk s)) ru x k).2.1
      by_cases q : k = ru
      · rw [q, if_pos rfl, ue, y2]
      · rw [if_neg q, un k q]
        exact c2 k (by omega)
    · show (if k = ru then x3 else f3 k) = nI (upN (nRu (pBk s)) ru x k).2.2.1
      by_cases q : k = ru
      · rw [q, if_pos rfl, ue, y3]
      · rw [if_neg q, un k q]
        exact c3 k (by omega)
    · show (if k = ru then x4 else f4 k) = nI (upN (nRu (pBk s)) ru x k).2.2.2
      by_cases q : k = ru
      · rw [q, if_pos rfl, ue, y4]
      · rw [if_neg q, un k q]
        exact c4 k (by omega)
  · exact ⟨⟨_, a1, fun k hk => absurd hk (okc_0 z)⟩, ⟨_, a2, fun k hk => absurd hk (okc_0 z)⟩, ⟨_, a3, fun k hk => absurd hk (okc_0 z)⟩, ⟨_, a4, fun k hk => absurd hk (okc_0 z)⟩⟩

end RMJ
