/-! the reference's acts -/
theorem nI_minN {a b : Nat} (ha : a < 2147483648) (hb : b < 2147483648) : (if nI b < nI a then nI b else nI a) = nI (min a b) := by
  by_cases e : b < a
  · rw [if_pos ((nI_ltI hb ha).mpr e), Nat.min_eq_right (by omega)]
  · rw [if_neg (fun z => e ((nI_ltI hb ha).mp z)), Nat.min_eq_left (by omega)]
section RMH
variable {G : GT} {d : Nat} {h0 h : AH} {m : Nat} {K : TKS} {T : List Nat} {L : Nat → Nat} {s : PST} {dp : Nat} {g : GCT} {no : Nat}
theorem AcX.fin {H : AH} {s' : PST} {ac : Nat} {f1 f2 f3 f4 g2 g4 : Nat → Int32} {x1 x3 : Int32} {x : Nat × Nat × Nat × Nat} (c1 : ∀ k, k < okc s ac → f1 k = nI (aDo (pBk s) k)) (c2 : ∀ k, k < okc s ac → (aDo (pBk s) k = 9 ∨ aDo (pBk s) k = 11 ∨ aDo (pBk s) k = 13) → f2 k = nI (aWh (pBk s) k)) (c3 : ∀ k, k < okc s ac → aDo (pBk s) k = 9 → f3 k = nI (aSf (pBk s) k)) (c4 : ∀ k, k < okc s ac → aDo (pBk s) k = 9 → f4 k = nI (aSu (pBk s) k)) (a1 : At H (m + 28 + 12) (.inl (0, 61, .inl (upd f1 ac x1)))) (a2 : At H (m + 28 + 13) (.inl (0, 61, .inl g2))) (a3 : At H (m + 28 + 14) (.inl (0, 61, .inl (upd f3 ac x3)))) (a4 : At H (m + 28 + 15) (.inl (0, 61, .inl g4))) (hs : pEr s' = 0 → pEr s = 0 ∧ ac < 60 ∧ nAc (pBk s') = upN (nAc (pBk s)) ac x ∧ x1 = nI x.1 ∧ ((x.1 = 9 ∨ x.1 = 11 ∨ x.1 = 13) → g2 ac = nI x.2.1) ∧ (x.1 = 9 → x3 = nI x.2.2.1 ∧ g4 ac = nI x.2.2.2)) (g2o : ∀ k, k < ac → g2 k = f2 k) (g4o : ∀ k, k < ac → g4 k = f4 k) : AcX H m s' (min 60 (ac + 1)) := by
  by_cases z : pEr s' = 0
  · obtain ⟨z0, z1, z2, z3, z4, z5⟩ := hs z
    have e1 : okc s' (min 60 (ac + 1)) = ac + 1 := by
      unfold okc
      rw [if_pos z]
      omega
    have e2 : okc s ac = ac := if_pos z0
    rw [e2] at c1 c2 c3 c4
    unfold AcX NiX
    unfold aDo aWh aSf aSu
    unfold aDo at c1
    unfold aDo aWh at c2
    unfold aDo aSf at c3
    unfold aDo aSu at c4
    rw [e1, z2]
    have ue : upN (nAc (pBk s)) ac x ac = x := if_pos rfl
    have un : ∀ k, k ≠ ac → upN (nAc (pBk s)) ac x k = nAc (pBk s) k := fun k hk => if_neg hk
    refine ⟨⟨_, a1, fun k hk => ?_⟩, ⟨_, a2, fun k hk => ?_⟩, ⟨_, a3, fun k hk => ?_⟩, ⟨_, a4, fun k hk => ?_⟩⟩
    · by_cases q : k = ac
      · subst q
        show (if k = k then x1 else f1 k) = nI (upN (nAc (pBk s)) k x k).1
        rw [if_pos rfl, ue, z3]
      · show (if k = ac then x1 else f1 k) = nI (upN (nAc (pBk s)) ac x k).1
        rw [if_neg q, un k q]
        exact c1 k (by omega)
    · by_cases q : k = ac
      · subst q
        rw [ue]
        exact z4
      · rw [un k q, g2o k (by omega)]
        exact c2 k (by omega)
    · by_cases q : k = ac
      · subst q
        rw [ue]
        intro w
        show (if k = k then x3 else f3 k) = _
        rw [if_pos rfl]
        exact (z5 w).1
      · rw [un k q]
        show _ → (if k = ac then x3 else f3 k) = _
        rw [if_neg q]
        exact c3 k (by omega)
    · by_cases q : k = ac
      · subst q
        rw [ue]
        exact fun w => (z5 w).2
      · rw [un k q, g4o k (by omega)]
        exact c4 k (by omega)
  · exact ⟨⟨_, a1, fun k hk => absurd hk (okc_0 z)⟩, ⟨_, a2, fun k hk => absurd hk (okc_0 z)⟩, ⟨_, a3, fun k hk => absurd hk (okc_0 z)⟩, ⟨_, a4, fun k hk => absurd hk (okc_0 z)⟩⟩
theorem Eqv.ar {k : Nat} {x : Nat × Nat × Nat × Nat} (s : PST) : Eqv (upP (arD k x) s) s := Eqv.up (f := arD k x) (fun _ => ⟨rfl, rfl⟩) s

end RMH
