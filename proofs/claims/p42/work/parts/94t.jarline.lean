/-! the reference's lines: a jar's line as a whole -/
section RMT
variable {G : GT} {d : Nat} {h0 h h1 hA : AH} {m : Nat} {K : TKS} {T : List Nat} {L : Nat → Nat} {s s1 t a b c : PST} {dp : Nat} {g g1 : GCT} {no no1 : Nat} {P : OC → AH → Prop}
theorem NiX.add {h : AH} {a n c : Nat} {f0 : Nat → Int32} {f : Nat → Nat} {v : Int32} {k z w : Nat} {s s' : PST} (c1 : ∀ j, j < okc s k → f0 j = nI (f j)) (a1 : At h a (.inl (0, n, .inl (upd f0 z v)))) (es : pEr s' = 0 → pEr s = 0 ∧ z = k ∧ v = nI w ∧ c = k + 1) : NiX h a n (okc s' c) (upN f k w) := by
  refine ⟨_, a1, fun j hj => ?_⟩
  by_cases q : pEr s' = 0
  · obtain ⟨e1, e2, e3, e4⟩ := es q
    have e5 : okc s' c = k + 1 := by
      unfold okc
      rw [if_pos q, e4]
    have e6 : okc s k = k := if_pos e1
    rw [e5] at hj
    rw [e6] at c1
    show (if j = z then v else f0 j) = nI (if j = k then w else f j)
    rw [e2, e3]
    by_cases y : j = k
    · rw [if_pos y, if_pos y]
    · rw [if_neg y, if_neg y]
      exact c1 j (by omega)
  · exact absurd hj (okc_0 q)

end RMT
