/-! the reference reads all tokens: the end -/
section RTI
variable {G : GT} {d : Nat} {h : AH} {m : Nat} {T : List Nat} {x1 : Int32}

set_option maxHeartbeats 4000000 in
set_option maxRecDepth 100000 in
theorem s_mra65 (tp : TpM h m T) {k : Nat} (km : KmM h m T k) (hk : k ≤ 401) (c : cnK T = k ∨ (cnK T = k + 1 ∧ kkT T k = 41 ∧ stT T k = T.length)) : RQ G mX12_readAll d 65 [some (.ref m), some (.int x1), some (.int (nI k))] [] h (Rv fun h1 => KmM h1 m T (cnK T) ∧ Sm h h1 (m + 2) (m + 6)) := by
  obtain ⟨⟨th, ea, tk, iw, er, et, dp, nm, a0⟩, ⟨f, a1, hf⟩, l16, hT⟩ := id tp
  obtain ⟨⟨f2, a2, c2⟩, ⟨f3, a3, c3⟩, ⟨f4, a4, c4⟩, f5, a5, c5⟩ := id km
  have z2 := a2.1
  have z4 := a4.1
  refine tX12_readAll_65  (r := ?_)
  refine tX12_readAll_66 (ha := (by first | assumption | (repeat (first | assumption | exact At.set_eq2 (by first | omega | (simp only [hset, hnew]; omega) | rfl | decide) | exact At.new_eq2 _ _ (by first | omega | (simp only [hset, hnew]; omega) | rfl | decide) | refine At.set_ne ?_ (by first | omega | (simp only [hset, hnew]; omega) | rfl | decide) | refine At.new_ne ?_)))) (hv := rfl) (r := ?_)
  refine tX12_readAll_69  (r := ?_)
  refine tX12_readAll_70  (r := ?_)
  refine tX12_readAll_72 (ha := (by first | assumption | (repeat (first | assumption | exact At.set_eq2 (by first | omega | (simp only [hset, hnew]; omega) | rfl | decide) | exact At.new_eq2 _ _ (by first | omega | (simp only [hset, hnew]; omega) | rfl | decide) | refine At.set_ne ?_ (by first | omega | (simp only [hset, hnew]; omega) | rfl | decide) | refine At.new_ne ?_)))) (hx := rfl) (hj := (by omega)) (hn := (by decide)) (r := ?_)
  refine tX12_readAll_73  (r := ?_)
  refine tX12_readAll_74 (ha := (by first | assumption | (repeat (first | assumption | exact At.set_eq2 (by first | omega | (simp only [hset, hnew]; omega) | rfl | decide) | exact At.new_eq2 _ _ (by first | omega | (simp only [hset, hnew]; omega) | rfl | decide) | refine At.set_ne ?_ (by first | omega | (simp only [hset, hnew]; omega) | rfl | decide) | refine At.new_ne ?_)))) (hv := rfl) (r := ?_)
  refine tX12_readAll_77  (r := ?_)
  refine tX12_readAll_78  (r := ?_)
  refine tX12_readAll_79 (ha := (by first | assumption | (repeat (first | assumption | exact At.set_eq2 (by first | omega | (simp only [hset, hnew]; omega) | rfl | decide) | exact At.new_eq2 _ _ (by first | omega | (simp only [hset, hnew]; omega) | rfl | decide) | refine At.set_ne ?_ (by first | omega | (simp only [hset, hnew]; omega) | rfl | decide) | refine At.new_ne ?_)))) (hv := rfl) (r := ?_)
  refine tX12_readAll_82 (ha := (by first | assumption | (repeat (first | assumption | exact At.set_eq2 (by first | omega | (simp only [hset, hnew]; omega) | rfl | decide) | exact At.new_eq2 _ _ (by first | omega | (simp only [hset, hnew]; omega) | rfl | decide) | refine At.set_ne ?_ (by first | omega | (simp only [hset, hnew]; omega) | rfl | decide) | refine At.new_ne ?_)))) (hx := rfl) (hj := (by omega)) (hn := (by decide)) (r := ?_)
  refine tX12_readAll_83  (hP := ?_)
  refine ⟨rfl, ⟨⟨_, At.set_ne (At.set_eq2 z2) (by omega), fun j hj => ?_⟩, ⟨f3, At.set_ne (At.set_ne a3 (by omega)) (by omega), fun j hj w => ?_⟩, ⟨_, At.set_eq2 (by simp only [hset]; omega), fun j hj => ?_⟩, f5, At.set_ne (At.set_ne a5 (by omega)) (by omega), fun j hj w => ?_⟩, ((Sm.rf h (m + 2) (m + 6)).set (by omega) (by omega)).set (by omega) (by omega)⟩
  · by_cases z : j = k
    · obtain ⟨-, q, -⟩ := c.resolve_left (by omega)
      rw [z, q]
      exact if_pos rfl
    · exact (if_neg z).trans (c2 j (by omega))
  · refine c3 j ?_ w
    refine Nat.lt_of_not_le (fun z => ?_)
    obtain ⟨q1, q2, -⟩ := c.resolve_left (by omega)
    rw [show j = k from by omega] at w
    omega
  · by_cases z : j = k
    · obtain ⟨-, -, q⟩ := c.resolve_left (by omega)
      rw [z, q]
      exact if_pos rfl
    · exact (if_neg z).trans (c4 j (by omega))
  · refine c5 j ?_ w
    refine Nat.lt_of_not_le (fun z => ?_)
    obtain ⟨q1, q2, -⟩ := c.resolve_left (by omega)
    rw [show j = k from by omega] at w
    omega

set_option maxHeartbeats 4000000 in
set_option maxRecDepth 100000 in
theorem s_mra8b (tp : TpM h m T) {k : Nat} (km : KmM h m T (k + 1)) (hk : k ≤ 400) (c : cnK T = k + 1) (e : kkT T k = 42) : RQ G mX12_readAll d 8 [some (.ref m), some (.int x1), some (.int (nI (k + 1)))] [] h (Rv fun h1 => KmM h1 m T (cnK T) ∧ Sm h h1 (m + 2) (m + 6)) := by
  obtain ⟨⟨th, ea, tk, iw, er, et, dp, nm, a0⟩, ⟨f, a1, hf⟩, l16, hT⟩ := id tp
  obtain ⟨⟨f2, a2, c2⟩, ⟨f3, a3, c3⟩, ⟨f4, a4, c4⟩, f5, a5, c5⟩ := id km
  refine tX12_readAll_8  (r := ?_)
  refine tX12_readAll_9  (r := ?_)
  refine tX12_readAll_10 (ha := (by first | assumption | (repeat (first | assumption | exact At.set_eq2 (by first | omega | (simp only [hset, hnew]; omega) | rfl | decide) | exact At.new_eq2 _ _ (by first | omega | (simp only [hset, hnew]; omega) | rfl | decide) | refine At.set_ne ?_ (by first | omega | (simp only [hset, hnew]; omega) | rfl | decide) | refine At.new_ne ?_)))) (hv := rfl) (r := ?_)
  refine tX12_readAll_13  (kt := fun c_13 => ?_) (kf := fun c_13 => ?_)
  · exact s_mra65 tp km (by omega) (Or.inl c)
  · refine tX12_readAll_16  (r := ?_)
    refine tX12_readAll_17  (kt := fun c_ => by exfalso; exact absurd ((nI_eq (a := k + 1) (b := 0) (by omega) (by decide)).mp c_) (Nat.succ_ne_zero k)) (kf := fun _ => ?_)
    refine tX12_readAll_20  (r := ?_)
    refine tX12_readAll_21 (ha := (by first | assumption | (repeat (first | assumption | exact At.set_eq2 (by first | omega | (simp only [hset, hnew]; omega) | rfl | decide) | exact At.new_eq2 _ _ (by first | omega | (simp only [hset, hnew]; omega) | rfl | decide) | refine At.set_ne ?_ (by first | omega | (simp only [hset, hnew]; omega) | rfl | decide) | refine At.new_ne ?_)))) (hv := rfl) (r := ?_)
    refine tX12_readAll_24  (r := ?_)
    refine tX12_readAll_25  (r := ?_)
    refine tX12_readAll_26  (r := ?_)
    rw [nI_subN (by omega) (by omega), show k + 1 - 1 = k from rfl]
    refine tX12_readAll_27 (ha := (by first | assumption | (repeat (first | assumption | exact At.set_eq2 (by first | omega | (simp only [hset, hnew]; omega) | rfl | decide) | exact At.new_eq2 _ _ (by first | omega | (simp only [hset, hnew]; omega) | rfl | decide) | refine At.set_ne ?_ (by first | omega | (simp only [hset, hnew]; omega) | rfl | decide) | refine At.new_ne ?_)))) (hx := rfl) (hj := (by omega)) (hn := (by decide)) (r := ?_)
    rw [show f2 k = nI 32 from (c2 k (by omega)).trans (by rw [e]; rfl)]
    refine tX12_readAll_28  (r := ?_)
    refine tX12_readAll_30  (kf := fun c_ => by exfalso; exact c_ rfl) (kt := fun _ => ?_)
    exact s_mra65 tp km (by omega) (Or.inl c)

end RTI
