/-! the reference reads a token -/
theorem TpM.set {h : AH} {m i : Nat} {c : AC} {T : List Nat} (q : TpM h m T) (e : m + 2 ≤ i) : TpM (hset h i c) m T := by
  obtain ⟨⟨th, ea, tk, iw, er, et, dp, nm, a0⟩, ⟨f, a1, hf⟩, l, hT⟩ := q
  exact ⟨⟨th, ea, tk, iw, er, et, dp, nm, At.set_ne a0 (by omega)⟩, ⟨f, At.set_ne a1 (by omega), hf⟩, l, hT⟩
section RTG
variable {G : GT} {d : Nat} {h : AH} {m : Nat} {T : List Nat}
/-- the token's rows, read -/
def RdM (h h1 : AH) (m : Nat) (T : List Nat) (p k : Nat) (f2 f3 f4 f5 : Nat → Int32) : Prop := At h1 (m + 2) (.inl (0, 402, .inl (upd f2 k (nI (soK (kiT T p (enT T p))))))) ∧ (∃ g, At h1 (m + 3) (.inl (0, 402, .inl g)) ∧ (∀ j, j ≠ k → g j = f3 j) ∧ (kiT T p (enT T p) = 40 → g k = nI (vdT T p (enT T p - p)))) ∧ At h1 (m + 4) (.inl (0, 402, .inl (upd f4 k (nI p)))) ∧ At h1 (m + 5) (.inl (0, 402, .inl (upd f5 k (nI (enT T p - p))))) ∧ Sm h h1 (m + 2) (m + 6)

set_option maxHeartbeats 4000000 in
set_option maxRecDepth 100000 in
theorem s_mread (hd : 9 ≤ d) (tp : TpM h m T) {p k : Nat} {f2 f3 f4 f5 : Nat → Int32} (hp : p < T.length) (hk : k < 402) (a2 : At h (m + 2) (.inl (0, 402, .inl f2))) (a3 : At h (m + 3) (.inl (0, 402, .inl f3))) (a4 : At h (m + 4) (.inl (0, 402, .inl f4))) (a5 : At h (m + 5) (.inl (0, 402, .inl f5))) : RQ G mX12_read d 0 [some (.ref m), some (.int (nI p)), some (.int (nI k)), none, none, none] [] h (Ri fun v h1 => v = nI (enT T p) ∧ RdM h h1 m T p k f2 f3 f4 f5) := by
  obtain ⟨⟨th, ea, tk, iw, er, et, dp, nm, a0⟩, ⟨f, a1, hf⟩, l16, hT⟩ := id tp
  have z2 := a2.1
  have z3 := a3.1
  have z4 := a4.1
  have z5 := a5.1
  have er := en_rng (T := T) (p := p)
  have el := er.2.1 hp
  have tp2 := tp.set (i := m + 4) (c := .inl (0, 402, .inl (upd f4 k (nI p)))) (by omega)
  have atp : atT T p = nI (T.getD p 0) := if_pos hp
  refine tX12_read_0  (r := ?_)
  refine tX12_read_1 (ha := (by first | assumption | (repeat (first | assumption | exact At.set_eq2 (by first | omega | (simp only [hset, hnew]; omega) | rfl | decide) | exact At.new_eq2 _ _ (by first | omega | (simp only [hset, hnew]; omega) | rfl | decide) | refine At.set_ne ?_ (by first | omega | (simp only [hset, hnew]; omega) | rfl | decide) | refine At.new_ne ?_)))) (hv := rfl) (r := ?_)
  refine tX12_read_4  (r := ?_)
  refine tX12_read_5 (ha := (by first | assumption | (repeat (first | assumption | exact At.set_eq2 (by first | omega | (simp only [hset, hnew]; omega) | rfl | decide) | exact At.new_eq2 _ _ (by first | omega | (simp only [hset, hnew]; omega) | rfl | decide) | refine At.set_ne ?_ (by first | omega | (simp only [hset, hnew]; omega) | rfl | decide) | refine At.new_ne ?_)))) (hx := rfl) (hj := (by omega)) (hn := (by decide)) (r := ?_)
  rw [show f p = nI (T.getD p 0) from hf p hp]
  refine tX12_read_6  (r := ?_)
  refine tX12_read_7  (r := ?_)
  refine tX12_read_8  (r := ?_)
  refine tX12_read_9  (r := ?_)
  rw [nI_add]
  refine tX12_read_10  (r := ?_)
  refine tX12_read_12  (r := ?_)
  refine tX12_read_13 (ha := (by first | assumption | (repeat (first | assumption | exact At.set_eq2 (by first | omega | (simp only [hset, hnew]; omega) | rfl | decide) | exact At.new_eq2 _ _ (by first | omega | (simp only [hset, hnew]; omega) | rfl | decide) | refine At.set_ne ?_ (by first | omega | (simp only [hset, hnew]; omega) | rfl | decide) | refine At.new_ne ?_)))) (hv := rfl) (r := ?_)
  refine tX12_read_16  (r := ?_)
  refine tX12_read_17  (r := ?_)
  refine tX12_read_18 (ha := (by first | assumption | (repeat (first | assumption | exact At.set_eq2 (by first | omega | (simp only [hset, hnew]; omega) | rfl | decide) | exact At.new_eq2 _ _ (by first | omega | (simp only [hset, hnew]; omega) | rfl | decide) | refine At.set_ne ?_ (by first | omega | (simp only [hset, hnew]; omega) | rfl | decide) | refine At.new_ne ?_)))) (hx := rfl) (hj := hk) (hn := (by decide)) (r := ?_)
  refine tX12_read_19  (r := ?_)
  refine tX12_read_20 (hd := (by omega)) (call := s_mlet (d := 1) (T := T) (p := p) (by decide) hT atp.symm) (k := ?_)
  rintro x_ h_ ⟨hx_, e_⟩
  rw [e_, hx_]
  refine tX12_read_23  (kt := fun c_23 => ?_) (kf := fun c_23 => ?_)
  · have nl : ¬ ltT T p = true := fun z => by rw [if_pos z] at c_23; exact absurd c_23 (by decide)
    refine tX12_read_62  (r := ?_)
    refine tX12_read_63 (hd := (by omega)) (call := s_mdig (d := 1) (T := T) (p := p) (by decide) hT atp.symm) (k := ?_)
    rintro x_ h_ ⟨hx_, e_⟩
    rw [e_, hx_]
    refine tX12_read_66  (kt := fun c_66 => ?_) (kf := fun c_66 => ?_)
    · have nd : ¬ dgT T p = true := fun z => by rw [if_pos z] at c_66; exact absurd c_66 (by decide)
      have ee : enT T p = p + 1 := by
        unfold enT
        rw [if_neg nl, if_neg nd]
      rw [← ee]
      refine s_mread155 (by omega) tp2 hk (At.set_ne a2 (by omega)) (At.set_ne a5 (by omega)) (hT p hp) ⟨er.1, el⟩ ?_
      rw [← so_sg hp nl nd, ← ee]
      refine ⟨_, rfl, rfl, At.set_ne (At.set_eq2 (by simp only [hset]; omega)) (by omega), ?_, ?_, At.set_eq2 (by simp only [hset]; omega), ?_⟩
      · refine ⟨f3, At.set_ne (At.set_ne (At.set_ne a3 (by omega)) (by omega)) (by omega), fun j hj => rfl, fun w => ?_⟩
        have w2 := (ki_39 (Or.inr w) er.1).2.2.2 w
        exact absurd w2.1 nd
      · exact At.set_ne (At.set_ne (At.set_eq2 z4) (by omega)) (by omega)
      · exact (((Sm.rf h (m + 2) (m + 6)).set (by omega) (by omega)).set (by omega) (by omega)).set (by omega) (by omega)
    · have l2 : dgT T p = true := Classical.byContradiction (fun z => by rw [if_neg z] at c_66; exact c_66 rfl)
      refine tX12_read_69  (r := ?_)
      refine tX12_read_70  (r := ?_)
      refine tX12_read_72  (r := ?_)
      have hpb : T.getD p 0 < 256 := hT p hp
      have b48 := (of_decide_eq_true l2).2.1
      rw [nI_subN (by omega) (by omega)]
      refine tX12_read_73  (r := ?_)
      have ee : enT T p = scT T (dgT T) 1600 (p + 1) := by
        unfold enT
        rw [if_neg nl, if_pos l2]
      rw [show T.getD p 0 - 48 = vdT T p (min (p + 1 - p) 5) from by rw [show min (p + 1 - p) 5 = 1 from by omega]; show _ = 0 * 10 + (T.getD (p + 0) 0 - 48); rw [Nat.add_zero]; omega]
      refine s_mdigs (by omega) tp2 1600 (p + 1) (by omega) (by omega) (by omega) ?_
      rw [← ee]
      refine s_mread123 (by omega) tp2 hk (At.set_ne a2 (by omega)) (At.set_ne a5 (by omega)) (At.set_ne a3 (by omega)) ⟨er.1, el⟩ ?_
      rw [← so_dg l2 er.1]
      refine ⟨_, rfl, rfl, At.set_ne (At.set_eq2 (by simp only [hset]; omega)) (by omega), ?_, ?_, At.set_eq2 (by simp only [hset]; omega), ?_⟩
      · refine ⟨_, At.set_ne (At.set_ne (At.set_eq2 z3) (by omega)) (by omega), fun j hj => if_neg hj, fun w => ?_⟩
        have w2 := (ki_39 (Or.inr w) er.1).2.2.2 w
        show (if k = k then nI (vdT T p (min (enT T p - p) 5)) else f3 k) = _
        rw [if_pos rfl, show min (enT T p - p) 5 = enT T p - p from by omega]
      · exact At.set_ne (At.set_ne (At.set_ne (At.set_eq2 z4) (by omega)) (by omega)) (by omega)
      · exact ((((Sm.rf h (m + 2) (m + 6)).set (by omega) (by omega)).set (by omega) (by omega)).set (by omega) (by omega)).set (by omega) (by omega)
  · have l : ltT T p = true := Classical.byContradiction (fun z => by rw [if_neg z] at c_23; exact c_23 rfl)
    have ee : enT T p = scT T (ltT T) 1600 (p + 1) := if_pos l
    refine s_mlets (by omega) tp2 1600 (p + 1) (by omega) (by omega) ?_
    rw [← ee]
    refine s_mread44 (by omega) tp2 hk (At.set_ne a2 (by omega)) (At.set_ne a5 (by omega)) ⟨er.1, el⟩ ?_
    rw [← so_kw l er.1]
    refine ⟨_, rfl, rfl, At.set_ne (At.set_eq2 (by simp only [hset]; omega)) (by omega), ?_, ?_, At.set_eq2 (by simp only [hset]; omega), ?_⟩
    · refine ⟨f3, At.set_ne (At.set_ne (At.set_ne a3 (by omega)) (by omega)) (by omega), fun j hj => rfl, fun w => ?_⟩
      have w2 := (ki_39 (Or.inr w) er.1).2.2.2 w
      exact absurd l (lt_dg w2.1)
    · exact At.set_ne (At.set_ne (At.set_eq2 z4) (by omega)) (by omega)
    · exact (((Sm.rf h (m + 2) (m + 6)).set (by omega) (by omega)).set (by omega) (by omega)).set (by omega) (by omega)

end RTG
