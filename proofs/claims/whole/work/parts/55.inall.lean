/-! the reference's seats in all, and majority -/
theorem sw_all {B : BK} {D : DY} (hb : BDok B D) (k0 : Nat) : su (sw B D k0) 8 = su (sw B D k0) (bJa B) := su_ext 8 hb.2.1 (fun i h1 h2 => by
  have z := hb.2.2.2.2.1 i h1 h2
  have zs : su (dB D i) 6 ≤ 6 * 0 := su_bd 6 (fun k hk => Nat.le_of_eq (z.2 k hk))
  have e : fiN (po (rt (dF D)) (dB D i)) 6 = none := by
    cases e1 : fiN (po (rt (dF D)) (dB D i)) 6 with
    | none => rfl
    | some f =>
      have h3 := fi_pos _ _ _ e1
      have h4 : po (rt (dF D)) (dB D i) f ≤ su (dB D i) 6 := su_if 6
      omega
  exact wo_none e _)
theorem se_all {B : BK} {D : DY} (hb : BDok B D) : su (bSe B) 8 = su (bSe B) (bJa B) := su_ext 8 hb.2.1 (fun i h1 h2 => (hb.2.2.2.2.1 i h1 h2).1)
theorem sw_rt {B : BK} {D : DY} {k0 : Nat} (e : rt (dF D) k0 = k0) (i : Nat) : sw B D k0 i = wo (po (rt (dF D)) (dB D i)) (su (dB D i) 6) (bSe B i) (bWy B i) k0 := by
  unfold sw
  rw [e]
section RIA
variable {G : GT} {d : Nat} {s : ST} {h0 h : AH} {bk dr : Nat}

set_option maxHeartbeats 4000000 in
set_option maxRecDepth 100000 in
theorem s_refinall_l (hd : 5 ≤ d) {th : Int32} (hb : BDok s.2.2.1 s.2.2.2) {k0 : Nat} (qk : k0 < bLa s.2.2.1) : ∀ (n i : Nat) (h : AH), bJa s.2.2.1 ≤ i + n → i ≤ bJa s.2.2.1 → MoT h 216 th s → Sm h0 h (216 + 50) (216 + 52) → RQ G mX12_seatsInAllOf d 11 [some (.ref 216), some (.int (nI k0)), some (.int (nI (rt (dF s.2.2.2) k0))), some (.int (nI (su (sw s.2.2.1 s.2.2.2 k0) i))), some (.int (nI i))] [] h (Ri fun v h1 => v = nI (su (sw s.2.2.1 s.2.2.2 k0) 8) ∧ MoT h1 216 th s ∧ Sm h0 h1 (216 + 50) (216 + 52)) := by
  have ex : ∀ (i : Nat) (h : AH), i = bJa s.2.2.1 → MoT h 216 th s → Sm h0 h (216 + 50) (216 + 52) → RQ G mX12_seatsInAllOf d 11 [some (.ref 216), some (.int (nI k0)), some (.int (nI (rt (dF s.2.2.2) k0))), some (.int (nI (su (sw s.2.2.1 s.2.2.2 k0) i))), some (.int (nI i))] [] h (Ri fun v h1 => v = nI (su (sw s.2.2.1 s.2.2.2 k0) 8) ∧ MoT h1 216 th s ∧ Sm h0 h1 (216 + 50) (216 + 52)) := by
    intro i h hi c2 sm
    subst hi
    obtain ⟨⟨tk, iw, er, et, dp, nm, am⟩, ⟨-, -, -, -, -, -, -, -, -, ⟨ru, ac, no, a9, -⟩, -⟩, -⟩ := id c2
    have l1 := hb.1
    have l2 := hb.2.1
    have l3 := hb.2.2.1
    have r6 := rt_lt6 hb k0 (by omega)
    refine tX12_seatsInAllOf_11  (r := ?_)
    refine tX12_seatsInAllOf_13  (r := ?_)
    refine tX12_seatsInAllOf_14 (ha := (by first | assumption | (repeat (first | assumption | exact At.set_eq2 (by first | omega | (simp only [hset, hnew]; omega) | rfl | decide) | exact At.new_eq2 _ _ (by first | omega | (simp only [hset, hnew]; omega) | rfl | decide) | refine At.set_ne ?_ (by first | omega | (simp only [hset, hnew]; omega) | rfl | decide) | refine At.new_ne ?_)))) (hv := rfl) (r := ?_)
    refine tX12_seatsInAllOf_17 (ha := (by first | assumption | (repeat (first | assumption | exact At.set_eq2 (by first | omega | (simp only [hset, hnew]; omega) | rfl | decide) | exact At.new_eq2 _ _ (by first | omega | (simp only [hset, hnew]; omega) | rfl | decide) | refine At.set_ne ?_ (by first | omega | (simp only [hset, hnew]; omega) | rfl | decide) | refine At.new_ne ?_)))) (hv := rfl) (r := ?_)
    refine tX12_seatsInAllOf_20  (kf := fun c_ => by exfalso; (simp (disch := first | omega | decide) only [ci_lt, ci_le, ci_eq, ci_lt0, ci_ge0, ci_gt0, ci_le0, ci_eq0, ci_m1_lt, ci_m1_le, ci_lt_m1, ci_le_m1, ci_eq_m1, ci_m1_eq, not_true, not_false_iff, Nat.not_lt, Nat.not_le] at c_ <;> omega)) (kt := fun _ => ?_)
    refine tX12_seatsInAllOf_45  (r := ?_)
    refine tX12_seatsInAllOf_46  (hP := ?_)
    exact ⟨_, rfl, by rw [sw_all hb], c2, sm⟩
  intro n
  induction n with
  | zero => exact fun i h h1_ h2_ => ex i h (by omega)
  | succ n ih =>
    intro i h h1_ h2_ c2 sm
    by_cases hi : i = bJa s.2.2.1
    · exact ex i h hi c2 sm
    have hi2 : i < bJa s.2.2.1 := by omega
    obtain ⟨⟨tk, iw, er, et, dp, nm, am⟩, ⟨-, -, -, -, -, -, -, -, -, ⟨ru, ac, no, a9, -⟩, -⟩, -⟩ := id c2
    have l1 := hb.1
    have l2 := hb.2.1
    have l3 := hb.2.2.1
    have r6 := rt_lt6 hb k0 (by omega)
    refine tX12_seatsInAllOf_11  (r := ?_)
    refine tX12_seatsInAllOf_13  (r := ?_)
    refine tX12_seatsInAllOf_14 (ha := (by first | assumption | (repeat (first | assumption | exact At.set_eq2 (by first | omega | (simp only [hset, hnew]; omega) | rfl | decide) | exact At.new_eq2 _ _ (by first | omega | (simp only [hset, hnew]; omega) | rfl | decide) | refine At.set_ne ?_ (by first | omega | (simp only [hset, hnew]; omega) | rfl | decide) | refine At.new_ne ?_)))) (hv := rfl) (r := ?_)
    refine tX12_seatsInAllOf_17 (ha := (by first | assumption | (repeat (first | assumption | exact At.set_eq2 (by first | omega | (simp only [hset, hnew]; omega) | rfl | decide) | exact At.new_eq2 _ _ (by first | omega | (simp only [hset, hnew]; omega) | rfl | decide) | refine At.set_ne ?_ (by first | omega | (simp only [hset, hnew]; omega) | rfl | decide) | refine At.new_ne ?_)))) (hv := rfl) (r := ?_)
    refine tX12_seatsInAllOf_20  (kt := fun c_ => by exfalso; (simp (disch := first | omega | decide) only [ci_lt, ci_le, ci_eq, ci_lt0, ci_ge0, ci_gt0, ci_le0, ci_eq0, ci_m1_lt, ci_m1_le, ci_lt_m1, ci_le_m1, ci_eq_m1, ci_m1_eq, not_true, not_false_iff, Nat.not_lt, Nat.not_le] at c_ <;> omega)) (kf := fun _ => ?_)
    refine tX12_seatsInAllOf_23  (r := ?_)
    refine tX12_seatsInAllOf_24  (r := ?_)
    refine tX12_seatsInAllOf_26 (hd := (by omega)) (ha := (by first | assumption | (repeat (first | assumption | exact At.set_eq2 (by first | omega | (simp only [hset, hnew]; omega) | rfl | decide) | exact At.new_eq2 _ _ (by first | omega | (simp only [hset, hnew]; omega) | rfl | decide) | refine At.set_ne ?_ (by first | omega | (simp only [hset, hnew]; omega) | rfl | decide) | refine At.new_ne ?_)))) (call := s_refcount (d := 4) (by decide) c2 hb hi2) (k := ?_)
    rintro v h1 ⟨rfl, c3, ⟨g, aw9, hg⟩, sm1⟩
    obtain ⟨⟨tk3, iw3, er3, et3, dp3, nm3, am3⟩, -⟩ := id c3
    refine tX12_seatsInAllOf_29  (r := ?_)
    refine tX12_seatsInAllOf_30  (r := ?_)
    refine tX12_seatsInAllOf_31  (r := ?_)
    refine tX12_seatsInAllOf_32 (ha := (by first | assumption | (repeat (first | assumption | exact At.set_eq2 (by first | omega | (simp only [hset, hnew]; omega) | rfl | decide) | exact At.new_eq2 _ _ (by first | omega | (simp only [hset, hnew]; omega) | rfl | decide) | refine At.set_ne ?_ (by first | omega | (simp only [hset, hnew]; omega) | rfl | decide) | refine At.new_ne ?_)))) (hv := rfl) (r := ?_)
    refine tX12_seatsInAllOf_35  (r := ?_)
    refine tX12_seatsInAllOf_36 (ha := (by first | assumption | (repeat (first | assumption | exact At.set_eq2 (by first | omega | (simp only [hset, hnew]; omega) | rfl | decide) | exact At.new_eq2 _ _ (by first | omega | (simp only [hset, hnew]; omega) | rfl | decide) | refine At.set_ne ?_ (by first | omega | (simp only [hset, hnew]; omega) | rfl | decide) | refine At.new_ne ?_)))) (hx := rfl) (hj := r6) (hn := (by decide)) (r := ?_)
    rw [hg _ r6]
    refine tX12_seatsInAllOf_37  (r := ?_)
    rw [nI_add]
    refine tX12_seatsInAllOf_38  (r := ?_)
    refine tX12_seatsInAllOf_39  (r := ?_)
    rw [nI_add]
    refine tX12_seatsInAllOf_42 (r := ?_)
    exact ih (i + 1) _ (by omega) (by omega) c3 (sm.trans sm1)

set_option maxHeartbeats 4000000 in
set_option maxRecDepth 100000 in
theorem s_refinall (hd : 5 ≤ d) {th : Int32} (c2 : MoT h0 216 th s) (hb : BDok s.2.2.1 s.2.2.2) {k0 : Nat} (qk : k0 < bLa s.2.2.1) : RQ G mX12_seatsInAllOf d 0 [some (.ref 216), some (.int (nI k0)), none, none, none] [] h0 (Ri fun v h1 => v = nI (su (sw s.2.2.1 s.2.2.2 k0) 8) ∧ MoT h1 216 th s ∧ Sm h0 h1 (216 + 50) (216 + 52)) := by
  obtain ⟨⟨tk, iw, er, et, dp, nm, am⟩, -⟩ := id c2
  refine tX12_seatsInAllOf_0  (r := ?_)
  refine tX12_seatsInAllOf_1  (r := ?_)
  refine tX12_seatsInAllOf_2 (hd := (by omega)) (ha := (by first | assumption | (repeat (first | assumption | exact At.set_eq2 (by first | omega | (simp only [hset, hnew]; omega) | rfl | decide) | exact At.new_eq2 _ _ (by first | omega | (simp only [hset, hnew]; omega) | rfl | decide) | refine At.set_ne ?_ (by first | omega | (simp only [hset, hnew]; omega) | rfl | decide) | refine At.new_ne ?_)))) (call := s_leader (d := 4) c2 hb qk) (k := ?_)
  rintro v h_ ⟨rfl, e9⟩
  rw [e9]
  refine tX12_seatsInAllOf_5  (r := ?_)
  refine tX12_seatsInAllOf_6  (r := ?_)
  refine tX12_seatsInAllOf_7  (r := ?_)
  refine tX12_seatsInAllOf_8  (r := ?_)
  refine tX12_seatsInAllOf_9  (r := ?_)
  exact s_refinall_l hd hb qk (bJa s.2.2.1) 0 h0 (by omega) (by omega) c2 (Sm.rf _ _ _)

set_option maxHeartbeats 4000000 in
set_option maxRecDepth 100000 in
theorem s_refall_l {th : Int32} (c2 : MoT h 216 th s) (hb : BDok s.2.2.1 s.2.2.2) : ∀ (n i : Nat), bJa s.2.2.1 ≤ i + n → i ≤ bJa s.2.2.1 → RQ G mX12_allSeats d 4 [some (.ref 216), some (.int (nI (su (bSe s.2.2.1) i))), some (.int (nI i))] [] h (Ri fun v h1 => v = nI (su (bSe s.2.2.1) 8) ∧ h1 = h) := by
  obtain ⟨⟨tk, iw, er, et, dp, nm, am⟩, ⟨-, ⟨ft, at1, ct1⟩, -, -, -, -, -, -, -, ⟨ru, ac, no, a9, -⟩, -, -, ⟨fn, a48, n0, nb, nf, nl⟩, -, -, -, -⟩, ⟨⟨gs, as_, cs⟩, ⟨gw, aw, cw⟩, ⟨gl, al, cl⟩, ⟨g0, a0_, c0_⟩, ⟨g1, a1_, c1_⟩⟩⟩ := id c2
  have l1 := hb.1
  have l2 := hb.2.1
  have l3 := hb.2.2.1
  have ex : ∀ i, i = bJa s.2.2.1 → RQ G mX12_allSeats d 4 [some (.ref 216), some (.int (nI (su (bSe s.2.2.1) i))), some (.int (nI i))] [] h (Ri fun v h1 => v = nI (su (bSe s.2.2.1) 8) ∧ h1 = h) := by
    intro i hi
    rw [hi]
    refine tX12_allSeats_4  (r := ?_)
    refine tX12_allSeats_5  (r := ?_)
    refine tX12_allSeats_6 (ha := (by first | assumption | (repeat (first | assumption | exact At.set_eq2 (by first | omega | (simp only [hset, hnew]; omega) | rfl | decide) | exact At.new_eq2 _ _ (by first | omega | (simp only [hset, hnew]; omega) | rfl | decide) | refine At.set_ne ?_ (by first | omega | (simp only [hset, hnew]; omega) | rfl | decide) | refine At.new_ne ?_)))) (hv := rfl) (r := ?_)
    refine tX12_allSeats_9 (ha := (by first | assumption | (repeat (first | assumption | exact At.set_eq2 (by first | omega | (simp only [hset, hnew]; omega) | rfl | decide) | exact At.new_eq2 _ _ (by first | omega | (simp only [hset, hnew]; omega) | rfl | decide) | refine At.set_ne ?_ (by first | omega | (simp only [hset, hnew]; omega) | rfl | decide) | refine At.new_ne ?_)))) (hv := rfl) (r := ?_)
    refine tX12_allSeats_12  (kf := fun c_ => by exfalso; (simp (disch := first | omega | decide) only [ci_lt, ci_le, ci_eq, ci_lt0, ci_ge0, ci_gt0, ci_le0, ci_eq0, ci_m1_lt, ci_m1_le, ci_lt_m1, ci_le_m1, ci_eq_m1, ci_m1_eq, not_true, not_false_iff, Nat.not_lt, Nat.not_le] at c_ <;> omega)) (kt := fun _ => ?_)
    refine tX12_allSeats_33  (r := ?_)
    refine tX12_allSeats_34  (hP := ?_)
    exact ⟨_, rfl, by rw [se_all hb], rfl⟩
  intro n
  induction n with
  | zero => exact fun i h1_ h2_ => ex i (by omega)
  | succ n ih =>
    intro i h1_ h2_
    by_cases hi : i = bJa s.2.2.1
    · exact ex i hi
    have hi2 : i < bJa s.2.2.1 := by omega
    refine tX12_allSeats_4  (r := ?_)
    refine tX12_allSeats_5  (r := ?_)
    refine tX12_allSeats_6 (ha := (by first | assumption | (repeat (first | assumption | exact At.set_eq2 (by first | omega | (simp only [hset, hnew]; omega) | rfl | decide) | exact At.new_eq2 _ _ (by first | omega | (simp only [hset, hnew]; omega) | rfl | decide) | refine At.set_ne ?_ (by first | omega | (simp only [hset, hnew]; omega) | rfl | decide) | refine At.new_ne ?_)))) (hv := rfl) (r := ?_)
    refine tX12_allSeats_9 (ha := (by first | assumption | (repeat (first | assumption | exact At.set_eq2 (by first | omega | (simp only [hset, hnew]; omega) | rfl | decide) | exact At.new_eq2 _ _ (by first | omega | (simp only [hset, hnew]; omega) | rfl | decide) | refine At.set_ne ?_ (by first | omega | (simp only [hset, hnew]; omega) | rfl | decide) | refine At.new_ne ?_)))) (hv := rfl) (r := ?_)
    refine tX12_allSeats_12  (kt := fun c_ => by exfalso; (simp (disch := first | omega | decide) only [ci_lt, ci_le, ci_eq, ci_lt0, ci_ge0, ci_gt0, ci_le0, ci_eq0, ci_m1_lt, ci_m1_le, ci_lt_m1, ci_le_m1, ci_eq_m1, ci_m1_eq, not_true, not_false_iff, Nat.not_lt, Nat.not_le] at c_ <;> omega)) (kf := fun _ => ?_)
    refine tX12_allSeats_15  (r := ?_)
    refine tX12_allSeats_16  (r := ?_)
    refine tX12_allSeats_17 (ha := (by first | assumption | (repeat (first | assumption | exact At.set_eq2 (by first | omega | (simp only [hset, hnew]; omega) | rfl | decide) | exact At.new_eq2 _ _ (by first | omega | (simp only [hset, hnew]; omega) | rfl | decide) | refine At.set_ne ?_ (by first | omega | (simp only [hset, hnew]; omega) | rfl | decide) | refine At.new_ne ?_)))) (hv := rfl) (r := ?_)
    refine tX12_allSeats_20 (ha := (by first | assumption | (repeat (first | assumption | exact At.set_eq2 (by first | omega | (simp only [hset, hnew]; omega) | rfl | decide) | exact At.new_eq2 _ _ (by first | omega | (simp only [hset, hnew]; omega) | rfl | decide) | refine At.set_ne ?_ (by first | omega | (simp only [hset, hnew]; omega) | rfl | decide) | refine At.new_ne ?_)))) (hv := rfl) (r := ?_)
    refine tX12_allSeats_23  (r := ?_)
    refine tX12_allSeats_24 (ha := (by first | assumption | (repeat (first | assumption | exact At.set_eq2 (by first | omega | (simp only [hset, hnew]; omega) | rfl | decide) | exact At.new_eq2 _ _ (by first | omega | (simp only [hset, hnew]; omega) | rfl | decide) | refine At.set_ne ?_ (by first | omega | (simp only [hset, hnew]; omega) | rfl | decide) | refine At.new_ne ?_)))) (hx := rfl) (hj := (by omega)) (hn := (by decide)) (r := ?_)
    rw [cs _ hi2]
    refine tX12_allSeats_25  (r := ?_)
    rw [nI_add]
    refine tX12_allSeats_26  (r := ?_)
    refine tX12_allSeats_27  (r := ?_)
    rw [nI_add]
    refine tX12_allSeats_30 (r := ?_)
    exact ih (i + 1) (by omega) (by omega)

set_option maxHeartbeats 4000000 in
set_option maxRecDepth 100000 in
theorem s_refall {th : Int32} (c2 : MoT h 216 th s) (hb : BDok s.2.2.1 s.2.2.2) : RQ G mX12_allSeats d 0 [some (.ref 216), none, none] [] h (Ri fun v h1 => v = nI (su (bSe s.2.2.1) 8) ∧ h1 = h) := by
  refine tX12_allSeats_0  (r := ?_)
  refine tX12_allSeats_1  (r := ?_)
  refine tX12_allSeats_2  (r := ?_)
  refine tX12_allSeats_3  (r := ?_)
  exact s_refall_l c2 hb (bJa s.2.2.1) 0 (by omega) (by omega)

set_option maxHeartbeats 4000000 in
set_option maxRecDepth 100000 in
theorem s_refmaj (hd : 6 ≤ d) {th : Int32} (c2 : MoT h0 216 th s) (hb : BDok s.2.2.1 s.2.2.2) {k0 : Nat} (qk : k0 < bLa s.2.2.1) : RQ G mX12_isMajority d 0 [some (.ref 216), some (.int (nI k0))] [] h0 (Ri fun v h1 => v = gov s.2.2.1 s.2.2.2 k0 ∧ MoT h1 216 th s ∧ Sm h0 h1 (216 + 50) (216 + 52)) := by
  have b1_ := sw_le hb k0
  have b2_ := se_le hb
  obtain ⟨⟨tk, iw, er, et, dp, nm, am⟩, -⟩ := id c2
  refine tX12_isMajority_0  (r := ?_)
  refine tX12_isMajority_1  (r := ?_)
  refine tX12_isMajority_2  (r := ?_)
  refine tX12_isMajority_3 (hd := (by omega)) (ha := (by first | assumption | (repeat (first | assumption | exact At.set_eq2 (by first | omega | (simp only [hset, hnew]; omega) | rfl | decide) | exact At.new_eq2 _ _ (by first | omega | (simp only [hset, hnew]; omega) | rfl | decide) | refine At.set_ne ?_ (by first | omega | (simp only [hset, hnew]; omega) | rfl | decide) | refine At.new_ne ?_)))) (call := s_refinall (d := 5) (by decide) c2 hb qk) (k := ?_)
  rintro v h1 ⟨rfl, c3, sm⟩
  obtain ⟨⟨tk3, iw3, er3, et3, dp3, nm3, am3⟩, -⟩ := id c3
  refine tX12_isMajority_6  (r := ?_)
  rw [nI_mulN]
  refine tX12_isMajority_7  (r := ?_)
  refine tX12_isMajority_8 (hd := (by omega)) (ha := (by first | assumption | (repeat (first | assumption | exact At.set_eq2 (by first | omega | (simp only [hset, hnew]; omega) | rfl | decide) | exact At.new_eq2 _ _ (by first | omega | (simp only [hset, hnew]; omega) | rfl | decide) | refine At.set_ne ?_ (by first | omega | (simp only [hset, hnew]; omega) | rfl | decide) | refine At.new_ne ?_)))) (call := s_refall (d := 5) c3 hb) (k := ?_)
  rintro v2 h_ ⟨rfl, e9⟩
  rw [e9]
  refine tX12_isMajority_11  (kt := fun c_11 => ?_) (kf := fun c_11 => ?_)
  · have e : gov s.2.2.1 s.2.2.2 k0 = nI 0 := if_neg (by have := (nI_leI (by omega) (by omega)).mp c_11; omega)
    refine tX12_isMajority_18  (r := ?_)
    refine tX12_isMajority_19 (hb := (Or.inl rfl)) (hP := ?_)
    exact ⟨_, rfl, e.symm, c3, sm⟩
  · have e : gov s.2.2.1 s.2.2.2 k0 = nI 1 := if_pos (by have := Nat.lt_of_not_le (fun z => c_11 ((nI_leI (by omega) (by omega)).mpr z)); omega)
    refine tX12_isMajority_14  (r := ?_)
    refine tX12_isMajority_15 (r := ?_)
    refine tX12_isMajority_19 (hb := (Or.inr rfl)) (hP := ?_)
    exact ⟨_, rfl, e.symm, c3, sm⟩

set_option maxHeartbeats 4000000 in
set_option maxRecDepth 100000 in
theorem m_seatsInAll_ok (hd : 6 ≤ d) (m1 : MoR h 216 s) (t1 : ToR h 216 s.2.2.1) (hb : BDok s.2.2.1 s.2.2.2) {j0 : Nat} (q0 : j0 < bLa s.2.2.1) : RQ G mX12_seatsInAll d 0 [some (.ref 216), some (.int (nI j0))] [] h (MK h s 0 (nI (su (sw s.2.2.1 s.2.2.2 j0) 8))) := by
  obtain ⟨th, c⟩ := MoT.ofR m1 t1
  refine b_seatsInAll c (fun h2 c2 ch2 => ?_)
  obtain ⟨⟨tk, iw, er, et, dp, nm, am⟩, ⟨-, ⟨ft, at1, ct1⟩, -, -, -, -, -, -, -, ⟨ru, ac, no, a9, -⟩, -, -, ⟨fn, a48, n0, nb, nf, nl⟩, -, -, -, -⟩, ⟨⟨gs, as_, cs⟩, ⟨gw, aw, cw⟩, ⟨gl, al, cl⟩, ⟨g0, a0_, c0_⟩, ⟨g1, a1_, c1_⟩⟩⟩ := id c2
  have l1 := hb.1
  have l2 := hb.2.1
  have l3 := hb.2.2.1
  refine tX12_seatsInAll_5  (r := ?_)
  refine tX12_seatsInAll_6  (r := ?_)
  refine tX12_seatsInAll_7 (hd := (by omega)) (ha := (by first | assumption | (repeat (first | assumption | exact At.set_eq2 (by first | omega | (simp only [hset, hnew]; omega) | rfl | decide) | exact At.new_eq2 _ _ (by first | omega | (simp only [hset, hnew]; omega) | rfl | decide) | refine At.set_ne ?_ (by first | omega | (simp only [hset, hnew]; omega) | rfl | decide) | refine At.new_ne ?_)))) (call := s_isLabel_ok (d := 1) (by decide) c2 hb q0) (k := ?_)
  rintro v0 h_ ⟨rfl, e0⟩
  rw [e0]
  refine tX12_seatsInAll_10  (kt := fun c_ => by exfalso; exact absurd c_ (by decide)) (kf := fun _ => ?_)
  refine tX12_seatsInAll_13  (r := ?_)
  refine tX12_seatsInAll_14  (r := ?_)
  refine tX12_seatsInAll_15 (hd := (by omega)) (ha := (by first | assumption | (repeat (first | assumption | exact At.set_eq2 (by first | omega | (simp only [hset, hnew]; omega) | rfl | decide) | exact At.new_eq2 _ _ (by first | omega | (simp only [hset, hnew]; omega) | rfl | decide) | refine At.set_ne ?_ (by first | omega | (simp only [hset, hnew]; omega) | rfl | decide) | refine At.new_ne ?_)))) (call := s_refinall (d := 5) (by decide) c2 hb q0) (k := ?_)
  rintro v h3 ⟨rfl, c3, sm3⟩
  refine tX12_seatsInAll_18 (r := ?_)
  refine tX12_seatsInAll_26  (hP := ?_)
  exact MK.of c3 ((ch2.trans (sm3.ch (lo2 := 216) (hi2 := 269) (ck := 0) (sk := 0) (by omega) (by omega))).sub (Nat.le_refl _) (Nat.le_refl _) (by decide) (by decide))

set_option maxHeartbeats 4000000 in
set_option maxRecDepth 100000 in
theorem m_hasMajority_no1 (hd : 7 ≤ d) (m1 : MoR h 216 s) (t1 : ToR h 216 s.2.2.1) (hb : BDok s.2.2.1 s.2.2.2) {a0 : Int32} (bad : a0 < 0 ∨ nI (bLa s.2.2.1) ≤ a0) : RQ G mX12_hasMajority d 0 [some (.ref 216), some (.int a0)] [] h (MK h s 1 (nI 0)) := by
  obtain ⟨th, c⟩ := MoT.ofR m1 t1
  obtain ⟨⟨tk0, iw0, er0, et0, dp0, nm0, am0⟩, -⟩ := id c
  refine tX12_hasMajority_0  (r := ?_)
  refine tX12_hasMajority_1  (r := ?_)
  refine tX12_hasMajority_2  (r := ?_)
  refine tX12_hasMajority_3 (hd := (by omega)) (ha := (by first | assumption | (repeat (first | assumption | exact At.set_eq2 (by first | omega | (simp only [hset, hnew]; omega) | rfl | decide) | exact At.new_eq2 _ _ (by first | omega | (simp only [hset, hnew]; omega) | rfl | decide) | refine At.set_ne ?_ (by first | omega | (simp only [hset, hnew]; omega) | rfl | decide) | refine At.new_ne ?_)))) (call := s_isLabel_no (d := 1) (by decide) c hb bad) (k := ?_)
  rintro v0 h_ ⟨rfl, e0⟩
  rw [e0]
  refine tX12_hasMajority_6  (kf := fun c_ => by exfalso; exact c_ (by decide)) (kt := fun _ => ?_)
  refine tX12_hasMajority_13  (r := ?_)
  refine tX12_hasMajority_14 (ha := (by first | assumption | (repeat (first | assumption | exact At.set_eq2 (by first | omega | (simp only [hset, hnew]; omega) | rfl | decide) | exact At.new_eq2 _ _ (by first | omega | (simp only [hset, hnew]; omega) | rfl | decide) | refine At.set_ne ?_ (by first | omega | (simp only [hset, hnew]; omega) | rfl | decide) | refine At.new_ne ?_)))) (hlen := rfl) (r := ?_)
  refine (fun (h2 : AH) (c2 : MoT h2 216 (nI 1) s) (ch2 : Ch h h2 216 269 0 0) => ?_ : ∀ h2, MoT h2 216 (nI 1) s → Ch h h2 216 269 0 0 → RQ G mX12_hasMajority d 17 [some (.ref 216), some (.int a0)] [] h2 (MK h s 1 (nI 0))) _ (c.thr am0) ((Ch.rf _ _ _ _ _).set (by decide) (by decide))
  obtain ⟨⟨tk, iw, er, et, dp, nm, am⟩, ⟨-, ⟨ft, at1, ct1⟩, -, -, -, -, -, -, -, ⟨ru, ac, no, a9, -⟩, -, -, ⟨fn, a48, n0, nb, nf, nl⟩, -, -, -, -⟩, ⟨⟨gs, as_, cs⟩, ⟨gw, aw, cw⟩, ⟨gl, al, cl⟩, ⟨g0, a0_, c0_⟩, ⟨g1, a1_, c1_⟩⟩⟩ := id c2
  refine tX12_hasMajority_17  (r := ?_)
  refine tX12_hasMajority_18 (ha := (by first | assumption | (repeat (first | assumption | exact At.set_eq2 (by first | omega | (simp only [hset, hnew]; omega) | rfl | decide) | exact At.new_eq2 _ _ (by first | omega | (simp only [hset, hnew]; omega) | rfl | decide) | refine At.set_ne ?_ (by first | omega | (simp only [hset, hnew]; omega) | rfl | decide) | refine At.new_ne ?_)))) (hv := rfl) (r := ?_)
  refine tX12_hasMajority_21  (kf := fun c_ => by exfalso; exact absurd c_ (by decide)) (kt := fun _ => ?_)
  refine tX12_hasMajority_36  (r := ?_)
  refine tX12_hasMajority_37 (hb := (Or.inl rfl)) (hP := ?_)
  exact MK.of c2 (ch2.sub (Nat.le_refl _) (Nat.le_refl _) (by decide) (by decide))

set_option maxHeartbeats 4000000 in
set_option maxRecDepth 100000 in
theorem m_hasMajority_ok (hd : 7 ≤ d) (m1 : MoR h 216 s) (t1 : ToR h 216 s.2.2.1) (hb : BDok s.2.2.1 s.2.2.2) {j0 : Nat} (q0 : j0 < bLa s.2.2.1) : RQ G mX12_hasMajority d 0 [some (.ref 216), some (.int (nI j0))] [] h (MK h s 0 (gov s.2.2.1 s.2.2.2 j0)) := by
  obtain ⟨th, c⟩ := MoT.ofR m1 t1
  obtain ⟨⟨tk0, iw0, er0, et0, dp0, nm0, am0⟩, -⟩ := id c
  have l1 := hb.1
  have l2 := hb.2.1
  have l3 := hb.2.2.1
  refine tX12_hasMajority_0  (r := ?_)
  refine tX12_hasMajority_1  (r := ?_)
  refine tX12_hasMajority_2  (r := ?_)
  refine tX12_hasMajority_3 (hd := (by omega)) (ha := (by first | assumption | (repeat (first | assumption | exact At.set_eq2 (by first | omega | (simp only [hset, hnew]; omega) | rfl | decide) | exact At.new_eq2 _ _ (by first | omega | (simp only [hset, hnew]; omega) | rfl | decide) | refine At.set_ne ?_ (by first | omega | (simp only [hset, hnew]; omega) | rfl | decide) | refine At.new_ne ?_)))) (call := s_isLabel_ok (d := 1) (by decide) c hb q0) (k := ?_)
  rintro v0 h_ ⟨rfl, e0⟩
  rw [e0]
  refine tX12_hasMajority_6  (kt := fun c_ => by exfalso; exact absurd c_ (by decide)) (kf := fun _ => ?_)
  refine tX12_hasMajority_9  (r := ?_)
  refine tX12_hasMajority_10 (r := ?_)
  refine tX12_hasMajority_14 (ha := (by first | assumption | (repeat (first | assumption | exact At.set_eq2 (by first | omega | (simp only [hset, hnew]; omega) | rfl | decide) | exact At.new_eq2 _ _ (by first | omega | (simp only [hset, hnew]; omega) | rfl | decide) | refine At.set_ne ?_ (by first | omega | (simp only [hset, hnew]; omega) | rfl | decide) | refine At.new_ne ?_)))) (hlen := rfl) (r := ?_)
  refine (fun (h2 : AH) (c2 : MoT h2 216 (nI 0) s) (ch2 : Ch h h2 216 269 0 0) => ?_ : ∀ h2, MoT h2 216 (nI 0) s → Ch h h2 216 269 0 0 → RQ G mX12_hasMajority d 17 [some (.ref 216), some (.int (nI j0))] [] h2 (MK h s 0 (gov s.2.2.1 s.2.2.2 j0))) _ (c.thr am0) ((Ch.rf _ _ _ _ _).set (by decide) (by decide))
  obtain ⟨⟨tk, iw, er, et, dp, nm, am⟩, ⟨-, ⟨ft, at1, ct1⟩, -, -, -, -, -, -, -, ⟨ru, ac, no, a9, -⟩, -, -, ⟨fn, a48, n0, nb, nf, nl⟩, -, -, -, -⟩, ⟨⟨gs, as_, cs⟩, ⟨gw, aw, cw⟩, ⟨gl, al, cl⟩, ⟨g0, a0_, c0_⟩, ⟨g1, a1_, c1_⟩⟩⟩ := id c2
  refine tX12_hasMajority_17  (r := ?_)
  refine tX12_hasMajority_18 (ha := (by first | assumption | (repeat (first | assumption | exact At.set_eq2 (by first | omega | (simp only [hset, hnew]; omega) | rfl | decide) | exact At.new_eq2 _ _ (by first | omega | (simp only [hset, hnew]; omega) | rfl | decide) | refine At.set_ne ?_ (by first | omega | (simp only [hset, hnew]; omega) | rfl | decide) | refine At.new_ne ?_)))) (hv := rfl) (r := ?_)
  refine tX12_hasMajority_21  (kt := fun c_ => by exfalso; exact c_ (by decide)) (kf := fun _ => ?_)
  refine tX12_hasMajority_24  (r := ?_)
  refine tX12_hasMajority_25  (r := ?_)
  refine tX12_hasMajority_26 (hd := (by omega)) (ha := (by first | assumption | (repeat (first | assumption | exact At.set_eq2 (by first | omega | (simp only [hset, hnew]; omega) | rfl | decide) | exact At.new_eq2 _ _ (by first | omega | (simp only [hset, hnew]; omega) | rfl | decide) | refine At.set_ne ?_ (by first | omega | (simp only [hset, hnew]; omega) | rfl | decide) | refine At.new_ne ?_)))) (call := s_refmaj (d := 6) (by decide) c2 hb q0) (k := ?_)
  rintro v3 h3 ⟨rfl, c3, sm3⟩
  have gv : gov s.2.2.1 s.2.2.2 j0 = nI 0 ∨ gov s.2.2.1 s.2.2.2 j0 = nI 1 := by unfold gov; split; exact Or.inr rfl; exact Or.inl rfl
  refine tX12_hasMajority_29  (kt := fun c_29 => ?_) (kf := fun c_29 => ?_)
  · have e : gov s.2.2.1 s.2.2.2 j0 = nI 0 := c_29
    refine tX12_hasMajority_36  (r := ?_)
    refine tX12_hasMajority_37 (hb := (Or.inl rfl)) (hP := ?_)
    rw [e]
    exact MK.of c3 ((ch2.trans (sm3.ch (lo2 := 216) (hi2 := 269) (ck := 0) (sk := 0) (by omega) (by omega))).sub (Nat.le_refl _) (Nat.le_refl _) (by decide) (by decide))
  · have e : gov s.2.2.1 s.2.2.2 j0 = nI 1 := gv.resolve_left c_29
    refine tX12_hasMajority_32  (r := ?_)
    refine tX12_hasMajority_33 (r := ?_)
    refine tX12_hasMajority_37 (hb := (Or.inr rfl)) (hP := ?_)
    rw [e]
    exact MK.of c3 ((ch2.trans (sm3.ch (lo2 := 216) (hi2 := 269) (ck := 0) (sk := 0) (by omega) (by omega))).sub (Nat.le_refl _) (Nat.le_refl _) (by decide) (by decide))

end RIA
theorem O_seatsInAll {G : GT} {h : AH} {s : ST} {bk dr : Nat} {a0 : Int32} (j : Jd h s bk dr) : OpC G mX10_seatsInAll mX12_seatsInAll 2046 2047 [some (.ref 0), some (.int a0)] [some (.ref 216), some (.int a0)] "java/lang/IndexOutOfBoundsException" "" (fun _ => True) h s := by
  have hb := j.1
  have hh := j.room
  have l1 := hb.1
  have l2 := hb.2.1
  have l3 := hb.2.2.1
  rcases ix_cases a0 (n := bLa s.2.2.1) (by omega) with ⟨j0, q0, rfl⟩ | bad
  rotate_left
  · exact ⟨1, nI 0, s, bk, dr, hb, trivial, k_seatsInAll_no1 (by decide) j.2.1 hb hh bad, fun h1 m1 t1 => m_seatsInAll_no1 (by decide) m1 t1 hb bad⟩
  exact ⟨0, _, s, bk, dr, hb, trivial, k_seatsInAll_ok (by decide) j.2.1 hb hh q0 , fun h1 m1 t1 => m_seatsInAll_ok (by decide) m1 t1 hb q0 ⟩

theorem O_hasMajority {G : GT} {h : AH} {s : ST} {bk dr : Nat} {a0 : Int32} (j : Jd h s bk dr) : OpC G mX10_hasMajority mX12_hasMajority 2046 2047 [some (.ref 0), some (.int a0)] [some (.ref 216), some (.int a0)] "java/lang/IndexOutOfBoundsException" "" (fun b => b = nI 0 ∨ b = nI 1) h s := by
  have hb := j.1
  have hh := j.room
  have l1 := hb.1
  have l2 := hb.2.1
  have l3 := hb.2.2.1
  rcases ix_cases a0 (n := bLa s.2.2.1) (by omega) with ⟨j0, q0, rfl⟩ | bad
  rotate_left
  · exact ⟨1, nI 0, s, bk, dr, hb, (Or.inl rfl), k_hasMajority_no1 (by decide) j.2.1 hb hh bad, fun h1 m1 t1 => m_hasMajority_no1 (by decide) m1 t1 hb bad⟩
  exact ⟨0, _, s, bk, dr, hb, (show gov s.2.2.1 s.2.2.2 j0 = nI 0 ∨ gov s.2.2.1 s.2.2.2 j0 = nI 1 by unfold gov; split; exact Or.inr rfl; exact Or.inl rfl), k_hasMajority_ok (by decide) j.2.1 hb hh q0 , fun h1 m1 t1 => m_hasMajority_ok (by decide) m1 t1 hb q0 ⟩

