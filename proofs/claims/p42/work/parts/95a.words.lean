/-! the class's tokens: where one ends, which word it is -/
section TAQ
variable {G : GT} {d : Nat} {h : AH} {t b : Nat} {T : List Nat}

set_option maxHeartbeats 4000000 in
set_option maxRecDepth 100000 in
theorem s_tok12 (hd : 2 ≤ d) (ta : TaR h t T) {p0 : Nat} : ∀ (n p : Nat), T.length ≤ n + p → p ≤ 2000 → RQ G mX9_behindToken d 12 [some (.ref b), some (.ref t), some (.int (nI p0)), some (.int (nI p))] [] h (Ri fun v h1 => v = nI (scT T (ltT T) n p) ∧ h1 = h) := by
  obtain ⟨a0, l16, f, a1, hf⟩ := id ta
  intro n
  induction n with
  | zero =>
    intro p hl hp
    refine tX9_behindToken_12  (r := ?_)
    refine tX9_behindToken_13  (r := ?_)
    refine tX9_behindToken_14 (ha := (by first | assumption | (repeat (first | assumption | exact At.set_eq2 (by first | omega | (simp only [hset, hnew]; omega) | rfl | decide) | exact At.new_eq2 _ _ (by first | omega | (simp only [hset, hnew]; omega) | rfl | decide) | refine At.set_ne ?_ (by first | omega | (simp only [hset, hnew]; omega) | rfl | decide) | refine At.new_ne ?_)))) (hv := rfl) (r := ?_)
    refine tX9_behindToken_17  (kf := fun c_ => by exfalso; exact c_ ((nI_leI (by omega) (by omega)).mpr (by omega))) (kt := fun _ => ?_)
    refine tX9_behindToken_64  (r := ?_)
    refine tX9_behindToken_65  (hP := ?_)
    exact ⟨_, rfl, rfl, rfl⟩
  | succ n ih =>
    intro p hl hp
    refine tX9_behindToken_12  (r := ?_)
    refine tX9_behindToken_13  (r := ?_)
    refine tX9_behindToken_14 (ha := (by first | assumption | (repeat (first | assumption | exact At.set_eq2 (by first | omega | (simp only [hset, hnew]; omega) | rfl | decide) | exact At.new_eq2 _ _ (by first | omega | (simp only [hset, hnew]; omega) | rfl | decide) | refine At.set_ne ?_ (by first | omega | (simp only [hset, hnew]; omega) | rfl | decide) | refine At.new_ne ?_)))) (hv := rfl) (r := ?_)
    refine tX9_behindToken_17  (kt := fun c_17 => ?_) (kf := fun c_17 => ?_)
    · have ge : ¬ p < T.length := fun z => by have := (nI_leI (by omega) (by omega)).mp c_17; omega
      refine tX9_behindToken_64  (r := ?_)
      refine tX9_behindToken_65  (hP := ?_)
      exact ⟨_, rfl, congrArg nI (if_neg (fun z => ge z.1)).symm, rfl⟩
    · have lt : p < T.length := Nat.lt_of_not_le (fun z => c_17 ((nI_leI (by omega) (by omega)).mpr z))
      refine tX9_behindToken_20  (r := ?_)
      refine tX9_behindToken_21  (r := ?_)
      refine tX9_behindToken_22 (hd := (by omega)) (ha := (by first | assumption | (repeat (first | assumption | exact At.set_eq2 (by first | omega | (simp only [hset, hnew]; omega) | rfl | decide) | exact At.new_eq2 _ _ (by first | omega | (simp only [hset, hnew]; omega) | rfl | decide) | refine At.set_ne ?_ (by first | omega | (simp only [hset, hnew]; omega) | rfl | decide) | refine At.new_ne ?_)))) (call := s_tlet (d := 1) (by decide) ta (by omega)) (k := ?_)
      rintro x_ h_ ⟨hx_, e_⟩
      rw [e_, hx_]
      refine tX9_behindToken_25  (kt := fun c_25 => ?_) (kf := fun c_25 => ?_)
      · have e : ¬ ltT T p = true := fun z => by rw [if_pos z] at c_25; exact absurd c_25 (by decide)
        refine tX9_behindToken_64  (r := ?_)
        refine tX9_behindToken_65  (hP := ?_)
        exact ⟨_, rfl, congrArg nI (if_neg (fun z => e z.2)).symm, rfl⟩
      · have e : ltT T p = true := Classical.byContradiction (fun z => by rw [if_neg z] at c_25; exact c_25 rfl)
        refine tX9_behindToken_28  (r := ?_)
        rw [nI_add]
        refine tX9_behindToken_31 (r := ?_)
        have es : scT T (ltT T) (n + 1) p = scT T (ltT T) n (p + 1) := if_pos ⟨lt, e⟩
        rw [es]
        exact ih (p + 1) (by omega) (by omega)

set_option maxHeartbeats 4000000 in
set_option maxRecDepth 100000 in
theorem s_tok42 (hd : 2 ≤ d) (ta : TaR h t T) {p0 : Nat} : ∀ (n p : Nat), T.length ≤ n + p → p ≤ 2000 → RQ G mX9_behindToken d 42 [some (.ref b), some (.ref t), some (.int (nI p0)), some (.int (nI p))] [] h (Ri fun v h1 => v = nI (scT T (dgT T) n p) ∧ h1 = h) := by
  obtain ⟨a0, l16, f, a1, hf⟩ := id ta
  intro n
  induction n with
  | zero =>
    intro p hl hp
    refine tX9_behindToken_42  (r := ?_)
    refine tX9_behindToken_43  (r := ?_)
    refine tX9_behindToken_44 (ha := (by first | assumption | (repeat (first | assumption | exact At.set_eq2 (by first | omega | (simp only [hset, hnew]; omega) | rfl | decide) | exact At.new_eq2 _ _ (by first | omega | (simp only [hset, hnew]; omega) | rfl | decide) | refine At.set_ne ?_ (by first | omega | (simp only [hset, hnew]; omega) | rfl | decide) | refine At.new_ne ?_)))) (hv := rfl) (r := ?_)
    refine tX9_behindToken_47  (kf := fun c_ => by exfalso; exact c_ ((nI_leI (by omega) (by omega)).mpr (by omega))) (kt := fun _ => ?_)
    refine tX9_behindToken_64  (r := ?_)
    refine tX9_behindToken_65  (hP := ?_)
    exact ⟨_, rfl, rfl, rfl⟩
  | succ n ih =>
    intro p hl hp
    refine tX9_behindToken_42  (r := ?_)
    refine tX9_behindToken_43  (r := ?_)
    refine tX9_behindToken_44 (ha := (by first | assumption | (repeat (first | assumption | exact At.set_eq2 (by first | omega | (simp only [hset, hnew]; omega) | rfl | decide) | exact At.new_eq2 _ _ (by first | omega | (simp only [hset, hnew]; omega) | rfl | decide) | refine At.set_ne ?_ (by first | omega | (simp only [hset, hnew]; omega) | rfl | decide) | refine At.new_ne ?_)))) (hv := rfl) (r := ?_)
    refine tX9_behindToken_47  (kt := fun c_47 => ?_) (kf := fun c_47 => ?_)
    · have ge : ¬ p < T.length := fun z => by have := (nI_leI (by omega) (by omega)).mp c_47; omega
      refine tX9_behindToken_64  (r := ?_)
      refine tX9_behindToken_65  (hP := ?_)
      exact ⟨_, rfl, congrArg nI (if_neg (fun z => ge z.1)).symm, rfl⟩
    · have lt : p < T.length := Nat.lt_of_not_le (fun z => c_47 ((nI_leI (by omega) (by omega)).mpr z))
      refine tX9_behindToken_50  (r := ?_)
      refine tX9_behindToken_51  (r := ?_)
      refine tX9_behindToken_52 (hd := (by omega)) (ha := (by first | assumption | (repeat (first | assumption | exact At.set_eq2 (by first | omega | (simp only [hset, hnew]; omega) | rfl | decide) | exact At.new_eq2 _ _ (by first | omega | (simp only [hset, hnew]; omega) | rfl | decide) | refine At.set_ne ?_ (by first | omega | (simp only [hset, hnew]; omega) | rfl | decide) | refine At.new_ne ?_)))) (call := s_tdig (d := 1) (by decide) ta (by omega)) (k := ?_)
      rintro x_ h_ ⟨hx_, e_⟩
      rw [e_, hx_]
      refine tX9_behindToken_55  (kt := fun c_55 => ?_) (kf := fun c_55 => ?_)
      · have e : ¬ dgT T p = true := fun z => by rw [if_pos z] at c_55; exact absurd c_55 (by decide)
        refine tX9_behindToken_64  (r := ?_)
        refine tX9_behindToken_65  (hP := ?_)
        exact ⟨_, rfl, congrArg nI (if_neg (fun z => e z.2)).symm, rfl⟩
      · have e : dgT T p = true := Classical.byContradiction (fun z => by rw [if_neg z] at c_55; exact c_55 rfl)
        refine tX9_behindToken_58  (r := ?_)
        rw [nI_add]
        refine tX9_behindToken_61 (r := ?_)
        have es : scT T (dgT T) (n + 1) p = scT T (dgT T) n (p + 1) := if_pos ⟨lt, e⟩
        rw [es]
        exact ih (p + 1) (by omega) (by omega)

set_option maxHeartbeats 4000000 in
set_option maxRecDepth 100000 in
theorem s_tokEnd (hd : 2 ≤ d) (ta : TaR h t T) {p : Nat} (hp : p ≤ 1600) : RQ G mX9_behindToken d 0 [some (.ref b), some (.ref t), some (.int (nI p)), none] [] h (Ri fun v h1 => v = nI (enT T p) ∧ h1 = h) := by
  obtain ⟨a0, l16, f, a1, hf⟩ := id ta
  refine tX9_behindToken_0  (r := ?_)
  refine tX9_behindToken_1  (r := ?_)
  refine tX9_behindToken_2  (r := ?_)
  rw [nI_add]
  refine tX9_behindToken_3  (r := ?_)
  refine tX9_behindToken_4  (r := ?_)
  refine tX9_behindToken_5  (r := ?_)
  refine tX9_behindToken_6 (hd := (by omega)) (ha := (by first | assumption | (repeat (first | assumption | exact At.set_eq2 (by first | omega | (simp only [hset, hnew]; omega) | rfl | decide) | exact At.new_eq2 _ _ (by first | omega | (simp only [hset, hnew]; omega) | rfl | decide) | refine At.set_ne ?_ (by first | omega | (simp only [hset, hnew]; omega) | rfl | decide) | refine At.new_ne ?_)))) (call := s_tlet (d := 1) (by decide) ta (by omega)) (k := ?_)
  rintro x_ h_ ⟨hx_, e_⟩
  rw [e_, hx_]
  refine tX9_behindToken_9  (kt := fun c_9 => ?_) (kf := fun c_9 => ?_)
  · have e : ¬ ltT T p = true := fun z => by rw [if_pos z] at c_9; exact absurd c_9 (by decide)
    refine tX9_behindToken_34  (r := ?_)
    refine tX9_behindToken_35  (r := ?_)
    refine tX9_behindToken_36 (hd := (by omega)) (ha := (by first | assumption | (repeat (first | assumption | exact At.set_eq2 (by first | omega | (simp only [hset, hnew]; omega) | rfl | decide) | exact At.new_eq2 _ _ (by first | omega | (simp only [hset, hnew]; omega) | rfl | decide) | refine At.set_ne ?_ (by first | omega | (simp only [hset, hnew]; omega) | rfl | decide) | refine At.new_ne ?_)))) (call := s_tdig (d := 1) (by decide) ta (by omega)) (k := ?_)
    rintro x_ h_ ⟨hx_, e_⟩
    rw [e_, hx_]
    refine tX9_behindToken_39  (kt := fun c_39 => ?_) (kf := fun c_39 => ?_)
    · have e2 : ¬ dgT T p = true := fun z => by rw [if_pos z] at c_39; exact absurd c_39 (by decide)
      have es : enT T p = p + 1 := (if_neg e).trans (if_neg e2)
      rw [es]
      refine tX9_behindToken_64  (r := ?_)
      refine tX9_behindToken_65  (hP := ?_)
      exact ⟨_, rfl, rfl, rfl⟩
    · have e2 : dgT T p = true := Classical.byContradiction (fun z => by rw [if_neg z] at c_39; exact c_39 rfl)
      have es : enT T p = scT T (dgT T) 1600 (p + 1) := (if_neg e).trans (if_pos e2)
      rw [es]
      exact s_tok42 hd ta 1600 (p + 1) (by omega) (by omega)
  · have e : ltT T p = true := Classical.byContradiction (fun z => by rw [if_neg z] at c_9; exact c_9 rfl)
    have es : enT T p = scT T (ltT T) 1600 (p + 1) := if_pos e
    rw [es]
    exact s_tok12 hd ta 1600 (p + 1) (by omega) (by omega)

/-- the text i stands from p to e -/
def rdT (T : List Nat) (i p e : Nat) : Bool := decide (tln i = e - p ∧ ∀ k, k < tln i → p + k < T.length ∧ T.getD (p + k) 0 = tby i k)
theorem tby_256 {i k : Nat} (hi : i < 40) (hk : k < tln i) : tby i k < 256 ∧ tln i < 10 := by
  have key : (List.range 40).all (fun i => decide (tln i < 10) && (List.range (tln i)).all (fun k => decide (tby i k < 256))) = true := by decide +kernel
  have k1 := List.all_eq_true.mp key i (List.mem_range.mpr hi)
  rw [Bool.and_eq_true] at k1
  exact ⟨of_decide_eq_true (List.all_eq_true.mp k1.2 k (List.mem_range.mpr hk)), of_decide_eq_true k1.1⟩
theorem tln_10 {i : Nat} (hi : i < 40) : tln i < 10 := by
  have key : (List.range 40).all (fun i => decide (tln i < 10)) = true := by decide +kernel
  exact of_decide_eq_true (List.all_eq_true.mp key i (List.mem_range.mpr hi))

set_option maxHeartbeats 4000000 in
set_option maxRecDepth 100000 in
theorem s_reads_l (hd : 5 ≤ d) (ta : TaR h t T) {n0 p e : Nat} (hn0 : n0 < 40) (hp : p ≤ 1600) (el : tln n0 = e - p) : ∀ (n i : Nat) , tln n0 ≤ i + n → i ≤ tln n0 → (∀ k, k < i → p + k < T.length ∧ T.getD (p + k) 0 = tby n0 k) → RQ G mX8_reads d 15 [some (.ref t), some (.ref (OLD + (100 + n0))), some (.int (nI p)), some (.int (nI e)), some (.int (nI i))] [] h (Ri fun v h1 => v = nI (if rdT T n0 p e = true then 1 else 0) ∧ h1 = h) := by
  have ex : ∀ (i : Nat) , i = tln n0 → (∀ k, k < i → p + k < T.length ∧ T.getD (p + k) 0 = tby n0 k) → RQ G mX8_reads d 15 [some (.ref t), some (.ref (OLD + (100 + n0))), some (.int (nI p)), some (.int (nI e)), some (.int (nI i))] [] h (Ri fun v h1 => v = nI (if rdT T n0 p e = true then 1 else 0) ∧ h1 = h) := by
    intro i  hi hk
    subst hi
    obtain ⟨a0, l16, f, a1, hf⟩ := id ta
    have t10 := tln_10 hn0
    refine tX8_reads_15  (r := ?_)
    refine tX8_reads_17  (r := ?_)
    refine tX8_reads_18 (hi := (by omega)) (hd := (by omega)) (r := ?_)
    refine tX8_reads_21  (kf := fun c_ => by exfalso; exact c_ ((nI_leI (by omega) (by omega)).mpr (by omega))) (kt := fun _ => ?_)
    refine tX8_reads_49  (r := ?_)
    refine tX8_reads_50 (hb := (by first | exact Or.inl rfl | exact Or.inr rfl | assumption)) (hP := ?_)
    have e1 : rdT T n0 p e = true := decide_eq_true ⟨el, hk⟩
    exact ⟨_, rfl, by rw [if_pos e1], rfl⟩
  intro n
  induction n with
  | zero => exact fun i  h1_ h2_ => ex i  (by omega)
  | succ n ih =>
    intro i  h1_ h2_ hk
    by_cases hi : i = tln n0
    · exact ex i  hi hk
    have hi2 : i < tln n0 := by omega
    obtain ⟨a0, l16, f, a1, hf⟩ := id ta
    have t10 := tln_10 hn0
    refine tX8_reads_15  (r := ?_)
    refine tX8_reads_17  (r := ?_)
    refine tX8_reads_18 (hi := (by omega)) (hd := (by omega)) (r := ?_)
    refine tX8_reads_21  (kt := fun c_ => by exfalso; exact absurd ((nI_leI (by omega) (by omega)).mp c_) (by omega)) (kf := fun _ => ?_)
    refine tX8_reads_24  (r := ?_)
    refine tX8_reads_25  (r := ?_)
    refine tX8_reads_26  (r := ?_)
    refine tX8_reads_28  (r := ?_)
    rw [nI_add]
    refine tX8_reads_29 (hd := (by omega)) (ha := (by first | assumption | (repeat (first | assumption | exact At.set_eq2 (by first | omega | (simp only [hset, hnew]; omega) | rfl | decide) | exact At.new_eq2 _ _ (by first | omega | (simp only [hset, hnew]; omega) | rfl | decide) | refine At.set_ne ?_ (by first | omega | (simp only [hset, hnew]; omega) | rfl | decide) | refine At.new_ne ?_)))) (call := s_tat (d := 0) ta (by omega)) (k := ?_)
    rintro x_ h_ ⟨hx_, e_⟩
    rw [e_, hx_]
    refine tX8_reads_32  (r := ?_)
    refine tX8_reads_33  (r := ?_)
    refine tX8_reads_35 (hi := (by omega)) (hx := rfl) (hj := hi2) (hd := (by omega)) (r := ?_)
    refine tX8_reads_38  (kt := fun c_38 => ?_) (kf := fun c_38 => ?_)
    · have lt : p + i < T.length := Classical.byContradiction (fun z => by
        rw [show atT T (p + i) = -1 from if_neg z, ci_m1_eq (by have := (tby_256 hn0 hi2).1; omega)] at c_38
        exact c_38)
      have b2 := (hf _ lt).2
      rw [show atT T (p + i) = nI (T.getD (p + i) 0) from if_pos lt, nI_eq (by omega) (by have := (tby_256 hn0 hi2).1; omega)] at c_38
      refine tX8_reads_43  (r := ?_)
      rw [nI_add]
      refine tX8_reads_46 (r := ?_)
      refine ih (i + 1) (by omega) (by omega) (fun k hk2 => ?_)
      by_cases z : k = i
      · rw [z]
        exact ⟨lt, c_38⟩
      · exact hk k (by omega)
    · have e1 : ¬ rdT T n0 p e = true := fun z => by
        obtain ⟨-, z2⟩ := of_decide_eq_true z
        obtain ⟨z3, z4⟩ := z2 i hi2
        rw [show atT T (p + i) = nI (T.getD (p + i) 0) from if_pos z3, z4] at c_38
        exact c_38 rfl
      refine tX8_reads_41  (r := ?_)
      refine tX8_reads_42 (hb := (by first | exact Or.inl rfl | exact Or.inr rfl | assumption)) (hP := ?_)
      exact ⟨_, rfl, by rw [if_neg e1], rfl⟩

set_option maxHeartbeats 4000000 in
set_option maxRecDepth 100000 in
theorem s_reads (hd : 5 ≤ d) (ta : TaR h t T) {n0 p e : Nat} (hn0 : n0 < 40) (hp : p ≤ 1600) (he : p ≤ e ∧ e ≤ 3000) : RQ G mX8_reads d 0 [some (.ref t), some (.ref (OLD + (100 + n0))), some (.int (nI p)), some (.int (nI e)), none] [] h (Ri fun v h1 => v = nI (if rdT T n0 p e = true then 1 else 0) ∧ h1 = h) := by
  obtain ⟨a0, l16, f, a1, hf⟩ := id ta
  have t10 := tln_10 hn0
  refine tX8_reads_0  (r := ?_)
  refine tX8_reads_1 (hi := (by omega)) (hd := (by omega)) (r := ?_)
  refine tX8_reads_4  (r := ?_)
  refine tX8_reads_5  (r := ?_)
  refine tX8_reads_6  (r := ?_)
  rw [nI_subN he.1 (by omega)]
  refine tX8_reads_7  (kt := fun c_7 => ?_) (kf := fun c_7 => ?_)
  · have el : tln n0 = e - p := (nI_eq (by omega) (by omega)).mp c_7
    refine tX8_reads_12  (r := ?_)
    refine tX8_reads_13  (r := ?_)
    exact s_reads_l hd ta hn0 hp el (tln n0) 0 (by omega) (by omega) (fun k hk => absurd hk (Nat.not_lt_zero k))
  · have e1 : ¬ rdT T n0 p e = true := fun z => c_7 (congrArg nI (of_decide_eq_true z).1)
    refine tX8_reads_10  (r := ?_)
    refine tX8_reads_11 (hb := (by first | exact Or.inl rfl | exact Or.inr rfl | assumption)) (hP := ?_)
    exact ⟨_, rfl, by rw [if_neg e1], rfl⟩

end TAQ
