/-! the reference's words -/
def kwT (T : List Nat) (p n : Nat) : Nat := match fnN (wdT T p (p + n)) 1 27 with
  | some k => k
  | none => if n ≤ 8 then 30 else 32
section RTW
variable {G : GT} {d : Nat} {h : AH} {m : Nat} {T : List Nat}

set_option maxHeartbeats 4000000 in
set_option maxRecDepth 100000 in
theorem s_mword_l (hd : 5 ≤ d) (tp : TpM h m T) {n0 p c : Nat} (hn0 : n0 < 40) (hp : p + c ≤ T.length) (el : tln n0 = c) : ∀ (n i : Nat) , c ≤ i + n → i ≤ c → (∀ k, k < i → p + k < T.length ∧ T.getD (p + k) 0 = tby n0 k) → RQ G mX12_isWord d 13 [some (.ref m), some (.int (nI p)), some (.int (nI c)), some (.ref (OLD + (100 + n0))), some (.int (nI i))] [] h (Ri fun v h1 => v = nI (if rdT T n0 p (p + c) = true then 1 else 0) ∧ h1 = h) := by
  have ex : ∀ (i : Nat) , i = c → (∀ k, k < i → p + k < T.length ∧ T.getD (p + k) 0 = tby n0 k) → RQ G mX12_isWord d 13 [some (.ref m), some (.int (nI p)), some (.int (nI c)), some (.ref (OLD + (100 + n0))), some (.int (nI i))] [] h (Ri fun v h1 => v = nI (if rdT T n0 p (p + c) = true then 1 else 0) ∧ h1 = h) := by
    intro i  hi hk
    subst hi
    obtain ⟨⟨th, ea, tk, iw, er, et, dp, nm, a0⟩, ⟨f, a1, hf⟩, l16, hT⟩ := id tp
    refine tX12_isWord_13  (r := ?_)
    refine tX12_isWord_15  (r := ?_)
    refine tX12_isWord_16  (kf := fun c_ => by exfalso; exact c_ ((nI_leI (by omega) (by omega)).mpr (by omega))) (kt := fun _ => ?_)
    refine tX12_isWord_45  (r := ?_)
    refine tX12_isWord_46 (hb := (by first | exact Or.inl rfl | exact Or.inr rfl | assumption)) (hP := ?_)
    have e1 : rdT T n0 p (p + i) = true := decide_eq_true ⟨by omega, fun k hk2 => hk k (by omega)⟩
    exact ⟨_, rfl, by rw [if_pos e1], rfl⟩
  intro n
  induction n with
  | zero => exact fun i  h1_ h2_ => ex i  (by omega)
  | succ n ih =>
    intro i  h1_ h2_ hk
    by_cases hi : i = c
    · exact ex i  hi hk
    have hi2 : i < c := by omega
    obtain ⟨⟨th, ea, tk, iw, er, et, dp, nm, a0⟩, ⟨f, a1, hf⟩, l16, hT⟩ := id tp
    refine tX12_isWord_13  (r := ?_)
    refine tX12_isWord_15  (r := ?_)
    refine tX12_isWord_16  (kt := fun c_ => by exfalso; exact absurd ((nI_leI (by omega) (by omega)).mp c_) (by omega)) (kf := fun _ => ?_)
    refine tX12_isWord_19  (r := ?_)
    refine tX12_isWord_20  (r := ?_)
    refine tX12_isWord_22 (hi := hn0) (hx := rfl) (hj := (by omega)) (hd := (by omega)) (r := ?_)
    refine tX12_isWord_25  (r := ?_)
    refine tX12_isWord_26 (ha := (by first | assumption | (repeat (first | assumption | exact At.set_eq2 (by first | omega | (simp only [hset, hnew]; omega) | rfl | decide) | exact At.new_eq2 _ _ (by first | omega | (simp only [hset, hnew]; omega) | rfl | decide) | refine At.set_ne ?_ (by first | omega | (simp only [hset, hnew]; omega) | rfl | decide) | refine At.new_ne ?_)))) (hv := rfl) (r := ?_)
    refine tX12_isWord_29  (r := ?_)
    refine tX12_isWord_30  (r := ?_)
    refine tX12_isWord_32  (r := ?_)
    rw [nI_add]
    refine tX12_isWord_33 (ha := (by first | assumption | (repeat (first | assumption | exact At.set_eq2 (by first | omega | (simp only [hset, hnew]; omega) | rfl | decide) | exact At.new_eq2 _ _ (by first | omega | (simp only [hset, hnew]; omega) | rfl | decide) | refine At.set_ne ?_ (by first | omega | (simp only [hset, hnew]; omega) | rfl | decide) | refine At.new_ne ?_)))) (hx := rfl) (hj := (by omega)) (hn := (by decide)) (r := ?_)
    rw [hf _ (by omega)]
    have b1 := hT (p + i) (by omega)
    have b2 := (tby_256 hn0 (show i < tln n0 by omega)).1
    refine tX12_isWord_34  (kt := fun c_34 => ?_) (kf := fun c_34 => ?_)
    · have eq : tby n0 i = T.getD (p + i) 0 := (nI_eq (by omega) (by omega)).mp c_34
      refine tX12_isWord_39  (r := ?_)
      rw [nI_add]
      refine tX12_isWord_42 (r := ?_)
      refine ih (i + 1) (by omega) (by omega) (fun k hk2 => ?_)
      by_cases z : k = i
      · rw [z]
        exact ⟨by omega, eq.symm⟩
      · exact hk k (by omega)
    · have e1 : ¬ rdT T n0 p (p + c) = true := fun z => by
        obtain ⟨-, z2⟩ := of_decide_eq_true z
        obtain ⟨z3, z4⟩ := z2 i (by omega)
        exact c_34 (congrArg nI z4.symm)
      refine tX12_isWord_37  (r := ?_)
      refine tX12_isWord_38 (hb := (by first | exact Or.inl rfl | exact Or.inr rfl | assumption)) (hP := ?_)
      exact ⟨_, rfl, by rw [if_neg e1], rfl⟩

set_option maxHeartbeats 4000000 in
set_option maxRecDepth 100000 in
theorem s_mword (hd : 5 ≤ d) (tp : TpM h m T) {n0 p c : Nat} (hn0 : n0 < 40) (hp : p + c ≤ T.length) : RQ G mX12_isWord d 0 [some (.ref m), some (.int (nI p)), some (.int (nI c)), some (.ref (OLD + (100 + n0))), none] [] h (Ri fun v h1 => v = nI (if rdT T n0 p (p + c) = true then 1 else 0) ∧ h1 = h) := by
  obtain ⟨⟨th, ea, tk, iw, er, et, dp, nm, a0⟩, ⟨f, a1, hf⟩, l16, hT⟩ := id tp
  have t10 := tln_10 hn0
  refine tX12_isWord_0  (r := ?_)
  refine tX12_isWord_1 (hi := hn0) (hd := (by omega)) (r := ?_)
  refine tX12_isWord_4  (r := ?_)
  refine tX12_isWord_5  (kt := fun c_5 => ?_) (kf := fun c_5 => ?_)
  · have el : tln n0 = c := (nI_eq (by omega) (by omega)).mp c_5
    refine tX12_isWord_10  (r := ?_)
    refine tX12_isWord_11  (r := ?_)
    exact s_mword_l hd tp hn0 hp el c 0 (by omega) (by omega) (fun k hk => absurd hk (Nat.not_lt_zero k))
  · have e1 : ¬ rdT T n0 p (p + c) = true := fun z => c_5 (congrArg nI (by have := (of_decide_eq_true z).1; omega))
    refine tX12_isWord_8  (r := ?_)
    refine tX12_isWord_9 (hb := (by first | exact Or.inl rfl | exact Or.inr rfl | assumption)) (hP := ?_)
    exact ⟨_, rfl, by rw [if_neg e1], rfl⟩

set_option maxHeartbeats 4000000 in
set_option maxRecDepth 100000 in
theorem s_mkey_l (hd : 7 ≤ d) (tp : TpM h m T) {p c : Nat} (hp : p + c ≤ T.length) : ∀ (n i : Nat) , 27 ≤ i + n → i ≤ 27 → (∀ k, k < i → wdT T p (p + c) k ≠ 1) → RQ G mX12_keyword d 2 [some (.ref m), some (.int (nI p)), some (.int (nI c)), some (.int (nI i))] [] h (Ri fun v h1 => v = nI (kwT T p c) ∧ h1 = h) := by
  have ex : ∀ (i : Nat) , i = 27 → (∀ k, k < i → wdT T p (p + c) k ≠ 1) → RQ G mX12_keyword d 2 [some (.ref m), some (.int (nI p)), some (.int (nI c)), some (.int (nI i))] [] h (Ri fun v h1 => v = nI (kwT T p c) ∧ h1 = h) := by
    intro i  hi hk
    subst hi
    obtain ⟨⟨th, ea, tk, iw, er, et, dp, nm, a0⟩, ⟨f, a1, hf⟩, l16, hT⟩ := id tp
    refine tX12_keyword_2  (r := ?_)
    refine tX12_keyword_3  (r := ?_)
    refine tX12_keyword_6  (r := ?_)
    refine tX12_keyword_7  (kf := fun c_ => by exfalso; exact c_ (by decide)) (kt := fun _ => ?_)
    refine tX12_keyword_32  (r := ?_)
    refine tX12_keyword_33  (r := ?_)
    refine tX12_keyword_35  (kt := fun c_35 => ?_) (kf := fun c_35 => ?_)
    · have g8 : c ≤ 8 := (nI_leI (by omega) (by decide)).mp c_35
      have ke : kwT T p c = 30 := by
        unfold kwT
        rw [fnN_none.mpr hk]
        exact if_pos g8
      refine tX12_keyword_43  (r := ?_)
      refine tX12_keyword_45  (hP := ?_)
      exact ⟨_, rfl, by rw [ke], rfl⟩
    · have g8 : ¬ c ≤ 8 := fun z => c_35 ((nI_leI (by omega) (by decide)).mpr z)
      have ke : kwT T p c = 32 := by
        unfold kwT
        rw [fnN_none.mpr hk]
        exact if_neg g8
      refine tX12_keyword_38  (r := ?_)
      refine tX12_keyword_40 (r := ?_)
      refine tX12_keyword_45  (hP := ?_)
      exact ⟨_, rfl, by rw [ke], rfl⟩
  intro n
  induction n with
  | zero => exact fun i  h1_ h2_ => ex i  (by omega)
  | succ n ih =>
    intro i  h1_ h2_ hk
    by_cases hi : i = 27
    · exact ex i  hi hk
    have hi2 : i < 27 := by omega
    obtain ⟨⟨th, ea, tk, iw, er, et, dp, nm, a0⟩, ⟨f, a1, hf⟩, l16, hT⟩ := id tp
    refine tX12_keyword_2  (r := ?_)
    refine tX12_keyword_3  (r := ?_)
    refine tX12_keyword_6  (r := ?_)
    refine tX12_keyword_7  (kt := fun c_ => by exfalso; exact absurd ((nI_leI (by decide) (by omega)).mp c_) (by omega)) (kf := fun _ => ?_)
    refine tX12_keyword_10  (r := ?_)
    refine tX12_keyword_11  (r := ?_)
    refine tX12_keyword_12  (r := ?_)
    refine tX12_keyword_13  (r := ?_)
    refine tX12_keyword_16  (r := ?_)
    refine tX12_keyword_17 (hx := rfl) (hj := hi2) (r := ?_)
    refine tX12_keyword_18 (hd := (by omega)) (ha := (by first | assumption | (repeat (first | assumption | exact At.set_eq2 (by first | omega | (simp only [hset, hnew]; omega) | rfl | decide) | exact At.new_eq2 _ _ (by first | omega | (simp only [hset, hnew]; omega) | rfl | decide) | refine At.set_ne ?_ (by first | omega | (simp only [hset, hnew]; omega) | rfl | decide) | refine At.new_ne ?_)))) (call := s_mword (d := 6) (by decide) tp (n0 := i) (by omega) hp) (k := ?_)
    rintro x_ h_ ⟨hx_, e_⟩
    rw [e_, hx_]
    have tx : TXl i = i := if_pos (by omega)
    refine tX12_keyword_21  (kt := fun c_21 => ?_) (kf := fun c_21 => ?_)
    · have ew : ¬ rdT T i p (p + c) = true := fun z => by rw [if_pos z] at c_21; exact absurd c_21 (by decide)
      refine tX12_keyword_26  (r := ?_)
      rw [nI_add]
      refine tX12_keyword_29 (r := ?_)
      refine ih (i + 1) (by omega) (by omega) (fun k hk2 => ?_)
      by_cases z : k = i
      · rw [z]
        unfold wdT
        rw [tx, if_neg ew]
        decide
      · exact hk k (by omega)
    · have ew : rdT T i p (p + c) = true := Classical.byContradiction (fun z => by rw [if_neg z] at c_21; exact c_21 rfl)
      have hw : wdT T p (p + c) i = 1 := by
        unfold wdT
        rw [tx]
        exact if_pos ew
      have ke : kwT T p c = i := by
        unfold kwT
        rw [fnN_first (f := wdT T p (p + c)) (v := 1) (i := i) (n := 27) hw hk hi2]
      refine tX12_keyword_24  (r := ?_)
      refine tX12_keyword_25  (hP := ?_)
      exact ⟨_, rfl, by rw [ke], rfl⟩

set_option maxHeartbeats 4000000 in
set_option maxRecDepth 100000 in
theorem s_mkey (hd : 7 ≤ d) (tp : TpM h m T) {p c : Nat} (hp : p + c ≤ T.length) : RQ G mX12_keyword d 0 [some (.ref m), some (.int (nI p)), some (.int (nI c)), none] [] h (Ri fun v h1 => v = nI (kwT T p c) ∧ h1 = h) := by
  refine tX12_keyword_0  (r := ?_)
  refine tX12_keyword_1  (r := ?_)
  exact s_mkey_l hd tp hp 27 0 (by omega) (by omega) (fun k hk => absurd hk (Nat.not_lt_zero k))

end RTW
