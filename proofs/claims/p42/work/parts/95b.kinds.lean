/-! the class's tokens: kinds and values -/
/-- the text of a kind stands there -/
def wdT (T : List Nat) (p e k : Nat) : Nat := if rdT T (TXl k) p e = true then 1 else 0
def kiT (T : List Nat) (p e : Nat) : Nat := if T.length ≤ p then 41 else match fnN (wdT T p e) 1 43 with
  | some k => k
  | none => if ltT T p = true ∧ e - p ≤ 8 then 39 else if dgT T p = true ∧ e - p ≤ 4 then 40 else 42
theorem TXl_40 (k : Nat) : TXl k < 40 := by
  unfold TXl
  split <;> omega
section TAK
variable {G : GT} {d : Nat} {h : AH} {t b : Nat} {T : List Nat}

set_option maxHeartbeats 4000000 in
set_option maxRecDepth 100000 in
theorem s_kind_l (hd : 7 ≤ d) (ta : TaR h t T) {p e : Nat} (hp : p < T.length) (he : p ≤ e ∧ e ≤ 3000) : ∀ (n i : Nat) , 43 ≤ i + n → i ≤ 43 → (∀ k, k < i → wdT T p e k ≠ 1) → RQ G mX9_kindOf d 15 [some (.ref b), some (.ref t), some (.int (nI p)), some (.int (nI e)), some (.int (nI i))] [] h (Rr fun v h1 => v = OLD + kiT T p e ∧ h1 = h) := by
  have ex : ∀ (i : Nat) , i = 43 → (∀ k, k < i → wdT T p e k ≠ 1) → RQ G mX9_kindOf d 15 [some (.ref b), some (.ref t), some (.int (nI p)), some (.int (nI e)), some (.int (nI i))] [] h (Rr fun v h1 => v = OLD + kiT T p e ∧ h1 = h) := by
    intro i  hi hk
    subst hi
    obtain ⟨a0, l16, f, a1, hf⟩ := id ta
    refine tX9_kindOf_15  (r := ?_)
    refine tX9_kindOf_17  (r := ?_)
    refine tX9_kindOf_20  (r := ?_)
    refine tX9_kindOf_21  (kf := fun c_ => by exfalso; exact c_ (by decide)) (kt := fun _ => ?_)
    refine tX9_kindOf_55  (r := ?_)
    refine tX9_kindOf_56  (r := ?_)
    refine tX9_kindOf_57 (hd := (by omega)) (ha := (by first | assumption | (repeat (first | assumption | exact At.set_eq2 (by first | omega | (simp only [hset, hnew]; omega) | rfl | decide) | exact At.new_eq2 _ _ (by first | omega | (simp only [hset, hnew]; omega) | rfl | decide) | refine At.set_ne ?_ (by first | omega | (simp only [hset, hnew]; omega) | rfl | decide) | refine At.new_ne ?_)))) (call := s_tlet (d := 5) (by decide) ta (by omega)) (k := ?_)
    rintro x_ h_ ⟨hx_, e_⟩
    rw [e_, hx_]
    have kf : fnN (wdT T p e) 1 43 = none := fnN_none.mpr hk
    have ke : kiT T p e = (if ltT T p = true ∧ e - p ≤ 8 then 39 else if dgT T p = true ∧ e - p ≤ 4 then 40 else 42) := by
      unfold kiT
      rw [if_neg (by omega), kf]
    refine tX9_kindOf_60  (kt := fun c_60 => ?_) (kf := fun c_60 => ?_)
    · have e_60 : ¬ ltT T p = true := fun z => by rw [if_pos z] at c_60; exact absurd c_60 (by decide)
      refine tX9_kindOf_75  (r := ?_)
      refine tX9_kindOf_76  (r := ?_)
      refine tX9_kindOf_77 (hd := (by omega)) (ha := (by first | assumption | (repeat (first | assumption | exact At.set_eq2 (by first | omega | (simp only [hset, hnew]; omega) | rfl | decide) | exact At.new_eq2 _ _ (by first | omega | (simp only [hset, hnew]; omega) | rfl | decide) | refine At.set_ne ?_ (by first | omega | (simp only [hset, hnew]; omega) | rfl | decide) | refine At.new_ne ?_)))) (call := s_tdig (d := 5) (by decide) ta (by omega)) (k := ?_)
      rintro x_ h_ ⟨hx_, e_⟩
      rw [e_, hx_]
      refine tX9_kindOf_80  (kt := fun c_80 => ?_) (kf := fun c_80 => ?_)
      · have e_80 : ¬ dgT T p = true := fun z => by rw [if_pos z] at c_80; exact absurd c_80 (by decide)
        refine tX9_kindOf_96  (r := ?_)
        refine tX9_kindOf_99  (hP := ?_)
        refine ⟨_, rfl, ?_, rfl⟩
        rw [ke]
        have ee : (if ltT T p = true ∧ e - p ≤ 8 then 39 else if dgT T p = true ∧ e - p ≤ 4 then 40 else 42) = 42 := (if_neg (fun z => e_60 z.1)).trans (if_neg (fun z => e_80 z.1))
        rw [ee]
      · have e_80 : dgT T p = true := Classical.byContradiction (fun z => by rw [if_neg z] at c_80; exact c_80 rfl)
        refine tX9_kindOf_83  (r := ?_)
        refine tX9_kindOf_84  (r := ?_)
        refine tX9_kindOf_85  (r := ?_)
        rw [nI_subN he.1 (by omega)]
        refine tX9_kindOf_86  (r := ?_)
        refine tX9_kindOf_87  (kt := fun c_87 => ?_) (kf := fun c_87 => ?_)
        · have g4 : ¬ e - p ≤ 4 := fun z => by have := (nI_ltI (by decide) (by omega)).mp c_87; omega
          refine tX9_kindOf_96  (r := ?_)
          refine tX9_kindOf_99  (hP := ?_)
          refine ⟨_, rfl, ?_, rfl⟩
          rw [ke]
          have ee : (if ltT T p = true ∧ e - p ≤ 8 then 39 else if dgT T p = true ∧ e - p ≤ 4 then 40 else 42) = 42 := (if_neg (fun z => e_60 z.1)).trans (if_neg (fun z => g4 z.2))
          rw [ee]
        · have g4 : e - p ≤ 4 := Nat.le_of_not_lt (fun z => c_87 ((nI_ltI (by decide) (by omega)).mpr z))
          refine tX9_kindOf_90  (r := ?_)
          refine tX9_kindOf_93 (r := ?_)
          refine tX9_kindOf_99  (hP := ?_)
          refine ⟨_, rfl, ?_, rfl⟩
          rw [ke]
          have ee : (if ltT T p = true ∧ e - p ≤ 8 then 39 else if dgT T p = true ∧ e - p ≤ 4 then 40 else 42) = 40 := (if_neg (fun z => e_60 z.1)).trans (if_pos ⟨e_80, g4⟩)
          rw [ee]
    · have e_60 : ltT T p = true := Classical.byContradiction (fun z => by rw [if_neg z] at c_60; exact c_60 rfl)
      refine tX9_kindOf_63  (r := ?_)
      refine tX9_kindOf_64  (r := ?_)
      refine tX9_kindOf_65  (r := ?_)
      rw [nI_subN he.1 (by omega)]
      refine tX9_kindOf_66  (r := ?_)
      refine tX9_kindOf_68  (kt := fun c_68 => ?_) (kf := fun c_68 => ?_)
      · have g8 : ¬ e - p ≤ 8 := fun z => by have := (nI_ltI (by decide) (by omega)).mp c_68; omega
        refine tX9_kindOf_75  (r := ?_)
        refine tX9_kindOf_76  (r := ?_)
        refine tX9_kindOf_77 (hd := (by omega)) (ha := (by first | assumption | (repeat (first | assumption | exact At.set_eq2 (by first | omega | (simp only [hset, hnew]; omega) | rfl | decide) | exact At.new_eq2 _ _ (by first | omega | (simp only [hset, hnew]; omega) | rfl | decide) | refine At.set_ne ?_ (by first | omega | (simp only [hset, hnew]; omega) | rfl | decide) | refine At.new_ne ?_)))) (call := s_tdig (d := 5) (by decide) ta (by omega)) (k := ?_)
        rintro x_ h_ ⟨hx_, e_⟩
        rw [e_, hx_]
        refine tX9_kindOf_80  (kt := fun c_80 => ?_) (kf := fun c_80 => ?_)
        · have e_80 : ¬ dgT T p = true := fun z => by rw [if_pos z] at c_80; exact absurd c_80 (by decide)
          refine tX9_kindOf_96  (r := ?_)
          refine tX9_kindOf_99  (hP := ?_)
          refine ⟨_, rfl, ?_, rfl⟩
          rw [ke]
          have ee : (if ltT T p = true ∧ e - p ≤ 8 then 39 else if dgT T p = true ∧ e - p ≤ 4 then 40 else 42) = 42 := (if_neg (fun z => g8 z.2)).trans (if_neg (fun z => e_80 z.1))
          rw [ee]
        · have e_80 : dgT T p = true := Classical.byContradiction (fun z => by rw [if_neg z] at c_80; exact c_80 rfl)
          refine tX9_kindOf_83  (r := ?_)
          refine tX9_kindOf_84  (r := ?_)
          refine tX9_kindOf_85  (r := ?_)
          rw [nI_subN he.1 (by omega)]
          refine tX9_kindOf_86  (r := ?_)
          refine tX9_kindOf_87  (kt := fun c_87 => ?_) (kf := fun c_87 => ?_)
          · have g4 : ¬ e - p ≤ 4 := fun z => by have := (nI_ltI (by decide) (by omega)).mp c_87; omega
            refine tX9_kindOf_96  (r := ?_)
            refine tX9_kindOf_99  (hP := ?_)
            refine ⟨_, rfl, ?_, rfl⟩
            rw [ke]
            have ee : (if ltT T p = true ∧ e - p ≤ 8 then 39 else if dgT T p = true ∧ e - p ≤ 4 then 40 else 42) = 42 := (if_neg (fun z => g8 z.2)).trans (if_neg (fun z => g4 z.2))
            rw [ee]
          · have g4 : e - p ≤ 4 := Nat.le_of_not_lt (fun z => c_87 ((nI_ltI (by decide) (by omega)).mpr z))
            refine tX9_kindOf_90  (r := ?_)
            refine tX9_kindOf_93 (r := ?_)
            refine tX9_kindOf_99  (hP := ?_)
            refine ⟨_, rfl, ?_, rfl⟩
            rw [ke]
            have ee : (if ltT T p = true ∧ e - p ≤ 8 then 39 else if dgT T p = true ∧ e - p ≤ 4 then 40 else 42) = 40 := (if_neg (fun z => g8 z.2)).trans (if_pos ⟨e_80, g4⟩)
            rw [ee]
      · have g8 : e - p ≤ 8 := Nat.le_of_not_lt (fun z => c_68 ((nI_ltI (by decide) (by omega)).mpr z))
        refine tX9_kindOf_71  (r := ?_)
        refine tX9_kindOf_74  (hP := ?_)
        refine ⟨_, rfl, ?_, rfl⟩
        rw [ke]
        have ee : (if ltT T p = true ∧ e - p ≤ 8 then 39 else if dgT T p = true ∧ e - p ≤ 4 then 40 else 42) = 39 := if_pos ⟨e_60, g8⟩
        rw [ee]
  intro n
  induction n with
  | zero => exact fun i  h1_ h2_ => ex i  (by omega)
  | succ n ih =>
    intro i  h1_ h2_ hk
    by_cases hi : i = 43
    · exact ex i  hi hk
    have hi2 : i < 43 := by omega
    obtain ⟨a0, l16, f, a1, hf⟩ := id ta
    refine tX9_kindOf_15  (r := ?_)
    refine tX9_kindOf_17  (r := ?_)
    refine tX9_kindOf_20  (r := ?_)
    refine tX9_kindOf_21  (kt := fun c_ => by exfalso; exact absurd ((nI_leI (by decide) (by omega)).mp c_) (by omega)) (kf := fun _ => ?_)
    refine tX9_kindOf_24  (r := ?_)
    refine tX9_kindOf_25  (r := ?_)
    refine tX9_kindOf_28  (r := ?_)
    refine tX9_kindOf_30 (hx := rfl) (hj := hi2) (r := ?_)
    refine tX9_kindOf_31 (hi := hi2) (r := ?_)
    refine tX9_kindOf_34  (r := ?_)
    refine tX9_kindOf_35  (r := ?_)
    refine tX9_kindOf_36 (hd := (by omega)) (ha := (by first | assumption | (repeat (first | assumption | exact At.set_eq2 (by first | omega | (simp only [hset, hnew]; omega) | rfl | decide) | exact At.new_eq2 _ _ (by first | omega | (simp only [hset, hnew]; omega) | rfl | decide) | refine At.set_ne ?_ (by first | omega | (simp only [hset, hnew]; omega) | rfl | decide) | refine At.new_ne ?_)))) (call := s_reads (d := 6) (by decide) ta (TXl_40 i) (by omega) he) (k := ?_)
    rintro x_ h_ ⟨hx_, e_⟩
    rw [e_, hx_]
    refine tX9_kindOf_39  (kt := fun c_39 => ?_) (kf := fun c_39 => ?_)
    · have ew : ¬ rdT T (TXl i) p e = true := fun z => by rw [if_pos z] at c_39; exact absurd c_39 (by decide)
      refine tX9_kindOf_49  (r := ?_)
      rw [nI_add]
      refine tX9_kindOf_52 (r := ?_)
      refine ih (i + 1) (by omega) (by omega) (fun k hk2 => ?_)
      by_cases z : k = i
      · rw [z]
        unfold wdT
        rw [if_neg ew]
        decide
      · exact hk k (by omega)
    · have ew : rdT T (TXl i) p e = true := Classical.byContradiction (fun z => by rw [if_neg z] at c_39; exact c_39 rfl)
      have hw : wdT T p e i = 1 := by
        unfold wdT
        exact if_pos ew
      have kf : fnN (wdT T p e) 1 43 = some i := fnN_first (f := wdT T p e) (v := 1) (i := i) (n := 43) hw hk hi2
      have ke : kiT T p e = i := by
        unfold kiT
        rw [if_neg (by omega), kf]
      refine tX9_kindOf_42  (r := ?_)
      refine tX9_kindOf_45  (r := ?_)
      refine tX9_kindOf_47 (hx := rfl) (hj := hi2) (r := ?_)
      refine tX9_kindOf_48  (hP := ?_)
      exact ⟨_, rfl, by rw [ke], rfl⟩

set_option maxHeartbeats 4000000 in
set_option maxRecDepth 100000 in
theorem s_kindOf (hd : 7 ≤ d) (ta : TaR h t T) {p e : Nat} (hp : p ≤ 1600) (he : p ≤ e ∧ e ≤ 3000) : RQ G mX9_kindOf d 0 [some (.ref b), some (.ref t), some (.int (nI p)), some (.int (nI e)), none] [] h (Rr fun v h1 => v = OLD + kiT T p e ∧ h1 = h) := by
  obtain ⟨a0, l16, f, a1, hf⟩ := id ta
  refine tX9_kindOf_0  (r := ?_)
  refine tX9_kindOf_1  (r := ?_)
  refine tX9_kindOf_2 (ha := (by first | assumption | (repeat (first | assumption | exact At.set_eq2 (by first | omega | (simp only [hset, hnew]; omega) | rfl | decide) | exact At.new_eq2 _ _ (by first | omega | (simp only [hset, hnew]; omega) | rfl | decide) | refine At.set_ne ?_ (by first | omega | (simp only [hset, hnew]; omega) | rfl | decide) | refine At.new_ne ?_)))) (hv := rfl) (r := ?_)
  refine tX9_kindOf_5  (kt := fun c_5 => ?_) (kf := fun c_5 => ?_)
  · have lt : p < T.length := (nI_ltI (by omega) (by omega)).mp c_5
    refine tX9_kindOf_12  (r := ?_)
    refine tX9_kindOf_13  (r := ?_)
    exact s_kind_l hd ta lt he 43 0 (by omega) (by omega) (fun k hk => absurd hk (Nat.not_lt_zero k))
  · have ge : T.length ≤ p := Nat.le_of_not_lt (fun z => c_5 ((nI_ltI (by omega) (by omega)).mpr z))
    have ke : kiT T p e = 41 := by
      unfold kiT
      exact if_pos ge
    refine tX9_kindOf_8  (r := ?_)
    refine tX9_kindOf_11  (hP := ?_)
    exact ⟨_, rfl, by rw [ke], rfl⟩

end TAK
