/-! the tape in tokens: the class looks at its bytes -/
def atT (T : List Nat) (p : Nat) : Int32 := if p < T.length then nI (T.getD p 0) else -1
def byT (T : List Nat) (p lo hi : Nat) : Bool := decide (p < T.length ∧ lo ≤ T.getD p 0 ∧ T.getD p 0 ≤ hi)
def ltT (T : List Nat) (p : Nat) : Bool := byT T p 97 122
def dgT (T : List Nat) (p : Nat) : Bool := byT T p 48 57
def blT (T : List Nat) (p : Nat) : Bool := decide (p < T.length ∧ (T.getD p 0 = 32 ∨ T.getD p 0 = 10))
/-- behind all that f holds of -/
def scT (T : List Nat) (f : Nat → Bool) : Nat → Nat → Nat
  | 0, p => p
  | n + 1, p => if p < T.length ∧ f p = true then scT T f n (p + 1) else p
def skT (T : List Nat) (p : Nat) : Nat := scT T (blT T) 1600 p
def enT (T : List Nat) (p : Nat) : Nat := if ltT T p = true then scT T (ltT T) 1600 (p + 1) else if dgT T p = true then scT T (dgT T) 1600 (p + 1) else p + 1
theorem b255 {b : Nat} (hb : b < 256) : ((nI b).toInt8.toInt32 &&& nI 255) = nI b := by
  have key : (List.range 256).all (fun b => ((nI b).toInt8.toInt32 &&& nI 255) == nI b) = true := by decide +kernel
  exact eq_of_beq (List.all_eq_true.mp key b (List.mem_range.mpr hb))
section TAP
variable {G : GT} {d : Nat} {h : AH} {t b : Nat} {T : List Nat}

set_option maxHeartbeats 4000000 in
set_option maxRecDepth 100000 in
theorem s_tat (ta : TaR h t T) {p : Nat} (hp : p < 5000) : RQ G mX8_at d 0 [some (.ref t), some (.int (nI p))] [] h (Ri fun v h1 => v = atT T p ∧ h1 = h) := by
  obtain ⟨a0, l16, f, a1, hf⟩ := id ta
  refine tX8_at_0  (r := ?_)
  refine tX8_at_1  (kt := fun c_ => by exfalso; exact absurd c_ (nI_pos (by omega))) (kf := fun _ => ?_)
  refine tX8_at_4  (r := ?_)
  refine tX8_at_5  (r := ?_)
  refine tX8_at_6 (ha := (by first | assumption | (repeat (first | assumption | exact At.set_eq2 (by first | omega | (simp only [hset, hnew]; omega) | rfl | decide) | exact At.new_eq2 _ _ (by first | omega | (simp only [hset, hnew]; omega) | rfl | decide) | refine At.set_ne ?_ (by first | omega | (simp only [hset, hnew]; omega) | rfl | decide) | refine At.new_ne ?_)))) (hv := rfl) (r := ?_)
  refine tX8_at_9  (kt := fun c_9 => ?_) (kf := fun c_9 => ?_)
  · have ge : ¬ p < T.length := fun z => by have := (nI_leI (by omega) (by omega)).mp c_9; omega
    refine tX8_at_25  (r := ?_)
    refine tX8_at_26  (hP := ?_)
    exact ⟨_, rfl, (if_neg ge).symm, rfl⟩
  · have lt : p < T.length := Nat.lt_of_not_le (fun z => c_9 ((nI_leI (by omega) (by omega)).mpr z))
    refine tX8_at_12  (r := ?_)
    refine tX8_at_13 (ha := (by first | assumption | (repeat (first | assumption | exact At.set_eq2 (by first | omega | (simp only [hset, hnew]; omega) | rfl | decide) | exact At.new_eq2 _ _ (by first | omega | (simp only [hset, hnew]; omega) | rfl | decide) | refine At.set_ne ?_ (by first | omega | (simp only [hset, hnew]; omega) | rfl | decide) | refine At.new_ne ?_)))) (hv := rfl) (r := ?_)
    refine tX8_at_16  (r := ?_)
    refine tX8_at_17 (ha := (by first | assumption | (repeat (first | assumption | exact At.set_eq2 (by first | omega | (simp only [hset, hnew]; omega) | rfl | decide) | exact At.new_eq2 _ _ (by first | omega | (simp only [hset, hnew]; omega) | rfl | decide) | refine At.set_ne ?_ (by first | omega | (simp only [hset, hnew]; omega) | rfl | decide) | refine At.new_ne ?_)))) (hx := rfl) (hj := (by omega)) (hn := (by decide)) (r := ?_)
    rw [(hf p lt).1]
    refine tX8_at_18  (r := ?_)
    refine tX8_at_21  (r := ?_)
    rw [b255 (hf p lt).2]
    refine tX8_at_22 (r := ?_)
    refine tX8_at_26  (hP := ?_)
    exact ⟨_, rfl, (if_pos lt).symm, rfl⟩

set_option maxHeartbeats 4000000 in
set_option maxRecDepth 100000 in
theorem s_tlet (hd : 1 ≤ d) (ta : TaR h t T) {p : Nat} (hp : p < 5000) : RQ G mX8_isLetter d 0 [some (.ref t), some (.int (nI p))] [] h (Ri fun v h1 => v = nI (if ltT T p = true then 1 else 0) ∧ h1 = h) := by
  obtain ⟨a0, l16, f, a1, hf⟩ := id ta
  have by_ : ∀ (hlt : p < T.length), atT T p = nI (T.getD p 0) := fun z => if_pos z
  have bn_ : ¬ p < T.length → atT T p = -1 := fun z => if_neg z
  have b256 : p < T.length → T.getD p 0 < 256 := fun z => (hf p z).2
  refine tX8_isLetter_0  (r := ?_)
  refine tX8_isLetter_1  (r := ?_)
  refine tX8_isLetter_2 (hd := (by omega)) (ha := (by first | assumption | (repeat (first | assumption | exact At.set_eq2 (by first | omega | (simp only [hset, hnew]; omega) | rfl | decide) | exact At.new_eq2 _ _ (by first | omega | (simp only [hset, hnew]; omega) | rfl | decide) | refine At.set_ne ?_ (by first | omega | (simp only [hset, hnew]; omega) | rfl | decide) | refine At.new_ne ?_)))) (call := s_tat (d := 0) ta (by omega)) (k := ?_)
  rintro x_ h_ ⟨hx_, e_⟩
  rw [e_, hx_]
  refine tX8_isLetter_5  (r := ?_)
  refine tX8_isLetter_7  (kt := fun c_7 => ?_) (kf := fun c_7 => ?_)
  · have e : ¬ ltT T p = true := fun z => by
      obtain ⟨z1, z2, z3⟩ := of_decide_eq_true z
      have := b256 z1
      rw [by_ z1, nI_ltI (by omega) (by decide)] at c_7
      omega
    refine tX8_isLetter_24  (r := ?_)
    refine tX8_isLetter_25 (hb := (by first | exact Or.inl rfl | exact Or.inr rfl | assumption)) (hP := ?_)
    exact ⟨_, rfl, by rw [if_neg e], rfl⟩
  · have lt : p < T.length := Classical.byContradiction (fun z => by
      rw [bn_ z] at c_7
      exact c_7 (by decide))
    have l2 := b256 lt
    rw [by_ lt, nI_ltI (by omega) (by decide)] at c_7
    refine tX8_isLetter_10  (r := ?_)
    refine tX8_isLetter_11  (r := ?_)
    refine tX8_isLetter_12 (hd := (by omega)) (ha := (by first | assumption | (repeat (first | assumption | exact At.set_eq2 (by first | omega | (simp only [hset, hnew]; omega) | rfl | decide) | exact At.new_eq2 _ _ (by first | omega | (simp only [hset, hnew]; omega) | rfl | decide) | refine At.set_ne ?_ (by first | omega | (simp only [hset, hnew]; omega) | rfl | decide) | refine At.new_ne ?_)))) (call := s_tat (d := 0) ta (by omega)) (k := ?_)
    rintro x_ h_ ⟨hx_, e_⟩
    rw [e_, hx_]
    refine tX8_isLetter_15  (r := ?_)
    refine tX8_isLetter_17  (kt := fun c_17 => ?_) (kf := fun c_17 => ?_)
    · rw [by_ lt, nI_ltI (by decide) (by omega)] at c_17
      have e : ¬ ltT T p = true := fun z => by
        obtain ⟨z1, z2, z3⟩ := of_decide_eq_true z
        omega
      refine tX8_isLetter_24  (r := ?_)
      refine tX8_isLetter_25 (hb := (by first | exact Or.inl rfl | exact Or.inr rfl | assumption)) (hP := ?_)
      exact ⟨_, rfl, by rw [if_neg e], rfl⟩
    · rw [by_ lt, nI_ltI (by decide) (by omega)] at c_17
      have e : ltT T p = true := decide_eq_true ⟨lt, by omega, by omega⟩
      refine tX8_isLetter_20  (r := ?_)
      refine tX8_isLetter_21 (r := ?_)
      refine tX8_isLetter_25 (hb := (by first | exact Or.inl rfl | exact Or.inr rfl | assumption)) (hP := ?_)
      exact ⟨_, rfl, by rw [if_pos e], rfl⟩

set_option maxHeartbeats 4000000 in
set_option maxRecDepth 100000 in
theorem s_tdig (hd : 1 ≤ d) (ta : TaR h t T) {p : Nat} (hp : p < 5000) : RQ G mX8_isDigit d 0 [some (.ref t), some (.int (nI p))] [] h (Ri fun v h1 => v = nI (if dgT T p = true then 1 else 0) ∧ h1 = h) := by
  obtain ⟨a0, l16, f, a1, hf⟩ := id ta
  have by_ : ∀ (hlt : p < T.length), atT T p = nI (T.getD p 0) := fun z => if_pos z
  have bn_ : ¬ p < T.length → atT T p = -1 := fun z => if_neg z
  have b256 : p < T.length → T.getD p 0 < 256 := fun z => (hf p z).2
  refine tX8_isDigit_0  (r := ?_)
  refine tX8_isDigit_1  (r := ?_)
  refine tX8_isDigit_2 (hd := (by omega)) (ha := (by first | assumption | (repeat (first | assumption | exact At.set_eq2 (by first | omega | (simp only [hset, hnew]; omega) | rfl | decide) | exact At.new_eq2 _ _ (by first | omega | (simp only [hset, hnew]; omega) | rfl | decide) | refine At.set_ne ?_ (by first | omega | (simp only [hset, hnew]; omega) | rfl | decide) | refine At.new_ne ?_)))) (call := s_tat (d := 0) ta (by omega)) (k := ?_)
  rintro x_ h_ ⟨hx_, e_⟩
  rw [e_, hx_]
  refine tX8_isDigit_5  (r := ?_)
  refine tX8_isDigit_7  (kt := fun c_7 => ?_) (kf := fun c_7 => ?_)
  · have e : ¬ dgT T p = true := fun z => by
      obtain ⟨z1, z2, z3⟩ := of_decide_eq_true z
      have := b256 z1
      rw [by_ z1, nI_ltI (by omega) (by decide)] at c_7
      omega
    refine tX8_isDigit_24  (r := ?_)
    refine tX8_isDigit_25 (hb := (by first | exact Or.inl rfl | exact Or.inr rfl | assumption)) (hP := ?_)
    exact ⟨_, rfl, by rw [if_neg e], rfl⟩
  · have lt : p < T.length := Classical.byContradiction (fun z => by
      rw [bn_ z] at c_7
      exact c_7 (by decide))
    have l2 := b256 lt
    rw [by_ lt, nI_ltI (by omega) (by decide)] at c_7
    refine tX8_isDigit_10  (r := ?_)
    refine tX8_isDigit_11  (r := ?_)
    refine tX8_isDigit_12 (hd := (by omega)) (ha := (by first | assumption | (repeat (first | assumption | exact At.set_eq2 (by first | omega | (simp only [hset, hnew]; omega) | rfl | decide) | exact At.new_eq2 _ _ (by first | omega | (simp only [hset, hnew]; omega) | rfl | decide) | refine At.set_ne ?_ (by first | omega | (simp only [hset, hnew]; omega) | rfl | decide) | refine At.new_ne ?_)))) (call := s_tat (d := 0) ta (by omega)) (k := ?_)
    rintro x_ h_ ⟨hx_, e_⟩
    rw [e_, hx_]
    refine tX8_isDigit_15  (r := ?_)
    refine tX8_isDigit_17  (kt := fun c_17 => ?_) (kf := fun c_17 => ?_)
    · rw [by_ lt, nI_ltI (by decide) (by omega)] at c_17
      have e : ¬ dgT T p = true := fun z => by
        obtain ⟨z1, z2, z3⟩ := of_decide_eq_true z
        omega
      refine tX8_isDigit_24  (r := ?_)
      refine tX8_isDigit_25 (hb := (by first | exact Or.inl rfl | exact Or.inr rfl | assumption)) (hP := ?_)
      exact ⟨_, rfl, by rw [if_neg e], rfl⟩
    · rw [by_ lt, nI_ltI (by decide) (by omega)] at c_17
      have e : dgT T p = true := decide_eq_true ⟨lt, by omega, by omega⟩
      refine tX8_isDigit_20  (r := ?_)
      refine tX8_isDigit_21 (r := ?_)
      refine tX8_isDigit_25 (hb := (by first | exact Or.inl rfl | exact Or.inr rfl | assumption)) (hP := ?_)
      exact ⟨_, rfl, by rw [if_pos e], rfl⟩

set_option maxHeartbeats 4000000 in
set_option maxRecDepth 100000 in
theorem s_tbla (hd : 1 ≤ d) (ta : TaR h t T) {p : Nat} (hp : p < 5000) : RQ G mX8_isBlank d 0 [some (.ref t), some (.int (nI p))] [] h (Ri fun v h1 => v = nI (if blT T p = true then 1 else 0) ∧ h1 = h) := by
  obtain ⟨a0, l16, f, a1, hf⟩ := id ta
  have by_ : ∀ (hlt : p < T.length), atT T p = nI (T.getD p 0) := fun z => if_pos z
  have bn_ : ¬ p < T.length → atT T p = -1 := fun z => if_neg z
  have b256 : p < T.length → T.getD p 0 < 256 := fun z => (hf p z).2
  refine tX8_isBlank_0  (r := ?_)
  refine tX8_isBlank_1  (r := ?_)
  refine tX8_isBlank_2 (hd := (by omega)) (ha := (by first | assumption | (repeat (first | assumption | exact At.set_eq2 (by first | omega | (simp only [hset, hnew]; omega) | rfl | decide) | exact At.new_eq2 _ _ (by first | omega | (simp only [hset, hnew]; omega) | rfl | decide) | refine At.set_ne ?_ (by first | omega | (simp only [hset, hnew]; omega) | rfl | decide) | refine At.new_ne ?_)))) (call := s_tat (d := 0) ta (by omega)) (k := ?_)
  rintro x_ h_ ⟨hx_, e_⟩
  rw [e_, hx_]
  refine tX8_isBlank_5  (r := ?_)
  refine tX8_isBlank_7  (kt := fun c_7 => ?_) (kf := fun c_7 => ?_)
  · have lt : p < T.length := Classical.byContradiction (fun z => by
      rw [bn_ z] at c_7
      exact absurd c_7 (by decide))
    have l2 := b256 lt
    rw [by_ lt, nI_eq (by omega) (by decide)] at c_7
    have e : blT T p = true := decide_eq_true ⟨lt, Or.inl c_7⟩
    refine tX8_isBlank_20  (r := ?_)
    refine tX8_isBlank_21 (r := ?_)
    refine tX8_isBlank_25 (hb := (by first | exact Or.inl rfl | exact Or.inr rfl | assumption)) (hP := ?_)
    exact ⟨_, rfl, by rw [if_pos e], rfl⟩
  · refine tX8_isBlank_10  (r := ?_)
    refine tX8_isBlank_11  (r := ?_)
    refine tX8_isBlank_12 (hd := (by omega)) (ha := (by first | assumption | (repeat (first | assumption | exact At.set_eq2 (by first | omega | (simp only [hset, hnew]; omega) | rfl | decide) | exact At.new_eq2 _ _ (by first | omega | (simp only [hset, hnew]; omega) | rfl | decide) | refine At.set_ne ?_ (by first | omega | (simp only [hset, hnew]; omega) | rfl | decide) | refine At.new_ne ?_)))) (call := s_tat (d := 0) ta (by omega)) (k := ?_)
    rintro x_ h_ ⟨hx_, e_⟩
    rw [e_, hx_]
    refine tX8_isBlank_15  (r := ?_)
    refine tX8_isBlank_17  (kt := fun c_17 => ?_) (kf := fun c_17 => ?_)
    · have e : ¬ blT T p = true := fun z => by
        obtain ⟨z1, z2⟩ := of_decide_eq_true z
        rw [by_ z1] at c_7 c_17
        rcases z2 with z2 | z2
        · exact c_7 (by rw [z2])
        · exact c_17 (by rw [z2])
      refine tX8_isBlank_24  (r := ?_)
      refine tX8_isBlank_25 (hb := (by first | exact Or.inl rfl | exact Or.inr rfl | assumption)) (hP := ?_)
      exact ⟨_, rfl, by rw [if_neg e], rfl⟩
    · have lt : p < T.length := Classical.byContradiction (fun z => by
        rw [bn_ z] at c_17
        exact absurd c_17 (by decide))
      have l2 := b256 lt
      rw [by_ lt, nI_eq (by omega) (by decide)] at c_17
      have e : blT T p = true := decide_eq_true ⟨lt, Or.inr c_17⟩
      refine tX8_isBlank_20  (r := ?_)
      refine tX8_isBlank_21 (r := ?_)
      refine tX8_isBlank_25 (hb := (by first | exact Or.inl rfl | exact Or.inr rfl | assumption)) (hP := ?_)
      exact ⟨_, rfl, by rw [if_pos e], rfl⟩

set_option maxHeartbeats 4000000 in
set_option maxRecDepth 100000 in
theorem s_tskip (hd : 2 ≤ d) (ta : TaR h t T) {p0 : Nat} : ∀ (n p : Nat), T.length ≤ n + p → p ≤ 2000 → RQ G mX9_behindBlanks d 2 [some (.ref b), some (.ref t), some (.int (nI p0)), some (.int (nI p))] [] h (Ri fun v h1 => v = nI (scT T (blT T) n p) ∧ h1 = h) := by
  obtain ⟨a0, l16, f, a1, hf⟩ := id ta
  intro n
  induction n with
  | zero =>
    intro p hl hp
    refine tX9_behindBlanks_2  (r := ?_)
    refine tX9_behindBlanks_3  (r := ?_)
    refine tX9_behindBlanks_4 (ha := (by first | assumption | (repeat (first | assumption | exact At.set_eq2 (by first | omega | (simp only [hset, hnew]; omega) | rfl | decide) | exact At.new_eq2 _ _ (by first | omega | (simp only [hset, hnew]; omega) | rfl | decide) | refine At.set_ne ?_ (by first | omega | (simp only [hset, hnew]; omega) | rfl | decide) | refine At.new_ne ?_)))) (hv := rfl) (r := ?_)
    refine tX9_behindBlanks_7  (kf := fun c_ => by exfalso; exact c_ ((nI_leI (by omega) (by omega)).mpr (by omega))) (kt := fun _ => ?_)
    refine tX9_behindBlanks_24  (r := ?_)
    refine tX9_behindBlanks_25  (hP := ?_)
    exact ⟨_, rfl, rfl, rfl⟩
  | succ n ih =>
    intro p hl hp
    refine tX9_behindBlanks_2  (r := ?_)
    refine tX9_behindBlanks_3  (r := ?_)
    refine tX9_behindBlanks_4 (ha := (by first | assumption | (repeat (first | assumption | exact At.set_eq2 (by first | omega | (simp only [hset, hnew]; omega) | rfl | decide) | exact At.new_eq2 _ _ (by first | omega | (simp only [hset, hnew]; omega) | rfl | decide) | refine At.set_ne ?_ (by first | omega | (simp only [hset, hnew]; omega) | rfl | decide) | refine At.new_ne ?_)))) (hv := rfl) (r := ?_)
    refine tX9_behindBlanks_7  (kt := fun c_7 => ?_) (kf := fun c_7 => ?_)
    · have ge : ¬ p < T.length := fun z => by have := (nI_leI (by omega) (by omega)).mp c_7; omega
      refine tX9_behindBlanks_24  (r := ?_)
      refine tX9_behindBlanks_25  (hP := ?_)
      exact ⟨_, rfl, congrArg nI (if_neg (fun z => ge z.1)).symm, rfl⟩
    · have lt : p < T.length := Nat.lt_of_not_le (fun z => c_7 ((nI_leI (by omega) (by omega)).mpr z))
      refine tX9_behindBlanks_10  (r := ?_)
      refine tX9_behindBlanks_11  (r := ?_)
      refine tX9_behindBlanks_12 (hd := (by omega)) (ha := (by first | assumption | (repeat (first | assumption | exact At.set_eq2 (by first | omega | (simp only [hset, hnew]; omega) | rfl | decide) | exact At.new_eq2 _ _ (by first | omega | (simp only [hset, hnew]; omega) | rfl | decide) | refine At.set_ne ?_ (by first | omega | (simp only [hset, hnew]; omega) | rfl | decide) | refine At.new_ne ?_)))) (call := s_tbla (d := 1) (by decide) ta (by omega)) (k := ?_)
      rintro x_ h_ ⟨hx_, e_⟩
      rw [e_, hx_]
      refine tX9_behindBlanks_15  (kt := fun c_15 => ?_) (kf := fun c_15 => ?_)
      · have e : ¬ blT T p = true := fun z => by rw [if_pos z] at c_15; exact absurd c_15 (by decide)
        refine tX9_behindBlanks_24  (r := ?_)
        refine tX9_behindBlanks_25  (hP := ?_)
        exact ⟨_, rfl, congrArg nI (if_neg (fun z => e z.2)).symm, rfl⟩
      · have e : blT T p = true := Classical.byContradiction (fun z => by rw [if_neg z] at c_15; exact c_15 rfl)
        refine tX9_behindBlanks_18  (r := ?_)
        rw [nI_add]
        refine tX9_behindBlanks_21 (r := ?_)
        have es : scT T (blT T) (n + 1) p = scT T (blT T) n (p + 1) := if_pos ⟨lt, e⟩
        rw [es]
        exact ih (p + 1) (by omega) (by omega)

end TAP
