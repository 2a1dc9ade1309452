/-! the reference looks at bytes -/
section RTA
variable {G : GT} {d : Nat} {h : AH} {m : Nat} {T : List Nat}
/-- the reference's tape -/
def TpM (h : AH) (m : Nat) (T : List Nat) : Prop := (∃ th ea tk iw er et dp nm, At h m (ModO m th (nI T.length) ea tk iw er et dp nm)) ∧ NiX h (m + 1) 1600 T.length (fun i => T.getD i 0) ∧ T.length ≤ 1600 ∧ ∀ i, i < T.length → T.getD i 0 < 256
theorem at_by {p lo hi : Nat} (hT : ∀ i, i < T.length → T.getD i 0 < 256) (h1 : lo < 256) (h2 : hi < 256) : (nI lo ≤ atT T p ∧ atT T p ≤ nI hi) ↔ byT T p lo hi = true := by
  unfold byT
  rw [decide_eq_true_iff]
  by_cases z : p < T.length
  · have := hT p z
    rw [show atT T p = nI (T.getD p 0) from if_pos z, nI_leI (by omega) (by omega), nI_leI (by omega) (by omega)]
    exact ⟨fun q => ⟨z, q⟩, fun q => q.2⟩
  · rw [show atT T p = -1 from if_neg z]
    refine ⟨fun q => absurd q.1 ?_, fun q => absurd q.1 z⟩
    rw [ci_le_m1 (by omega)]
    exact fun w => w

set_option maxHeartbeats 4000000 in
set_option maxRecDepth 100000 in
theorem s_mbyte (tp : TpM h m T) {p : Nat} (hp : p < 5000) : RQ G mX12_byteAt d 0 [some (.ref m), some (.int (nI p))] [] h (Ri fun v h1 => v = atT T p ∧ h1 = h) := by
  obtain ⟨⟨th, ea, tk, iw, er, et, dp, nm, a0⟩, ⟨f, a1, hf⟩, l16, hT⟩ := id tp
  refine tX12_byteAt_0  (r := ?_)
  refine tX12_byteAt_1  (r := ?_)
  refine tX12_byteAt_2 (ha := (by first | assumption | (repeat (first | assumption | exact At.set_eq2 (by first | omega | (simp only [hset, hnew]; omega) | rfl | decide) | exact At.new_eq2 _ _ (by first | omega | (simp only [hset, hnew]; omega) | rfl | decide) | refine At.set_ne ?_ (by first | omega | (simp only [hset, hnew]; omega) | rfl | decide) | refine At.new_ne ?_)))) (hv := rfl) (r := ?_)
  refine tX12_byteAt_5  (kt := fun c_5 => ?_) (kf := fun c_5 => ?_)
  · have ge : ¬ p < T.length := fun z => by have := (nI_leI (by omega) (by omega)).mp c_5; omega
    refine tX12_byteAt_17  (r := ?_)
    refine tX12_byteAt_18  (hP := ?_)
    exact ⟨_, rfl, (if_neg ge).symm, rfl⟩
  · have lt : p < T.length := Nat.lt_of_not_le (fun z => c_5 ((nI_leI (by omega) (by omega)).mpr z))
    refine tX12_byteAt_8  (r := ?_)
    refine tX12_byteAt_9 (ha := (by first | assumption | (repeat (first | assumption | exact At.set_eq2 (by first | omega | (simp only [hset, hnew]; omega) | rfl | decide) | exact At.new_eq2 _ _ (by first | omega | (simp only [hset, hnew]; omega) | rfl | decide) | refine At.set_ne ?_ (by first | omega | (simp only [hset, hnew]; omega) | rfl | decide) | refine At.new_ne ?_)))) (hv := rfl) (r := ?_)
    refine tX12_byteAt_12  (r := ?_)
    refine tX12_byteAt_13 (ha := (by first | assumption | (repeat (first | assumption | exact At.set_eq2 (by first | omega | (simp only [hset, hnew]; omega) | rfl | decide) | exact At.new_eq2 _ _ (by first | omega | (simp only [hset, hnew]; omega) | rfl | decide) | refine At.set_ne ?_ (by first | omega | (simp only [hset, hnew]; omega) | rfl | decide) | refine At.new_ne ?_)))) (hx := rfl) (hj := (by omega)) (hn := (by decide)) (r := ?_)
    rw [hf p lt]
    refine tX12_byteAt_14 (r := ?_)
    refine tX12_byteAt_18  (hP := ?_)
    exact ⟨_, rfl, (if_pos lt).symm, rfl⟩

set_option maxHeartbeats 4000000 in
set_option maxRecDepth 100000 in
theorem s_mlet (hd : 1 ≤ d) (hT : ∀ i, i < T.length → T.getD i 0 < 256) {p : Nat} {x : Int32} (hx : x = atT T p) : RQ G mX12_isLetter d 0 [some (.int x)] [] h (Ri fun v h1 => v = nI (if ltT T p = true then 1 else 0) ∧ h1 = h) := by
  subst hx
  refine tX12_isLetter_0  (r := ?_)
  refine tX12_isLetter_1  (r := ?_)
  refine tX12_isLetter_3  (r := ?_)
  refine tX12_isLetter_5 (hd := (by omega)) (call := s_misIn (d := 0)) (k := ?_)
  rintro x_ h_ ⟨hx_, e_⟩
  rw [e_, hx_]
  refine tX12_isLetter_8 (hb := (by split <;> first | exact Or.inr rfl | exact Or.inl rfl)) (hP := ?_)
  refine ⟨_, rfl, ?_, rfl⟩
  by_cases z : ltT T p = true
  · rw [if_pos z, if_pos ((at_by hT (by decide) (by decide)).mpr z)]
  · rw [if_neg z, if_neg (fun q => z ((at_by hT (by decide) (by decide)).mp q))]

set_option maxHeartbeats 4000000 in
set_option maxRecDepth 100000 in
theorem s_mdig (hd : 1 ≤ d) (hT : ∀ i, i < T.length → T.getD i 0 < 256) {p : Nat} {x : Int32} (hx : x = atT T p) : RQ G mX12_isDigit d 0 [some (.int x)] [] h (Ri fun v h1 => v = nI (if dgT T p = true then 1 else 0) ∧ h1 = h) := by
  subst hx
  refine tX12_isDigit_0  (r := ?_)
  refine tX12_isDigit_1  (r := ?_)
  refine tX12_isDigit_3  (r := ?_)
  refine tX12_isDigit_5 (hd := (by omega)) (call := s_misIn (d := 0)) (k := ?_)
  rintro x_ h_ ⟨hx_, e_⟩
  rw [e_, hx_]
  refine tX12_isDigit_8 (hb := (by split <;> first | exact Or.inr rfl | exact Or.inl rfl)) (hP := ?_)
  refine ⟨_, rfl, ?_, rfl⟩
  by_cases z : dgT T p = true
  · rw [if_pos z, if_pos ((at_by hT (by decide) (by decide)).mpr z)]
  · rw [if_neg z, if_neg (fun q => z ((at_by hT (by decide) (by decide)).mp q))]

set_option maxHeartbeats 4000000 in
set_option maxRecDepth 100000 in
theorem s_mskip_l (hd : 1 ≤ d) (tp : TpM h m T) {p0 : Nat} : ∀ (n p : Nat), T.length ≤ n + p → p ≤ 2000 → RQ G mX12_skip d 2 [some (.ref m), some (.int (nI p0)), some (.int (nI p))] [] h (Ri fun v h1 => v = nI (scT T (blT T) n p) ∧ h1 = h) := by
  obtain ⟨⟨th, ea, tk, iw, er, et, dp, nm, a0⟩, ⟨f, a1, hf⟩, l16, hT⟩ := id tp
  have bl : ∀ p, blT T p = true ↔ (atT T p = nI 32 ∨ atT T p = nI 10) := fun p => by
    unfold blT
    rw [decide_eq_true_iff]
    by_cases z : p < T.length
    · have := hT p z
      rw [show atT T p = nI (T.getD p 0) from if_pos z, nI_eq (by omega) (by decide), nI_eq (by omega) (by decide)]
      exact ⟨fun q => q.2, fun q => ⟨z, q⟩⟩
    · rw [show atT T p = -1 from if_neg z, ci_m1_eq (by decide), ci_m1_eq (by decide)]
      exact ⟨fun q => absurd q.1 z, fun q => q.elim (fun w => w.elim) (fun w => w.elim)⟩
  have bn : ∀ p, ¬ p < T.length → ¬ blT T p = true := fun p z q => z (of_decide_eq_true q).1
  intro n
  induction n with
  | zero =>
    intro p hl hp
    have nb := bn p (by omega)
    have n1 : ¬ atT T p = nI 32 := fun z => nb ((bl p).mpr (Or.inl z))
    have n2 : ¬ atT T p = nI 10 := fun z => nb ((bl p).mpr (Or.inr z))
    refine tX12_skip_2  (r := ?_)
    refine tX12_skip_3  (r := ?_)
    refine tX12_skip_4 (hd := (by omega)) (ha := (by first | assumption | (repeat (first | assumption | exact At.set_eq2 (by first | omega | (simp only [hset, hnew]; omega) | rfl | decide) | exact At.new_eq2 _ _ (by first | omega | (simp only [hset, hnew]; omega) | rfl | decide) | refine At.set_ne ?_ (by first | omega | (simp only [hset, hnew]; omega) | rfl | decide) | refine At.new_ne ?_)))) (call := s_mbyte (d := 0) tp (by omega)) (k := ?_)
    rintro x_ h_ ⟨hx_, e_⟩
    rw [e_, hx_]
    refine tX12_skip_7  (r := ?_)
    refine tX12_skip_9  (kt := fun c_ => by exfalso; exact n1 c_) (kf := fun _ => ?_)
    refine tX12_skip_12  (r := ?_)
    refine tX12_skip_13  (r := ?_)
    refine tX12_skip_14 (hd := (by omega)) (ha := (by first | assumption | (repeat (first | assumption | exact At.set_eq2 (by first | omega | (simp only [hset, hnew]; omega) | rfl | decide) | exact At.new_eq2 _ _ (by first | omega | (simp only [hset, hnew]; omega) | rfl | decide) | refine At.set_ne ?_ (by first | omega | (simp only [hset, hnew]; omega) | rfl | decide) | refine At.new_ne ?_)))) (call := s_mbyte (d := 0) tp (by omega)) (k := ?_)
    rintro x_ h_ ⟨hx_, e_⟩
    rw [e_, hx_]
    refine tX12_skip_17  (r := ?_)
    refine tX12_skip_19  (kf := fun c_ => by exfalso; exact n2 c_) (kt := fun _ => ?_)
    refine tX12_skip_28  (r := ?_)
    refine tX12_skip_29  (hP := ?_)
    exact ⟨_, rfl, rfl, rfl⟩
  | succ n ih =>
    intro p hl hp
    by_cases e : blT T p = true
    · have es : scT T (blT T) (n + 1) p = scT T (blT T) n (p + 1) := if_pos ⟨(of_decide_eq_true e).1, e⟩
      rw [es]
      have lt := (of_decide_eq_true e).1
      refine tX12_skip_2  (r := ?_)
      refine tX12_skip_3  (r := ?_)
      refine tX12_skip_4 (hd := (by omega)) (ha := (by first | assumption | (repeat (first | assumption | exact At.set_eq2 (by first | omega | (simp only [hset, hnew]; omega) | rfl | decide) | exact At.new_eq2 _ _ (by first | omega | (simp only [hset, hnew]; omega) | rfl | decide) | refine At.set_ne ?_ (by first | omega | (simp only [hset, hnew]; omega) | rfl | decide) | refine At.new_ne ?_)))) (call := s_mbyte (d := 0) tp (by omega)) (k := ?_)
      rintro x_ h_ ⟨hx_, e_⟩
      rw [e_, hx_]
      refine tX12_skip_7  (r := ?_)
      refine tX12_skip_9  (kt := fun c_9 => ?_) (kf := fun c_9 => ?_)
      · refine tX12_skip_22  (r := ?_)
        rw [nI_add]
        refine tX12_skip_25 (r := ?_)
        exact ih (p + 1) (by omega) (by omega)
      · refine tX12_skip_12  (r := ?_)
        refine tX12_skip_13  (r := ?_)
        refine tX12_skip_14 (hd := (by omega)) (ha := (by first | assumption | (repeat (first | assumption | exact At.set_eq2 (by first | omega | (simp only [hset, hnew]; omega) | rfl | decide) | exact At.new_eq2 _ _ (by first | omega | (simp only [hset, hnew]; omega) | rfl | decide) | refine At.set_ne ?_ (by first | omega | (simp only [hset, hnew]; omega) | rfl | decide) | refine At.new_ne ?_)))) (call := s_mbyte (d := 0) tp (by omega)) (k := ?_)
        rintro x_ h_ ⟨hx_, e_⟩
        rw [e_, hx_]
        refine tX12_skip_17  (r := ?_)
        refine tX12_skip_19  (kt := fun c_ => by exfalso; exact ((bl p).mp e).elim c_9 c_) (kf := fun _ => ?_)
        refine tX12_skip_22  (r := ?_)
        rw [nI_add]
        refine tX12_skip_25 (r := ?_)
        exact ih (p + 1) (by omega) (by omega)
    · have es : scT T (blT T) (n + 1) p = p := if_neg (fun z => e z.2)
      rw [es]
      have n1 : ¬ atT T p = nI 32 := fun z => e ((bl p).mpr (Or.inl z))
      have n2 : ¬ atT T p = nI 10 := fun z => e ((bl p).mpr (Or.inr z))
      refine tX12_skip_2  (r := ?_)
      refine tX12_skip_3  (r := ?_)
      refine tX12_skip_4 (hd := (by omega)) (ha := (by first | assumption | (repeat (first | assumption | exact At.set_eq2 (by first | omega | (simp only [hset, hnew]; omega) | rfl | decide) | exact At.new_eq2 _ _ (by first | omega | (simp only [hset, hnew]; omega) | rfl | decide) | refine At.set_ne ?_ (by first | omega | (simp only [hset, hnew]; omega) | rfl | decide) | refine At.new_ne ?_)))) (call := s_mbyte (d := 0) tp (by omega)) (k := ?_)
      rintro x_ h_ ⟨hx_, e_⟩
      rw [e_, hx_]
      refine tX12_skip_7  (r := ?_)
      refine tX12_skip_9  (kt := fun c_ => by exfalso; exact n1 c_) (kf := fun _ => ?_)
      refine tX12_skip_12  (r := ?_)
      refine tX12_skip_13  (r := ?_)
      refine tX12_skip_14 (hd := (by omega)) (ha := (by first | assumption | (repeat (first | assumption | exact At.set_eq2 (by first | omega | (simp only [hset, hnew]; omega) | rfl | decide) | exact At.new_eq2 _ _ (by first | omega | (simp only [hset, hnew]; omega) | rfl | decide) | refine At.set_ne ?_ (by first | omega | (simp only [hset, hnew]; omega) | rfl | decide) | refine At.new_ne ?_)))) (call := s_mbyte (d := 0) tp (by omega)) (k := ?_)
      rintro x_ h_ ⟨hx_, e_⟩
      rw [e_, hx_]
      refine tX12_skip_17  (r := ?_)
      refine tX12_skip_19  (kf := fun c_ => by exfalso; exact n2 c_) (kt := fun _ => ?_)
      refine tX12_skip_28  (r := ?_)
      refine tX12_skip_29  (hP := ?_)
      exact ⟨_, rfl, rfl, rfl⟩

end RTA
