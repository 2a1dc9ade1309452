/-! a cupboard's majority -/
section GO
variable {G : GT} {d : Nat} {c : Nat} {h : AH} {B : BK} {D : DY}
theorem quN_le {k : Nat} : ∀ (s : Nat) (w l : Nat → Nat), (quN s (w, l)).1 k ≤ w k + s := by
  intro s
  induction s with
  | zero => intro w l; exact Nat.le_refl _
  | succ s ih =>
    intro w l
    cases e : fiN l 6 with
    | none =>
      rw [quN_none e]
      exact Nat.le_add_right _ _
    | some f =>
      rw [quN_some e]
      refine Nat.le_trans (ih _ _) ?_
      show (if k = f then w k + 1 else w k) + s ≤ w k + (s + 1)
      split <;> omega
theorem wo_le {p : Nat → Nat} {t se wy k : Nat} (hp : p k ≤ 1200) (hs : se ≤ 9) : wo p t se wy k ≤ 1209 := by
  cases e : fiN p 6 with
  | none =>
    rw [wo_none e]
    exact Nat.zero_le _
  | some f =>
    rw [wo_some e]
    by_cases h0 : wy = 0
    · rw [if_pos h0]
      show (if k = f then se else 0) ≤ 1209
      split <;> omega
    · rw [if_neg h0]
      by_cases h1 : wy = 1
      · rw [if_pos h1]
        have := dvN_le p se k
        omega
      · rw [if_neg h1]
        have h2 := quN_le (k := k) (se - su (fun k => p k / (t / (se + 1) + 1)) 6) (fun k => p k / (t / (se + 1) + 1)) (fun k => p k - p k / (t / (se + 1) + 1) * (t / (se + 1) + 1))
        have h3 := Nat.div_le_self (p k) (t / (se + 1) + 1)
        show (quN _ _).1 k ≤ 1209
        exact Nat.le_trans h2 (by show p k / (t / (se + 1) + 1) + _ ≤ 1209; omega)
theorem su_bd {f : Nat → Nat} {M : Nat} : ∀ n, (∀ i, i < n → f i ≤ M) → su f n ≤ n * M
  | 0, _ => Nat.zero_le _
  | n + 1, h => by
    have h1 := su_bd (f := f) (M := M) n (fun i hi => h i (by omega))
    have h2 := h n (by omega)
    show su f n + f n ≤ (n + 1) * M
    rw [Nat.add_mul, Nat.one_mul]
    omega
theorem sw_le (hb : BDok B D) (k0 : Nat) : su (sw B D k0) 8 ≤ 8 * 1209 := su_bd 8 (fun i hi => wo_le (po_le (hb.2.2.2.2.2.2.1 i hi) _) (hb.2.2.2.1 i hi).1)
theorem se_le (hb : BDok B D) : su (bSe B) 8 ≤ 8 * 9 := su_bd 8 (fun i hi => (hb.2.2.2.1 i hi).1)
/-- has the label's alliance a majority -/
def gov (B : BK) (D : DY) (k0 : Nat) : Int32 := if su (bSe B) 8 < su (sw B D k0) 8 * 2 then nI 1 else nI 0

set_option maxHeartbeats 4000000 in
set_option maxRecDepth 100000 in
theorem s_governs_l (hd : 4 ≤ d) (hb : BDok B D) {k0 : Nat} (qk : k0 < 6) (cu : CuR h c B D) : ∀ (n i : Nat), 8 ≤ i + n → i ≤ 8 → RQ G mX3_governs d 4 [some (.ref c), some (.int (nI k0)), some (.int (nI (su (bSe B) i))), some (.int (nI i))] [] h (Ri fun v h1 => v = gov B D k0 ∧ CuR h1 c B D ∧ Sm h h1 c (c + 45)) := by
  obtain ⟨jf, lj, fo, le, u0, u1, u2, u3, u4, u5, u6, u7, u8, u9⟩ := id cu
  have b1_ := sw_le hb k0
  have b2_ := se_le hb
  have ex : ∀ i, i = 8 → RQ G mX3_governs d 4 [some (.ref c), some (.int (nI k0)), some (.int (nI (su (bSe B) i))), some (.int (nI i))] [] h (Ri fun v h1 => v = gov B D k0 ∧ CuR h1 c B D ∧ Sm h h1 c (c + 45)) := by
    intro i hi
    rw [hi]
    refine tX3_governs_4  (r := ?_)
    refine tX3_governs_5  (r := ?_)
    refine tX3_governs_7  (kf := fun c_ => by exfalso; exact c_ (by decide)) (kt := fun _ => ?_)
    refine tX3_governs_28  (r := ?_)
    refine tX3_governs_29  (r := ?_)
    refine tX3_governs_30 (hd := (by omega)) (ha := (by first | assumption | (repeat (first | assumption | exact At.set_eq2 (by first | omega | (simp only [hset, hnew]; omega) | rfl | decide) | exact At.new_eq2 _ _ (by first | omega | (simp only [hset, hnew]; omega) | rfl | decide) | refine At.set_ne ?_ (by first | omega | (simp only [hset, hnew]; omega) | rfl | decide) | refine At.new_ne ?_)))) (call := s_allSeats (d := 3) (by decide) hb qk cu) (k := ?_)
    rintro v h1 ⟨rfl, cu1, sm⟩
    refine tX3_governs_33  (r := ?_)
    refine tX3_governs_34  (r := ?_)
    rw [nI_mulN]
    refine tX3_governs_35  (r := ?_)
    refine tX3_governs_36  (kt := fun c_36 => ?_) (kf := fun c_36 => ?_)
    · have e : gov B D k0 = nI 0 := if_neg (Nat.not_lt.mpr ((nI_leI (by omega) (by omega)).mp c_36))
      refine tX3_governs_43  (r := ?_)
      refine tX3_governs_44 (hb := (Or.inl rfl)) (hP := ?_)
      exact ⟨_, rfl, e.symm, cu1, sm⟩
    · have e : gov B D k0 = nI 1 := if_pos (Nat.lt_of_not_le (fun z => c_36 ((nI_leI (by omega) (by omega)).mpr z)))
      refine tX3_governs_39  (r := ?_)
      refine tX3_governs_40 (r := ?_)
      refine tX3_governs_44 (hb := (Or.inr rfl)) (hP := ?_)
      exact ⟨_, rfl, e.symm, cu1, sm⟩
  intro n
  induction n with
  | zero => exact fun i h1_ h2_ => ex i (by omega)
  | succ n ih =>
    intro i h1_ h2_
    by_cases hi : i = 8
    · exact ex i hi
    have hi2 : i < 8 := by omega
    refine tX3_governs_4  (r := ?_)
    refine tX3_governs_5  (r := ?_)
    refine tX3_governs_7  (kt := fun c_ => by exfalso; exact absurd ((nI_leI (by decide) (by omega)).mp c_) (by omega)) (kf := fun _ => ?_)
    refine tX3_governs_10  (r := ?_)
    refine tX3_governs_11  (r := ?_)
    refine tX3_governs_12 (ha := (by first | assumption | (repeat (first | assumption | exact At.set_eq2 (by first | omega | (simp only [hset, hnew]; omega) | rfl | decide) | exact At.new_eq2 _ _ (by first | omega | (simp only [hset, hnew]; omega) | rfl | decide) | refine At.set_ne ?_ (by first | omega | (simp only [hset, hnew]; omega) | rfl | decide) | refine At.new_ne ?_)))) (hv := rfl) (r := ?_)
    obtain ⟨bf, p, w, l, tu, fi, ma, co, ⟨b0, b1, b2, b3, b4⟩, -, -⟩ := id (u9 i hi2)
    refine tX3_governs_15  (r := ?_)
    refine tX3_governs_16 (ha := (by first | assumption | (repeat (first | assumption | exact At.set_eq2 (by first | omega | (simp only [hset, hnew]; omega) | rfl | decide) | exact At.new_eq2 _ _ (by first | omega | (simp only [hset, hnew]; omega) | rfl | decide) | refine At.set_ne ?_ (by first | omega | (simp only [hset, hnew]; omega) | rfl | decide) | refine At.new_ne ?_)))) (hx := rfl) (hj := hi2) (hn := (by decide)) (hf := (u5 _ hi2)) (r := ?_)
    refine tX3_governs_17 (ha := (by first | assumption | (repeat (first | assumption | exact At.set_eq2 (by first | omega | (simp only [hset, hnew]; omega) | rfl | decide) | exact At.new_eq2 _ _ (by first | omega | (simp only [hset, hnew]; omega) | rfl | decide) | refine At.set_ne ?_ (by first | omega | (simp only [hset, hnew]; omega) | rfl | decide) | refine At.new_ne ?_)))) (hv := rfl) (r := ?_)
    refine tX3_governs_20  (r := ?_)
    rw [nI_add]
    refine tX3_governs_21  (r := ?_)
    refine tX3_governs_22  (r := ?_)
    rw [nI_add]
    refine tX3_governs_25 (r := ?_)
    exact ih (i + 1) (by omega) (by omega)

set_option maxHeartbeats 4000000 in
set_option maxRecDepth 100000 in
theorem s_governs (hd : 4 ≤ d) (hb : BDok B D) {k0 : Nat} (qk : k0 < 6) (cu : CuR h c B D) : RQ G mX3_governs d 0 [some (.ref c), some (.int (nI k0)), none, none] [] h (Ri fun v h1 => v = gov B D k0 ∧ CuR h1 c B D ∧ Sm h h1 c (c + 45)) := by
  refine tX3_governs_0  (r := ?_)
  refine tX3_governs_1  (r := ?_)
  refine tX3_governs_2  (r := ?_)
  refine tX3_governs_3  (r := ?_)
  exact s_governs_l hd hb qk cu 8 0 (by omega) (by omega)

end GO
