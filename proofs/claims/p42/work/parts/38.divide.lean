/-! a jar divides its seats -/
/-- a's quotient is at most b's -/
def qle (p w : Nat → Nat) (a b : Nat) : Prop := p a * (w b + 1) ≤ p b * (w a + 1)
def qlt (p w : Nat → Nat) (a b : Nat) : Prop := p a * (w b + 1) < p b * (w a + 1)
theorem qle_trans {p w : Nat → Nat} {a b c : Nat} (h1 : qle p w a b) (h2 : qle p w b c) : qle p w a c := by
  unfold qle at *
  refine Nat.le_of_mul_le_mul_left (c := w b + 1) ?_ (Nat.succ_pos _)
  calc (w b + 1) * (p a * (w c + 1)) = (p a * (w b + 1)) * (w c + 1) := by ac_rfl
    _ ≤ (p b * (w a + 1)) * (w c + 1) := Nat.mul_le_mul_right _ h1
    _ = (p b * (w c + 1)) * (w a + 1) := by ac_rfl
    _ ≤ (p c * (w b + 1)) * (w a + 1) := Nat.mul_le_mul_right _ h2
    _ = (w b + 1) * (p c * (w a + 1)) := by ac_rfl
theorem qlt_of_le_lt {p w : Nat → Nat} {a b c : Nat} (h1 : qle p w a b) (h2 : qlt p w b c) : qlt p w a c := by
  unfold qle qlt at *
  refine Nat.lt_of_mul_lt_mul_left (a := w b + 1) ?_
  calc (w b + 1) * (p a * (w c + 1)) = (p a * (w b + 1)) * (w c + 1) := by ac_rfl
    _ ≤ (p b * (w a + 1)) * (w c + 1) := Nat.mul_le_mul_right _ h1
    _ = (p b * (w c + 1)) * (w a + 1) := by ac_rfl
    _ < (p c * (w b + 1)) * (w a + 1) := Nat.mul_lt_mul_of_pos_right h2 (Nat.succ_pos _)
    _ = (w b + 1) * (p c * (w a + 1)) := by ac_rfl
theorem qlt_of_lt_le {p w : Nat → Nat} {a b c : Nat} (h1 : qlt p w a b) (h2 : qle p w b c) : qlt p w a c := by
  unfold qle qlt at *
  refine Nat.lt_of_mul_lt_mul_left (a := w b + 1) ?_
  calc (w b + 1) * (p a * (w c + 1)) = (p a * (w b + 1)) * (w c + 1) := by ac_rfl
    _ < (p b * (w a + 1)) * (w c + 1) := Nat.mul_lt_mul_of_pos_right h1 (Nat.succ_pos _)
    _ = (p b * (w c + 1)) * (w a + 1) := by ac_rfl
    _ ≤ (p c * (w b + 1)) * (w a + 1) := Nat.mul_le_mul_right _ h2
    _ = (w b + 1) * (p c * (w a + 1)) := by ac_rfl
theorem bestD_spec (p w : Nat → Nat) : ∀ n, (∀ m, m < n → qle p w m (bestD p w n) ∧ (m < bestD p w n → qlt p w m (bestD p w n))) ∧ (bestD p w n < n ∨ bestD p w n = 0) := by
  intro n
  induction n with
  | zero => exact ⟨fun m hm => absurd hm (Nat.not_lt_zero m), Or.inr rfl⟩
  | succ n ih =>
    obtain ⟨ih1, ih2⟩ := ih
    by_cases e : p (bestD p w n) * (w n + 1) < p n * (w (bestD p w n) + 1)
    · have eb : bestD p w (n + 1) = n := if_pos e
      rw [eb]
      refine ⟨fun m hm => ?_, Or.inl (Nat.lt_succ_self n)⟩
      by_cases h : m = n
      · rw [h]
        exact ⟨Nat.le_refl _, fun z => absurd z (Nat.lt_irrefl _)⟩
      · have h2 := qlt_of_le_lt (ih1 m (by omega)).1 e
        exact ⟨Nat.le_of_lt h2, fun _ => h2⟩
    · have eb : bestD p w (n + 1) = bestD p w n := if_neg e
      rw [eb]
      refine ⟨fun m hm => ?_, by omega⟩
      by_cases h : m = n
      · rw [h]
        exact ⟨Nat.le_of_not_lt e, fun z => by
          rcases ih2 with h9 | h9
          · omega
          · omega⟩
      · exact ih1 m (by omega)
/-- as the class looks for who gets the next seat -/
def cB (p w : Nat → Nat) (f : Nat) : Nat → Nat
  | 0 => f
  | n + 1 => if p (cB p w f n) * (w n + 1) < p n * (w (cB p w f n) + 1) ∨ (p n * (w (cB p w f n) + 1) = p (cB p w f n) * (w n + 1) ∧ n < cB p w f n) then n else cB p w f n
theorem cB_spec (p w : Nat → Nat) (f : Nat) : ∀ n, (∀ m, m < n ∨ m = f → qle p w m (cB p w f n)) ∧ (∀ m, m < n → m < cB p w f n → qlt p w m (cB p w f n)) ∧ (cB p w f n < n ∨ cB p w f n = f) := by
  intro n
  induction n with
  | zero => exact ⟨fun m hm => (by rcases hm with hm | rfl <;> first | exact absurd hm (Nat.not_lt_zero _) | exact Nat.le_refl _), fun m hm => absurd hm (Nat.not_lt_zero m), Or.inr rfl⟩
  | succ n ih =>
    obtain ⟨ih1, ih2, ih3⟩ := ih
    by_cases e : p (cB p w f n) * (w n + 1) < p n * (w (cB p w f n) + 1)
    · have eb : cB p w f (n + 1) = n := if_pos (Or.inl e)
      rw [eb]
      refine ⟨fun m hm => ?_, fun m hm hm2 => qlt_of_le_lt (ih1 m (Or.inl (by omega))) e, Or.inl (Nat.lt_succ_self n)⟩
      by_cases h : m = n
      · rw [h]
        exact Nat.le_refl _
      · exact Nat.le_of_lt (qlt_of_le_lt (ih1 m (by omega)) e)
    · by_cases e2 : p n * (w (cB p w f n) + 1) = p (cB p w f n) * (w n + 1) ∧ n < cB p w f n
      · have eb : cB p w f (n + 1) = n := if_pos (Or.inr e2)
        have e3 : qle p w (cB p w f n) n := Nat.le_of_eq e2.1.symm
        rw [eb]
        refine ⟨fun m hm => ?_, fun m hm hm2 => qlt_of_lt_le (ih2 m (by omega) (by omega)) e3, Or.inl (Nat.lt_succ_self n)⟩
        by_cases h : m = n
        · rw [h]
          exact Nat.le_refl _
        · exact qle_trans (ih1 m (by omega)) e3
      · have eb : cB p w f (n + 1) = cB p w f n := if_neg (by rintro (z | z) <;> first | exact e z | exact e2 z)
        rw [eb]
        refine ⟨fun m hm => ?_, fun m hm hm2 => ?_, by omega⟩
        · by_cases h : m = n
          · rw [h]
            exact Nat.le_of_not_lt e
          · exact ih1 m (by omega)
        · by_cases h : m = n
          · subst h
            have h1 : p m * (w (cB p w f m) + 1) ≤ p (cB p w f m) * (w m + 1) := Nat.le_of_not_lt e
            have h2 : ¬ p m * (w (cB p w f m) + 1) = p (cB p w f m) * (w m + 1) := fun z => e2 ⟨z, hm2⟩
            exact Nat.lt_of_le_of_ne h1 h2
          · exact ih2 m (by omega) hm2
theorem cB_best (p w : Nat → Nat) {f : Nat} (hf : f < 6) : cB p w f 6 = bestD p w 6 := by
  obtain ⟨a1, a2, a3⟩ := cB_spec p w f 6
  obtain ⟨b1, b2⟩ := bestD_spec p w 6
  have ha : cB p w f 6 < 6 := by omega
  have hb : bestD p w 6 < 6 := by omega
  rcases Nat.lt_trichotomy (cB p w f 6) (bestD p w 6) with h | h | h
  · have h1 := (b1 _ ha).2 h
    have h2 := a1 _ (Or.inl hb)
    exact absurd h1 (Nat.not_lt.mpr h2)
  · exact h
  · have h1 := a2 _ hb h
    have h2 := (b1 _ ha).1
    exact absurd h1 (Nat.not_lt.mpr h2)
theorem dvN_le (p : Nat → Nat) : ∀ s k, dvN p s k ≤ s := by
  intro s
  induction s with
  | zero => intro k; exact Nat.le_refl _
  | succ s ih =>
    intro k
    have := ih k
    show (if k = bestD p (dvN p s) 6 then dvN p s k + 1 else dvN p s k) ≤ s + 1
    split <;> omega
section JD
variable {G : GT} {d : Nat} {j : Nat} {h0 : AH}

set_option maxHeartbeats 4000000 in
set_option maxRecDepth 100000 in
theorem s_div_in {bf p l : Nat → Int32} {se wy f : Nat} {tu ma co : Int32} {q : Nat → Nat} (hp : ∀ k, k < 6 → p k = nI (q k)) (hq : ∀ k, k < 6 → q k ≤ 1200) (hse : se ≤ 9) (hf : f < 6) {z : Nat} (hz : z < se) {h : AH} {w : Nat → Int32} (jc : JarC h j bf p w l (nI se) wy tu (nI f) ma co) (hw : ∀ k, k < 6 → w k = nI (dvN q z k)) {P : OC → AH → Prop} (kk : ∀ (x4 x5 : Option Value), ok1 x4 = true → ok1 x5 = true → RQ G mX4_divideSeats d 84 [some (.ref j), some (.int (nI z)), some (.int (nI (cB q (dvN q z) f 6))), some (.int (nI 6)), x4, x5] [] h P) : ∀ (n i : Nat) (x4 x5 : Option Value), ok1 x4 = true → ok1 x5 = true → 6 ≤ i + n → i ≤ 6 → RQ G mX4_divideSeats d 17 [some (.ref j), some (.int (nI z)), some (.int (nI (cB q (dvN q z) f i))), some (.int (nI i)), x4, x5] [] h P := by
  obtain ⟨a0, a1, a2, a3, a4⟩ := id jc
  have lt6 : ∀ i, i ≤ 6 → cB q (dvN q z) f i < 6 := fun i hi => by
    rcases (cB_spec q (dvN q z) f i).2.2 with h9 | h9 <;> omega
  have wle := fun k => dvN_le q z k
  intro n
  induction n with
  | zero =>
    intro i x4 x5 o4 o5 h1_ h2_
    have hi : i = 6 := by omega
    rw [hi]
    refine tX4_divideSeats_17  (r := ?_)
    refine tX4_divideSeats_18  (r := ?_)
    refine tX4_divideSeats_20  (kf := fun c_ => by exfalso; exact c_ (by decide)) (kt := fun _ => ?_)
    exact kk x4 x5 o4 o5
  | succ n ih =>
    intro i x4 x5 o4 o5 h1_ h2_
    by_cases hi : i = 6
    · rw [hi]
      refine tX4_divideSeats_17  (r := ?_)
      refine tX4_divideSeats_18  (r := ?_)
      refine tX4_divideSeats_20  (kf := fun c_ => by exfalso; exact c_ (by decide)) (kt := fun _ => ?_)
      exact kk x4 x5 o4 o5
    have hi2 : i < 6 := by omega
    have hb6 := lt6 i (by omega)
    have w1 := wle i
    have w2 := wle (cB q (dvN q z) f i)
    have q1 := hq i hi2
    have q2 := hq _ hb6
    have m1 : q i * (dvN q z (cB q (dvN q z) f i) + 1) ≤ 1200 * 10 := Nat.mul_le_mul q1 (by omega)
    have m2 : q (cB q (dvN q z) f i) * (dvN q z i + 1) ≤ 1200 * 10 := Nat.mul_le_mul q2 (by omega)
    refine tX4_divideSeats_17  (r := ?_)
    refine tX4_divideSeats_18  (r := ?_)
    refine tX4_divideSeats_20  (kt := fun c_ => by exfalso; (simp (disch := first | omega | decide) only [ci_lt, ci_le, ci_eq, ci_lt0, ci_ge0, ci_gt0, ci_le0, ci_eq0, ci_m1_lt, ci_m1_le, ci_lt_m1, ci_le_m1, ci_eq_m1, ci_m1_eq, not_true, not_false_iff, Nat.not_lt, Nat.not_le] at c_ <;> omega)) (kf := fun _ => ?_)
    refine tX4_divideSeats_23  (r := ?_)
    refine tX4_divideSeats_24 (ha := (by first | assumption | (repeat (first | assumption | exact At.set_eq2 (by first | omega | (simp only [hset, hnew]; omega) | rfl | decide) | exact At.new_eq2 _ _ (by first | omega | (simp only [hset, hnew]; omega) | rfl | decide) | refine At.set_ne ?_ (by first | omega | (simp only [hset, hnew]; omega) | rfl | decide) | refine At.new_ne ?_)))) (hv := rfl) (r := ?_)
    refine tX4_divideSeats_27  (r := ?_)
    refine tX4_divideSeats_28 (ha := (by first | assumption | (repeat (first | assumption | exact At.set_eq2 (by first | omega | (simp only [hset, hnew]; omega) | rfl | decide) | exact At.new_eq2 _ _ (by first | omega | (simp only [hset, hnew]; omega) | rfl | decide) | refine At.set_ne ?_ (by first | omega | (simp only [hset, hnew]; omega) | rfl | decide) | refine At.new_ne ?_)))) (hx := rfl) (hj := (by omega)) (hn := (by decide)) (r := ?_)
    rw [hp _ hi2]
    refine tX4_divideSeats_29  (r := ?_)
    refine tX4_divideSeats_30 (ha := (by first | assumption | (repeat (first | assumption | exact At.set_eq2 (by first | omega | (simp only [hset, hnew]; omega) | rfl | decide) | exact At.new_eq2 _ _ (by first | omega | (simp only [hset, hnew]; omega) | rfl | decide) | refine At.set_ne ?_ (by first | omega | (simp only [hset, hnew]; omega) | rfl | decide) | refine At.new_ne ?_)))) (hv := rfl) (r := ?_)
    refine tX4_divideSeats_33  (r := ?_)
    refine tX4_divideSeats_34 (ha := (by first | assumption | (repeat (first | assumption | exact At.set_eq2 (by first | omega | (simp only [hset, hnew]; omega) | rfl | decide) | exact At.new_eq2 _ _ (by first | omega | (simp only [hset, hnew]; omega) | rfl | decide) | refine At.set_ne ?_ (by first | omega | (simp only [hset, hnew]; omega) | rfl | decide) | refine At.new_ne ?_)))) (hx := rfl) (hj := (by omega)) (hn := (by decide)) (r := ?_)
    rw [hw _ hb6]
    refine tX4_divideSeats_35  (r := ?_)
    refine tX4_divideSeats_36  (r := ?_)
    rw [nI_add]
    refine tX4_divideSeats_37  (r := ?_)
    rw [nI_mulN]
    refine tX4_divideSeats_38 (ho := rfl) (r := ?_)
    refine tX4_divideSeats_40  (r := ?_)
    refine tX4_divideSeats_41 (ha := (by first | assumption | (repeat (first | assumption | exact At.set_eq2 (by first | omega | (simp only [hset, hnew]; omega) | rfl | decide) | exact At.new_eq2 _ _ (by first | omega | (simp only [hset, hnew]; omega) | rfl | decide) | refine At.set_ne ?_ (by first | omega | (simp only [hset, hnew]; omega) | rfl | decide) | refine At.new_ne ?_)))) (hv := rfl) (r := ?_)
    refine tX4_divideSeats_44  (r := ?_)
    refine tX4_divideSeats_45 (ha := (by first | assumption | (repeat (first | assumption | exact At.set_eq2 (by first | omega | (simp only [hset, hnew]; omega) | rfl | decide) | exact At.new_eq2 _ _ (by first | omega | (simp only [hset, hnew]; omega) | rfl | decide) | refine At.set_ne ?_ (by first | omega | (simp only [hset, hnew]; omega) | rfl | decide) | refine At.new_ne ?_)))) (hx := rfl) (hj := (by omega)) (hn := (by decide)) (r := ?_)
    rw [hp _ hb6]
    refine tX4_divideSeats_46  (r := ?_)
    refine tX4_divideSeats_47 (ha := (by first | assumption | (repeat (first | assumption | exact At.set_eq2 (by first | omega | (simp only [hset, hnew]; omega) | rfl | decide) | exact At.new_eq2 _ _ (by first | omega | (simp only [hset, hnew]; omega) | rfl | decide) | refine At.set_ne ?_ (by first | omega | (simp only [hset, hnew]; omega) | rfl | decide) | refine At.new_ne ?_)))) (hv := rfl) (r := ?_)
    refine tX4_divideSeats_50  (r := ?_)
    refine tX4_divideSeats_51 (ha := (by first | assumption | (repeat (first | assumption | exact At.set_eq2 (by first | omega | (simp only [hset, hnew]; omega) | rfl | decide) | exact At.new_eq2 _ _ (by first | omega | (simp only [hset, hnew]; omega) | rfl | decide) | refine At.set_ne ?_ (by first | omega | (simp only [hset, hnew]; omega) | rfl | decide) | refine At.new_ne ?_)))) (hx := rfl) (hj := (by omega)) (hn := (by decide)) (r := ?_)
    rw [hw _ hi2]
    refine tX4_divideSeats_52  (r := ?_)
    refine tX4_divideSeats_53  (r := ?_)
    rw [nI_add]
    refine tX4_divideSeats_54  (r := ?_)
    rw [nI_mulN]
    refine tX4_divideSeats_55 (ho := rfl) (r := ?_)
    refine tX4_divideSeats_57  (r := ?_)
    refine tX4_divideSeats_59  (r := ?_)
    refine tX4_divideSeats_61  (kt := fun c_61 => ?_) (kf := fun c_61 => ?_)
    · have e : cB q (dvN q z) f (i + 1) = i := if_pos (Or.inl ((nI_ltI (by omega) (by omega)).mp c_61))
      refine tX4_divideSeats_76  (r := ?_)
      refine tX4_divideSeats_77  (r := ?_)
      refine tX4_divideSeats_78  (r := ?_)
      rw [nI_add]
      refine tX4_divideSeats_81 (r := ?_)
      have key := ih (i + 1)
      rw [e] at key
      exact key _ _ rfl rfl (by omega) (by omega)
    · have e1 := fun zz => c_61 ((nI_ltI (by omega) (by omega)).mpr zz)
      refine tX4_divideSeats_64  (r := ?_)
      refine tX4_divideSeats_66  (r := ?_)
      refine tX4_divideSeats_68  (kt := fun c_68 => ?_) (kf := fun c_68 => ?_)
      · have e : cB q (dvN q z) f (i + 1) = cB q (dvN q z) f i := if_neg (by rintro (zz | zz) <;> first | exact e1 zz | exact c_68 (by rw [zz.1]))
        refine tX4_divideSeats_78  (r := ?_)
        rw [nI_add]
        refine tX4_divideSeats_81 (r := ?_)
        have key := ih (i + 1)
        rw [e] at key
        exact key _ _ rfl rfl (by omega) (by omega)
      · have e2 := (nI_eq (by omega) (by omega)).mp c_68
        refine tX4_divideSeats_71  (r := ?_)
        refine tX4_divideSeats_72  (r := ?_)
        refine tX4_divideSeats_73  (kt := fun c_73 => ?_) (kf := fun c_73 => ?_)
        · have e : cB q (dvN q z) f (i + 1) = cB q (dvN q z) f i := if_neg (by rintro (zz | zz) <;> first | exact e1 zz | exact absurd ((nI_leI (by omega) (by omega)).mp c_73) (by omega))
          refine tX4_divideSeats_78  (r := ?_)
          rw [nI_add]
          refine tX4_divideSeats_81 (r := ?_)
          have key := ih (i + 1)
          rw [e] at key
          exact key _ _ rfl rfl (by omega) (by omega)
        · have e : cB q (dvN q z) f (i + 1) = i := if_pos (Or.inr ⟨e2, Nat.lt_of_not_le (fun zz => c_73 ((nI_leI (by omega) (by omega)).mpr zz))⟩)
          refine tX4_divideSeats_76  (r := ?_)
          refine tX4_divideSeats_77  (r := ?_)
          refine tX4_divideSeats_78  (r := ?_)
          rw [nI_add]
          refine tX4_divideSeats_81 (r := ?_)
          have key := ih (i + 1)
          rw [e] at key
          exact key _ _ rfl rfl (by omega) (by omega)

set_option maxHeartbeats 4000000 in
set_option maxRecDepth 100000 in
theorem s_div_out {bf p l : Nat → Int32} {se wy f : Nat} {tu ma co : Int32} {q : Nat → Nat} (hp : ∀ k, k < 6 → p k = nI (q k)) (hq : ∀ k, k < 6 → q k ≤ 1200) (hse : se ≤ 9) (hf : f < 6) : ∀ (n z : Nat) (h : AH) (w : Nat → Int32) (x2 x3 x4 x5 : Option Value), ok1 x2 = true → ok1 x3 = true → ok1 x4 = true → ok1 x5 = true → se ≤ z + n → z ≤ se → JarC h j bf p w l (nI se) wy tu (nI f) ma co → (∀ k, k < 6 → w k = nI (dvN q z k)) → Sm h0 h j (j + 4) → RQ G mX4_divideSeats d 2 [some (.ref j), some (.int (nI z)), x2, x3, x4, x5] [] h (Rv fun h1 => ∃ w, JarC h1 j bf p w l (nI se) wy tu (nI f) ma co ∧ (∀ k, k < 6 → w k = nI (dvN q se k)) ∧ Sm h0 h1 j (j + 4)) := by
  intro n
  induction n with
  | zero =>
    intro z h w x2 x3 x4 x5 o2 o3 o4 o5 h1_ h2_ jc hw sm
    obtain ⟨a0, a1, a2, a3, a4⟩ := id jc
    have hz : z = se := by omega
    subst hz
    refine tX4_divideSeats_2  (r := ?_)
    refine tX4_divideSeats_3  (r := ?_)
    refine tX4_divideSeats_4 (ha := (by first | assumption | (repeat (first | assumption | exact At.set_eq2 (by first | omega | (simp only [hset, hnew]; omega) | rfl | decide) | exact At.new_eq2 _ _ (by first | omega | (simp only [hset, hnew]; omega) | rfl | decide) | refine At.set_ne ?_ (by first | omega | (simp only [hset, hnew]; omega) | rfl | decide) | refine At.new_ne ?_)))) (hv := rfl) (r := ?_)
    refine tX4_divideSeats_7  (kf := fun c_ => by exfalso; exact c_ (by first | exact (nI_leI (by omega) (by omega)).mpr (Nat.le_refl _) | decide)) (kt := fun _ => ?_)
    refine tX4_divideSeats_100  (hP := ?_)
    exact ⟨rfl, w, jc, hw, sm⟩
  | succ n ih =>
    intro z h w x2 x3 x4 x5 o2 o3 o4 o5 h1_ h2_ jc hw sm
    obtain ⟨a0, a1, a2, a3, a4⟩ := id jc
    have l0 := a0.1
    have l1 := a1.1
    have l2 := a2.1
    have l3 := a3.1
    have l4 := a4.1
    by_cases hz : z = se
    · subst hz
      refine tX4_divideSeats_2  (r := ?_)
      refine tX4_divideSeats_3  (r := ?_)
      refine tX4_divideSeats_4 (ha := (by first | assumption | (repeat (first | assumption | exact At.set_eq2 (by first | omega | (simp only [hset, hnew]; omega) | rfl | decide) | exact At.new_eq2 _ _ (by first | omega | (simp only [hset, hnew]; omega) | rfl | decide) | refine At.set_ne ?_ (by first | omega | (simp only [hset, hnew]; omega) | rfl | decide) | refine At.new_ne ?_)))) (hv := rfl) (r := ?_)
      refine tX4_divideSeats_7  (kf := fun c_ => by exfalso; exact c_ (by first | exact (nI_leI (by omega) (by omega)).mpr (Nat.le_refl _) | decide)) (kt := fun _ => ?_)
      refine tX4_divideSeats_100  (hP := ?_)
      exact ⟨rfl, w, jc, hw, sm⟩
    have hz2 : z < se := by omega
    have b6 : bestD q (dvN q z) 6 < 6 := by
      rcases (bestD_spec q (dvN q z) 6).2 with h9 | h9 <;> omega
    have wle := fun k => dvN_le q z k
    refine tX4_divideSeats_2  (r := ?_)
    refine tX4_divideSeats_3  (r := ?_)
    refine tX4_divideSeats_4 (ha := (by first | assumption | (repeat (first | assumption | exact At.set_eq2 (by first | omega | (simp only [hset, hnew]; omega) | rfl | decide) | exact At.new_eq2 _ _ (by first | omega | (simp only [hset, hnew]; omega) | rfl | decide) | refine At.set_ne ?_ (by first | omega | (simp only [hset, hnew]; omega) | rfl | decide) | refine At.new_ne ?_)))) (hv := rfl) (r := ?_)
    refine tX4_divideSeats_7  (kt := fun c_ => by exfalso; exact absurd ((nI_leI (by omega) (by omega)).mp c_) (by omega)) (kf := fun _ => ?_)
    refine tX4_divideSeats_10  (r := ?_)
    refine tX4_divideSeats_11 (ha := (by first | assumption | (repeat (first | assumption | exact At.set_eq2 (by first | omega | (simp only [hset, hnew]; omega) | rfl | decide) | exact At.new_eq2 _ _ (by first | omega | (simp only [hset, hnew]; omega) | rfl | decide) | refine At.set_ne ?_ (by first | omega | (simp only [hset, hnew]; omega) | rfl | decide) | refine At.new_ne ?_)))) (hv := rfl) (r := ?_)
    refine tX4_divideSeats_14 (ho := rfl) (r := ?_)
    refine tX4_divideSeats_15  (r := ?_)
    refine tX4_divideSeats_16 (ho := rfl) (r := ?_)
    refine s_div_in hp hq hse hf hz2 jc hw (fun y4 y5 p4 p5 => ?_) 6 0 x4 x5 o4 o5 (by omega) (by omega)
    rw [cB_best q (dvN q z) hf]
    refine tX4_divideSeats_84  (r := ?_)
    refine tX4_divideSeats_85 (ha := (by first | assumption | (repeat (first | assumption | exact At.set_eq2 (by first | omega | (simp only [hset, hnew]; omega) | rfl | decide) | exact At.new_eq2 _ _ (by first | omega | (simp only [hset, hnew]; omega) | rfl | decide) | refine At.set_ne ?_ (by first | omega | (simp only [hset, hnew]; omega) | rfl | decide) | refine At.new_ne ?_)))) (hv := rfl) (r := ?_)
    refine tX4_divideSeats_88  (r := ?_)
    refine tX4_divideSeats_89  (r := ?_)
    refine tX4_divideSeats_90 (ha := (by first | assumption | (repeat (first | assumption | exact At.set_eq2 (by first | omega | (simp only [hset, hnew]; omega) | rfl | decide) | exact At.new_eq2 _ _ (by first | omega | (simp only [hset, hnew]; omega) | rfl | decide) | refine At.set_ne ?_ (by first | omega | (simp only [hset, hnew]; omega) | rfl | decide) | refine At.new_ne ?_)))) (hx := rfl) (hj := b6) (hn := (by decide)) (r := ?_)
    rw [hw _ b6]
    refine tX4_divideSeats_91  (r := ?_)
    refine tX4_divideSeats_92  (r := ?_)
    rw [nI_add]
    refine tX4_divideSeats_93 (ha := (by first | assumption | (repeat (first | assumption | exact At.set_eq2 (by first | omega | (simp only [hset, hnew]; omega) | rfl | decide) | exact At.new_eq2 _ _ (by first | omega | (simp only [hset, hnew]; omega) | rfl | decide) | refine At.set_ne ?_ (by first | omega | (simp only [hset, hnew]; omega) | rfl | decide) | refine At.new_ne ?_)))) (hx := rfl) (hj := b6) (hn := (by decide)) (r := ?_)
    refine tX4_divideSeats_94  (r := ?_)
    rw [nI_add]
    refine tX4_divideSeats_97 (r := ?_)
    refine ih (z + 1) _ _ _ _ y4 y5 rfl rfl p4 p5 (by omega) (by omega) ⟨by (first | assumption | (repeat (first | assumption | exact At.set_eq2 (by (first | omega | (simp only [hset, hnew]; omega) | rfl | decide)) | exact At.new_eq2 _ _ (by (first | omega | (simp only [hset, hnew]; omega) | rfl | decide)) | refine At.set_ne ?_ (by (first | omega | (simp only [hset, hnew]; omega) | rfl | decide)) | refine At.new_ne ?_))), by (first | assumption | (repeat (first | assumption | exact At.set_eq2 (by (first | omega | (simp only [hset, hnew]; omega) | rfl | decide)) | exact At.new_eq2 _ _ (by (first | omega | (simp only [hset, hnew]; omega) | rfl | decide)) | refine At.set_ne ?_ (by (first | omega | (simp only [hset, hnew]; omega) | rfl | decide)) | refine At.new_ne ?_))), by (first | assumption | (repeat (first | assumption | exact At.set_eq2 (by (first | omega | (simp only [hset, hnew]; omega) | rfl | decide)) | exact At.new_eq2 _ _ (by (first | omega | (simp only [hset, hnew]; omega) | rfl | decide)) | refine At.set_ne ?_ (by (first | omega | (simp only [hset, hnew]; omega) | rfl | decide)) | refine At.new_ne ?_))), by (first | assumption | (repeat (first | assumption | exact At.set_eq2 (by (first | omega | (simp only [hset, hnew]; omega) | rfl | decide)) | exact At.new_eq2 _ _ (by (first | omega | (simp only [hset, hnew]; omega) | rfl | decide)) | refine At.set_ne ?_ (by (first | omega | (simp only [hset, hnew]; omega) | rfl | decide)) | refine At.new_ne ?_))), by (first | assumption | (repeat (first | assumption | exact At.set_eq2 (by (first | omega | (simp only [hset, hnew]; omega) | rfl | decide)) | exact At.new_eq2 _ _ (by (first | omega | (simp only [hset, hnew]; omega) | rfl | decide)) | refine At.set_ne ?_ (by (first | omega | (simp only [hset, hnew]; omega) | rfl | decide)) | refine At.new_ne ?_)))⟩ (fun k hk => ?_) (sm.set (by omega) (by omega))
    show (if k = bestD q (dvN q z) 6 then _ else w k) = nI (if k = bestD q (dvN q z) 6 then dvN q z k + 1 else dvN q z k)
    by_cases e : k = bestD q (dvN q z) 6
    · rw [if_pos e, if_pos e, e]
    · rw [if_neg e, if_neg e, hw k hk]

set_option maxHeartbeats 4000000 in
set_option maxRecDepth 100000 in
theorem s_div {bf p l : Nat → Int32} {se wy f : Nat} {tu ma co : Int32} {q : Nat → Nat} (hp : ∀ k, k < 6 → p k = nI (q k)) (hq : ∀ k, k < 6 → q k ≤ 1200) (hse : se ≤ 9) (hf : f < 6) {w : Nat → Int32} (jc : JarC h0 j bf p w l (nI se) wy tu (nI f) ma co) (hw : ∀ k, k < 6 → w k = nI 0) : RQ G mX4_divideSeats d 0 [some (.ref j), none, none, none, none, none] [] h0 (Rv fun h1 => ∃ w, JarC h1 j bf p w l (nI se) wy tu (nI f) ma co ∧ (∀ k, k < 6 → w k = nI (dvN q se k)) ∧ Sm h0 h1 j (j + 4)) := by
  refine tX4_divideSeats_0  (r := ?_)
  refine tX4_divideSeats_1  (r := ?_)
  exact s_div_out hp hq hse hf se 0 h0 w none none none none rfl rfl rfl rfl (by omega) (by omega) jc hw (Sm.rf _ _ _)

end JD
