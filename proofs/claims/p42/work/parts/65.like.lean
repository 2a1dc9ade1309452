/-! a cupboard becomes like another one; the reference keeps and brings back -/
section LK
variable {G : GT} {d : Nat} {s : ST} {h0 h : AH} {bk dr : Nat} {B : BK} {D : DY} {c q : Nat}

set_option maxHeartbeats 4000000 in
set_option maxRecDepth 100000 in
theorem s_jlike_l {j q se wy : Nat} {b r : Nat → Nat} (jr : JaR h0 q b se wy r) (hd_ : j + 5 ≤ q ∨ q + 5 ≤ j) {p wn l : Nat → Int32} {se0 : Int32} {wy0 : Nat} {tu fi ma co : Int32} : ∀ (n i : Nat) (h : AH) (g : Nat → Int32), 6 ≤ i + n → i ≤ 6 → JarC h j g p wn l se0 wy0 tu fi ma co → (∀ k, k < i → g k = nI (b k)) → Sm h0 h j (j + 5) → RQ G mX4_becomeLike d 2 [some (.ref j), some (.ref q), some (.int (nI i))] [] h (Rv fun h1 => (∀ r2, JaR h1 j b se wy r2) ∧ Sm h0 h1 j (j + 5)) := by
  have ex : ∀ (i : Nat) (h : AH) (g : Nat → Int32), i = 6 → JarC h j g p wn l se0 wy0 tu fi ma co → (∀ k, k < i → g k = nI (b k)) → Sm h0 h j (j + 5) → RQ G mX4_becomeLike d 2 [some (.ref j), some (.ref q), some (.int (nI i))] [] h (Rv fun h1 => (∀ r2, JaR h1 j b se wy r2) ∧ Sm h0 h1 j (j + 5)) := by
    intro i h g hi jc hg sm
    subst hi
    obtain ⟨a0, a1, a2, a3, a4⟩ := id jc
    have l0_ := a0.1
    have l1_ := a1.1
    have l2_ := a2.1
    have l3_ := a3.1
    have l4_ := a4.1
    obtain ⟨bf, p_, wn_, l_, tu_, fi_, ma_, co_, ⟨z0, z1, z2, z3, z4⟩, hbf, -⟩ := jr.sm sm (by omega)
    refine tX4_becomeLike_2  (r := ?_)
    refine tX4_becomeLike_3  (r := ?_)
    refine tX4_becomeLike_5  (kf := fun c_ => by exfalso; exact c_ (by decide)) (kt := fun _ => ?_)
    refine tX4_becomeLike_26  (r := ?_)
    refine tX4_becomeLike_27  (r := ?_)
    refine tX4_becomeLike_28 (ha := (by first | assumption | (repeat (first | assumption | exact At.set_eq2 (by first | omega | (simp only [hset, hnew]; omega) | rfl | decide) | exact At.new_eq2 _ _ (by first | omega | (simp only [hset, hnew]; omega) | rfl | decide) | refine At.set_ne ?_ (by first | omega | (simp only [hset, hnew]; omega) | rfl | decide) | refine At.new_ne ?_)))) (hv := rfl) (r := ?_)
    refine tX4_becomeLike_31 (ha := (by first | assumption | (repeat (first | assumption | exact At.set_eq2 (by first | omega | (simp only [hset, hnew]; omega) | rfl | decide) | exact At.new_eq2 _ _ (by first | omega | (simp only [hset, hnew]; omega) | rfl | decide) | refine At.set_ne ?_ (by first | omega | (simp only [hset, hnew]; omega) | rfl | decide) | refine At.new_ne ?_)))) (hlen := rfl) (r := ?_)
    refine tX4_becomeLike_34  (r := ?_)
    refine tX4_becomeLike_35  (r := ?_)
    refine tX4_becomeLike_36 (ha := (by first | assumption | (repeat (first | assumption | exact At.set_eq2 (by first | omega | (simp only [hset, hnew]; omega) | rfl | decide) | exact At.new_eq2 _ _ (by first | omega | (simp only [hset, hnew]; omega) | rfl | decide) | refine At.set_ne ?_ (by first | omega | (simp only [hset, hnew]; omega) | rfl | decide) | refine At.new_ne ?_)))) (hv := rfl) (r := ?_)
    refine tX4_becomeLike_39 (ha := (by first | assumption | (repeat (first | assumption | exact At.set_eq2 (by first | omega | (simp only [hset, hnew]; omega) | rfl | decide) | exact At.new_eq2 _ _ (by first | omega | (simp only [hset, hnew]; omega) | rfl | decide) | refine At.set_ne ?_ (by first | omega | (simp only [hset, hnew]; omega) | rfl | decide) | refine At.new_ne ?_)))) (hlen := rfl) (r := ?_)
    refine tX4_becomeLike_42  (r := ?_)
    refine tX4_becomeLike_43  (r := ?_)
    refine tX4_becomeLike_44 (ha := (by first | assumption | (repeat (first | assumption | exact At.set_eq2 (by first | omega | (simp only [hset, hnew]; omega) | rfl | decide) | exact At.new_eq2 _ _ (by first | omega | (simp only [hset, hnew]; omega) | rfl | decide) | refine At.set_ne ?_ (by first | omega | (simp only [hset, hnew]; omega) | rfl | decide) | refine At.new_ne ?_)))) (hlen := rfl) (hb := (by first | exact Or.inl rfl | exact Or.inr rfl | assumption)) (r := ?_)
    refine tX4_becomeLike_47  (hP := ?_)
    refine ⟨rfl, fun r2 => ⟨g, p, wn, l, tu, fi, ma, nI 0, ⟨by (first | assumption | (repeat (first | assumption | exact At.set_eq2 (by (first | omega | (simp only [hset, hnew]; omega) | rfl | decide)) | exact At.new_eq2 _ _ (by (first | omega | (simp only [hset, hnew]; omega) | rfl | decide)) | refine At.set_ne ?_ (by (first | omega | (simp only [hset, hnew]; omega) | rfl | decide)) | refine At.new_ne ?_))), by (first | assumption | (repeat (first | assumption | exact At.set_eq2 (by (first | omega | (simp only [hset, hnew]; omega) | rfl | decide)) | exact At.new_eq2 _ _ (by (first | omega | (simp only [hset, hnew]; omega) | rfl | decide)) | refine At.set_ne ?_ (by (first | omega | (simp only [hset, hnew]; omega) | rfl | decide)) | refine At.new_ne ?_))), by (first | assumption | (repeat (first | assumption | exact At.set_eq2 (by (first | omega | (simp only [hset, hnew]; omega) | rfl | decide)) | exact At.new_eq2 _ _ (by (first | omega | (simp only [hset, hnew]; omega) | rfl | decide)) | refine At.set_ne ?_ (by (first | omega | (simp only [hset, hnew]; omega) | rfl | decide)) | refine At.new_ne ?_))), by (first | assumption | (repeat (first | assumption | exact At.set_eq2 (by (first | omega | (simp only [hset, hnew]; omega) | rfl | decide)) | exact At.new_eq2 _ _ (by (first | omega | (simp only [hset, hnew]; omega) | rfl | decide)) | refine At.set_ne ?_ (by (first | omega | (simp only [hset, hnew]; omega) | rfl | decide)) | refine At.new_ne ?_))), by (first | assumption | (repeat (first | assumption | exact At.set_eq2 (by (first | omega | (simp only [hset, hnew]; omega) | rfl | decide)) | exact At.new_eq2 _ _ (by (first | omega | (simp only [hset, hnew]; omega) | rfl | decide)) | refine At.set_ne ?_ (by (first | omega | (simp only [hset, hnew]; omega) | rfl | decide)) | refine At.new_ne ?_)))⟩, hg, Or.inl rfl⟩, ((sm.set (by omega) (by omega)).set (by omega) (by omega)).set (by omega) (by omega)⟩
  intro n
  induction n with
  | zero => exact fun i h g h1_ h2_ => ex i h g (by omega)
  | succ n ih =>
    intro i h g h1_ h2_ jc hg sm
    by_cases hi : i = 6
    · exact ex i h g hi jc hg sm
    have hi2 : i < 6 := by omega
    obtain ⟨a0, a1, a2, a3, a4⟩ := id jc
    have l0_ := a0.1
    have l1_ := a1.1
    have l2_ := a2.1
    have l3_ := a3.1
    have l4_ := a4.1
    obtain ⟨bf, p_, wn_, l_, tu_, fi_, ma_, co_, ⟨z0, z1, z2, z3, z4⟩, hbf, -⟩ := jr.sm sm (by omega)
    refine tX4_becomeLike_2  (r := ?_)
    refine tX4_becomeLike_3  (r := ?_)
    refine tX4_becomeLike_5  (kt := fun c_ => by exfalso; exact absurd ((nI_leI (by decide) (by omega)).mp c_) (by omega)) (kf := fun _ => ?_)
    refine tX4_becomeLike_8  (r := ?_)
    refine tX4_becomeLike_9 (ha := (by first | assumption | (repeat (first | assumption | exact At.set_eq2 (by first | omega | (simp only [hset, hnew]; omega) | rfl | decide) | exact At.new_eq2 _ _ (by first | omega | (simp only [hset, hnew]; omega) | rfl | decide) | refine At.set_ne ?_ (by first | omega | (simp only [hset, hnew]; omega) | rfl | decide) | refine At.new_ne ?_)))) (hv := rfl) (r := ?_)
    refine tX4_becomeLike_12  (r := ?_)
    refine tX4_becomeLike_13  (r := ?_)
    refine tX4_becomeLike_14 (ha := (by first | assumption | (repeat (first | assumption | exact At.set_eq2 (by first | omega | (simp only [hset, hnew]; omega) | rfl | decide) | exact At.new_eq2 _ _ (by first | omega | (simp only [hset, hnew]; omega) | rfl | decide) | refine At.set_ne ?_ (by first | omega | (simp only [hset, hnew]; omega) | rfl | decide) | refine At.new_ne ?_)))) (hv := rfl) (r := ?_)
    refine tX4_becomeLike_17  (r := ?_)
    refine tX4_becomeLike_18 (ha := (by first | assumption | (repeat (first | assumption | exact At.set_eq2 (by first | omega | (simp only [hset, hnew]; omega) | rfl | decide) | exact At.new_eq2 _ _ (by first | omega | (simp only [hset, hnew]; omega) | rfl | decide) | refine At.set_ne ?_ (by first | omega | (simp only [hset, hnew]; omega) | rfl | decide) | refine At.new_ne ?_)))) (hx := rfl) (hj := hi2) (hn := (by decide)) (r := ?_)
    rw [hbf _ hi2]
    refine tX4_becomeLike_19 (ha := (by first | assumption | (repeat (first | assumption | exact At.set_eq2 (by first | omega | (simp only [hset, hnew]; omega) | rfl | decide) | exact At.new_eq2 _ _ (by first | omega | (simp only [hset, hnew]; omega) | rfl | decide) | refine At.set_ne ?_ (by first | omega | (simp only [hset, hnew]; omega) | rfl | decide) | refine At.new_ne ?_)))) (hx := rfl) (hj := hi2) (hn := (by decide)) (r := ?_)
    refine tX4_becomeLike_20  (r := ?_)
    rw [nI_add]
    refine tX4_becomeLike_23 (r := ?_)
    refine ih (i + 1) _ _ (by omega) (by omega) ⟨by (first | assumption | (repeat (first | assumption | exact At.set_eq2 (by (first | omega | (simp only [hset, hnew]; omega) | rfl | decide)) | exact At.new_eq2 _ _ (by (first | omega | (simp only [hset, hnew]; omega) | rfl | decide)) | refine At.set_ne ?_ (by (first | omega | (simp only [hset, hnew]; omega) | rfl | decide)) | refine At.new_ne ?_))), At.set_eq2 l1_, by (first | assumption | (repeat (first | assumption | exact At.set_eq2 (by (first | omega | (simp only [hset, hnew]; omega) | rfl | decide)) | exact At.new_eq2 _ _ (by (first | omega | (simp only [hset, hnew]; omega) | rfl | decide)) | refine At.set_ne ?_ (by (first | omega | (simp only [hset, hnew]; omega) | rfl | decide)) | refine At.new_ne ?_))), by (first | assumption | (repeat (first | assumption | exact At.set_eq2 (by (first | omega | (simp only [hset, hnew]; omega) | rfl | decide)) | exact At.new_eq2 _ _ (by (first | omega | (simp only [hset, hnew]; omega) | rfl | decide)) | refine At.set_ne ?_ (by (first | omega | (simp only [hset, hnew]; omega) | rfl | decide)) | refine At.new_ne ?_))), by (first | assumption | (repeat (first | assumption | exact At.set_eq2 (by (first | omega | (simp only [hset, hnew]; omega) | rfl | decide)) | exact At.new_eq2 _ _ (by (first | omega | (simp only [hset, hnew]; omega) | rfl | decide)) | refine At.set_ne ?_ (by (first | omega | (simp only [hset, hnew]; omega) | rfl | decide)) | refine At.new_ne ?_)))⟩ (fun k hk => ?_) (sm.set (by omega) (by omega))
    show (if k = i then nI (b i) else g k) = nI (b k)
    by_cases e : k = i
    · rw [if_pos e, e]
    · rw [if_neg e]
      exact hg k (by omega)

theorem s_jlike {j q se wy : Nat} {b r : Nat → Nat} (je : JarE h0 j) (jr : JaR h0 q b se wy r) (hd_ : j + 5 ≤ q ∨ q + 5 ≤ j) : RQ G mX4_becomeLike d 0 [some (.ref j), some (.ref q), none] [] h0 (Rv fun h1 => (∀ r2, JaR h1 j b se wy r2) ∧ Sm h0 h1 j (j + 5)) := by
  obtain ⟨g, p, wn, l, se0, wy0, tu, fi, ma, co, -, jc⟩ := je
  refine tX4_becomeLike_0 (r := ?_)
  refine tX4_becomeLike_1 (r := ?_)
  exact s_jlike_l jr hd_ 6 0 h0 g (by omega) (by omega) jc (fun k hk => absurd hk (Nat.not_lt_zero k)) (Sm.rf _ _ _)

set_option maxHeartbeats 4000000 in
set_option maxRecDepth 100000 in
theorem s_like_jars (cu : CuR h0 q B D) (hb : BDok B D) (hc : c + 45 ≤ q ∨ q + 45 ≤ c) {jf2 : Nat → Option Nat} {dy : Int32} (v5 : ∀ i, i < 8 → jf2 i = some (c + 5 + 5 * i)) (w0 : At h0 c (.inr (2, [.ref (c + 1), .ref (c + 2), .ref (c + 3), .ref (c + 4), .int dy]))) (w1 : At h0 (c + 1) (.inl (3, 8, .inr (.inr (.inr (.inr jf2)))))) (hd : 1 ≤ d) {P : OC → AH → Prop} (kk : ∀ h, (∀ j, j < 8 → JaR h (c + 5 + 5 * j) (dB D j) (bSe B j) (bWy B j) (rt (dF D))) → Sm h0 h (c + 5) (c + 45) → RQ G mX3_becomeLike d 37 [some (.ref c), some (.ref q), some (.int (nI 8))] [] h P) : ∀ (n i : Nat) (h : AH), 8 ≤ i + n → i ≤ 8 → (∀ j, j < 8 → (j < i → JaR h (c + 5 + 5 * j) (dB D j) (bSe B j) (bWy B j) (rt (dF D))) ∧ JarE h (c + 5 + 5 * j)) → Sm h0 h (c + 5) (c + 45) → RQ G mX3_becomeLike d 10 [some (.ref c), some (.ref q), some (.int (nI i))] [] h (P) := by
  have ex : ∀ (i : Nat) (h : AH), i = 8 → (∀ j, j < 8 → (j < i → JaR h (c + 5 + 5 * j) (dB D j) (bSe B j) (bWy B j) (rt (dF D))) ∧ JarE h (c + 5 + 5 * j)) → Sm h0 h (c + 5) (c + 45) → RQ G mX3_becomeLike d 10 [some (.ref c), some (.ref q), some (.int (nI i))] [] h (P) := by
    intro i h hi hj sm
    subst hi
    obtain ⟨jf, lj, fo, le, u0, u1, u2, u3, u4, u5, u6, u7, u8, u9⟩ := cu.sm sm (by omega)
    have v0 := sm.at w0 (by omega)
    have v1 := sm.at w1 (by omega)
    refine tX3_becomeLike_10  (r := ?_)
    refine tX3_becomeLike_11  (r := ?_)
    refine tX3_becomeLike_13  (kf := fun c_ => by exfalso; exact c_ (by decide)) (kt := fun _ => ?_)
    exact kk h (fun j hj8 => (hj j hj8).1 hj8) sm
  intro n
  induction n with
  | zero => exact fun i h h1_ h2_ => ex i h (by omega)
  | succ n ih =>
    intro i h h1_ h2_ hj sm
    by_cases hi : i = 8
    · exact ex i h hi hj sm
    have hi2 : i < 8 := by omega
    obtain ⟨jf, lj, fo, le, u0, u1, u2, u3, u4, u5, u6, u7, u8, u9⟩ := cu.sm sm (by omega)
    have v0 := sm.at w0 (by omega)
    have v1 := sm.at w1 (by omega)
    refine tX3_becomeLike_10  (r := ?_)
    refine tX3_becomeLike_11  (r := ?_)
    refine tX3_becomeLike_13  (kt := fun c_ => by exfalso; exact absurd ((nI_leI (by decide) (by omega)).mp c_) (by omega)) (kf := fun _ => ?_)
    refine tX3_becomeLike_16  (r := ?_)
    refine tX3_becomeLike_17 (ha := v0) (hv := rfl) (r := ?_)
    refine tX3_becomeLike_20  (r := ?_)
    refine tX3_becomeLike_21 (ha := v1) (hx := rfl) (hj := hi2) (hn := (by decide)) (hf := (v5 _ hi2)) (r := ?_)
    refine tX3_becomeLike_22  (r := ?_)
    refine tX3_becomeLike_23 (ha := (by first | assumption | (repeat (first | assumption | exact At.set_eq2 (by first | omega | (simp only [hset, hnew]; omega) | rfl | decide) | exact At.new_eq2 _ _ (by first | omega | (simp only [hset, hnew]; omega) | rfl | decide) | refine At.set_ne ?_ (by first | omega | (simp only [hset, hnew]; omega) | rfl | decide) | refine At.new_ne ?_)))) (hv := rfl) (r := ?_)
    refine tX3_becomeLike_26  (r := ?_)
    refine tX3_becomeLike_27 (ha := (by first | assumption | (repeat (first | assumption | exact At.set_eq2 (by first | omega | (simp only [hset, hnew]; omega) | rfl | decide) | exact At.new_eq2 _ _ (by first | omega | (simp only [hset, hnew]; omega) | rfl | decide) | refine At.set_ne ?_ (by first | omega | (simp only [hset, hnew]; omega) | rfl | decide) | refine At.new_ne ?_)))) (hx := rfl) (hj := hi2) (hn := (by decide)) (hf := (u5 _ hi2)) (r := ?_)
    obtain ⟨bz, pz, wz, lz, sez, wyz, tuz, fiz, maz, coz, -, ⟨z0, -⟩⟩ := id (hj i hi2).2
    refine tX3_becomeLike_28 (hd := (by omega)) (ha := z0) (call := s_jlike (d := 0) (hj i hi2).2 (u9 i hi2) (by omega)) (k := ?_)
    intro h1 hq
    obtain ⟨jr, sm1⟩ := hq
    refine tX3_becomeLike_31  (r := ?_)
    rw [nI_add]
    refine tX3_becomeLike_34 (r := ?_)
    refine ih (i + 1) _ (by omega) (by omega) (fun j hj8 => ?_) (sm.trans (sm1.sub (by omega) (by omega)))
    by_cases e : j = i
    · subst e
      exact ⟨fun _ => jr _, (jr (rt (dF D))).E (hb.2.2.2.1 j hj8).2⟩
    · exact ⟨fun hl => ((hj j hj8).1 (by omega)).sm sm1 (by omega), (hj j hj8).2.sm sm1 (by omega)⟩

set_option maxHeartbeats 4000000 in
set_option maxRecDepth 100000 in
theorem s_like_lids (cu : CuR h0 q B D) (hc : c + 45 ≤ q ∨ q + 45 ≤ c) {dy : Int32} (w0 : At h0 c (.inr (2, [.ref (c + 1), .ref (c + 2), .ref (c + 3), .ref (c + 4), .int dy]))) {P : OC → AH → Prop} (kk : ∀ h (lj2 : Nat → Int32), At h (c + 2) (.inl (0, 6, .inl lj2)) → (∀ k, k < 6 → lj2 k = nI (dL D k)) → Sm h0 h (c + 2) (c + 3) → RQ G mX3_becomeLike d 63 [some (.ref c), some (.ref q), some (.int (nI 6))] [] h P) : ∀ (n i : Nat) (h : AH) (lj2 : Nat → Int32), 6 ≤ i + n → i ≤ 6 → At h (c + 2) (.inl (0, 6, .inl lj2)) → (∀ k, k < i → lj2 k = nI (dL D k)) → Sm h0 h (c + 2) (c + 3) → RQ G mX3_becomeLike d 39 [some (.ref c), some (.ref q), some (.int (nI i))] [] h (P) := by
  have ex : ∀ (i : Nat) (h : AH) (lj2 : Nat → Int32), i = 6 → At h (c + 2) (.inl (0, 6, .inl lj2)) → (∀ k, k < i → lj2 k = nI (dL D k)) → Sm h0 h (c + 2) (c + 3) → RQ G mX3_becomeLike d 39 [some (.ref c), some (.ref q), some (.int (nI i))] [] h (P) := by
    intro i h lj2 hi w2 hl sm
    subst hi
    obtain ⟨jf, lj, fo, le, u0, u1, u2, u3, u4, u5, u6, u7, u8, u9⟩ := cu.sm sm (by omega)
    have v0 := sm.at w0 (by omega)
    refine tX3_becomeLike_39  (r := ?_)
    refine tX3_becomeLike_40  (r := ?_)
    refine tX3_becomeLike_42  (kf := fun c_ => by exfalso; exact c_ (by decide)) (kt := fun _ => ?_)
    exact kk h lj2 w2 hl sm
  intro n
  induction n with
  | zero => exact fun i h lj2 h1_ h2_ => ex i h lj2 (by omega)
  | succ n ih =>
    intro i h lj2 h1_ h2_ w2 hl sm
    by_cases hi : i = 6
    · exact ex i h lj2 hi w2 hl sm
    have hi2 : i < 6 := by omega
    obtain ⟨jf, lj, fo, le, u0, u1, u2, u3, u4, u5, u6, u7, u8, u9⟩ := cu.sm sm (by omega)
    have v0 := sm.at w0 (by omega)
    refine tX3_becomeLike_39  (r := ?_)
    refine tX3_becomeLike_40  (r := ?_)
    refine tX3_becomeLike_42  (kt := fun c_ => by exfalso; exact absurd ((nI_leI (by decide) (by omega)).mp c_) (by omega)) (kf := fun _ => ?_)
    refine tX3_becomeLike_45  (r := ?_)
    refine tX3_becomeLike_46 (ha := v0) (hv := rfl) (r := ?_)
    refine tX3_becomeLike_49  (r := ?_)
    refine tX3_becomeLike_50  (r := ?_)
    refine tX3_becomeLike_51 (ha := (by first | assumption | (repeat (first | assumption | exact At.set_eq2 (by first | omega | (simp only [hset, hnew]; omega) | rfl | decide) | exact At.new_eq2 _ _ (by first | omega | (simp only [hset, hnew]; omega) | rfl | decide) | refine At.set_ne ?_ (by first | omega | (simp only [hset, hnew]; omega) | rfl | decide) | refine At.new_ne ?_)))) (hv := rfl) (r := ?_)
    refine tX3_becomeLike_54  (r := ?_)
    refine tX3_becomeLike_55 (ha := (by first | assumption | (repeat (first | assumption | exact At.set_eq2 (by first | omega | (simp only [hset, hnew]; omega) | rfl | decide) | exact At.new_eq2 _ _ (by first | omega | (simp only [hset, hnew]; omega) | rfl | decide) | refine At.set_ne ?_ (by first | omega | (simp only [hset, hnew]; omega) | rfl | decide) | refine At.new_ne ?_)))) (hx := rfl) (hj := hi2) (hn := (by decide)) (r := ?_)
    rw [u6 _ hi2]
    refine tX3_becomeLike_56 (ha := w2) (hx := rfl) (hj := hi2) (hn := (by decide)) (r := ?_)
    refine tX3_becomeLike_57  (r := ?_)
    rw [nI_add]
    refine tX3_becomeLike_60 (r := ?_)
    refine ih (i + 1) _ _ (by omega) (by omega) (At.set_eq2 w2.1) (fun k hk => ?_) (sm.set (by omega) (by omega))
    show (if k = i then nI (dL D i) else lj2 k) = nI (dL D k)
    by_cases e : k = i
    · rw [if_pos e, e]
    · rw [if_neg e]
      exact hl k (by omega)

set_option maxHeartbeats 4000000 in
set_option maxRecDepth 100000 in
theorem s_like_labels (cu : CuR h0 q B D) (hc : c + 45 ≤ q ∨ q + 45 ≤ c) {dy : Int32} (w0 : At h0 c (.inr (2, [.ref (c + 1), .ref (c + 2), .ref (c + 3), .ref (c + 4), .int dy]))) {P : OC → AH → Prop} (kk : ∀ h (fo2 le2 : Nat → Int32), At h (c + 3) (.inl (0, 6, .inl fo2)) → At h (c + 4) (.inl (0, 6, .inl le2)) → (∀ k, k < 6 → fo2 k = oI (dF D k)) → (∀ k, k < 6 → le2 k = nI (rt (dF D) k)) → Sm h0 h (c + 3) (c + 5) → RQ G mX3_becomeLike d 101 [some (.ref c), some (.ref q), some (.int (nI 6))] [] h P) : ∀ (n i : Nat) (h : AH) (fo2 le2 : Nat → Int32), 6 ≤ i + n → i ≤ 6 → At h (c + 3) (.inl (0, 6, .inl fo2)) → At h (c + 4) (.inl (0, 6, .inl le2)) → (∀ k, k < i → fo2 k = oI (dF D k)) → (∀ k, k < i → le2 k = nI (rt (dF D) k)) → Sm h0 h (c + 3) (c + 5) → RQ G mX3_becomeLike d 65 [some (.ref c), some (.ref q), some (.int (nI i))] [] h (P) := by
  have ex : ∀ (i : Nat) (h : AH) (fo2 le2 : Nat → Int32), i = 6 → At h (c + 3) (.inl (0, 6, .inl fo2)) → At h (c + 4) (.inl (0, 6, .inl le2)) → (∀ k, k < i → fo2 k = oI (dF D k)) → (∀ k, k < i → le2 k = nI (rt (dF D) k)) → Sm h0 h (c + 3) (c + 5) → RQ G mX3_becomeLike d 65 [some (.ref c), some (.ref q), some (.int (nI i))] [] h (P) := by
    intro i h fo2 le2 hi w3 w4 hf hl sm
    subst hi
    obtain ⟨jf, lj, fo, le, u0, u1, u2, u3, u4, u5, u6, u7, u8, u9⟩ := cu.sm sm (by omega)
    have v0 := sm.at w0 (by omega)
    have w3l := w3.1
    have w4l := w4.1
    refine tX3_becomeLike_65  (r := ?_)
    refine tX3_becomeLike_66  (r := ?_)
    refine tX3_becomeLike_68  (kf := fun c_ => by exfalso; exact c_ (by decide)) (kt := fun _ => ?_)
    exact kk h fo2 le2 w3 w4 hf hl sm
  intro n
  induction n with
  | zero => exact fun i h fo2 le2 h1_ h2_ => ex i h fo2 le2 (by omega)
  | succ n ih =>
    intro i h fo2 le2 h1_ h2_ w3 w4 hf hl sm
    by_cases hi : i = 6
    · exact ex i h fo2 le2 hi w3 w4 hf hl sm
    have hi2 : i < 6 := by omega
    obtain ⟨jf, lj, fo, le, u0, u1, u2, u3, u4, u5, u6, u7, u8, u9⟩ := cu.sm sm (by omega)
    have v0 := sm.at w0 (by omega)
    have w3l := w3.1
    have w4l := w4.1
    refine tX3_becomeLike_65  (r := ?_)
    refine tX3_becomeLike_66  (r := ?_)
    refine tX3_becomeLike_68  (kt := fun c_ => by exfalso; exact absurd ((nI_leI (by decide) (by omega)).mp c_) (by omega)) (kf := fun _ => ?_)
    refine tX3_becomeLike_71  (r := ?_)
    refine tX3_becomeLike_72 (ha := v0) (hv := rfl) (r := ?_)
    refine tX3_becomeLike_75  (r := ?_)
    refine tX3_becomeLike_76  (r := ?_)
    refine tX3_becomeLike_77 (ha := (by first | assumption | (repeat (first | assumption | exact At.set_eq2 (by first | omega | (simp only [hset, hnew]; omega) | rfl | decide) | exact At.new_eq2 _ _ (by first | omega | (simp only [hset, hnew]; omega) | rfl | decide) | refine At.set_ne ?_ (by first | omega | (simp only [hset, hnew]; omega) | rfl | decide) | refine At.new_ne ?_)))) (hv := rfl) (r := ?_)
    refine tX3_becomeLike_80  (r := ?_)
    refine tX3_becomeLike_81 (ha := (by first | assumption | (repeat (first | assumption | exact At.set_eq2 (by first | omega | (simp only [hset, hnew]; omega) | rfl | decide) | exact At.new_eq2 _ _ (by first | omega | (simp only [hset, hnew]; omega) | rfl | decide) | refine At.set_ne ?_ (by first | omega | (simp only [hset, hnew]; omega) | rfl | decide) | refine At.new_ne ?_)))) (hx := rfl) (hj := hi2) (hn := (by decide)) (r := ?_)
    rw [u7 _ hi2]
    refine tX3_becomeLike_82 (ha := w3) (hx := rfl) (hj := hi2) (hn := (by decide)) (r := ?_)
    refine tX3_becomeLike_83  (r := ?_)
    refine tX3_becomeLike_84 (ha := (by first | assumption | (repeat (first | assumption | exact At.set_eq2 (by first | omega | (simp only [hset, hnew]; omega) | rfl | decide) | exact At.new_eq2 _ _ (by first | omega | (simp only [hset, hnew]; omega) | rfl | decide) | refine At.set_ne ?_ (by first | omega | (simp only [hset, hnew]; omega) | rfl | decide) | refine At.new_ne ?_)))) (hv := rfl) (r := ?_)
    refine tX3_becomeLike_87  (r := ?_)
    refine tX3_becomeLike_88  (r := ?_)
    refine tX3_becomeLike_89 (ha := (by first | assumption | (repeat (first | assumption | exact At.set_eq2 (by first | omega | (simp only [hset, hnew]; omega) | rfl | decide) | exact At.new_eq2 _ _ (by first | omega | (simp only [hset, hnew]; omega) | rfl | decide) | refine At.set_ne ?_ (by first | omega | (simp only [hset, hnew]; omega) | rfl | decide) | refine At.new_ne ?_)))) (hv := rfl) (r := ?_)
    refine tX3_becomeLike_92  (r := ?_)
    refine tX3_becomeLike_93 (ha := (by first | assumption | (repeat (first | assumption | exact At.set_eq2 (by first | omega | (simp only [hset, hnew]; omega) | rfl | decide) | exact At.new_eq2 _ _ (by first | omega | (simp only [hset, hnew]; omega) | rfl | decide) | refine At.set_ne ?_ (by first | omega | (simp only [hset, hnew]; omega) | rfl | decide) | refine At.new_ne ?_)))) (hx := rfl) (hj := hi2) (hn := (by decide)) (r := ?_)
    rw [u8 _ hi2]
    refine tX3_becomeLike_94 (ha := (by first | assumption | (repeat (first | assumption | exact At.set_eq2 (by first | omega | (simp only [hset, hnew]; omega) | rfl | decide) | exact At.new_eq2 _ _ (by first | omega | (simp only [hset, hnew]; omega) | rfl | decide) | refine At.set_ne ?_ (by first | omega | (simp only [hset, hnew]; omega) | rfl | decide) | refine At.new_ne ?_)))) (hx := rfl) (hj := hi2) (hn := (by decide)) (r := ?_)
    refine tX3_becomeLike_95  (r := ?_)
    rw [nI_add]
    refine tX3_becomeLike_98 (r := ?_)
    refine ih (i + 1) _ _ _ (by omega) (by omega) (At.set_ne (At.set_eq2 w3.1) (by omega)) (At.set_eq2 w4.1) (fun k hk => ?_) (fun k hk => ?_) ((sm.set (by omega) (by omega)).set (by omega) (by omega))
    · show (if k = i then oI (dF D i) else fo2 k) = oI (dF D k)
      by_cases e : k = i
      · rw [if_pos e, e]
      · rw [if_neg e]
        exact hf k (by omega)
    · show (if k = i then nI (rt (dF D) i) else le2 k) = nI (rt (dF D) k)
      by_cases e : k = i
      · rw [if_pos e, e]
      · rw [if_neg e]
        exact hl k (by omega)

set_option maxHeartbeats 4000000 in
set_option maxRecDepth 100000 in
theorem s_like (hd : 1 ≤ d) {dy : Int32} (ce : CupE h0 c dy) (cu : CuR h0 q B D) (hb : BDok B D) (hc : c + 45 ≤ q ∨ q + 45 ≤ c) : RQ G mX3_becomeLike d 0 [some (.ref c), some (.ref q), none] [] h0 (Rv fun h1 => CuR h1 c B D ∧ Sm h0 h1 c (c + 45)) := by
  obtain ⟨jf2, lj2, fo2, le2, w0, w1, w2, w3, w4, v5, v6⟩ := ce
  obtain ⟨jf, lj, fo, le, u0, -⟩ := id cu
  have wl := w0.1
  refine tX3_becomeLike_0  (r := ?_)
  refine tX3_becomeLike_1  (r := ?_)
  refine tX3_becomeLike_2 (ha := (by first | assumption | (repeat (first | assumption | exact At.set_eq2 (by first | omega | (simp only [hset, hnew]; omega) | rfl | decide) | exact At.new_eq2 _ _ (by first | omega | (simp only [hset, hnew]; omega) | rfl | decide) | refine At.set_ne ?_ (by first | omega | (simp only [hset, hnew]; omega) | rfl | decide) | refine At.new_ne ?_)))) (hv := rfl) (r := ?_)
  refine tX3_becomeLike_5 (ha := (by first | assumption | (repeat (first | assumption | exact At.set_eq2 (by first | omega | (simp only [hset, hnew]; omega) | rfl | decide) | exact At.new_eq2 _ _ (by first | omega | (simp only [hset, hnew]; omega) | rfl | decide) | refine At.set_ne ?_ (by first | omega | (simp only [hset, hnew]; omega) | rfl | decide) | refine At.new_ne ?_)))) (hlen := rfl) (r := ?_)
  refine tX3_becomeLike_8  (r := ?_)
  refine tX3_becomeLike_9  (r := ?_)
  have sm0 := (Sm.rf h0 c (c + 45)).set (i := c) (c := .inr (2, [.ref (c + 1), .ref (c + 2), .ref (c + 3), .ref (c + 4), .int (dDay D)])) (by omega) (by omega)
  have x0 : At (hset h0 c (.inr (2, [.ref (c + 1), .ref (c + 2), .ref (c + 3), .ref (c + 4), .int (dDay D)]))) c (.inr (2, [.ref (c + 1), .ref (c + 2), .ref (c + 3), .ref (c + 4), .int (dDay D)])) := At.set_eq2 wl
  have x1 := At.set_ne (i := c) (c := .inr (2, [.ref (c + 1), .ref (c + 2), .ref (c + 3), .ref (c + 4), .int (dDay D)])) w1 (by omega)
  have x2 := At.set_ne (i := c) (c := .inr (2, [.ref (c + 1), .ref (c + 2), .ref (c + 3), .ref (c + 4), .int (dDay D)])) w2 (by omega)
  have x3 := At.set_ne (i := c) (c := .inr (2, [.ref (c + 1), .ref (c + 2), .ref (c + 3), .ref (c + 4), .int (dDay D)])) w3 (by omega)
  have x4 := At.set_ne (i := c) (c := .inr (2, [.ref (c + 1), .ref (c + 2), .ref (c + 3), .ref (c + 4), .int (dDay D)])) w4 (by omega)
  have cu0 : CuR (hset h0 c (.inr (2, [.ref (c + 1), .ref (c + 2), .ref (c + 3), .ref (c + 4), .int (dDay D)]))) q B D := cu.keep (Nat.le_refl _) (Un.set (Un.rf _ _ _) (by omega))
  have je : ∀ j, j < 8 → JarE (hset h0 c (.inr (2, [.ref (c + 1), .ref (c + 2), .ref (c + 3), .ref (c + 4), .int (dDay D)]))) (c + 5 + 5 * j) := fun j hj => (v6 j hj).keep (Nat.le_refl _) (Un.set (Un.rf _ _ _) (by omega))
  refine s_like_jars cu0 hb hc v5 x0 x1 hd (fun h1 jr1 sm1 => ?_) 8 0 _ (by omega) (by omega) (fun j hj => ⟨fun z => absurd z (Nat.not_lt_zero _), je j hj⟩) (Sm.rf _ _ _)
  refine tX3_becomeLike_37 (r := ?_)
  refine tX3_becomeLike_38 (r := ?_)
  have cu1 := cu0.sm sm1 (by omega)
  refine s_like_lids cu1 hc (sm1.at x0 (by omega)) (fun h2 lj3 y2 hl sm2 => ?_) 6 0 _ _ (by omega) (by omega) (sm1.at x2 (by omega)) (fun k hk => absurd hk (Nat.not_lt_zero k)) (Sm.rf _ _ _)
  refine tX3_becomeLike_63 (r := ?_)
  refine tX3_becomeLike_64 (r := ?_)
  have cu2 := cu1.sm sm2 (by omega)
  have x0b := sm2.at (sm1.at x0 (by omega)) (by omega)
  refine s_like_labels cu2 hc x0b (fun h3 fo3 le3 y3 y4 hf hl4 sm3 => ?_) 6 0 _ _ _ (by omega) (by omega) (sm2.at (sm1.at x3 (by omega)) (by omega)) (sm2.at (sm1.at x4 (by omega)) (by omega)) (fun k hk => absurd hk (Nat.not_lt_zero k)) (fun k hk => absurd hk (Nat.not_lt_zero k)) (Sm.rf _ _ _)
  refine tX3_becomeLike_101 (hP := ?_)
  refine ⟨rfl, ⟨jf2, lj3, fo3, le3, sm3.at x0b (by omega), sm3.at (sm2.at (sm1.at x1 (by omega)) (by omega)) (by omega), sm3.at y2 (by omega), y3, y4, v5, hl, hf, hl4, fun i hi => ((jr1 i hi).sm sm2 (by omega)).sm sm3 (by omega)⟩, ((sm0.trans (sm1.sub (by omega) (by omega))).trans (sm2.sub (by omega) (by omega))).trans (sm3.sub (by omega) (by omega))⟩

theorem ClR.later {h1 : AH} {x : Nat} (c : ClR h 0 bk dr s) {dy : Int32} (ce : CupE h1 (0 + 111) dy) {lo hi : Nat} (sm : Sm h h1 lo hi) (e1 : 111 ≤ lo) (e2 : hi ≤ 156) (_ : x = 0) : ClR h1 0 bk dr s := by
  obtain ⟨a1, a2, a3, ⟨a, b, c, a4⟩, a5, ⟨dy, a6⟩, a7, a8, a9⟩ := c
  have hb : (bk = 158 ∧ dr = 8) ∨ (bk = 8 ∧ dr = 158) := by omega
  have e : h.1 ≤ h1.1 := Nat.le_of_eq sm.1.symm
  have l7 := a7.2.elim (fun f q => q.1)
  have lb := a8.room
  have lr := a4.2.2.2.2.2.2.2.2.2.2.2.2.2.elim (fun f q => q.1)
  have l6 : 0 + 111 + 45 ≤ h.1 := by omega
  exact ⟨a1.keep e ((sm.un (x := 0) (y := 1) (by omega) (by omega)) _ (by omega) (by omega)), a2.keep e (sm.un (by omega) (by omega)), a3.keep e (sm.un (by omega) (by omega)), ⟨a, b, c, a4.keep e (sm.un (by omega) (by omega))⟩, a5.keep e (sm.un (by omega) (by omega)), ⟨_, ce⟩, a7.keep e (sm.un (by omega) (by omega)), a8.keep e (sm.un (by omega) (by omega)), a9⟩
/-- the row that is kept -/
def KpR (h : AH) (B : BK) (D : DY) : Prop := ∃ f : Nat → Int32, At h (216 + 49) (.inl (0, 61, .inl f)) ∧ f 0 = dDay D ∧ (∀ j k, j < bJa B → k < bLa B → f (1 + 6 * j + k) = nI (dB D j k)) ∧ (∀ k, k < bLa B → f (49 + k) = oI (dF D k)) ∧ ∀ i, i < bLi B → f (55 + i) = nI (dL D i)
theorem KpR.keep {h1 : AH} (k : KpR h B D) (e : h.1 ≤ h1.1) (u : Un h h1 (216 + 49) (216 + 50)) : KpR h1 B D := by
  obtain ⟨f, a, b⟩ := k
  exact ⟨f, a.keep e (u _ (by omega) (by omega)), b⟩
theorem cpy_at {f g : Nat → Int32} {k : Nat} (h : k < 61) : va_cpy f g 0 0 61 k = f k := by
  show (if 0 ≤ k ∧ k < 0 + 61 then f (0 + (k - 0)) else g k) = f k
  rw [if_pos (by omega)]
  congr 1
  omega
theorem MoT.kept {th : Int32} (c : MoT h 216 th s) (f : Nat → Int32) : MoT (hset h (216 + 49) (.inl (0, 61, .inl f))) 216 th s := by
  obtain ⟨⟨f1, z1⟩, ⟨f2, z2⟩, ⟨f3, z3⟩, ⟨f4, z4⟩⟩ := c.w4
  have l3 := z1.1
  exact c.work ((Sm.rf _ _ _).set (by omega) (by omega)) ⟨f, At.set_eq2 l3⟩ ⟨f2, by (first | assumption | (repeat (first | assumption | exact At.set_eq2 (by (first | omega | (simp only [hset, hnew]; omega) | rfl | decide)) | exact At.new_eq2 _ _ (by (first | omega | (simp only [hset, hnew]; omega) | rfl | decide)) | refine At.set_ne ?_ (by (first | omega | (simp only [hset, hnew]; omega) | rfl | decide)) | refine At.new_ne ?_)))⟩ ⟨f3, by (first | assumption | (repeat (first | assumption | exact At.set_eq2 (by (first | omega | (simp only [hset, hnew]; omega) | rfl | decide)) | exact At.new_eq2 _ _ (by (first | omega | (simp only [hset, hnew]; omega) | rfl | decide)) | refine At.set_ne ?_ (by (first | omega | (simp only [hset, hnew]; omega) | rfl | decide)) | refine At.new_ne ?_)))⟩ ⟨f4, by (first | assumption | (repeat (first | assumption | exact At.set_eq2 (by (first | omega | (simp only [hset, hnew]; omega) | rfl | decide)) | exact At.new_eq2 _ _ (by (first | omega | (simp only [hset, hnew]; omega) | rfl | decide)) | refine At.set_ne ?_ (by (first | omega | (simp only [hset, hnew]; omega) | rfl | decide)) | refine At.new_ne ?_)))⟩

set_option maxHeartbeats 4000000 in
set_option maxRecDepth 100000 in
theorem k_firstShaken_ok (hd : 7 ≤ d) (c : ClR h 0 bk dr s) (hb : BDok s.2.2.1 s.2.2.2) (hh : 216 ≤ h.1) {j0 : Nat} (q0 : j0 < bJa s.2.2.1) : RQ G mX10_firstShaken d 0 [some (.ref 0), some (.int (nI j0))] [] h (CK h bk dr s "java/lang/IndexOutOfBoundsException" "" 0 (oI (fiN (po (rt (dF (jrB s.2.2.2 j0 (stB (dB s.2.2.2 j0) (bLa s.2.2.1))))) (dB (jrB s.2.2.2 j0 (stB (dB s.2.2.2 j0) (bLa s.2.2.1))) j0)) 6))) := by
  have c1 := c.poll
  have cb := c.book
  obtain ⟨jf, lj, fo, le, u0, u1, u2, u3, u4, u5, u6, u7, u8, u9⟩ := id c.2.2.2.2.1
  have l1 := hb.1
  have l2 := hb.2.1
  have l3 := hb.2.2.1
  obtain ⟨dy0, ce0⟩ := c.2.2.2.2.2.1
  obtain ⟨jfb, ljb, fob, leb, ub0, -⟩ := id ce0
  refine tX10_firstShaken_0  (r := ?_)
  refine tX10_firstShaken_1  (r := ?_)
  refine tX10_firstShaken_2 (hd := (by omega)) (ha := (by first | assumption | (repeat (first | assumption | exact At.set_eq2 (by first | omega | (simp only [hset, hnew]; omega) | rfl | decide) | exact At.new_eq2 _ _ (by first | omega | (simp only [hset, hnew]; omega) | rfl | decide) | refine At.set_ne ?_ (by first | omega | (simp only [hset, hnew]; omega) | rfl | decide) | refine At.new_ne ?_)))) (call := s_checkJar_ok (d := 6) (QX := fun _ _ => False) c hb q0) (kx := fun E_ h_ hx_ => by exact hx_.elim) (k := ?_)
  intro h_ e0
  rw [e0]
  refine tX10_firstShaken_5  (r := ?_)
  refine tX10_firstShaken_6 (ha := (by first | assumption | (repeat (first | assumption | exact At.set_eq2 (by first | omega | (simp only [hset, hnew]; omega) | rfl | decide) | exact At.new_eq2 _ _ (by first | omega | (simp only [hset, hnew]; omega) | rfl | decide) | refine At.set_ne ?_ (by first | omega | (simp only [hset, hnew]; omega) | rfl | decide) | refine At.new_ne ?_)))) (hv := rfl) (r := ?_)
  refine tX10_firstShaken_9  (r := ?_)
  refine tX10_firstShaken_10 (ha := (by first | assumption | (repeat (first | assumption | exact At.set_eq2 (by first | omega | (simp only [hset, hnew]; omega) | rfl | decide) | exact At.new_eq2 _ _ (by first | omega | (simp only [hset, hnew]; omega) | rfl | decide) | refine At.set_ne ?_ (by first | omega | (simp only [hset, hnew]; omega) | rfl | decide) | refine At.new_ne ?_)))) (hv := rfl) (r := ?_)
  refine tX10_firstShaken_13 (hd := (by omega)) (ha := (by first | assumption | (repeat (first | assumption | exact At.set_eq2 (by first | omega | (simp only [hset, hnew]; omega) | rfl | decide) | exact At.new_eq2 _ _ (by first | omega | (simp only [hset, hnew]; omega) | rfl | decide) | refine At.set_ne ?_ (by first | omega | (simp only [hset, hnew]; omega) | rfl | decide) | refine At.new_ne ?_)))) (call := s_like (d := 5) (by decide) ce0 c.2.2.2.2.1 hb (by omega)) (k := ?_)
  intro ha hq
  obtain ⟨cu2, sma⟩ := hq
  have ca := c.later (x := 0) (cu2.E hb) sma (by omega) (by omega) rfl
  have c1 := ca.poll
  have cb := ca.book
  obtain ⟨jf', lj', fo', le', v0, v1, v2, v3, v4, v5, v6, v7, v8, v9⟩ := id cu2
  obtain ⟨bf, p, w, l, tu, fi, ma, co, ⟨b0, b1, b2, b3, b4⟩, hb2, hb3⟩ := v9 j0 (by omega)
  refine tX10_firstShaken_16  (r := ?_)
  refine tX10_firstShaken_17 (ha := (by first | assumption | (repeat (first | assumption | exact At.set_eq2 (by first | omega | (simp only [hset, hnew]; omega) | rfl | decide) | exact At.new_eq2 _ _ (by first | omega | (simp only [hset, hnew]; omega) | rfl | decide) | refine At.set_ne ?_ (by first | omega | (simp only [hset, hnew]; omega) | rfl | decide) | refine At.new_ne ?_)))) (hv := rfl) (r := ?_)
  refine tX10_firstShaken_20 (ha := (by first | assumption | (repeat (first | assumption | exact At.set_eq2 (by first | omega | (simp only [hset, hnew]; omega) | rfl | decide) | exact At.new_eq2 _ _ (by first | omega | (simp only [hset, hnew]; omega) | rfl | decide) | refine At.set_ne ?_ (by first | omega | (simp only [hset, hnew]; omega) | rfl | decide) | refine At.new_ne ?_)))) (hv := rfl) (r := ?_)
  refine tX10_firstShaken_23  (r := ?_)
  refine tX10_firstShaken_24 (ha := (by first | assumption | (repeat (first | assumption | exact At.set_eq2 (by first | omega | (simp only [hset, hnew]; omega) | rfl | decide) | exact At.new_eq2 _ _ (by first | omega | (simp only [hset, hnew]; omega) | rfl | decide) | refine At.set_ne ?_ (by first | omega | (simp only [hset, hnew]; omega) | rfl | decide) | refine At.new_ne ?_)))) (hx := rfl) (hj := (by omega)) (hn := (by decide)) (hf := (v5 _ (by omega))) (r := ?_)
  refine tX10_firstShaken_25  (r := ?_)
  refine tX10_firstShaken_26 (ha := (by first | assumption | (repeat (first | assumption | exact At.set_eq2 (by first | omega | (simp only [hset, hnew]; omega) | rfl | decide) | exact At.new_eq2 _ _ (by first | omega | (simp only [hset, hnew]; omega) | rfl | decide) | refine At.set_ne ?_ (by first | omega | (simp only [hset, hnew]; omega) | rfl | decide) | refine At.new_ne ?_)))) (hv := rfl) (r := ?_)
  refine tX10_firstShaken_29 (ha := (by first | assumption | (repeat (first | assumption | exact At.set_eq2 (by first | omega | (simp only [hset, hnew]; omega) | rfl | decide) | exact At.new_eq2 _ _ (by first | omega | (simp only [hset, hnew]; omega) | rfl | decide) | refine At.set_ne ?_ (by first | omega | (simp only [hset, hnew]; omega) | rfl | decide) | refine At.new_ne ?_)))) (hv := rfl) (r := ?_)
  refine tX10_firstShaken_32 (hd := (by omega)) (ha := (by first | assumption | (repeat (first | assumption | exact At.set_eq2 (by first | omega | (simp only [hset, hnew]; omega) | rfl | decide) | exact At.new_eq2 _ _ (by first | omega | (simp only [hset, hnew]; omega) | rfl | decide) | refine At.set_ne ?_ (by first | omega | (simp only [hset, hnew]; omega) | rfl | decide) | refine At.new_ne ?_)))) (call := s_stir (d := 5) (v9 j0 (by omega)) (hb.2.2.2.2.2.2.1 j0 (by omega)) hb.1) (k := ?_)
  intro h2 hq
  obtain ⟨jr, sm1⟩ := hq
  have hb9 : BDok s.2.2.1 (jrB s.2.2.2 j0 (stB (dB s.2.2.2 j0) (bLa s.2.2.1))) := hb.st q0
  have cu3 : CuR h2 (0 + 111) s.2.2.1 (jrB s.2.2.2 j0 (stB (dB s.2.2.2 j0) (bLa s.2.2.1))) := cu2.setB (by omega) jr sm1
  have cl2 := ca.later (x := 0) (cu3.E hb9) sm1 (by omega) (by omega) rfl
  have c1 := cl2.poll
  obtain ⟨jfa, lja, foa, lea, ua0, -⟩ := id cu3
  refine tX10_firstShaken_35  (r := ?_)
  refine tX10_firstShaken_36 (ha := (by first | assumption | (repeat (first | assumption | exact At.set_eq2 (by first | omega | (simp only [hset, hnew]; omega) | rfl | decide) | exact At.new_eq2 _ _ (by first | omega | (simp only [hset, hnew]; omega) | rfl | decide) | refine At.set_ne ?_ (by first | omega | (simp only [hset, hnew]; omega) | rfl | decide) | refine At.new_ne ?_)))) (hv := rfl) (r := ?_)
  refine tX10_firstShaken_39  (r := ?_)
  refine tX10_firstShaken_40 (hd := (by omega)) (ha := (by first | assumption | (repeat (first | assumption | exact At.set_eq2 (by first | omega | (simp only [hset, hnew]; omega) | rfl | decide) | exact At.new_eq2 _ _ (by first | omega | (simp only [hset, hnew]; omega) | rfl | decide) | refine At.set_ne ?_ (by first | omega | (simp only [hset, hnew]; omega) | rfl | decide) | refine At.new_ne ?_)))) (call := (s_counted (d := 3) (by decide) cu3 hb9 (show j0 < 8 by omega)).imp (fun o9 h9 q9 => (⟨_, q9.1, rfl, q9.2⟩ : Rr (fun r h1 => r = 0 + 111 + 5 + 5 * j0 ∧ JaC h1 (0 + 111 + 5 + 5 * j0) (dB (jrB s.2.2.2 j0 (stB (dB s.2.2.2 j0) (bLa s.2.2.1))) j0) (bSe s.2.2.1 j0) (bWy s.2.2.1 j0) (rt (dF (jrB s.2.2.2 j0 (stB (dB s.2.2.2 j0) (bLa s.2.2.1))))) ∧ CuR h1 (0 + 111) s.2.2.1 (jrB s.2.2.2 j0 (stB (dB s.2.2.2 j0) (bLa s.2.2.1))) ∧ Sm h2 h1 (0 + 111 + 5 + 5 * j0) (0 + 111 + 5 + 5 * j0 + 5)) o9 h9))) (k := ?_)
  rintro jj h1 ⟨rfl, q9⟩
  obtain ⟨jc, cu, sm2⟩ := q9
  have cl := cl2.later (x := 0) (cu.E hb9) sm2 (by omega) (by omega) rfl
  have chh : Ch h h1 0 216 0 0 := ((sma.sub (lo2 := 111) (hi2 := 156) (by omega) (by omega)).trans (sm1.sub (by omega) (by omega))).trans (sm2.sub (by omega) (by omega)) |>.ch (by omega) (by omega)
  obtain ⟨bf, p, w, l, tu, fi, ma, ⟨b0, b1, b2, b3, b4⟩, hb2, cp, cw_, ct, cf, cm⟩ := jc
  refine tX10_firstShaken_43 (ha := (by first | assumption | (repeat (first | assumption | exact At.set_eq2 (by first | omega | (simp only [hset, hnew]; omega) | rfl | decide) | exact At.new_eq2 _ _ (by first | omega | (simp only [hset, hnew]; omega) | rfl | decide) | refine At.set_ne ?_ (by first | omega | (simp only [hset, hnew]; omega) | rfl | decide) | refine At.new_ne ?_)))) (hv := rfl) (r := ?_)
  rw [cf]
  refine tX10_firstShaken_46  (hP := ?_)
  exact ck_val cl chh

end LK