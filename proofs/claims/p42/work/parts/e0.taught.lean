/-! a text is taught: charAt, four bytes in a number, feeding -/
section E0
variable {G : GT} {d k v : Nat} {h : AH} {t : List Nat}
theorem s_chk9 {i n : Nat} (hin : i < n) (hn : n < 2147483648) (hd9 : 1 ≤ d) : RQ G mJ0_checkIndex_df160 d 0 [some (.int (nI i)), some (.int (nI n))] [] h (Rv fun h1 => h1 = h) := sj_chk hin hn hd9

set_option maxHeartbeats 4000000 in
theorem s_nlat (q : StN h k v t) : RQ G mJ0_isLatin1_aae02 d 0 [some (.ref k)] [] h (Ri fun r h1 => r = nI 1 ∧ h1 = h) := by
  obtain ⟨⟨hs, hz, a⟩, f, a2, a3, a4⟩ := q
  refine tJ0_isLatin1_aae02_0  (r := ?_)
  refine tJ0_isLatin1_aae02_3  (kt := fun c_ => by exfalso; exact absurd c_ (by decide)) (kf := fun _ => ?_)
  refine tJ0_isLatin1_aae02_6  (r := ?_)
  refine tJ0_isLatin1_aae02_7 (ha := a) (hv := rfl) (r := ?_)
  refine tJ0_isLatin1_aae02_10  (kt := fun c_ => by exfalso; exact c_ rfl) (kf := fun _ => ?_)
  refine tJ0_isLatin1_aae02_13  (r := ?_)
  refine tJ0_isLatin1_aae02_14 (r := ?_)
  refine tJ0_isLatin1_aae02_18 (hb := (by first | exact Or.inl rfl | exact Or.inr rfl | assumption)) (hP := ?_)
  exact ⟨_, rfl, rfl, rfl⟩
set_option maxHeartbeats 4000000 in
theorem s_nch1 (hd : 2 ≤ d) (q : StN h k v t) (tl : t.length ≤ 4000) (tb : ∀ c ∈ t, c < 128) {i : Nat} (hi : i < t.length) : RQ G mJ1_charAt_3b067 d 0 [some (.ref v), some (.int (nI i))] [] h (Ri fun r h1 => r = nI (t.getD i 0) ∧ h1 = h) := by
  obtain ⟨⟨hs, hz, a⟩, f, a2, a3, a4⟩ := q
  have c1 : t.getD i 0 < 128 := tb _ (gd_mem hi)
  obtain ⟨b1, b2, b3, b4, b5⟩ := by128 _ c1
  refine tJ1_charAt_3b067_0  (r := ?_)
  refine tJ1_charAt_3b067_1  (r := ?_)
  refine tJ1_charAt_3b067_2 (t := 1) (ha := a2) (ht := rfl) (r := ?_)
  refine tJ1_charAt_3b067_3 (hd := (by omega)) (call := s_chk9 (d := d - 1) hi (by omega) (by omega)) (k := ?_)
  rintro h_ e9
  rw [e9]
  refine tJ1_charAt_3b067_6  (r := ?_)
  refine tJ1_charAt_3b067_7  (r := ?_)
  refine tJ1_charAt_3b067_8 (ha := a2) (hx := rfl) (hj := hi) (hn := (by omega)) (r := ?_)
  rw [a3 i hi]
  refine tJ1_charAt_3b067_9  (r := ?_)
  refine tJ1_charAt_3b067_12  (r := ?_)
  rw [b5]
  refine tJ1_charAt_3b067_13 (hv := b4) (r := ?_)
  refine tJ1_charAt_3b067_14 (hn := ((pk_charN (q := t.getD i 0) (by omega)).1)) (hP := ?_)
  exact ⟨_, rfl, rfl, rfl⟩
set_option maxHeartbeats 4000000 in
theorem s_nchar (hd : 3 ≤ d) (q : StN h k v t) (tl : t.length ≤ 4000) (tb : ∀ c ∈ t, c < 128) {i : Nat} (hi : i < t.length) : RQ G mJ0_charAt_5068e d 0 [some (.ref k), some (.int (nI i))] [] h (Ri fun r h1 => r = nI (t.getD i 0) ∧ h1 = h) := by
  obtain ⟨⟨hs, hz, a⟩, f, a2, a3, a4⟩ := id q
  have c1 : t.getD i 0 < 128 := tb _ (gd_mem hi)
  refine tJ0_charAt_5068e_0  (r := ?_)
  refine tJ0_charAt_5068e_1 (hd := (by omega)) (ha := a) (call := s_nlat (d := d - 1) q) (k := ?_)
  rintro r_ h_ ⟨ev, e9⟩
  rw [ev, e9]
  refine tJ0_charAt_5068e_4  (kt := fun c_ => by exfalso; exact absurd c_ (by decide)) (kf := fun _ => ?_)
  refine tJ0_charAt_5068e_7  (r := ?_)
  refine tJ0_charAt_5068e_8 (ha := a) (hv := rfl) (r := ?_)
  refine tJ0_charAt_5068e_11  (r := ?_)
  refine tJ0_charAt_5068e_12 (hd := (by omega)) (call := s_nch1 (d := d - 1) (by omega) q tl tb hi) (k := ?_)
  rintro r_ h_ ⟨ev, e9⟩
  rw [ev, e9]
  refine tJ0_charAt_5068e_15 (hn := ((pk_charN (q := t.getD i 0) (by omega)).1)) (hP := ?_)
  exact ⟨_, rfl, rfl, rfl⟩
/-- four bytes in a number -/
theorem or_nI {a b : Nat} (ha : a < 2 ^ 32) (hb : b < 2 ^ 32) : nI a ||| nI b = nI (a ||| b) := by
  apply Int32.toBitVec_inj.mp
  rw [Int32.toBitVec_or]
  apply BitVec.eq_of_toNat_eq
  rw [BitVec.toNat_or, pk_tn ha, pk_tn hb, pk_tn (Nat.or_lt_two_pow ha hb)]
theorem sh_or {a c : Nat} (ha : a < 8388608) (hc : c < 256) : nI a <<< (nI 8 &&& 31) ||| nI c = nI (a * 256 + c) := by
  rw [pk_shlN (nI 8 &&& 31) 8 (by decide) (by omega), or_nI (by omega) (by omega)]
  have := Nat.two_pow_add_eq_or_of_lt (i := 8) (b := c) hc a
  rw [Nat.mul_comm a (2 ^ 8), ← this]
theorem by_nI {m : Nat} (hm : m < 2147483648) : byO (nI m) (nI 24) = m / 16777216 % 256 ∧ byO (nI m) (nI 16) = m / 65536 % 256 ∧ byO (nI m) (nI 8) = m / 256 % 256 ∧ byO (nI m) (nI 0) = m % 256 := by
  unfold byO
  rw [pk_shrN hm (nI 24 &&& 31) 24 (by decide), pk_shrN hm (nI 16 &&& 31) 16 (by decide), pk_shrN hm (nI 8 &&& 31) 8 (by decide), pk_shrN hm (nI 0 &&& 31) 0 (by decide)]
  have h1 : m / 2 ^ 24 < 2 ^ 32 := by omega
  have h2 : m / 2 ^ 16 < 2 ^ 32 := by omega
  have h3 : m / 2 ^ 8 < 2 ^ 32 := by omega
  have h4 : m / 2 ^ 0 < 2 ^ 32 := by omega
  rw [pk_tn h1, pk_tn h2, pk_tn h3, pk_tn h4]
  refine ⟨rfl, rfl, rfl, ?_⟩
  rw [Nat.pow_zero, Nat.div_one]
/-- a text, and blanks behind it -/
def chX (T : List Nat) (i : Nat) : Nat := if i < T.length then T.getD i 0 else 32
def tpX (T : List Nat) (n : Nat) : List Nat := (List.range n).map (chX T)
def pkX (T : List Nat) (p : Nat) : Nat := ((chX T p * 256 + chX T (p + 1)) * 256 + chX T (p + 2)) * 256 + chX T (p + 3)
theorem chX_lt {T : List Nat} (tb : ∀ c ∈ T, c < 128) (i : Nat) : chX T i < 128 := by
  unfold chX
  by_cases z : i < T.length
  · rw [if_pos z]
    exact tb _ (gd_mem z)
  · rw [if_neg z]
    decide
theorem tpX_len (T : List Nat) (n : Nat) : (tpX T n).length = n := by
  unfold tpX
  rw [List.length_map, List.length_range]
theorem tpX_s (T : List Nat) (n : Nat) : tpX T (n + 1) = tpX T n ++ [chX T n] := by
  unfold tpX
  rw [List.range_succ, List.map_append]
  rfl
theorem ap4_pk {T : List Nat} (tb : ∀ c ∈ T, c < 128) (p : Nat) : ap4 (tpX T p) (nI (pkX T p)) = tpX T (p + 4) := by
  have c0 := chX_lt tb p
  have c1 := chX_lt tb (p + 1)
  have c2 := chX_lt tb (p + 2)
  have c3 := chX_lt tb (p + 3)
  have e : pkX T p = ((chX T p * 256 + chX T (p + 1)) * 256 + chX T (p + 2)) * 256 + chX T (p + 3) := rfl
  obtain ⟨b1, b2, b3, b4⟩ := by_nI (m := pkX T p) (by omega)
  unfold ap4
  rw [b1, b2, b3, b4, tpX_s, tpX_s, tpX_s, tpX_s]
  rw [show pkX T p / 16777216 % 256 = chX T p by omega, show pkX T p / 65536 % 256 = chX T (p + 1) by omega, show pkX T p / 256 % 256 = chX T (p + 2) by omega, show pkX T p % 256 = chX T (p + 3) by omega]
theorem ap5_pk {T : List Nat} (tb : ∀ c ∈ T, c < 128) (p : Nat) : apN (tpX T p) (fd5 (nI (pkX T p)) (nI (pkX T (p + 4))) (nI (pkX T (p + 8))) (nI (pkX T (p + 12))) (nI (pkX T (p + 16)))) 5 = tpX T (p + 20) := by
  show ap4 (ap4 (ap4 (ap4 (ap4 (tpX T p) (nI (pkX T p))) (nI (pkX T (p + 4)))) (nI (pkX T (p + 8)))) (nI (pkX T (p + 12)))) (nI (pkX T (p + 16))) = _
  rw [ap4_pk tb, ap4_pk tb, ap4_pk tb, ap4_pk tb, ap4_pk tb]
theorem tpX_take {T : List Nat} {n : Nat} (h : T.length ≤ n) : (tpX T n).take T.length = T := by
  apply List.ext_getElem
  · rw [List.length_take, tpX_len]
    omega
  · intro i h1 h2
    rw [List.getElem_take]
    unfold tpX
    rw [List.getElem_map, List.getElem_range]
    unfold chX
    rw [if_pos h2, gd_get h2]
/-- a call of the class that does not throw -/
theorem CK.ri {M : MI} {pc : Nat} {L : List (Option Value)} {S : List Value} {bk dr : Nat} {s : ST} {E1 E2 : String} {V : Int32} (r : RQ G M d pc L S h (CK h bk dr s E1 E2 0 V)) : RQ G M d pc L S h (Ri fun v h1 => v = V ∧ ClR h1 0 bk dr s ∧ Ch h h1 0 216 0 0) := by
  refine RQ.imp r ?_
  rintro o h1 ⟨⟨-, e⟩ | ⟨z, -⟩ | ⟨z, -⟩, c, ch⟩
  · exact ⟨V, e, rfl, c, ch⟩
  · exact absurd z (by decide)
  · exact absurd z (by decide)
theorem StN.k6 {h1 : AH} (q : StN h k v t) (k9 : Kp6 h h1) (e1 : 216 ≤ k) (e2 : 216 ≤ v) : StN h1 k v t := by
  obtain ⟨⟨hs, hz, a⟩, f, a2, a3, a4⟩ := q
  exact ⟨⟨hs, hz, k9.at e1 a⟩, f, k9.at e2 a2, a3, a4⟩

/-- the first j of four bytes -/
def pjX (T : List Nat) (p : Nat) : Nat → Nat
  | 0 => 0
  | j + 1 => pjX T p j * 256 + chX T (p + j)
theorem pjX_lt {T : List Nat} (tb : ∀ c ∈ T, c < 128) (p j : Nat) (hj : j < 4) : pjX T p j < 8388608 := by
  have c0 := chX_lt tb p
  have c1 := chX_lt tb (p + 1)
  have c2 := chX_lt tb (p + 2)
  rcases (by omega : j = 0 ∨ j = 1 ∨ j = 2 ∨ j = 3) with rfl | rfl | rfl | rfl
  · exact (by decide : (0 : Nat) < 8388608)
  · show 0 * 256 + chX T (p + 0) < _
    rw [Nat.add_zero]
    omega
  · show (0 * 256 + chX T (p + 0)) * 256 + chX T (p + 1) < _
    rw [Nat.add_zero]
    omega
  · show ((0 * 256 + chX T (p + 0)) * 256 + chX T (p + 1)) * 256 + chX T (p + 2) < _
    rw [Nat.add_zero]
    omega
theorem pjX_4 (T : List Nat) (p : Nat) : pjX T p 4 = pkX T p := by
  show (((0 * 256 + chX T (p + 0)) * 256 + chX T (p + 1)) * 256 + chX T (p + 2)) * 256 + chX T (p + 3) = _
  rw [Nat.zero_mul, Nat.zero_add, Nat.add_zero]
  rfl
set_option maxHeartbeats 4000000 in
theorem s_ta4 (hd : 6 ≤ d) (tl : t.length ≤ 1200) (tb : ∀ c ∈ t, c < 128) {a p q : Nat} {f0 : Nat → Int32} {hb : AH} (hq : q < 5) (hp : p ≤ 1220) {P : OC → AH → Prop} (r : (∀ (h1 : AH) (f : Nat → Int32), At h1 a (.inl (0, 5, .inl f)) → f q = nI (pjX t (p + 4 * q) 4) → (∀ z, z ≠ q → f z = f0 z) → StN h1 k v t → (h1.1 = hb.1 ∧ h1.2.1 = hb.2.1 ∧ ∀ z, z ≠ a → h1.2.2 z = hb.2.2 z) → RQ G mL_taught d 87 [some (.ref 0), some (.ref k), some (.ref a), some (.int (nI p)), some (.int (nI q)), some (.int (nI (p + 4 * q + 4)))] [] h1 P)) : ∀ (n j : Nat) (h9 : AH) (f : Nat → Int32), 4 ≤ j + n → j ≤ 4 → At h9 a (.inl (0, 5, .inl f)) → f q = nI (pjX t (p + 4 * q) j) → (∀ z, z ≠ q → f z = f0 z) → StN h9 k v t → (h9.1 = hb.1 ∧ h9.2.1 = hb.2.1 ∧ ∀ z, z ≠ a → h9.2.2 z = hb.2.2 z) → RQ G mL_taught d 36 [some (.ref 0), some (.ref k), some (.ref a), some (.int (nI p)), some (.int (nI q)), some (.int (nI (p + 4 * q + j)))] [] h9 P := by
  have tl4 : t.length ≤ 4000 := by omega
  have ex : ∀ (j : Nat) (h9 : AH) (f : Nat → Int32), j = 4 → At h9 a (.inl (0, 5, .inl f)) → f q = nI (pjX t (p + 4 * q) j) → (∀ z, z ≠ q → f z = f0 z) → StN h9 k v t → (h9.1 = hb.1 ∧ h9.2.1 = hb.2.1 ∧ ∀ z, z ≠ a → h9.2.2 z = hb.2.2 z) → RQ G mL_taught d 36 [some (.ref 0), some (.ref k), some (.ref a), some (.int (nI p)), some (.int (nI q)), some (.int (nI (p + 4 * q + j)))] [] h9 P := by
    intro j h9 f hj a1 a2 a3 a4 a5
    subst hj
    refine tL_taught_36  (r := ?_)
    refine tL_taught_38  (r := ?_)
    refine tL_taught_39  (r := ?_)
    refine tL_taught_40  (r := ?_)
    refine tL_taught_42  (r := ?_)
    rw [pk_mul]
    refine tL_taught_43  (r := ?_)
    rw [nI_add]
    refine tL_taught_44  (r := ?_)
    refine tL_taught_45  (r := ?_)
    rw [nI_add]
    refine tL_taught_46  (kf := fun c_ => by exfalso; (simp (disch := first | omega | decide) only [ci_lt, ci_le, ci_eq, ci_lt0, ci_ge0, ci_gt0, ci_le0, ci_eq0, ci_m1_lt, ci_m1_le, ci_lt_m1, ci_le_m1, ci_eq_m1, ci_m1_eq, not_true, not_false_iff, Nat.not_lt, Nat.not_le] at c_ <;> omega)) (kt := fun _ => ?_)
    exact r h9 f a1 a2 a3 a4 a5
  intro n
  induction n with
  | zero => exact fun j h9 f h1_ h2_ => ex j h9 f (by omega)
  | succ n ih =>
    intro j h9 f h1_ h2_ a1 a2 a3 a4 a5
    by_cases hie : j = 4
    · exact ex j h9 f hie a1 a2 a3 a4 a5
    have hj2 : j < 4 := by omega
    by_cases hz : p + 4 * q + j < t.length
    · skip
      refine tL_taught_36  (r := ?_)
      refine tL_taught_38  (r := ?_)
      refine tL_taught_39  (r := ?_)
      refine tL_taught_40  (r := ?_)
      refine tL_taught_42  (r := ?_)
      rw [pk_mul]
      refine tL_taught_43  (r := ?_)
      rw [nI_add]
      refine tL_taught_44  (r := ?_)
      refine tL_taught_45  (r := ?_)
      rw [nI_add]
      refine tL_taught_46  (kt := fun c_ => by exfalso; exact absurd ((nI_leI (by omega) (by omega)).mp c_) (by omega)) (kf := fun _ => ?_)
      refine tL_taught_49  (r := ?_)
      refine tL_taught_50  (r := ?_)
      refine tL_taught_52  (r := ?_)
      refine tL_taught_53  (r := ?_)
      refine tL_taught_55 (j := q) (ha := a1) (hx := rfl) (hj := hq) (hn := (by omega)) (r := ?_)
      rw [a2]
      refine tL_taught_56  (r := ?_)
      refine tL_taught_58  (r := ?_)
      refine tL_taught_59  (r := ?_)
      refine tL_taught_61  (r := ?_)
      refine tL_taught_62s (hs := (Or.inr ⟨_, a4.1.choose_spec.choose_spec⟩)) (hd := (by omega)) (call := s_slen (d := d - 1) (by omega) (a4.r tl4 tb)) (k := ?_)
      rintro r_ h_ ⟨ev, e9⟩
      rw [ev, e9]
      refine tL_taught_65  (kt := fun c_ => by exfalso; first | exact absurd ((nI_leI (by omega) (by omega)).mp c_) (by omega) | exact c_ ((nI_leI (by omega) (by omega)).mpr (by omega))) (kf := fun _ => ?_)
      refine tL_taught_68  (r := ?_)
      refine tL_taught_69  (r := ?_)
      refine tL_taught_71 (hd := (by omega)) (ha := a4.1.choose_spec.choose_spec) (call := s_nchar (d := d - 1) (by omega) a4 tl4 tb (i := p + 4 * q + j) hz) (k := ?_)
      rintro r_ h_ ⟨ev, e9⟩
      rw [ev, e9]
      refine tL_taught_74 (r := ?_)
      refine tL_taught_79  (r := ?_)
      rw [sh_or (pjX_lt tb _ j hj2) (by have := tb _ (gd_mem hz); omega)]
      refine tL_taught_80 (j := q) (ha := a1) (hx := rfl) (hj := hq) (hn := (by omega)) (r := ?_)
      refine tL_taught_81  (r := ?_)
      rw [nI_add]
      refine tL_taught_84 (r := ?_)
      have en : nI (p + 4 * q + j + 1) = nI (p + 4 * q + (j + 1)) := rfl
      rw [en]
      refine ih (j + 1) _ _ (by omega) (by omega) (At.set_eq2 a1.1) ?_ (fun z hz9 => (if_neg hz9).trans (a3 z hz9)) ?_ ⟨a5.1, a5.2.1, fun z hz9 => (if_neg hz9).trans (a5.2.2 z hz9)⟩
      · show (if q = q then _ else f q) = nI (pjX t (p + 4 * q) j * 256 + chX t (p + 4 * q + j))
        rw [if_pos rfl]
        unfold chX
        rw [if_pos hz]
      · obtain ⟨⟨hs, hz8, b1⟩, g, b2, b3⟩ := a4
        exact ⟨⟨hs, hz8, At.set_ne b1 (b1.ne a1 (by simp))⟩, g, At.set_ne b2 (b2.ne a1 (by simp)), b3⟩
    · skip
      refine tL_taught_36  (r := ?_)
      refine tL_taught_38  (r := ?_)
      refine tL_taught_39  (r := ?_)
      refine tL_taught_40  (r := ?_)
      refine tL_taught_42  (r := ?_)
      rw [pk_mul]
      refine tL_taught_43  (r := ?_)
      rw [nI_add]
      refine tL_taught_44  (r := ?_)
      refine tL_taught_45  (r := ?_)
      rw [nI_add]
      refine tL_taught_46  (kt := fun c_ => by exfalso; exact absurd ((nI_leI (by omega) (by omega)).mp c_) (by omega)) (kf := fun _ => ?_)
      refine tL_taught_49  (r := ?_)
      refine tL_taught_50  (r := ?_)
      refine tL_taught_52  (r := ?_)
      refine tL_taught_53  (r := ?_)
      refine tL_taught_55 (j := q) (ha := a1) (hx := rfl) (hj := hq) (hn := (by omega)) (r := ?_)
      rw [a2]
      refine tL_taught_56  (r := ?_)
      refine tL_taught_58  (r := ?_)
      refine tL_taught_59  (r := ?_)
      refine tL_taught_61  (r := ?_)
      refine tL_taught_62s (hs := (Or.inr ⟨_, a4.1.choose_spec.choose_spec⟩)) (hd := (by omega)) (call := s_slen (d := d - 1) (by omega) (a4.r tl4 tb)) (k := ?_)
      rintro r_ h_ ⟨ev, e9⟩
      rw [ev, e9]
      refine tL_taught_65  (kf := fun c_ => by exfalso; first | exact absurd ((nI_leI (by omega) (by omega)).mp c_) (by omega) | exact c_ ((nI_leI (by omega) (by omega)).mpr (by omega))) (kt := fun _ => ?_)
      refine tL_taught_77  (r := ?_)
      refine tL_taught_79  (r := ?_)
      rw [sh_or (pjX_lt tb _ j hj2) (by decide)]
      refine tL_taught_80 (j := q) (ha := a1) (hx := rfl) (hj := hq) (hn := (by omega)) (r := ?_)
      refine tL_taught_81  (r := ?_)
      rw [nI_add]
      refine tL_taught_84 (r := ?_)
      have en : nI (p + 4 * q + j + 1) = nI (p + 4 * q + (j + 1)) := rfl
      rw [en]
      refine ih (j + 1) _ _ (by omega) (by omega) (At.set_eq2 a1.1) ?_ (fun z hz9 => (if_neg hz9).trans (a3 z hz9)) ?_ ⟨a5.1, a5.2.1, fun z hz9 => (if_neg hz9).trans (a5.2.2 z hz9)⟩
      · show (if q = q then _ else f q) = nI (pjX t (p + 4 * q) j * 256 + chX t (p + 4 * q + j))
        rw [if_pos rfl]
        unfold chX
        rw [if_neg hz]
      · obtain ⟨⟨hs, hz8, b1⟩, g, b2, b3⟩ := a4
        exact ⟨⟨hs, hz8, At.set_ne b1 (b1.ne a1 (by simp))⟩, g, At.set_ne b2 (b2.ne a1 (by simp)), b3⟩
end E0
