/-! beans are poured: both sides -/
theorem mvN_le (w : Int32) (b : Nat) : mvN w b ≤ b := Nat.min_le_right _ _
theorem w_cases (w : Int32) : (w < nI 0 ∧ w.toInt.toNat = 0) ∨ (∃ n, n < 2147483648 ∧ w = nI n ∧ w.toInt.toNat = n) := by
  by_cases h : w < nI 0
  · refine Or.inl ⟨h, ?_⟩
    rw [Int32.lt_iff_toInt_lt, nI_toInt (by decide)] at h
    omega
  · rw [Int32.lt_iff_toInt_lt, nI_toInt (by decide)] at h
    have h2 := Int32.toInt_lt w
    refine Or.inr ⟨w.toInt.toNat, by omega, ?_, rfl⟩
    apply Int32.toInt_inj.mp
    rw [nI_toInt (by omega)]
    omega
theorem mv_k {w : Int32} {b : Nat} (hb : b ≤ 5000) : (if nI b < (if w < nI 0 then nI 0 else w) then nI b else (if w < nI 0 then nI 0 else w)) = nI (mvN w b) := by
  unfold mvN
  rcases w_cases w with ⟨h, e⟩ | ⟨n, hn, h, e⟩
  · rw [e, if_pos h, if_neg (fun z => absurd ((nI_ltI (by omega) (by decide)).mp z) (Nat.not_lt_zero _)), Nat.zero_min]
  · rw [e, h, if_neg (fun z => absurd ((nI_ltI hn (by decide)).mp z) (Nat.not_lt_zero _))]
    by_cases c : b < n
    · rw [if_pos ((nI_ltI (by omega) hn).mpr c), Nat.min_eq_right (by omega)]
    · rw [if_neg (fun z => c ((nI_ltI (by omega) hn).mp z)), Nat.min_eq_left (by omega)]
theorem mv_m {w : Int32} {b : Nat} (hb : b ≤ 5000) : (if nI 0 < (if nI b < w then nI b else w) then (if nI b < w then nI b else w) else nI 0) = nI (mvN w b) := by
  unfold mvN
  rcases w_cases w with ⟨h, e⟩ | ⟨n, hn, h, e⟩
  · have c1 : ¬ nI b < w := fun z => by
      rw [Int32.lt_iff_toInt_lt, nI_toInt (by omega)] at z
      rw [Int32.lt_iff_toInt_lt, nI_toInt (by decide)] at h
      omega
    have c2 : ¬ nI 0 < w := fun z => by
      rw [Int32.lt_iff_toInt_lt, nI_toInt (by decide)] at z
      rw [Int32.lt_iff_toInt_lt, nI_toInt (by decide)] at h
      omega
    rw [e, if_neg c1, if_neg c2, Nat.zero_min]
  · rw [e, h]
    have g : (if nI b < nI n then nI b else nI n) = nI (min n b) := by
      by_cases c : b < n
      · rw [if_pos ((nI_ltI (by omega) hn).mpr c), Nat.min_eq_right (by omega)]
      · rw [if_neg (fun z => c ((nI_ltI (by omega) hn).mp z)), Nat.min_eq_left (by omega)]
    rw [g]
    by_cases c : 0 < min n b
    · rw [if_pos ((nI_ltI (by decide) (by omega)).mpr c)]
    · rw [if_neg (fun z => c ((nI_ltI (by decide) (by omega)).mp z)), show min n b = 0 by omega]
theorem su_put {g : Nat → Nat} {c x : Nat} : ∀ {n : Nat}, c < n → su (fun k => if k = c then x else g k) n + g c = su g n + x
  | n + 1, h => by
    show su (fun k => if k = c then x else g k) n + (if n = c then x else g n) + g c = su g n + g n + x
    by_cases e : n = c
    · subst e
      rw [if_pos rfl, su_congr (g := g) (fun i hi => if_neg (by omega))]
      omega
    · have := su_put (g := g) (c := c) (x := x) (n := n) (by omega)
      rw [if_neg e]
      omega
theorem mvB_sum {b : Nat → Nat} {f t v : Nat} (hf : f < 6) (ht : t < 6) (hv : v ≤ b f) : su (mvB b f t v) 6 = su b 6 := by
  have e1 : su (m1B b f v) 6 + b f = su b 6 + (b f - v) := su_put hf
  have e2 : su (mvB b f t v) 6 + m1B b f v t = su (m1B b f v) 6 + (m1B b f v t + v) := su_put ht
  omega
theorem mvB_other {b : Nat → Nat} {f t v k : Nat} (hf : ¬ k = f) (ht : ¬ k = t) : mvB b f t v k = b k := by
  show (if k = t then _ else if k = f then _ else b k) = b k
  rw [if_neg ht, if_neg hf]
section PU
variable {G : GT} {d : Nat} {s : ST} {h0 h : AH} {bk dr : Nat}

set_option maxHeartbeats 4000000 in
set_option maxRecDepth 100000 in
theorem s_move (hd : 1 ≤ d) {j se wy : Nat} {b r : Nat → Nat} (jr : JaR h j b se wy r) (hs : su b 6 ≤ 1200) {f t : Nat} (f6 : f < 6) (t6 : t < 6) {w : Int32} : RQ G mX4_move d 0 [some (.ref j), some (.int (nI f)), some (.int (nI t)), some (.int w), none] [] h (Ri fun v h1 => v = nI (mvN w (b f)) ∧ JaR h1 j (mvB b f t (mvN w (b f))) se wy r ∧ Sm h h1 j (j + 5)) := by
  obtain ⟨bf, p, wn, l, tu, fi, ma, co, ⟨a0, a1, a2, a3, a4⟩, hbf, -⟩ := jr
  have l0 := a0.1
  have l1 := a1.1
  have l2 := a2.1
  have l3 := a3.1
  have l4 := a4.1
  have w1 := su_mem (f := b) f6
  have mv1 := mvN_le w (b f)
  have hu : ∀ k, k < 6 → upd bf f (nI (b f - mvN w (b f))) k = nI (m1B b f (mvN w (b f)) k) := fun k hk => by
    show (if k = f then nI (b f - mvN w (b f)) else bf k) = nI (if k = f then b f - mvN w (b f) else b k)
    by_cases e : k = f
    · rw [if_pos e, if_pos e]
    · rw [if_neg e, if_neg e, hbf k hk]
  refine tX4_move_0  (r := ?_)
  refine tX4_move_1  (r := ?_)
  refine tX4_move_2 (hd := (by omega)) (r := ?_)
  refine tX4_move_5  (r := ?_)
  refine tX4_move_6 (ha := (by first | assumption | (repeat (first | assumption | exact At.set_eq2 (by first | omega | (simp only [hset, hnew]; omega) | rfl | decide) | exact At.new_eq2 _ _ (by first | omega | (simp only [hset, hnew]; omega) | rfl | decide) | refine At.set_ne ?_ (by first | omega | (simp only [hset, hnew]; omega) | rfl | decide) | refine At.new_ne ?_)))) (hv := rfl) (r := ?_)
  refine tX4_move_9  (r := ?_)
  refine tX4_move_10 (ha := (by first | assumption | (repeat (first | assumption | exact At.set_eq2 (by first | omega | (simp only [hset, hnew]; omega) | rfl | decide) | exact At.new_eq2 _ _ (by first | omega | (simp only [hset, hnew]; omega) | rfl | decide) | refine At.set_ne ?_ (by first | omega | (simp only [hset, hnew]; omega) | rfl | decide) | refine At.new_ne ?_)))) (hx := rfl) (hj := f6) (hn := (by decide)) (r := ?_)
  rw [hbf _ f6]
  refine tX4_move_11 (hd := (by omega)) (r := ?_)
  rw [mv_k (by omega)]
  refine tX4_move_14  (r := ?_)
  refine tX4_move_16  (r := ?_)
  refine tX4_move_17 (ha := (by first | assumption | (repeat (first | assumption | exact At.set_eq2 (by first | omega | (simp only [hset, hnew]; omega) | rfl | decide) | exact At.new_eq2 _ _ (by first | omega | (simp only [hset, hnew]; omega) | rfl | decide) | refine At.set_ne ?_ (by first | omega | (simp only [hset, hnew]; omega) | rfl | decide) | refine At.new_ne ?_)))) (hv := rfl) (r := ?_)
  refine tX4_move_20  (r := ?_)
  refine tX4_move_21  (r := ?_)
  refine tX4_move_22 (ha := (by first | assumption | (repeat (first | assumption | exact At.set_eq2 (by first | omega | (simp only [hset, hnew]; omega) | rfl | decide) | exact At.new_eq2 _ _ (by first | omega | (simp only [hset, hnew]; omega) | rfl | decide) | refine At.set_ne ?_ (by first | omega | (simp only [hset, hnew]; omega) | rfl | decide) | refine At.new_ne ?_)))) (hx := rfl) (hj := f6) (hn := (by decide)) (r := ?_)
  rw [hbf _ f6]
  refine tX4_move_23  (r := ?_)
  refine tX4_move_25  (r := ?_)
  rw [nI_subN mv1 (by omega)]
  refine tX4_move_26 (ha := (by first | assumption | (repeat (first | assumption | exact At.set_eq2 (by first | omega | (simp only [hset, hnew]; omega) | rfl | decide) | exact At.new_eq2 _ _ (by first | omega | (simp only [hset, hnew]; omega) | rfl | decide) | refine At.set_ne ?_ (by first | omega | (simp only [hset, hnew]; omega) | rfl | decide) | refine At.new_ne ?_)))) (hx := rfl) (hj := f6) (hn := (by decide)) (r := ?_)
  refine tX4_move_27  (r := ?_)
  refine tX4_move_28 (ha := (by first | assumption | (repeat (first | assumption | exact At.set_eq2 (by first | omega | (simp only [hset, hnew]; omega) | rfl | decide) | exact At.new_eq2 _ _ (by first | omega | (simp only [hset, hnew]; omega) | rfl | decide) | refine At.set_ne ?_ (by first | omega | (simp only [hset, hnew]; omega) | rfl | decide) | refine At.new_ne ?_)))) (hv := rfl) (r := ?_)
  refine tX4_move_31  (r := ?_)
  refine tX4_move_32  (r := ?_)
  refine tX4_move_33 (ha := (by first | assumption | (repeat (first | assumption | exact At.set_eq2 (by first | omega | (simp only [hset, hnew]; omega) | rfl | decide) | exact At.new_eq2 _ _ (by first | omega | (simp only [hset, hnew]; omega) | rfl | decide) | refine At.set_ne ?_ (by first | omega | (simp only [hset, hnew]; omega) | rfl | decide) | refine At.new_ne ?_)))) (hx := rfl) (hj := t6) (hn := (by decide)) (r := ?_)
  rw [hu _ t6]
  refine tX4_move_34  (r := ?_)
  refine tX4_move_36  (r := ?_)
  rw [nI_add]
  refine tX4_move_37 (ha := (by first | assumption | (repeat (first | assumption | exact At.set_eq2 (by first | omega | (simp only [hset, hnew]; omega) | rfl | decide) | exact At.new_eq2 _ _ (by first | omega | (simp only [hset, hnew]; omega) | rfl | decide) | refine At.set_ne ?_ (by first | omega | (simp only [hset, hnew]; omega) | rfl | decide) | refine At.new_ne ?_)))) (hx := rfl) (hj := t6) (hn := (by decide)) (r := ?_)
  refine tX4_move_38  (r := ?_)
  refine tX4_move_39  (r := ?_)
  refine tX4_move_40 (ha := (by first | assumption | (repeat (first | assumption | exact At.set_eq2 (by first | omega | (simp only [hset, hnew]; omega) | rfl | decide) | exact At.new_eq2 _ _ (by first | omega | (simp only [hset, hnew]; omega) | rfl | decide) | refine At.set_ne ?_ (by first | omega | (simp only [hset, hnew]; omega) | rfl | decide) | refine At.new_ne ?_)))) (hlen := rfl) (hb := (by first | exact Or.inl rfl | exact Or.inr rfl | assumption)) (r := ?_)
  refine tX4_move_43  (r := ?_)
  refine tX4_move_45  (hP := ?_)
  refine ⟨_, rfl, rfl, ⟨(upd (upd bf f (nI (b f - mvN w (b f)))) t (nI (m1B b f (mvN w (b f)) t + mvN w (b f)))), p, wn, l, tu, fi, ma, nI 0, ⟨by (first | assumption | (repeat (first | assumption | exact At.set_eq2 (by (first | omega | (simp only [hset, hnew]; omega) | rfl | decide)) | exact At.new_eq2 _ _ (by (first | omega | (simp only [hset, hnew]; omega) | rfl | decide)) | refine At.set_ne ?_ (by (first | omega | (simp only [hset, hnew]; omega) | rfl | decide)) | refine At.new_ne ?_))), by (first | assumption | (repeat (first | assumption | exact At.set_eq2 (by (first | omega | (simp only [hset, hnew]; omega) | rfl | decide)) | exact At.new_eq2 _ _ (by (first | omega | (simp only [hset, hnew]; omega) | rfl | decide)) | refine At.set_ne ?_ (by (first | omega | (simp only [hset, hnew]; omega) | rfl | decide)) | refine At.new_ne ?_))), by (first | assumption | (repeat (first | assumption | exact At.set_eq2 (by (first | omega | (simp only [hset, hnew]; omega) | rfl | decide)) | exact At.new_eq2 _ _ (by (first | omega | (simp only [hset, hnew]; omega) | rfl | decide)) | refine At.set_ne ?_ (by (first | omega | (simp only [hset, hnew]; omega) | rfl | decide)) | refine At.new_ne ?_))), by (first | assumption | (repeat (first | assumption | exact At.set_eq2 (by (first | omega | (simp only [hset, hnew]; omega) | rfl | decide)) | exact At.new_eq2 _ _ (by (first | omega | (simp only [hset, hnew]; omega) | rfl | decide)) | refine At.set_ne ?_ (by (first | omega | (simp only [hset, hnew]; omega) | rfl | decide)) | refine At.new_ne ?_))), by (first | assumption | (repeat (first | assumption | exact At.set_eq2 (by (first | omega | (simp only [hset, hnew]; omega) | rfl | decide)) | exact At.new_eq2 _ _ (by (first | omega | (simp only [hset, hnew]; omega) | rfl | decide)) | refine At.set_ne ?_ (by (first | omega | (simp only [hset, hnew]; omega) | rfl | decide)) | refine At.new_ne ?_)))⟩, fun k hk => ?_, Or.inl rfl⟩, (((Sm.rf h j (j + 5)).set (by omega) (by omega)).set (by omega) (by omega)).set (by omega) (by omega)⟩
  show (if k = t then nI (m1B b f (mvN w (b f)) t + mvN w (b f)) else upd bf f (nI (b f - mvN w (b f))) k) = nI (if k = t then m1B b f (mvN w (b f)) t + mvN w (b f) else m1B b f (mvN w (b f)) k)
  by_cases e : k = t
  · rw [if_pos e, if_pos e]
  · rw [if_neg e, if_neg e, hu k hk]

theorem CuR.setB {h1 : AH} {c : Nat} {B : BK} {D : DY} (q : CuR h c B D) {i : Nat} (hi : i < 8) {b' : Nat → Nat} (jr : JaR h1 (c + 5 + 5 * i) b' (bSe B i) (bWy B i) (rt (dF D))) (sm : Sm h h1 (c + 5 + 5 * i) (c + 5 + 5 * i + 5)) : CuR h1 c B (dDay D, fun z => if z = i then b' else dB D z, dL D, dF D) := by
  obtain ⟨jf, lj, fo, le, a1, a2, a3, a4, a5, a6, a7, a8, a9, a10⟩ := q
  refine ⟨jf, lj, fo, le, sm.at a1 (by omega), sm.at a2 (by omega), sm.at a3 (by omega), sm.at a4 (by omega), sm.at a5 (by omega), a6, a7, a8, a9, fun k hk => ?_⟩
  by_cases e : k = i
  · subst e
    have e2 : (if k = k then b' else dB D k) = b' := if_pos rfl
    show JaR h1 (c + 5 + 5 * k) (if k = k then b' else dB D k) _ _ _
    rw [e2]
    exact jr
  · have e2 : (if k = i then b' else dB D k) = dB D k := if_neg e
    show JaR h1 (c + 5 + 5 * k) (if k = i then b' else dB D k) _ _ _
    rw [e2]
    rcases Nat.lt_or_gt_of_ne e with e | e
    · exact (a10 k hk).keep (Nat.le_of_eq sm.1.symm) (sm.2.2.1.sub (Nat.zero_le _) (by omega))
    · obtain ⟨bf, p, w, l, tu, fi, ma, co, ⟨z0, z1, z2, z3, z4⟩, z5⟩ := a10 k hk
      exact ⟨bf, p, w, l, tu, fi, ma, co, ⟨sm.at z0 (by omega), sm.at z1 (by omega), sm.at z2 (by omega), sm.at z3 (by omega), sm.at z4 (by omega)⟩, z5⟩
theorem BDok.jb {B : BK} {D : DY} (hb : BDok B D) {i : Nat} {b' : Nat → Nat} (hi : i < bJa B) (h1 : su b' 6 ≤ 1200) (h2 : ∀ k, bLa B ≤ k → k < 6 → b' k = 0) : BDok B (jrB D i b') := by
  obtain ⟨a1, a2, a3, a4, a5, a6, a7, a8, a9, a10⟩ := hb
  refine ⟨a1, a2, a3, a4, fun z z1 z2 => ⟨(a5 z z1 z2).1, ?_⟩, fun z k z1 z2 z3 => ?_, fun z z1 => ?_, a8, a9, a10⟩
  · show ∀ k, k < 6 → (if z = i then b' else dB D z) k = 0
    rw [if_neg (by omega)]
    exact (a5 z z1 z2).2
  · show (if z = i then b' else dB D z) k = 0
    by_cases e : z = i
    · rw [if_pos e]
      exact h2 k z2 z3
    · rw [if_neg e]
      exact a6 z k z1 z2 z3
  · show su (if z = i then b' else dB D z) 6 ≤ 1200
    by_cases e : z = i
    · rw [if_pos e]
      exact h1
    · rw [if_neg e]
      exact a7 z z1
theorem BDok.mv {B : BK} {D : DY} (hb : BDok B D) {i f t v : Nat} (hi : i < bJa B) (hf : f < bLa B) (ht : t < bLa B) (hv : v ≤ dB D i f) : BDok B (jrB D i (mvB (dB D i) f t v)) := by
  have l1 := hb.1
  have l2 := hb.2.1
  refine hb.jb hi (by rw [mvB_sum (show f < 6 by omega) (show t < 6 by omega) hv]; exact hb.2.2.2.2.2.2.1 i (by omega)) (fun k k1 k2 => ?_)
  rw [mvB_other (by omega) (by omega)]
  exact hb.2.2.2.2.2.1 i k (by omega) k1 k2

set_option maxHeartbeats 4000000 in
set_option maxRecDepth 100000 in
theorem k_pour_ok (hd : 7 ≤ d) (c : ClR h 0 bk dr s) (hb : BDok s.2.2.1 s.2.2.2) (hh : 216 ≤ h.1) {j0 : Nat} (q0 : j0 < bJa s.2.2.1) {j1 : Nat} (q1 : j1 < bLa s.2.2.1) {j2 : Nat} (q2 : j2 < bLa s.2.2.1) {a3 : Int32} (g : ¬ (j1 = j2 ∨ a3 < nI 1 ∨ nI 200 < a3)) : RQ G mX10_pour d 0 [some (.ref 0), some (.int (nI j0)), some (.int (nI j1)), some (.int (nI j2)), some (.int a3)] [] h (CK h bk dr (s.1, s.2.1, s.2.2.1, jrB s.2.2.2 j0 (mvB (dB s.2.2.2 j0) j1 j2 (mvN a3 (dB s.2.2.2 j0 j1)))) "java/lang/IndexOutOfBoundsException" "java/lang/IllegalArgumentException" 0 (nI (mvN a3 (dB s.2.2.2 j0 j1)))) := by
  have c1 := c.poll
  have cb := c.book
  obtain ⟨jf, lj, fo, le, u0, u1, u2, u3, u4, u5, u6, u7, u8, u9⟩ := id c.2.2.2.2.1
  have l1 := hb.1
  have l2 := hb.2.1
  have l3 := hb.2.2.1
  obtain ⟨bf, p, w, l, tu, fi, ma, co, ⟨b0, b1, b2, b3, b4⟩, hb2, hb3⟩ := u9 j0 (by omega)
  have g1 : ¬ j1 = j2 := fun z => g (Or.inl z)
  have g2 : ¬ a3 < nI 1 := fun z => g (Or.inr (Or.inl z))
  have g3 : ¬ nI 200 < a3 := fun z => g (Or.inr (Or.inr z))
  refine tX10_pour_0  (r := ?_)
  refine tX10_pour_1  (r := ?_)
  refine tX10_pour_2 (hd := (by omega)) (ha := (by first | assumption | (repeat (first | assumption | exact At.set_eq2 (by first | omega | (simp only [hset, hnew]; omega) | rfl | decide) | exact At.new_eq2 _ _ (by first | omega | (simp only [hset, hnew]; omega) | rfl | decide) | refine At.set_ne ?_ (by first | omega | (simp only [hset, hnew]; omega) | rfl | decide) | refine At.new_ne ?_)))) (call := s_checkJar_ok (d := 6) (QX := fun _ _ => False) c hb q0) (kx := fun E_ h_ hx_ => by exact hx_.elim) (k := ?_)
  intro h_ e0
  rw [e0]
  refine tX10_pour_5  (r := ?_)
  refine tX10_pour_6  (r := ?_)
  refine tX10_pour_7 (hd := (by omega)) (ha := (by first | assumption | (repeat (first | assumption | exact At.set_eq2 (by first | omega | (simp only [hset, hnew]; omega) | rfl | decide) | exact At.new_eq2 _ _ (by first | omega | (simp only [hset, hnew]; omega) | rfl | decide) | refine At.set_ne ?_ (by first | omega | (simp only [hset, hnew]; omega) | rfl | decide) | refine At.new_ne ?_)))) (call := s_checkLabel_ok (d := 6) (QX := fun _ _ => False) c hb q1) (kx := fun E_ h_ hx_ => by exact hx_.elim) (k := ?_)
  intro h_ e1
  rw [e1]
  refine tX10_pour_10  (r := ?_)
  refine tX10_pour_11  (r := ?_)
  refine tX10_pour_12 (hd := (by omega)) (ha := (by first | assumption | (repeat (first | assumption | exact At.set_eq2 (by first | omega | (simp only [hset, hnew]; omega) | rfl | decide) | exact At.new_eq2 _ _ (by first | omega | (simp only [hset, hnew]; omega) | rfl | decide) | refine At.set_ne ?_ (by first | omega | (simp only [hset, hnew]; omega) | rfl | decide) | refine At.new_ne ?_)))) (call := s_checkLabel_ok (d := 6) (QX := fun _ _ => False) c hb q2) (kx := fun E_ h_ hx_ => by exact hx_.elim) (k := ?_)
  intro h_ e2
  rw [e2]
  refine tX10_pour_15  (r := ?_)
  refine tX10_pour_16  (r := ?_)
  refine tX10_pour_17  (kt := fun c_ => by exfalso; exact g1 ((nI_eq (by omega) (by omega)).mp c_)) (kf := fun _ => ?_)
  refine tX10_pour_20  (r := ?_)
  refine tX10_pour_22  (r := ?_)
  refine tX10_pour_23  (kt := fun c_ => by exfalso; exact g2 c_) (kf := fun _ => ?_)
  refine tX10_pour_26  (r := ?_)
  refine tX10_pour_28  (r := ?_)
  refine tX10_pour_31  (kf := fun c_ => by exfalso; exact g3 (Int32.not_le.mp c_)) (kt := fun _ => ?_)
  refine tX10_pour_42  (r := ?_)
  refine tX10_pour_43 (ha := (by first | assumption | (repeat (first | assumption | exact At.set_eq2 (by first | omega | (simp only [hset, hnew]; omega) | rfl | decide) | exact At.new_eq2 _ _ (by first | omega | (simp only [hset, hnew]; omega) | rfl | decide) | refine At.set_ne ?_ (by first | omega | (simp only [hset, hnew]; omega) | rfl | decide) | refine At.new_ne ?_)))) (hv := rfl) (r := ?_)
  refine tX10_pour_46 (ha := (by first | assumption | (repeat (first | assumption | exact At.set_eq2 (by first | omega | (simp only [hset, hnew]; omega) | rfl | decide) | exact At.new_eq2 _ _ (by first | omega | (simp only [hset, hnew]; omega) | rfl | decide) | refine At.set_ne ?_ (by first | omega | (simp only [hset, hnew]; omega) | rfl | decide) | refine At.new_ne ?_)))) (hv := rfl) (r := ?_)
  refine tX10_pour_49  (r := ?_)
  refine tX10_pour_50 (ha := (by first | assumption | (repeat (first | assumption | exact At.set_eq2 (by first | omega | (simp only [hset, hnew]; omega) | rfl | decide) | exact At.new_eq2 _ _ (by first | omega | (simp only [hset, hnew]; omega) | rfl | decide) | refine At.set_ne ?_ (by first | omega | (simp only [hset, hnew]; omega) | rfl | decide) | refine At.new_ne ?_)))) (hx := rfl) (hj := (by omega)) (hn := (by decide)) (hf := (u5 _ (by omega))) (r := ?_)
  refine tX10_pour_51  (r := ?_)
  refine tX10_pour_52  (r := ?_)
  refine tX10_pour_53  (r := ?_)
  refine tX10_pour_55 (hd := (by omega)) (ha := (by first | assumption | (repeat (first | assumption | exact At.set_eq2 (by first | omega | (simp only [hset, hnew]; omega) | rfl | decide) | exact At.new_eq2 _ _ (by first | omega | (simp only [hset, hnew]; omega) | rfl | decide) | refine At.set_ne ?_ (by first | omega | (simp only [hset, hnew]; omega) | rfl | decide) | refine At.new_ne ?_)))) (call := s_move (d := 5) (by decide) (u9 j0 (by omega)) (hb.2.2.2.2.2.2.1 j0 (by omega)) (show j1 < 6 by omega) (show j2 < 6 by omega)) (k := ?_)
  rintro v h1 ⟨rfl, jr, sm⟩
  refine tX10_pour_58  (hP := ?_)
  exact ck_val (c.now (c.2.2.2.2.1.setB (by omega) jr sm) sm (by omega) (by omega)) (sm.ch (by omega) (by omega))

set_option maxHeartbeats 4000000 in
set_option maxRecDepth 100000 in
theorem k_pour_no4 (hd : 7 ≤ d) (c : ClR h 0 bk dr s) (hb : BDok s.2.2.1 s.2.2.2) (hh : 216 ≤ h.1) {j0 : Nat} (q0 : j0 < bJa s.2.2.1) {j1 : Nat} (q1 : j1 < bLa s.2.2.1) {j2 : Nat} (q2 : j2 < bLa s.2.2.1) {a3 : Int32} {V : Int32} (g : j1 = j2 ∨ a3 < nI 1 ∨ nI 200 < a3) : RQ G mX10_pour d 0 [some (.ref 0), some (.int (nI j0)), some (.int (nI j1)), some (.int (nI j2)), some (.int a3)] [] h (CK h bk dr s "java/lang/IndexOutOfBoundsException" "java/lang/IllegalArgumentException" 2 V) := by
  have c1 := c.poll
  have cb := c.book
  obtain ⟨jf, lj, fo, le, u0, u1, u2, u3, u4, u5, u6, u7, u8, u9⟩ := id c.2.2.2.2.1
  have l1 := hb.1
  have l2 := hb.2.1
  have l3 := hb.2.2.1
  refine tX10_pour_0  (r := ?_)
  refine tX10_pour_1  (r := ?_)
  refine tX10_pour_2 (hd := (by omega)) (ha := (by first | assumption | (repeat (first | assumption | exact At.set_eq2 (by first | omega | (simp only [hset, hnew]; omega) | rfl | decide) | exact At.new_eq2 _ _ (by first | omega | (simp only [hset, hnew]; omega) | rfl | decide) | refine At.set_ne ?_ (by first | omega | (simp only [hset, hnew]; omega) | rfl | decide) | refine At.new_ne ?_)))) (call := s_checkJar_ok (d := 6) (QX := fun _ _ => False) c hb q0) (kx := fun E_ h_ hx_ => by exact hx_.elim) (k := ?_)
  intro h_ e0
  rw [e0]
  refine tX10_pour_5  (r := ?_)
  refine tX10_pour_6  (r := ?_)
  refine tX10_pour_7 (hd := (by omega)) (ha := (by first | assumption | (repeat (first | assumption | exact At.set_eq2 (by first | omega | (simp only [hset, hnew]; omega) | rfl | decide) | exact At.new_eq2 _ _ (by first | omega | (simp only [hset, hnew]; omega) | rfl | decide) | refine At.set_ne ?_ (by first | omega | (simp only [hset, hnew]; omega) | rfl | decide) | refine At.new_ne ?_)))) (call := s_checkLabel_ok (d := 6) (QX := fun _ _ => False) c hb q1) (kx := fun E_ h_ hx_ => by exact hx_.elim) (k := ?_)
  intro h_ e1
  rw [e1]
  refine tX10_pour_10  (r := ?_)
  refine tX10_pour_11  (r := ?_)
  refine tX10_pour_12 (hd := (by omega)) (ha := (by first | assumption | (repeat (first | assumption | exact At.set_eq2 (by first | omega | (simp only [hset, hnew]; omega) | rfl | decide) | exact At.new_eq2 _ _ (by first | omega | (simp only [hset, hnew]; omega) | rfl | decide) | refine At.set_ne ?_ (by first | omega | (simp only [hset, hnew]; omega) | rfl | decide) | refine At.new_ne ?_)))) (call := s_checkLabel_ok (d := 6) (QX := fun _ _ => False) c hb q2) (kx := fun E_ h_ hx_ => by exact hx_.elim) (k := ?_)
  intro h_ e2
  rw [e2]
  refine tX10_pour_15  (r := ?_)
  refine tX10_pour_16  (r := ?_)
  refine tX10_pour_17  (kt := fun c_17 => ?_) (kf := fun c_17 => ?_)
  · refine tX10_pour_34 (hdd := (by omega)) (hP := ?_)
    exact ck_throw c hh (Or.inr ⟨rfl, by decide, rfl⟩)
  · have g1 : ¬ j1 = j2 := fun z => c_17 (by rw [z])
    refine tX10_pour_20  (r := ?_)
    refine tX10_pour_22  (r := ?_)
    refine tX10_pour_23  (kt := fun c_23 => ?_) (kf := fun c_23 => ?_)
    · refine tX10_pour_34 (hdd := (by omega)) (hP := ?_)
      exact ck_throw c hh (Or.inr ⟨rfl, by decide, rfl⟩)
    · refine tX10_pour_26  (r := ?_)
      refine tX10_pour_28  (r := ?_)
      refine tX10_pour_31  (kt := fun c_ => by exfalso; exact g.elim g1 (fun z => z.elim c_23 (fun y => Int32.not_lt.mpr c_ y))) (kf := fun _ => ?_)
      refine tX10_pour_34 (hdd := (by omega)) (hP := ?_)
      exact ck_throw c hh (Or.inr ⟨rfl, by decide, rfl⟩)

end PU