/-! allianceBeans, marginIn, putLid -/
section MA
variable {G : GT} {d : Nat} {h : AH} {bk dr : Nat} {s : ST}
theorem sec_ext {p : Nat → Nat} {f : Option Nat} {n : Nat} : ∀ m, n ≤ m → (∀ i, n ≤ i → i < m → p i = 0) → sec p f m = sec p f n
  | 0, h, _ => by
    have : n = 0 := by omega
    rw [this]
  | m + 1, h, hz => by
    by_cases e : n = m + 1
    · rw [e]
    · have e2 := sec_ext (p := p) (f := f) m (by omega) (fun i h1 h2 => hz i h1 (by omega))
      have e3 := hz m (by omega) (by omega)
      show (if f = some m then sec p f m else max (sec p f m) (p m)) = _
      rw [e2, e3]
      split
      · rfl
      · exact Nat.max_eq_left (Nat.zero_le _)
theorem mar_some {p : Nat → Nat} {f : Nat} (e : fiN p 6 = some f) : mar p = p f - sec p (some f) 6 := by
  unfold mar
  rw [e]
theorem mar_none {p : Nat → Nat} (e : fiN p 6 = none) : mar p = 0 := by
  unfold mar
  rw [e]
theorem nI_maxN {a b : Nat} (ha : a < 2147483648) (hb : b < 2147483648) : (if nI a < nI b then nI b else nI a) = nI (max a b) := by
  by_cases e : a < b
  · rw [if_pos ((nI_ltI ha hb).mpr e), Nat.max_eq_right (by omega)]
  · rw [if_neg (fun z => e ((nI_ltI ha hb).mp z)), Nat.max_eq_left (by omega)]

set_option maxHeartbeats 4000000 in
set_option maxRecDepth 100000 in
theorem k_allianceBeans_ok (hd : 7 ≤ d) (c : ClR h 0 bk dr s) (hb : BDok s.2.2.1 s.2.2.2) (hh : 216 ≤ h.1) {j0 : Nat} (q0 : j0 < bJa s.2.2.1) {j1 : Nat} (q1 : j1 < bLa s.2.2.1) : RQ G mX10_allianceBeans d 0 [some (.ref 0), some (.int (nI j0)), some (.int (nI j1))] [] h (CK h bk dr s "java/lang/IndexOutOfBoundsException" "" 0 (nI ((po (rt (dF s.2.2.2)) (dB s.2.2.2 j0)) (rt (dF s.2.2.2) j1)))) := by
  have c1 := c.poll
  have cb := c.book
  obtain ⟨jf, lj, fo, le, u0, u1, u2, u3, u4, u5, u6, u7, u8, u9⟩ := id c.2.2.2.2.1
  have l1 := hb.1
  have l2 := hb.2.1
  have l3 := hb.2.2.1
  have r6 := rt_lt6 hb j1 (by omega)
  refine tX10_allianceBeans_0  (r := ?_)
  refine tX10_allianceBeans_1  (r := ?_)
  refine tX10_allianceBeans_2 (hd := (by omega)) (ha := (by first | assumption | (repeat (first | assumption | exact At.set_eq2 (by first | omega | (simp only [hset, hnew]; omega) | rfl | decide) | exact At.new_eq2 _ _ (by first | omega | (simp only [hset, hnew]; omega) | rfl | decide) | refine At.set_ne ?_ (by first | omega | (simp only [hset, hnew]; omega) | rfl | decide) | refine At.new_ne ?_)))) (call := s_checkJar_ok (d := 6) (QX := fun _ _ => False) c hb q0) (kx := fun E_ h_ hx_ => by exact hx_.elim) (k := ?_)
  intro h_ e0
  rw [e0]
  refine tX10_allianceBeans_5  (r := ?_)
  refine tX10_allianceBeans_6  (r := ?_)
  refine tX10_allianceBeans_7 (hd := (by omega)) (ha := (by first | assumption | (repeat (first | assumption | exact At.set_eq2 (by first | omega | (simp only [hset, hnew]; omega) | rfl | decide) | exact At.new_eq2 _ _ (by first | omega | (simp only [hset, hnew]; omega) | rfl | decide) | refine At.set_ne ?_ (by first | omega | (simp only [hset, hnew]; omega) | rfl | decide) | refine At.new_ne ?_)))) (call := s_checkLabel_ok (d := 6) (QX := fun _ _ => False) c hb q1) (kx := fun E_ h_ hx_ => by exact hx_.elim) (k := ?_)
  intro h_ e1
  rw [e1]
  refine tX10_allianceBeans_10  (r := ?_)
  refine tX10_allianceBeans_11 (ha := (by first | assumption | (repeat (first | assumption | exact At.set_eq2 (by first | omega | (simp only [hset, hnew]; omega) | rfl | decide) | exact At.new_eq2 _ _ (by first | omega | (simp only [hset, hnew]; omega) | rfl | decide) | refine At.set_ne ?_ (by first | omega | (simp only [hset, hnew]; omega) | rfl | decide) | refine At.new_ne ?_)))) (hv := rfl) (r := ?_)
  refine tX10_allianceBeans_14  (r := ?_)
  refine tX10_allianceBeans_15 (hd := (by omega)) (ha := (by first | assumption | (repeat (first | assumption | exact At.set_eq2 (by first | omega | (simp only [hset, hnew]; omega) | rfl | decide) | exact At.new_eq2 _ _ (by first | omega | (simp only [hset, hnew]; omega) | rfl | decide) | refine At.set_ne ?_ (by first | omega | (simp only [hset, hnew]; omega) | rfl | decide) | refine At.new_ne ?_)))) (call := (s_counted (d := 3) (by decide) c.2.2.2.2.1 hb (show j0 < 8 by omega)).imp (fun o9 h9 q9 => (⟨_, q9.1, rfl, q9.2⟩ : Rr (fun r h1 => r = 0 + 66 + 5 + 5 * j0 ∧ JaC h1 (0 + 66 + 5 + 5 * j0) (dB s.2.2.2 j0) (bSe s.2.2.1 j0) (bWy s.2.2.1 j0) (rt (dF s.2.2.2)) ∧ CuR h1 (0 + 66) s.2.2.1 s.2.2.2 ∧ Sm h h1 (0 + 66 + 5 + 5 * j0) (0 + 66 + 5 + 5 * j0 + 5)) o9 h9))) (k := ?_)
  rintro jj h1 ⟨rfl, q9⟩
  obtain ⟨jc, cu, sm⟩ := q9
  have cl := c.now cu sm (by omega) (by omega)
  have chh : Ch h h1 0 216 0 0 := sm.ch (Nat.zero_le _) (by omega)
  obtain ⟨bf, p, w, l, tu, fi, ma, ⟨b0, b1, b2, b3, b4⟩, hb2, cp, cw_, ct, cf, cm⟩ := jc
  obtain ⟨jf', lj', fo', le', v0, v1, v2, v3, v4, v5, v6, v7, v8, v9⟩ := id cu
  have c1 := cl.poll
  refine tX10_allianceBeans_18 (ha := (by first | assumption | (repeat (first | assumption | exact At.set_eq2 (by first | omega | (simp only [hset, hnew]; omega) | rfl | decide) | exact At.new_eq2 _ _ (by first | omega | (simp only [hset, hnew]; omega) | rfl | decide) | refine At.set_ne ?_ (by first | omega | (simp only [hset, hnew]; omega) | rfl | decide) | refine At.new_ne ?_)))) (hv := rfl) (r := ?_)
  refine tX10_allianceBeans_21  (r := ?_)
  refine tX10_allianceBeans_22 (ha := (by first | assumption | (repeat (first | assumption | exact At.set_eq2 (by first | omega | (simp only [hset, hnew]; omega) | rfl | decide) | exact At.new_eq2 _ _ (by first | omega | (simp only [hset, hnew]; omega) | rfl | decide) | refine At.set_ne ?_ (by first | omega | (simp only [hset, hnew]; omega) | rfl | decide) | refine At.new_ne ?_)))) (hv := rfl) (r := ?_)
  refine tX10_allianceBeans_25 (ha := (by first | assumption | (repeat (first | assumption | exact At.set_eq2 (by first | omega | (simp only [hset, hnew]; omega) | rfl | decide) | exact At.new_eq2 _ _ (by first | omega | (simp only [hset, hnew]; omega) | rfl | decide) | refine At.set_ne ?_ (by first | omega | (simp only [hset, hnew]; omega) | rfl | decide) | refine At.new_ne ?_)))) (hv := rfl) (r := ?_)
  refine tX10_allianceBeans_28  (r := ?_)
  refine tX10_allianceBeans_29 (ha := (by first | assumption | (repeat (first | assumption | exact At.set_eq2 (by first | omega | (simp only [hset, hnew]; omega) | rfl | decide) | exact At.new_eq2 _ _ (by first | omega | (simp only [hset, hnew]; omega) | rfl | decide) | refine At.set_ne ?_ (by first | omega | (simp only [hset, hnew]; omega) | rfl | decide) | refine At.new_ne ?_)))) (hx := rfl) (hj := (by omega)) (hn := (by decide)) (r := ?_)
  rw [v8 _ (by omega)]
  refine tX10_allianceBeans_30 (ha := (by first | assumption | (repeat (first | assumption | exact At.set_eq2 (by first | omega | (simp only [hset, hnew]; omega) | rfl | decide) | exact At.new_eq2 _ _ (by first | omega | (simp only [hset, hnew]; omega) | rfl | decide) | refine At.set_ne ?_ (by first | omega | (simp only [hset, hnew]; omega) | rfl | decide) | refine At.new_ne ?_)))) (hx := rfl) (hj := r6) (hn := (by decide)) (r := ?_)
  rw [cp _ r6]
  refine tX10_allianceBeans_31  (hP := ?_)
  exact ck_val cl chh

set_option maxHeartbeats 4000000 in
set_option maxRecDepth 100000 in
theorem k_marginIn_ok (hd : 7 ≤ d) (c : ClR h 0 bk dr s) (hb : BDok s.2.2.1 s.2.2.2) (hh : 216 ≤ h.1) {j0 : Nat} (q0 : j0 < bJa s.2.2.1) : RQ G mX10_marginIn d 0 [some (.ref 0), some (.int (nI j0))] [] h (CK h bk dr s "java/lang/IndexOutOfBoundsException" "" 0 (nI (mar (po (rt (dF s.2.2.2)) (dB s.2.2.2 j0))))) := by
  have c1 := c.poll
  have cb := c.book
  obtain ⟨jf, lj, fo, le, u0, u1, u2, u3, u4, u5, u6, u7, u8, u9⟩ := id c.2.2.2.2.1
  have l1 := hb.1
  have l2 := hb.2.1
  have l3 := hb.2.2.1
  refine tX10_marginIn_0  (r := ?_)
  refine tX10_marginIn_1  (r := ?_)
  refine tX10_marginIn_2 (hd := (by omega)) (ha := (by first | assumption | (repeat (first | assumption | exact At.set_eq2 (by first | omega | (simp only [hset, hnew]; omega) | rfl | decide) | exact At.new_eq2 _ _ (by first | omega | (simp only [hset, hnew]; omega) | rfl | decide) | refine At.set_ne ?_ (by first | omega | (simp only [hset, hnew]; omega) | rfl | decide) | refine At.new_ne ?_)))) (call := s_checkJar_ok (d := 6) (QX := fun _ _ => False) c hb q0) (kx := fun E_ h_ hx_ => by exact hx_.elim) (k := ?_)
  intro h_ e0
  rw [e0]
  refine tX10_marginIn_5  (r := ?_)
  refine tX10_marginIn_6 (ha := (by first | assumption | (repeat (first | assumption | exact At.set_eq2 (by first | omega | (simp only [hset, hnew]; omega) | rfl | decide) | exact At.new_eq2 _ _ (by first | omega | (simp only [hset, hnew]; omega) | rfl | decide) | refine At.set_ne ?_ (by first | omega | (simp only [hset, hnew]; omega) | rfl | decide) | refine At.new_ne ?_)))) (hv := rfl) (r := ?_)
  refine tX10_marginIn_9  (r := ?_)
  refine tX10_marginIn_10 (hd := (by omega)) (ha := (by first | assumption | (repeat (first | assumption | exact At.set_eq2 (by first | omega | (simp only [hset, hnew]; omega) | rfl | decide) | exact At.new_eq2 _ _ (by first | omega | (simp only [hset, hnew]; omega) | rfl | decide) | refine At.set_ne ?_ (by first | omega | (simp only [hset, hnew]; omega) | rfl | decide) | refine At.new_ne ?_)))) (call := (s_counted (d := 3) (by decide) c.2.2.2.2.1 hb (show j0 < 8 by omega)).imp (fun o9 h9 q9 => (⟨_, q9.1, rfl, q9.2⟩ : Rr (fun r h1 => r = 0 + 66 + 5 + 5 * j0 ∧ JaC h1 (0 + 66 + 5 + 5 * j0) (dB s.2.2.2 j0) (bSe s.2.2.1 j0) (bWy s.2.2.1 j0) (rt (dF s.2.2.2)) ∧ CuR h1 (0 + 66) s.2.2.1 s.2.2.2 ∧ Sm h h1 (0 + 66 + 5 + 5 * j0) (0 + 66 + 5 + 5 * j0 + 5)) o9 h9))) (k := ?_)
  rintro jj h1 ⟨rfl, q9⟩
  obtain ⟨jc, cu, sm⟩ := q9
  have cl := c.now cu sm (by omega) (by omega)
  have chh : Ch h h1 0 216 0 0 := sm.ch (Nat.zero_le _) (by omega)
  obtain ⟨bf, p, w, l, tu, fi, ma, ⟨b0, b1, b2, b3, b4⟩, hb2, cp, cw_, ct, cf, cm⟩ := jc
  refine tX10_marginIn_13 (ha := (by first | assumption | (repeat (first | assumption | exact At.set_eq2 (by first | omega | (simp only [hset, hnew]; omega) | rfl | decide) | exact At.new_eq2 _ _ (by first | omega | (simp only [hset, hnew]; omega) | rfl | decide) | refine At.set_ne ?_ (by first | omega | (simp only [hset, hnew]; omega) | rfl | decide) | refine At.new_ne ?_)))) (hv := rfl) (r := ?_)
  rw [cm]
  refine tX10_marginIn_16  (hP := ?_)
  exact ck_val cl chh

set_option maxHeartbeats 4000000 in
set_option maxRecDepth 100000 in
theorem k_putLid_ok (hd : 7 ≤ d) (c : ClR h 0 bk dr s) (hb : BDok s.2.2.1 s.2.2.2) (hh : 216 ≤ h.1) {j0 : Nat} (q0 : j0 < bLi s.2.2.1) {j1 : Nat} (q1 : j1 < bJa s.2.2.1) : RQ G mX10_putLid d 0 [some (.ref 0), some (.int (nI j0)), some (.int (nI j1)), none] [] h (CK h bk dr (s.1, s.2.1, s.2.2.1, (dDay s.2.2.2, dB s.2.2.2, (fun i => if i = j0 then j1 else dL s.2.2.2 i), dF s.2.2.2)) "java/lang/IndexOutOfBoundsException" "" 0 (nI (dL s.2.2.2 j0))) := by
  have c1 := c.poll
  have cb := c.book
  obtain ⟨jf, lj, fo, le, u0, u1, u2, u3, u4, u5, u6, u7, u8, u9⟩ := id c.2.2.2.2.1
  have l1 := hb.1
  have l2 := hb.2.1
  have l3 := hb.2.2.1
  refine tX10_putLid_0  (r := ?_)
  refine tX10_putLid_1  (r := ?_)
  refine tX10_putLid_2 (hd := (by omega)) (ha := (by first | assumption | (repeat (first | assumption | exact At.set_eq2 (by first | omega | (simp only [hset, hnew]; omega) | rfl | decide) | exact At.new_eq2 _ _ (by first | omega | (simp only [hset, hnew]; omega) | rfl | decide) | refine At.set_ne ?_ (by first | omega | (simp only [hset, hnew]; omega) | rfl | decide) | refine At.new_ne ?_)))) (call := s_checkLid_ok (d := 6) (QX := fun _ _ => False) c hb q0) (kx := fun E_ h_ hx_ => by exact hx_.elim) (k := ?_)
  intro h_ e0
  rw [e0]
  refine tX10_putLid_5  (r := ?_)
  refine tX10_putLid_6  (r := ?_)
  refine tX10_putLid_7 (hd := (by omega)) (ha := (by first | assumption | (repeat (first | assumption | exact At.set_eq2 (by first | omega | (simp only [hset, hnew]; omega) | rfl | decide) | exact At.new_eq2 _ _ (by first | omega | (simp only [hset, hnew]; omega) | rfl | decide) | refine At.set_ne ?_ (by first | omega | (simp only [hset, hnew]; omega) | rfl | decide) | refine At.new_ne ?_)))) (call := s_checkJar_ok (d := 6) (QX := fun _ _ => False) c hb q1) (kx := fun E_ h_ hx_ => by exact hx_.elim) (k := ?_)
  intro h_ e1
  rw [e1]
  refine tX10_putLid_10  (r := ?_)
  refine tX10_putLid_11 (ha := (by first | assumption | (repeat (first | assumption | exact At.set_eq2 (by first | omega | (simp only [hset, hnew]; omega) | rfl | decide) | exact At.new_eq2 _ _ (by first | omega | (simp only [hset, hnew]; omega) | rfl | decide) | refine At.set_ne ?_ (by first | omega | (simp only [hset, hnew]; omega) | rfl | decide) | refine At.new_ne ?_)))) (hv := rfl) (r := ?_)
  refine tX10_putLid_14 (ha := (by first | assumption | (repeat (first | assumption | exact At.set_eq2 (by first | omega | (simp only [hset, hnew]; omega) | rfl | decide) | exact At.new_eq2 _ _ (by first | omega | (simp only [hset, hnew]; omega) | rfl | decide) | refine At.set_ne ?_ (by first | omega | (simp only [hset, hnew]; omega) | rfl | decide) | refine At.new_ne ?_)))) (hv := rfl) (r := ?_)
  refine tX10_putLid_17  (r := ?_)
  refine tX10_putLid_18 (ha := (by first | assumption | (repeat (first | assumption | exact At.set_eq2 (by first | omega | (simp only [hset, hnew]; omega) | rfl | decide) | exact At.new_eq2 _ _ (by first | omega | (simp only [hset, hnew]; omega) | rfl | decide) | refine At.set_ne ?_ (by first | omega | (simp only [hset, hnew]; omega) | rfl | decide) | refine At.new_ne ?_)))) (hx := rfl) (hj := (by omega)) (hn := (by decide)) (r := ?_)
  rw [u6 _ (by omega)]
  refine tX10_putLid_19 (ho := rfl) (r := ?_)
  refine tX10_putLid_20  (r := ?_)
  refine tX10_putLid_21 (ha := (by first | assumption | (repeat (first | assumption | exact At.set_eq2 (by first | omega | (simp only [hset, hnew]; omega) | rfl | decide) | exact At.new_eq2 _ _ (by first | omega | (simp only [hset, hnew]; omega) | rfl | decide) | refine At.set_ne ?_ (by first | omega | (simp only [hset, hnew]; omega) | rfl | decide) | refine At.new_ne ?_)))) (hv := rfl) (r := ?_)
  refine tX10_putLid_24 (ha := (by first | assumption | (repeat (first | assumption | exact At.set_eq2 (by first | omega | (simp only [hset, hnew]; omega) | rfl | decide) | exact At.new_eq2 _ _ (by first | omega | (simp only [hset, hnew]; omega) | rfl | decide) | refine At.set_ne ?_ (by first | omega | (simp only [hset, hnew]; omega) | rfl | decide) | refine At.new_ne ?_)))) (hv := rfl) (r := ?_)
  refine tX10_putLid_27  (r := ?_)
  refine tX10_putLid_28  (r := ?_)
  refine tX10_putLid_29 (ha := (by first | assumption | (repeat (first | assumption | exact At.set_eq2 (by first | omega | (simp only [hset, hnew]; omega) | rfl | decide) | exact At.new_eq2 _ _ (by first | omega | (simp only [hset, hnew]; omega) | rfl | decide) | refine At.set_ne ?_ (by first | omega | (simp only [hset, hnew]; omega) | rfl | decide) | refine At.new_ne ?_)))) (hx := rfl) (hj := (by omega)) (hn := (by decide)) (r := ?_)
  refine tX10_putLid_30  (r := ?_)
  refine tX10_putLid_31  (hP := ?_)
  have sm : Sm h (hset h (0 + 66 + 2) (.inl (0, 6, .inl (upd lj j0 (nI j1))))) (0 + 66 + 2) (0 + 66 + 3) := (Sm.rf _ _ _).set (Nat.le_refl _) (by omega)
  refine ck_val (c.now (D := (dDay s.2.2.2, dB s.2.2.2, (fun i => if i = j0 then j1 else dL s.2.2.2 i), dF s.2.2.2)) ⟨jf, upd lj j0 (nI j1), fo, le, sm.at u0 (by omega), sm.at u1 (by omega), At.set_eq2 u2.1, sm.at u3 (by omega), sm.at u4 (by omega), u5, fun i hi => ?_, u7, u8, fun i hi => (u9 i hi).keep (Nat.le_refl _) (Un.set (Un.rf _ _ _) (by omega))⟩ sm (by omega) (by omega)) (sm.ch (by omega) (by omega))
  show (if i = j0 then nI j1 else lj i) = nI (if i = j0 then j1 else dL s.2.2.2 i)
  by_cases e : i = j0
  · rw [if_pos e, if_pos e]
  · rw [if_neg e, if_neg e, u6 i hi]

theorem MoT.now {th : Int32} (c : MoT h 216 th s) {f : Nat → Int32} (D : DY) (n0 : f 0 = dDay D) (nb : ∀ j k, j < bJa s.2.2.1 → k < bLa s.2.2.1 → f (1 + 6 * j + k) = nI (dB D j k)) (nf : ∀ k, k < bLa s.2.2.1 → f (49 + k) = oI (dF D k)) (nl : ∀ i, i < bLi s.2.2.1 → f (55 + i) = nI (dL D i)) : MoT (hset h (216 + 48) (.inl (0, 61, .inl f))) 216 th (s.1, s.2.1, s.2.2.1, D) := by
  obtain ⟨⟨tk, iw, er, et, dp, nm, a⟩, ⟨-, ⟨f1, a1, c1⟩, a2, a3, a4, a5, a6, a7, a8, ⟨ru, ac, no, a9⟩, ⟨b1, b2, b3, b4, b5, b6, a28⟩, a47, ⟨g, a48, hg⟩, a49, a50, a51, a52⟩, c3⟩ := c
  have e : h.1 ≤ (hset h (216 + 48) (.inl (0, 61, .inl f))).1 := Nat.le_refl _
  have u1 : Un h (hset h (216 + 48) (.inl (0, 61, .inl f))) 216 (216 + 48) := Un.set (Un.rf _ _ _) (by omega)
  have u2 : Un h (hset h (216 + 48) (.inl (0, 61, .inl f))) (216 + 49) (216 + 53) := Un.set (Un.rf _ _ _) (by omega)
  have am := a.keep e (u1 _ (by omega) (by omega))
  obtain ⟨⟨f1', a1', c1'⟩, ⟨f2, a2', c2⟩, ⟨f3, a3', c3'⟩, ⟨f4, a4', c4⟩, ⟨f5, a5', c5⟩⟩ := c3
  exact ⟨⟨tk, iw, er, et, dp, nm, am⟩, ⟨⟨th, tk, iw, er, et, dp, nm, am⟩, ⟨f1, a1.keep e (u1 _ (by omega) (by omega)), c1⟩, a2.keep e (u1 _ (by omega) (by omega)), a3.keep e (u1 _ (by omega) (by omega)), a4.keep e (u1 _ (by omega) (by omega)), a5.keep e (u1 _ (by omega) (by omega)), a6.keep e (u1 _ (by omega) (by omega)), a7.keep e (u1 _ (by omega) (by omega)), a8.keep e (u1 _ (by omega) (by omega)), ⟨ru, ac, no, a9.keep e (u1.sub (by omega) (by omega))⟩, ⟨b1, b2, b3, b4, b5, b6, a28.keep e (u1.sub (by omega) (by omega))⟩, a47.keep e (u1 _ (by omega) (by omega)), ⟨f, At.set_eq2 a48.1, n0, nb, nf, nl⟩, a49.keep e (u2 _ (by omega) (by omega)), a50.keep e (u2 _ (by omega) (by omega)), a51.keep e (u2 _ (by omega) (by omega)), a52.keep e (u2 _ (by omega) (by omega))⟩,
    ⟨f1', a1'.keep e (u1 _ (by omega) (by omega)), c1'⟩, ⟨f2, a2'.keep e (u1 _ (by omega) (by omega)), c2⟩, ⟨f3, a3'.keep e (u1 _ (by omega) (by omega)), c3'⟩, ⟨f4, a4'.keep e (u1 _ (by omega) (by omega)), c4⟩, ⟨f5, a5'.keep e (u1 _ (by omega) (by omega)), c5⟩⟩
end MA