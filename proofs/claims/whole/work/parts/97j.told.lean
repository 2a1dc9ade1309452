/-! the reference keeps what it was taught -/
section RTJ
variable {G : GT} {d : Nat} {h : AH}
theorem cp_in {f g : Nat → Int32} {sp dp n k : Nat} (e : dp ≤ k ∧ k < dp + n) : va_cpy f g sp dp n k = f (sp + (k - dp)) := if_pos e
theorem cp_out {f g : Nat → Int32} {sp dp n k : Nat} (e : ¬ (dp ≤ k ∧ k < dp + n)) : va_cpy f g sp dp n k = g k := if_neg e
theorem At.fn {i n : Nat} {f g : Nat → Int32} (a : At h i (.inl (0, n, .inl f))) (b : At h i (.inl (0, n, .inl g))) : f = g := by
  have e := a.2.symm.trans b.2
  injection e with e
  injection e with _ e
  injection e with _ e
  injection e

set_option maxHeartbeats 4000000 in
set_option maxRecDepth 100000 in
theorem s_copy (hd : 2 ≤ d) {a b n : Nat} {f g : Nat → Int32} (a0 : At h a (.inl (0, n, .inl f))) (b0 : At h b (.inl (0, n, .inl g))) (hn : n < 2147483648) : RQ G mX11_copy d 0 [some (.ref a), some (.ref b)] [] h (Rv fun h1 => h1 = hset h b (.inl (0, n, .inl (va_cpy f g 0 0 n)))) := by
  refine tX11_copy_0  (r := ?_)
  refine tX11_copy_1  (r := ?_)
  refine tX11_copy_2  (r := ?_)
  refine tX11_copy_3  (r := ?_)
  refine tX11_copy_4  (r := ?_)
  refine tX11_copy_5 (ha := b0) (r := ?_)
  refine tX11_copy_6 (hd := (by omega)) (ha0 := a0) (ha1 := b0) (hxs := rfl) (hxd := rfl) (hxn := rfl) (hb0 := (by omega)) (hb1 := (by omega)) (hn0 := hn) (hn1 := hn) (r := ?_)
  refine tX11_copy_9  (hP := ?_)
  exact ⟨rfl, rfl⟩

/-- so many rows are copied -/
def BcI (h0 H : AH) (b q : Nat) (la ja li ru ac no : Int32) (j : Nat) : Prop := At H b (MBoO b la ja li ru ac no) ∧ At H q (MBoO q la ja li ru ac no) ∧ (∀ k, k < 18 → ArI H (b + 1 + k) (mbLen k)) ∧ (∀ k, k < 18 → ArI h0 (q + 1 + k) (mbLen k)) ∧ (∀ k, k < j → ∀ f, At h0 (q + 1 + k) (.inl (0, mbLen k, .inl f)) → ∃ f' : Nat → Int32, At H (b + 1 + k) (.inl (0, mbLen k, .inl f')) ∧ ∀ i, i < mbLen k → f' i = f i) ∧ Sm h0 H b (b + 19)
theorem BcI.step {h0 H : AH} {b q j : Nat} {la ja li ru ac no : Int32} (I : BcI h0 H b q la ja li ru ac no j) (hq : b + 19 ≤ q) (hj : j < 18) {f g : Nat → Int32} (x : At H (b + 1 + j) (.inl (0, mbLen j, .inl f))) (y : At H (q + 1 + j) (.inl (0, mbLen j, .inl g))) : BcI h0 (hset H (b + 1 + j) (.inl (0, mbLen j, .inl (va_cpy g f 0 0 (mbLen j))))) b q la ja li ru ac no (j + 1) := by
  obtain ⟨i1, i2, i3, i4, i5, i6⟩ := I
  refine ⟨At.set_ne i1 (by omega), At.set_ne i2 (by omega), fun k hk => ?_, i4, fun k hk f2 a2 => ?_, i6.set (by omega) (by omega)⟩
  · by_cases e : k = j
    · subst e
      exact ⟨_, At.set_eq2 x.1⟩
    · obtain ⟨f3, a3⟩ := i3 k hk
      exact ⟨f3, At.set_ne a3 (by omega)⟩
  · by_cases e : k = j
    · subst e
      have e2 : g = f2 := y.fn (i6.at a2 (by omega))
      refine ⟨_, At.set_eq2 x.1, fun i hi => ?_⟩
      rw [cp_in ⟨Nat.zero_le _, by omega⟩, e2]
      congr 1
      omega
    · obtain ⟨f3, a3, c3⟩ := i5 k (by omega) f2 a2
      exact ⟨f3, At.set_ne a3 (by omega), c3⟩

set_option maxHeartbeats 4000000 in
set_option maxRecDepth 100000 in
theorem s_become (hd : 4 ≤ d) {b q : Nat} (hq : b + 19 ≤ q) {la0 ja0 li0 ru0 ac0 no0 la ja li ru ac no : Int32} (a0 : At h b (MBoO b la0 ja0 li0 ru0 ac0 no0)) (aq : At h q (MBoO q la ja li ru ac no)) (fs : ∀ k, k < 18 → ArI h (b + 1 + k) (mbLen k)) (gs : ∀ k, k < 18 → ArI h (q + 1 + k) (mbLen k)) : RQ G mX11_become d 0 [some (.ref b), some (.ref q)] [] h (Rv fun h1 => BcI h h1 b q la ja li ru ac no 18) := by
  have z0 := a0.1
  refine tX11_become_0  (r := ?_)
  refine tX11_become_1  (r := ?_)
  refine tX11_become_2 (ha := (by first | assumption | (repeat (first | assumption | exact At.set_eq2 (by first | omega | (simp only [hset, hnew]; omega) | rfl | decide) | exact At.new_eq2 _ _ (by first | omega | (simp only [hset, hnew]; omega) | rfl | decide) | refine At.set_ne ?_ (by first | omega | (simp only [hset, hnew]; omega) | rfl | decide) | refine At.new_ne ?_)))) (hv := rfl) (r := ?_)
  refine tX11_become_5 (ha := (by first | assumption | (repeat (first | assumption | exact At.set_eq2 (by first | omega | (simp only [hset, hnew]; omega) | rfl | decide) | exact At.new_eq2 _ _ (by first | omega | (simp only [hset, hnew]; omega) | rfl | decide) | refine At.set_ne ?_ (by first | omega | (simp only [hset, hnew]; omega) | rfl | decide) | refine At.new_ne ?_)))) (hlen := rfl) (r := ?_)
  refine tX11_become_8  (r := ?_)
  refine tX11_become_9  (r := ?_)
  refine tX11_become_10 (ha := (by first | assumption | (repeat (first | assumption | exact At.set_eq2 (by first | omega | (simp only [hset, hnew]; omega) | rfl | decide) | exact At.new_eq2 _ _ (by first | omega | (simp only [hset, hnew]; omega) | rfl | decide) | refine At.set_ne ?_ (by first | omega | (simp only [hset, hnew]; omega) | rfl | decide) | refine At.new_ne ?_)))) (hv := rfl) (r := ?_)
  refine tX11_become_13 (ha := (by first | assumption | (repeat (first | assumption | exact At.set_eq2 (by first | omega | (simp only [hset, hnew]; omega) | rfl | decide) | exact At.new_eq2 _ _ (by first | omega | (simp only [hset, hnew]; omega) | rfl | decide) | refine At.set_ne ?_ (by first | omega | (simp only [hset, hnew]; omega) | rfl | decide) | refine At.new_ne ?_)))) (hlen := rfl) (r := ?_)
  refine tX11_become_16  (r := ?_)
  refine tX11_become_17  (r := ?_)
  refine tX11_become_18 (ha := (by first | assumption | (repeat (first | assumption | exact At.set_eq2 (by first | omega | (simp only [hset, hnew]; omega) | rfl | decide) | exact At.new_eq2 _ _ (by first | omega | (simp only [hset, hnew]; omega) | rfl | decide) | refine At.set_ne ?_ (by first | omega | (simp only [hset, hnew]; omega) | rfl | decide) | refine At.new_ne ?_)))) (hv := rfl) (r := ?_)
  refine tX11_become_21 (ha := (by first | assumption | (repeat (first | assumption | exact At.set_eq2 (by first | omega | (simp only [hset, hnew]; omega) | rfl | decide) | exact At.new_eq2 _ _ (by first | omega | (simp only [hset, hnew]; omega) | rfl | decide) | refine At.set_ne ?_ (by first | omega | (simp only [hset, hnew]; omega) | rfl | decide) | refine At.new_ne ?_)))) (hlen := rfl) (r := ?_)
  refine tX11_become_24  (r := ?_)
  refine tX11_become_25  (r := ?_)
  refine tX11_become_26 (ha := (by first | assumption | (repeat (first | assumption | exact At.set_eq2 (by first | omega | (simp only [hset, hnew]; omega) | rfl | decide) | exact At.new_eq2 _ _ (by first | omega | (simp only [hset, hnew]; omega) | rfl | decide) | refine At.set_ne ?_ (by first | omega | (simp only [hset, hnew]; omega) | rfl | decide) | refine At.new_ne ?_)))) (hv := rfl) (r := ?_)
  refine tX11_become_29 (ha := (by first | assumption | (repeat (first | assumption | exact At.set_eq2 (by first | omega | (simp only [hset, hnew]; omega) | rfl | decide) | exact At.new_eq2 _ _ (by first | omega | (simp only [hset, hnew]; omega) | rfl | decide) | refine At.set_ne ?_ (by first | omega | (simp only [hset, hnew]; omega) | rfl | decide) | refine At.new_ne ?_)))) (hlen := rfl) (r := ?_)
  refine tX11_become_32  (r := ?_)
  refine tX11_become_33  (r := ?_)
  refine tX11_become_34 (ha := (by first | assumption | (repeat (first | assumption | exact At.set_eq2 (by first | omega | (simp only [hset, hnew]; omega) | rfl | decide) | exact At.new_eq2 _ _ (by first | omega | (simp only [hset, hnew]; omega) | rfl | decide) | refine At.set_ne ?_ (by first | omega | (simp only [hset, hnew]; omega) | rfl | decide) | refine At.new_ne ?_)))) (hv := rfl) (r := ?_)
  refine tX11_become_37 (ha := (by first | assumption | (repeat (first | assumption | exact At.set_eq2 (by first | omega | (simp only [hset, hnew]; omega) | rfl | decide) | exact At.new_eq2 _ _ (by first | omega | (simp only [hset, hnew]; omega) | rfl | decide) | refine At.set_ne ?_ (by first | omega | (simp only [hset, hnew]; omega) | rfl | decide) | refine At.new_ne ?_)))) (hlen := rfl) (r := ?_)
  refine tX11_become_40  (r := ?_)
  refine tX11_become_41  (r := ?_)
  refine tX11_become_42 (ha := (by first | assumption | (repeat (first | assumption | exact At.set_eq2 (by first | omega | (simp only [hset, hnew]; omega) | rfl | decide) | exact At.new_eq2 _ _ (by first | omega | (simp only [hset, hnew]; omega) | rfl | decide) | refine At.set_ne ?_ (by first | omega | (simp only [hset, hnew]; omega) | rfl | decide) | refine At.new_ne ?_)))) (hv := rfl) (r := ?_)
  refine tX11_become_45 (ha := (by first | assumption | (repeat (first | assumption | exact At.set_eq2 (by first | omega | (simp only [hset, hnew]; omega) | rfl | decide) | exact At.new_eq2 _ _ (by first | omega | (simp only [hset, hnew]; omega) | rfl | decide) | refine At.set_ne ?_ (by first | omega | (simp only [hset, hnew]; omega) | rfl | decide) | refine At.new_ne ?_)))) (hlen := rfl) (r := ?_)
  refine RQ.gen (fun H => BcI h H b q la ja li ru ac no 0) ⟨At.set_eq2 z0, (by (first | assumption | (repeat (first | assumption | exact At.set_eq2 (by (first | omega | (simp only [hset, hnew]; omega) | rfl | decide)) | exact At.new_eq2 _ _ (by (first | omega | (simp only [hset, hnew]; omega) | rfl | decide)) | refine At.set_ne ?_ (by (first | omega | (simp only [hset, hnew]; omega) | rfl | decide)) | refine At.new_ne ?_)))), fun k hk => ?_, gs, fun k hk => absurd hk (Nat.not_lt_zero k), (((((((Sm.rf h b (b + 19)).set (by omega) (by omega)).set (by omega) (by omega)).set (by omega) (by omega)).set (by omega) (by omega)).set (by omega) (by omega)).set (by omega) (by omega))⟩ (fun H I => ?_)
  · obtain ⟨f_, a_⟩ := fs k hk
    exact ⟨f_, At.set_ne (At.set_ne (At.set_ne (At.set_ne (At.set_ne (At.set_ne a_ (by omega)) (by omega)) (by omega)) (by omega)) (by omega)) (by omega)⟩
  obtain ⟨ib, iq, ia, ig, -, smI⟩ := id I
  obtain ⟨f_, x_⟩ := ia 0 (by decide)
  obtain ⟨g_, yg_⟩ := ig 0 (by decide)
  have x_ : At H (b + 1) (.inl (0, 9, .inl f_)) := x_
  have y_ : At H (q + 1) (.inl (0, 9, .inl g_)) := smI.at yg_ (by omega)
  refine tX11_become_48  (r := ?_)
  refine tX11_become_49 (ha := iq) (hv := rfl) (r := ?_)
  refine tX11_become_52  (r := ?_)
  refine tX11_become_53 (ha := (by first | assumption | (repeat (first | assumption | exact At.set_eq2 (by first | omega | (simp only [hset, hnew]; omega) | rfl | decide) | exact At.new_eq2 _ _ (by first | omega | (simp only [hset, hnew]; omega) | rfl | decide) | refine At.set_ne ?_ (by first | omega | (simp only [hset, hnew]; omega) | rfl | decide) | refine At.new_ne ?_)))) (hv := rfl) (r := ?_)
  refine tX11_become_56 (hd := (by omega)) (call := s_copy (d := 2) (by decide) y_ x_ (by decide)) (k := ?_)
  intro H_ e_
  rw [e_]
  refine RQ.gen (fun H => BcI h H b q la ja li ru ac no 1) (I.step hq (by decide) x_ y_) (fun H I => ?_)
  obtain ⟨ib, iq, ia, ig, -, smI⟩ := id I
  obtain ⟨f_, x_⟩ := ia 1 (by decide)
  obtain ⟨g_, yg_⟩ := ig 1 (by decide)
  have x_ : At H (b + 2) (.inl (0, 9, .inl f_)) := x_
  have y_ : At H (q + 2) (.inl (0, 9, .inl g_)) := smI.at yg_ (by omega)
  refine tX11_become_59  (r := ?_)
  refine tX11_become_60 (ha := iq) (hv := rfl) (r := ?_)
  refine tX11_become_63  (r := ?_)
  refine tX11_become_64 (ha := (by first | assumption | (repeat (first | assumption | exact At.set_eq2 (by first | omega | (simp only [hset, hnew]; omega) | rfl | decide) | exact At.new_eq2 _ _ (by first | omega | (simp only [hset, hnew]; omega) | rfl | decide) | refine At.set_ne ?_ (by first | omega | (simp only [hset, hnew]; omega) | rfl | decide) | refine At.new_ne ?_)))) (hv := rfl) (r := ?_)
  refine tX11_become_67 (hd := (by omega)) (call := s_copy (d := 2) (by decide) y_ x_ (by decide)) (k := ?_)
  intro H_ e_
  rw [e_]
  refine RQ.gen (fun H => BcI h H b q la ja li ru ac no 2) (I.step hq (by decide) x_ y_) (fun H I => ?_)
  obtain ⟨ib, iq, ia, ig, -, smI⟩ := id I
  obtain ⟨f_, x_⟩ := ia 2 (by decide)
  obtain ⟨g_, yg_⟩ := ig 2 (by decide)
  have x_ : At H (b + 3) (.inl (0, 54, .inl f_)) := x_
  have y_ : At H (q + 3) (.inl (0, 54, .inl g_)) := smI.at yg_ (by omega)
  refine tX11_become_70  (r := ?_)
  refine tX11_become_71 (ha := iq) (hv := rfl) (r := ?_)
  refine tX11_become_74  (r := ?_)
  refine tX11_become_75 (ha := (by first | assumption | (repeat (first | assumption | exact At.set_eq2 (by first | omega | (simp only [hset, hnew]; omega) | rfl | decide) | exact At.new_eq2 _ _ (by first | omega | (simp only [hset, hnew]; omega) | rfl | decide) | refine At.set_ne ?_ (by first | omega | (simp only [hset, hnew]; omega) | rfl | decide) | refine At.new_ne ?_)))) (hv := rfl) (r := ?_)
  refine tX11_become_78 (hd := (by omega)) (call := s_copy (d := 2) (by decide) y_ x_ (by decide)) (k := ?_)
  intro H_ e_
  rw [e_]
  refine RQ.gen (fun H => BcI h H b q la ja li ru ac no 3) (I.step hq (by decide) x_ y_) (fun H I => ?_)
  obtain ⟨ib, iq, ia, ig, -, smI⟩ := id I
  obtain ⟨f_, x_⟩ := ia 3 (by decide)
  obtain ⟨g_, yg_⟩ := ig 3 (by decide)
  have x_ : At H (b + 4) (.inl (0, 7, .inl f_)) := x_
  have y_ : At H (q + 4) (.inl (0, 7, .inl g_)) := smI.at yg_ (by omega)
  refine tX11_become_81  (r := ?_)
  refine tX11_become_82 (ha := iq) (hv := rfl) (r := ?_)
  refine tX11_become_85  (r := ?_)
  refine tX11_become_86 (ha := (by first | assumption | (repeat (first | assumption | exact At.set_eq2 (by first | omega | (simp only [hset, hnew]; omega) | rfl | decide) | exact At.new_eq2 _ _ (by first | omega | (simp only [hset, hnew]; omega) | rfl | decide) | refine At.set_ne ?_ (by first | omega | (simp only [hset, hnew]; omega) | rfl | decide) | refine At.new_ne ?_)))) (hv := rfl) (r := ?_)
  refine tX11_become_89 (hd := (by omega)) (call := s_copy (d := 2) (by decide) y_ x_ (by decide)) (k := ?_)
  intro H_ e_
  rw [e_]
  refine RQ.gen (fun H => BcI h H b q la ja li ru ac no 4) (I.step hq (by decide) x_ y_) (fun H I => ?_)
  obtain ⟨ib, iq, ia, ig, -, smI⟩ := id I
  obtain ⟨f_, x_⟩ := ia 4 (by decide)
  obtain ⟨g_, yg_⟩ := ig 4 (by decide)
  have x_ : At H (b + 5) (.inl (0, 7, .inl f_)) := x_
  have y_ : At H (q + 5) (.inl (0, 7, .inl g_)) := smI.at yg_ (by omega)
  refine tX11_become_92  (r := ?_)
  refine tX11_become_93 (ha := iq) (hv := rfl) (r := ?_)
  refine tX11_become_96  (r := ?_)
  refine tX11_become_97 (ha := (by first | assumption | (repeat (first | assumption | exact At.set_eq2 (by first | omega | (simp only [hset, hnew]; omega) | rfl | decide) | exact At.new_eq2 _ _ (by first | omega | (simp only [hset, hnew]; omega) | rfl | decide) | refine At.set_ne ?_ (by first | omega | (simp only [hset, hnew]; omega) | rfl | decide) | refine At.new_ne ?_)))) (hv := rfl) (r := ?_)
  refine tX11_become_100 (hd := (by omega)) (call := s_copy (d := 2) (by decide) y_ x_ (by decide)) (k := ?_)
  intro H_ e_
  rw [e_]
  refine RQ.gen (fun H => BcI h H b q la ja li ru ac no 5) (I.step hq (by decide) x_ y_) (fun H I => ?_)
  obtain ⟨ib, iq, ia, ig, -, smI⟩ := id I
  obtain ⟨f_, x_⟩ := ia 5 (by decide)
  obtain ⟨g_, yg_⟩ := ig 5 (by decide)
  have x_ : At H (b + 6) (.inl (0, 7, .inl f_)) := x_
  have y_ : At H (q + 6) (.inl (0, 7, .inl g_)) := smI.at yg_ (by omega)
  refine tX11_become_103  (r := ?_)
  refine tX11_become_104 (ha := iq) (hv := rfl) (r := ?_)
  refine tX11_become_107  (r := ?_)
  refine tX11_become_108 (ha := (by first | assumption | (repeat (first | assumption | exact At.set_eq2 (by first | omega | (simp only [hset, hnew]; omega) | rfl | decide) | exact At.new_eq2 _ _ (by first | omega | (simp only [hset, hnew]; omega) | rfl | decide) | refine At.set_ne ?_ (by first | omega | (simp only [hset, hnew]; omega) | rfl | decide) | refine At.new_ne ?_)))) (hv := rfl) (r := ?_)
  refine tX11_become_111 (hd := (by omega)) (call := s_copy (d := 2) (by decide) y_ x_ (by decide)) (k := ?_)
  intro H_ e_
  rw [e_]
  refine RQ.gen (fun H => BcI h H b q la ja li ru ac no 6) (I.step hq (by decide) x_ y_) (fun H I => ?_)
  obtain ⟨ib, iq, ia, ig, -, smI⟩ := id I
  obtain ⟨f_, x_⟩ := ia 6 (by decide)
  obtain ⟨g_, yg_⟩ := ig 6 (by decide)
  have x_ : At H (b + 7) (.inl (0, 7, .inl f_)) := x_
  have y_ : At H (q + 7) (.inl (0, 7, .inl g_)) := smI.at yg_ (by omega)
  refine tX11_become_114  (r := ?_)
  refine tX11_become_115 (ha := iq) (hv := rfl) (r := ?_)
  refine tX11_become_118  (r := ?_)
  refine tX11_become_119 (ha := (by first | assumption | (repeat (first | assumption | exact At.set_eq2 (by first | omega | (simp only [hset, hnew]; omega) | rfl | decide) | exact At.new_eq2 _ _ (by first | omega | (simp only [hset, hnew]; omega) | rfl | decide) | refine At.set_ne ?_ (by first | omega | (simp only [hset, hnew]; omega) | rfl | decide) | refine At.new_ne ?_)))) (hv := rfl) (r := ?_)
  refine tX11_become_122 (hd := (by omega)) (call := s_copy (d := 2) (by decide) y_ x_ (by decide)) (k := ?_)
  intro H_ e_
  rw [e_]
  refine RQ.gen (fun H => BcI h H b q la ja li ru ac no 7) (I.step hq (by decide) x_ y_) (fun H I => ?_)
  obtain ⟨ib, iq, ia, ig, -, smI⟩ := id I
  obtain ⟨f_, x_⟩ := ia 7 (by decide)
  obtain ⟨g_, yg_⟩ := ig 7 (by decide)
  have x_ : At H (b + 8) (.inl (0, 25, .inl f_)) := x_
  have y_ : At H (q + 8) (.inl (0, 25, .inl g_)) := smI.at yg_ (by omega)
  refine tX11_become_125  (r := ?_)
  refine tX11_become_126 (ha := iq) (hv := rfl) (r := ?_)
  refine tX11_become_129  (r := ?_)
  refine tX11_become_130 (ha := (by first | assumption | (repeat (first | assumption | exact At.set_eq2 (by first | omega | (simp only [hset, hnew]; omega) | rfl | decide) | exact At.new_eq2 _ _ (by first | omega | (simp only [hset, hnew]; omega) | rfl | decide) | refine At.set_ne ?_ (by first | omega | (simp only [hset, hnew]; omega) | rfl | decide) | refine At.new_ne ?_)))) (hv := rfl) (r := ?_)
  refine tX11_become_133 (hd := (by omega)) (call := s_copy (d := 2) (by decide) y_ x_ (by decide)) (k := ?_)
  intro H_ e_
  rw [e_]
  refine RQ.gen (fun H => BcI h H b q la ja li ru ac no 8) (I.step hq (by decide) x_ y_) (fun H I => ?_)
  obtain ⟨ib, iq, ia, ig, -, smI⟩ := id I
  obtain ⟨f_, x_⟩ := ia 8 (by decide)
  obtain ⟨g_, yg_⟩ := ig 8 (by decide)
  have x_ : At H (b + 9) (.inl (0, 25, .inl f_)) := x_
  have y_ : At H (q + 9) (.inl (0, 25, .inl g_)) := smI.at yg_ (by omega)
  refine tX11_become_136  (r := ?_)
  refine tX11_become_137 (ha := iq) (hv := rfl) (r := ?_)
  refine tX11_become_140  (r := ?_)
  refine tX11_become_141 (ha := (by first | assumption | (repeat (first | assumption | exact At.set_eq2 (by first | omega | (simp only [hset, hnew]; omega) | rfl | decide) | exact At.new_eq2 _ _ (by first | omega | (simp only [hset, hnew]; omega) | rfl | decide) | refine At.set_ne ?_ (by first | omega | (simp only [hset, hnew]; omega) | rfl | decide) | refine At.new_ne ?_)))) (hv := rfl) (r := ?_)
  refine tX11_become_144 (hd := (by omega)) (call := s_copy (d := 2) (by decide) y_ x_ (by decide)) (k := ?_)
  intro H_ e_
  rw [e_]
  refine RQ.gen (fun H => BcI h H b q la ja li ru ac no 9) (I.step hq (by decide) x_ y_) (fun H I => ?_)
  obtain ⟨ib, iq, ia, ig, -, smI⟩ := id I
  obtain ⟨f_, x_⟩ := ia 9 (by decide)
  obtain ⟨g_, yg_⟩ := ig 9 (by decide)
  have x_ : At H (b + 10) (.inl (0, 25, .inl f_)) := x_
  have y_ : At H (q + 10) (.inl (0, 25, .inl g_)) := smI.at yg_ (by omega)
  refine tX11_become_147  (r := ?_)
  refine tX11_become_148 (ha := iq) (hv := rfl) (r := ?_)
  refine tX11_become_151  (r := ?_)
  refine tX11_become_152 (ha := (by first | assumption | (repeat (first | assumption | exact At.set_eq2 (by first | omega | (simp only [hset, hnew]; omega) | rfl | decide) | exact At.new_eq2 _ _ (by first | omega | (simp only [hset, hnew]; omega) | rfl | decide) | refine At.set_ne ?_ (by first | omega | (simp only [hset, hnew]; omega) | rfl | decide) | refine At.new_ne ?_)))) (hv := rfl) (r := ?_)
  refine tX11_become_155 (hd := (by omega)) (call := s_copy (d := 2) (by decide) y_ x_ (by decide)) (k := ?_)
  intro H_ e_
  rw [e_]
  refine RQ.gen (fun H => BcI h H b q la ja li ru ac no 10) (I.step hq (by decide) x_ y_) (fun H I => ?_)
  obtain ⟨ib, iq, ia, ig, -, smI⟩ := id I
  obtain ⟨f_, x_⟩ := ia 10 (by decide)
  obtain ⟨g_, yg_⟩ := ig 10 (by decide)
  have x_ : At H (b + 11) (.inl (0, 25, .inl f_)) := x_
  have y_ : At H (q + 11) (.inl (0, 25, .inl g_)) := smI.at yg_ (by omega)
  refine tX11_become_158  (r := ?_)
  refine tX11_become_159 (ha := iq) (hv := rfl) (r := ?_)
  refine tX11_become_162  (r := ?_)
  refine tX11_become_163 (ha := (by first | assumption | (repeat (first | assumption | exact At.set_eq2 (by first | omega | (simp only [hset, hnew]; omega) | rfl | decide) | exact At.new_eq2 _ _ (by first | omega | (simp only [hset, hnew]; omega) | rfl | decide) | refine At.set_ne ?_ (by first | omega | (simp only [hset, hnew]; omega) | rfl | decide) | refine At.new_ne ?_)))) (hv := rfl) (r := ?_)
  refine tX11_become_166 (hd := (by omega)) (call := s_copy (d := 2) (by decide) y_ x_ (by decide)) (k := ?_)
  intro H_ e_
  rw [e_]
  refine RQ.gen (fun H => BcI h H b q la ja li ru ac no 11) (I.step hq (by decide) x_ y_) (fun H I => ?_)
  obtain ⟨ib, iq, ia, ig, -, smI⟩ := id I
  obtain ⟨f_, x_⟩ := ia 11 (by decide)
  obtain ⟨g_, yg_⟩ := ig 11 (by decide)
  have x_ : At H (b + 12) (.inl (0, 61, .inl f_)) := x_
  have y_ : At H (q + 12) (.inl (0, 61, .inl g_)) := smI.at yg_ (by omega)
  refine tX11_become_169  (r := ?_)
  refine tX11_become_170 (ha := iq) (hv := rfl) (r := ?_)
  refine tX11_become_173  (r := ?_)
  refine tX11_become_174 (ha := (by first | assumption | (repeat (first | assumption | exact At.set_eq2 (by first | omega | (simp only [hset, hnew]; omega) | rfl | decide) | exact At.new_eq2 _ _ (by first | omega | (simp only [hset, hnew]; omega) | rfl | decide) | refine At.set_ne ?_ (by first | omega | (simp only [hset, hnew]; omega) | rfl | decide) | refine At.new_ne ?_)))) (hv := rfl) (r := ?_)
  refine tX11_become_177 (hd := (by omega)) (call := s_copy (d := 2) (by decide) y_ x_ (by decide)) (k := ?_)
  intro H_ e_
  rw [e_]
  refine RQ.gen (fun H => BcI h H b q la ja li ru ac no 12) (I.step hq (by decide) x_ y_) (fun H I => ?_)
  obtain ⟨ib, iq, ia, ig, -, smI⟩ := id I
  obtain ⟨f_, x_⟩ := ia 12 (by decide)
  obtain ⟨g_, yg_⟩ := ig 12 (by decide)
  have x_ : At H (b + 13) (.inl (0, 61, .inl f_)) := x_
  have y_ : At H (q + 13) (.inl (0, 61, .inl g_)) := smI.at yg_ (by omega)
  refine tX11_become_180  (r := ?_)
  refine tX11_become_181 (ha := iq) (hv := rfl) (r := ?_)
  refine tX11_become_184  (r := ?_)
  refine tX11_become_185 (ha := (by first | assumption | (repeat (first | assumption | exact At.set_eq2 (by first | omega | (simp only [hset, hnew]; omega) | rfl | decide) | exact At.new_eq2 _ _ (by first | omega | (simp only [hset, hnew]; omega) | rfl | decide) | refine At.set_ne ?_ (by first | omega | (simp only [hset, hnew]; omega) | rfl | decide) | refine At.new_ne ?_)))) (hv := rfl) (r := ?_)
  refine tX11_become_188 (hd := (by omega)) (call := s_copy (d := 2) (by decide) y_ x_ (by decide)) (k := ?_)
  intro H_ e_
  rw [e_]
  refine RQ.gen (fun H => BcI h H b q la ja li ru ac no 13) (I.step hq (by decide) x_ y_) (fun H I => ?_)
  obtain ⟨ib, iq, ia, ig, -, smI⟩ := id I
  obtain ⟨f_, x_⟩ := ia 13 (by decide)
  obtain ⟨g_, yg_⟩ := ig 13 (by decide)
  have x_ : At H (b + 14) (.inl (0, 61, .inl f_)) := x_
  have y_ : At H (q + 14) (.inl (0, 61, .inl g_)) := smI.at yg_ (by omega)
  refine tX11_become_191  (r := ?_)
  refine tX11_become_192 (ha := iq) (hv := rfl) (r := ?_)
  refine tX11_become_195  (r := ?_)
  refine tX11_become_196 (ha := (by first | assumption | (repeat (first | assumption | exact At.set_eq2 (by first | omega | (simp only [hset, hnew]; omega) | rfl | decide) | exact At.new_eq2 _ _ (by first | omega | (simp only [hset, hnew]; omega) | rfl | decide) | refine At.set_ne ?_ (by first | omega | (simp only [hset, hnew]; omega) | rfl | decide) | refine At.new_ne ?_)))) (hv := rfl) (r := ?_)
  refine tX11_become_199 (hd := (by omega)) (call := s_copy (d := 2) (by decide) y_ x_ (by decide)) (k := ?_)
  intro H_ e_
  rw [e_]
  refine RQ.gen (fun H => BcI h H b q la ja li ru ac no 14) (I.step hq (by decide) x_ y_) (fun H I => ?_)
  obtain ⟨ib, iq, ia, ig, -, smI⟩ := id I
  obtain ⟨f_, x_⟩ := ia 14 (by decide)
  obtain ⟨g_, yg_⟩ := ig 14 (by decide)
  have x_ : At H (b + 15) (.inl (0, 61, .inl f_)) := x_
  have y_ : At H (q + 15) (.inl (0, 61, .inl g_)) := smI.at yg_ (by omega)
  refine tX11_become_202  (r := ?_)
  refine tX11_become_203 (ha := iq) (hv := rfl) (r := ?_)
  refine tX11_become_206  (r := ?_)
  refine tX11_become_207 (ha := (by first | assumption | (repeat (first | assumption | exact At.set_eq2 (by first | omega | (simp only [hset, hnew]; omega) | rfl | decide) | exact At.new_eq2 _ _ (by first | omega | (simp only [hset, hnew]; omega) | rfl | decide) | refine At.set_ne ?_ (by first | omega | (simp only [hset, hnew]; omega) | rfl | decide) | refine At.new_ne ?_)))) (hv := rfl) (r := ?_)
  refine tX11_become_210 (hd := (by omega)) (call := s_copy (d := 2) (by decide) y_ x_ (by decide)) (k := ?_)
  intro H_ e_
  rw [e_]
  refine RQ.gen (fun H => BcI h H b q la ja li ru ac no 15) (I.step hq (by decide) x_ y_) (fun H I => ?_)
  obtain ⟨ib, iq, ia, ig, -, smI⟩ := id I
  obtain ⟨f_, x_⟩ := ia 15 (by decide)
  obtain ⟨g_, yg_⟩ := ig 15 (by decide)
  have x_ : At H (b + 16) (.inl (0, 800, .inl f_)) := x_
  have y_ : At H (q + 16) (.inl (0, 800, .inl g_)) := smI.at yg_ (by omega)
  refine tX11_become_213  (r := ?_)
  refine tX11_become_214 (ha := iq) (hv := rfl) (r := ?_)
  refine tX11_become_217  (r := ?_)
  refine tX11_become_218 (ha := (by first | assumption | (repeat (first | assumption | exact At.set_eq2 (by first | omega | (simp only [hset, hnew]; omega) | rfl | decide) | exact At.new_eq2 _ _ (by first | omega | (simp only [hset, hnew]; omega) | rfl | decide) | refine At.set_ne ?_ (by first | omega | (simp only [hset, hnew]; omega) | rfl | decide) | refine At.new_ne ?_)))) (hv := rfl) (r := ?_)
  refine tX11_become_221 (hd := (by omega)) (call := s_copy (d := 2) (by decide) y_ x_ (by decide)) (k := ?_)
  intro H_ e_
  rw [e_]
  refine RQ.gen (fun H => BcI h H b q la ja li ru ac no 16) (I.step hq (by decide) x_ y_) (fun H I => ?_)
  obtain ⟨ib, iq, ia, ig, -, smI⟩ := id I
  obtain ⟨f_, x_⟩ := ia 16 (by decide)
  obtain ⟨g_, yg_⟩ := ig 16 (by decide)
  have x_ : At H (b + 17) (.inl (0, 800, .inl f_)) := x_
  have y_ : At H (q + 17) (.inl (0, 800, .inl g_)) := smI.at yg_ (by omega)
  refine tX11_become_224  (r := ?_)
  refine tX11_become_225 (ha := iq) (hv := rfl) (r := ?_)
  refine tX11_become_228  (r := ?_)
  refine tX11_become_229 (ha := (by first | assumption | (repeat (first | assumption | exact At.set_eq2 (by first | omega | (simp only [hset, hnew]; omega) | rfl | decide) | exact At.new_eq2 _ _ (by first | omega | (simp only [hset, hnew]; omega) | rfl | decide) | refine At.set_ne ?_ (by first | omega | (simp only [hset, hnew]; omega) | rfl | decide) | refine At.new_ne ?_)))) (hv := rfl) (r := ?_)
  refine tX11_become_232 (hd := (by omega)) (call := s_copy (d := 2) (by decide) y_ x_ (by decide)) (k := ?_)
  intro H_ e_
  rw [e_]
  refine RQ.gen (fun H => BcI h H b q la ja li ru ac no 17) (I.step hq (by decide) x_ y_) (fun H I => ?_)
  obtain ⟨ib, iq, ia, ig, -, smI⟩ := id I
  obtain ⟨f_, x_⟩ := ia 17 (by decide)
  obtain ⟨g_, yg_⟩ := ig 17 (by decide)
  have x_ : At H (b + 18) (.inl (0, 800, .inl f_)) := x_
  have y_ : At H (q + 18) (.inl (0, 800, .inl g_)) := smI.at yg_ (by omega)
  refine tX11_become_235  (r := ?_)
  refine tX11_become_236 (ha := iq) (hv := rfl) (r := ?_)
  refine tX11_become_239  (r := ?_)
  refine tX11_become_240 (ha := (by first | assumption | (repeat (first | assumption | exact At.set_eq2 (by first | omega | (simp only [hset, hnew]; omega) | rfl | decide) | exact At.new_eq2 _ _ (by first | omega | (simp only [hset, hnew]; omega) | rfl | decide) | refine At.set_ne ?_ (by first | omega | (simp only [hset, hnew]; omega) | rfl | decide) | refine At.new_ne ?_)))) (hv := rfl) (r := ?_)
  refine tX11_become_243 (hd := (by omega)) (call := s_copy (d := 2) (by decide) y_ x_ (by decide)) (k := ?_)
  intro H_ e_
  rw [e_]
  refine RQ.gen (fun H => BcI h H b q la ja li ru ac no 18) (I.step hq (by decide) x_ y_) (fun H I => ?_)
  refine tX11_become_246  (hP := ?_)
  exact ⟨rfl, I⟩

set_option maxHeartbeats 4000000 in
set_option maxRecDepth 100000 in
theorem s_an_l (hd : 2 ≤ d) {m : Nat} {th by_ ea tk iw er et dp nm : Int32} (am : At h m (ModO m th by_ ea tk iw er et dp nm)) {fb : Nat → Int32} {Q : OC → AH → Prop} (k9 : ∀ H f, At H (m + 48) (.inl (0, 61, .inl f)) → (f 0 = nI 0 ∧ (∀ j, j < 48 → f (1 + j) = fb j) ∧ ∀ i, i < 6 → f (49 + i) = -1) → Sm h H (m + 48) (m + 49) → RQ G mX12_anew d 49 [some (.ref m), some (.int (nI 6))] [] H Q) : ∀ (n k : Nat) (H : AH) (f : Nat → Int32), 6 ≤ k + n → k ≤ 6 → At H (m + 48) (.inl (0, 61, .inl f)) → (f 0 = nI 0 ∧ (∀ j, j < 48 → f (1 + j) = fb j) ∧ ∀ i, i < k → f (49 + i) = -1) → Sm h H (m + 48) (m + 49) → RQ G mX12_anew d 27 [some (.ref m), some (.int (nI k))] [] H Q := by
  have ex : ∀ (k : Nat) (H : AH) (f : Nat → Int32), k = 6 → At H (m + 48) (.inl (0, 61, .inl f)) → (f 0 = nI 0 ∧ (∀ j, j < 48 → f (1 + j) = fb j) ∧ ∀ i, i < k → f (49 + i) = -1) → Sm h H (m + 48) (m + 49) → RQ G mX12_anew d 27 [some (.ref m), some (.int (nI k))] [] H Q := by
    intro k H f hk a48 hf sm
    subst hk
    refine tX12_anew_27  (r := ?_)
    refine tX12_anew_28  (r := ?_)
    refine tX12_anew_30  (kf := fun c_ => by exfalso; exact c_ ((nI_leI (by decide) (by decide)).mpr (by decide))) (kt := fun _ => ?_)
    exact k9 H f a48 hf sm
  intro n
  induction n with
  | zero => exact fun k H f h1 h2 a48 hf sm => ex k H f (by omega) a48 hf sm
  | succ n ih =>
    intro k H f h1 h2 a48 hf sm
    by_cases hk : k = 6
    · exact ex k H f hk a48 hf sm
    have am1 := sm.at am (by omega)
    have l48 := a48.1
    refine tX12_anew_27  (r := ?_)
    refine tX12_anew_28  (r := ?_)
    refine tX12_anew_30  (kt := fun c_ => by exfalso; exact absurd ((nI_leI (by decide) (by omega)).mp c_) (by omega)) (kf := fun _ => ?_)
    refine tX12_anew_33  (r := ?_)
    refine tX12_anew_34 (ha := (by first | assumption | (repeat (first | assumption | exact At.set_eq2 (by first | omega | (simp only [hset, hnew]; omega) | rfl | decide) | exact At.new_eq2 _ _ (by first | omega | (simp only [hset, hnew]; omega) | rfl | decide) | refine At.set_ne ?_ (by first | omega | (simp only [hset, hnew]; omega) | rfl | decide) | refine At.new_ne ?_)))) (hv := rfl) (r := ?_)
    refine tX12_anew_37  (r := ?_)
    refine tX12_anew_39  (r := ?_)
    refine tX12_anew_40  (r := ?_)
    rw [nI_add]
    refine tX12_anew_41  (r := ?_)
    refine tX12_anew_42 (ha := (by first | assumption | (repeat (first | assumption | exact At.set_eq2 (by first | omega | (simp only [hset, hnew]; omega) | rfl | decide) | exact At.new_eq2 _ _ (by first | omega | (simp only [hset, hnew]; omega) | rfl | decide) | refine At.set_ne ?_ (by first | omega | (simp only [hset, hnew]; omega) | rfl | decide) | refine At.new_ne ?_)))) (hx := rfl) (hj := (by omega)) (hn := (by decide)) (r := ?_)
    refine tX12_anew_43  (r := ?_)
    rw [nI_add]
    refine tX12_anew_46 (r := ?_)
    refine ih (k + 1) _ _ (by omega) (by omega) (At.set_eq2 l48) ⟨?_, fun j hj => ?_, fun i hi => ?_⟩ (sm.set (by omega) (by omega))
    · show (if 0 = 49 + k then _ else f 0) = nI 0
      rw [if_neg (by omega)]
      exact hf.1
    · show (if 1 + j = 49 + k then _ else f (1 + j)) = fb j
      rw [if_neg (by omega)]
      exact hf.2.1 j hj
    · show (if 49 + i = 49 + k then _ else f (49 + i)) = -1
      by_cases e : i = k
      · rw [if_pos (by omega)]
      · rw [if_neg (by omega)]
        exact hf.2.2 i (by omega)

set_option maxHeartbeats 4000000 in
set_option maxRecDepth 100000 in
theorem s_anew2 (hd : 2 ≤ d) {m : Nat} {th by_ ea tk iw er et dp nm la ja li ru ac no : Int32} {f fb fl : Nat → Int32} (am : At h m (ModO m th by_ ea tk iw er et dp nm)) (b0 : At h (m + 9) (MBoO (m + 9) la ja li ru ac no)) (ab : At h (m + 9 + 3) (.inl (0, 54, .inl fb))) (al : At h (m + 9 + 4) (.inl (0, 7, .inl fl))) (a48 : At h (m + 48) (.inl (0, 61, .inl f))) : RQ G mX12_anew d 0 [some (.ref m), none] [] h (Rv fun h2 => (∃ f : Nat → Int32, At h2 (m + 48) (.inl (0, 61, .inl f)) ∧ f 0 = nI 0 ∧ (∀ j, j < 48 → f (1 + j) = fb j) ∧ (∀ k, k < 6 → f (49 + k) = -1) ∧ ∀ i, i < 6 → f (55 + i) = fl i) ∧ Sm h h2 (m + 48) (m + 49)) := by
  have l48 := a48.1
  refine tX12_anew_0  (r := ?_)
  refine tX12_anew_1 (ha := (by first | assumption | (repeat (first | assumption | exact At.set_eq2 (by first | omega | (simp only [hset, hnew]; omega) | rfl | decide) | exact At.new_eq2 _ _ (by first | omega | (simp only [hset, hnew]; omega) | rfl | decide) | refine At.set_ne ?_ (by first | omega | (simp only [hset, hnew]; omega) | rfl | decide) | refine At.new_ne ?_)))) (hv := rfl) (r := ?_)
  refine tX12_anew_4  (r := ?_)
  refine tX12_anew_5  (r := ?_)
  refine tX12_anew_6 (ha := (by first | assumption | (repeat (first | assumption | exact At.set_eq2 (by first | omega | (simp only [hset, hnew]; omega) | rfl | decide) | exact At.new_eq2 _ _ (by first | omega | (simp only [hset, hnew]; omega) | rfl | decide) | refine At.set_ne ?_ (by first | omega | (simp only [hset, hnew]; omega) | rfl | decide) | refine At.new_ne ?_)))) (hx := rfl) (hj := (by decide)) (hn := (by decide)) (r := ?_)
  refine tX12_anew_7  (r := ?_)
  refine tX12_anew_8 (ha := (by first | assumption | (repeat (first | assumption | exact At.set_eq2 (by first | omega | (simp only [hset, hnew]; omega) | rfl | decide) | exact At.new_eq2 _ _ (by first | omega | (simp only [hset, hnew]; omega) | rfl | decide) | refine At.set_ne ?_ (by first | omega | (simp only [hset, hnew]; omega) | rfl | decide) | refine At.new_ne ?_)))) (hv := rfl) (r := ?_)
  refine tX12_anew_11 (ha := (by first | assumption | (repeat (first | assumption | exact At.set_eq2 (by first | omega | (simp only [hset, hnew]; omega) | rfl | decide) | exact At.new_eq2 _ _ (by first | omega | (simp only [hset, hnew]; omega) | rfl | decide) | refine At.set_ne ?_ (by first | omega | (simp only [hset, hnew]; omega) | rfl | decide) | refine At.new_ne ?_)))) (hv := rfl) (r := ?_)
  refine tX12_anew_14  (r := ?_)
  refine tX12_anew_15  (r := ?_)
  refine tX12_anew_16 (ha := (by first | assumption | (repeat (first | assumption | exact At.set_eq2 (by first | omega | (simp only [hset, hnew]; omega) | rfl | decide) | exact At.new_eq2 _ _ (by first | omega | (simp only [hset, hnew]; omega) | rfl | decide) | refine At.set_ne ?_ (by first | omega | (simp only [hset, hnew]; omega) | rfl | decide) | refine At.new_ne ?_)))) (hv := rfl) (r := ?_)
  refine tX12_anew_19  (r := ?_)
  refine tX12_anew_20  (r := ?_)
  refine tX12_anew_22 (hd := (by omega)) (ha0 := (At.set_ne ab (by omega))) (ha1 := (At.set_eq2 l48)) (hxs := rfl) (hxd := rfl) (hxn := rfl) (hb0 := (by decide)) (hb1 := (by decide)) (hn0 := (by decide)) (hn1 := (by decide)) (r := ?_)
  refine tX12_anew_25  (r := ?_)
  refine tX12_anew_26  (r := ?_)
  refine s_an_l (h := h) hd am (fb := fb) (fun h1 f1 b1 b2 sm => ?_) 6 0 _ _ (by omega) (by omega) (At.set_eq2 l48) ⟨?_, fun j hj => ?_, fun i hi => absurd hi (Nat.not_lt_zero i)⟩ (((Sm.rf h (m + 48) (m + 49)).set (by omega) (by omega)).set (by omega) (by omega))
  · have am1 := sm.at am (by omega)
    have b01 := sm.at b0 (by omega)
    have al1 := sm.at al (by omega)
    obtain ⟨c1, c2, c3⟩ := b2
    have l1 := b1.1
    refine tX12_anew_49  (r := ?_)
    refine tX12_anew_50 (ha := (by first | assumption | (repeat (first | assumption | exact At.set_eq2 (by first | omega | (simp only [hset, hnew]; omega) | rfl | decide) | exact At.new_eq2 _ _ (by first | omega | (simp only [hset, hnew]; omega) | rfl | decide) | refine At.set_ne ?_ (by first | omega | (simp only [hset, hnew]; omega) | rfl | decide) | refine At.new_ne ?_)))) (hv := rfl) (r := ?_)
    refine tX12_anew_53 (ha := (by first | assumption | (repeat (first | assumption | exact At.set_eq2 (by first | omega | (simp only [hset, hnew]; omega) | rfl | decide) | exact At.new_eq2 _ _ (by first | omega | (simp only [hset, hnew]; omega) | rfl | decide) | refine At.set_ne ?_ (by first | omega | (simp only [hset, hnew]; omega) | rfl | decide) | refine At.new_ne ?_)))) (hv := rfl) (r := ?_)
    refine tX12_anew_56  (r := ?_)
    refine tX12_anew_57  (r := ?_)
    refine tX12_anew_58 (ha := (by first | assumption | (repeat (first | assumption | exact At.set_eq2 (by first | omega | (simp only [hset, hnew]; omega) | rfl | decide) | exact At.new_eq2 _ _ (by first | omega | (simp only [hset, hnew]; omega) | rfl | decide) | refine At.set_ne ?_ (by first | omega | (simp only [hset, hnew]; omega) | rfl | decide) | refine At.new_ne ?_)))) (hv := rfl) (r := ?_)
    refine tX12_anew_61  (r := ?_)
    refine tX12_anew_63  (r := ?_)
    refine tX12_anew_65 (hd := (by omega)) (ha0 := al1) (ha1 := b1) (hxs := rfl) (hxd := rfl) (hxn := rfl) (hb0 := (by decide)) (hb1 := (by decide)) (hn0 := (by decide)) (hn1 := (by decide)) (r := ?_)
    refine tX12_anew_68  (hP := ?_)
    refine ⟨rfl, ⟨_, At.set_eq2 l1, ?_, fun j hj => ?_, fun k hk => ?_, fun i hi => ?_⟩, sm.set (by omega) (by omega)⟩
    · rw [cp_out (by omega)]
      exact c1
    · rw [cp_out (by omega)]
      exact c2 j hj
    · rw [cp_out (by omega)]
      exact c3 k hk
    · rw [cp_in (by omega)]
      congr 1
      omega
  · rw [cp_out (by omega)]
    exact if_pos rfl
  · rw [cp_in (by omega)]
    congr 1
    omega

end RTJ
