/-! who is first in a jar: both sides -/
section FI
variable {G : GT} {d : Nat} {h : AH} {bk dr : Nat} {s : ST}
theorem ClR.now {h1 : AH} (c : ClR h 0 bk dr s) {D : DY} (cu : CuR h1 (0 + 66) s.2.2.1 D) {lo hi : Nat} (sm : Sm h h1 lo hi) (e1 : 66 ≤ lo) (e2 : hi ≤ 111) : ClR h1 0 bk dr (s.1, s.2.1, s.2.2.1, D) := by
  obtain ⟨a1, a2, a3, ⟨a, b, c, a4⟩, a5, ⟨dy, a6⟩, a7, a8, a9⟩ := c
  have hb : (bk = 158 ∧ dr = 8) ∨ (bk = 8 ∧ dr = 158) := by omega
  have e : h.1 ≤ h1.1 := Nat.le_of_eq sm.1.symm
  have l7 := a7.2.elim (fun f q => q.1)
  have lb := a8.room
  have lr := a4.2.2.2.2.2.2.2.2.2.2.2.2.2.elim (fun f q => q.1)
  have l6 : 0 + 111 + 45 ≤ h.1 := by omega
  have hi1 : hi ≤ h.1 := by omega
  have u : ∀ x y, y ≤ lo ∨ hi ≤ x → y ≤ h.1 → Un h h1 x y := fun x y q1 q2 => by
    rcases q1 with q1 | q1
    · exact sm.2.2.1.sub (Nat.zero_le _) q1
    · exact sm.2.2.2.sub q1 q2
  refine ⟨a1.keep e (u 0 1 (by omega) (by omega) _ (by omega) (by omega)), a2.keep e (u _ _ (by omega) (by omega)), a3.keep e (u _ _ (by omega) (by omega)), ⟨a, b, c, a4.keep e (u _ _ (by omega) (by omega))⟩, cu, ⟨dy, a6.keep e (u _ _ (by omega) (by omega))⟩, a7.keep e (u _ _ (by omega) (by omega)), a8.keep e (u _ _ (by omega) (by omega)), a9⟩
theorem Sm.ch {h1 : AH} {lo hi lo2 hi2 ck sk : Nat} (sm : Sm h h1 lo hi) (e1 : lo2 ≤ lo) (e2 : hi ≤ hi2) : Ch h h1 lo2 hi2 ck sk := ⟨Nat.le_of_eq sm.1.symm, by rw [sm.1]; omega, by rw [sm.2.1]; omega, sm.2.2.1.sub (Nat.le_refl _) e1, sm.2.2.2.sub e2 (Nat.le_refl _)⟩
theorem MoT.work {m : Nat} {th : Int32} {s : ST} {h1 : AH} (c : MoT h m th s) (sm : Sm h h1 (m + 49) (m + 53)) (w49 : ArI h1 (m + 49) 61) (w50 : ArI h1 (m + 50) 6) (w51 : ArI h1 (m + 51) 6) (w52 : ArI h1 (m + 52) 6) : MoT h1 m th s := by
  obtain ⟨⟨tk, iw, er, et, dp, nm, a⟩, ⟨-, ⟨f1, a1, c1⟩, a2, a3, a4, a5, a6, a7, a8, ⟨ru, ac, no, a9⟩, ⟨b1, b2, b3, b4, b5, b6, a28⟩, a47, ⟨f, a48, hf⟩, -⟩, ⟨⟨f1', a1', c1'⟩, ⟨f2, a2', c2⟩, ⟨f3, a3', c3⟩, ⟨f4, a4', c4⟩, ⟨f5, a5', c5⟩⟩⟩ := c
  have e : h.1 ≤ h1.1 := Nat.le_of_eq sm.1.symm
  have u : Un h h1 m (m + 49) := sm.2.2.1.sub (Nat.zero_le _) (Nat.le_refl _)
  have am := a.keep e (u m (by omega) (by omega))
  exact ⟨⟨tk, iw, er, et, dp, nm, am⟩, ⟨⟨th, tk, iw, er, et, dp, nm, am⟩, ⟨f1, a1.keep e (u _ (by omega) (by omega)), c1⟩, a2.keep e (u _ (by omega) (by omega)), a3.keep e (u _ (by omega) (by omega)), a4.keep e (u _ (by omega) (by omega)), a5.keep e (u _ (by omega) (by omega)), a6.keep e (u _ (by omega) (by omega)), a7.keep e (u _ (by omega) (by omega)), a8.keep e (u _ (by omega) (by omega)), ⟨ru, ac, no, a9.keep e (u.sub (by omega) (by omega))⟩, ⟨b1, b2, b3, b4, b5, b6, a28.keep e (u.sub (by omega) (by omega))⟩, a47.keep e (u _ (by omega) (by omega)), ⟨f, a48.keep e (u _ (by omega) (by omega)), hf⟩, w49, w50, w51, w52⟩,
    ⟨f1', a1'.keep e (u _ (by omega) (by omega)), c1'⟩, ⟨f2, a2'.keep e (u _ (by omega) (by omega)), c2⟩, ⟨f3, a3'.keep e (u _ (by omega) (by omega)), c3⟩, ⟨f4, a4'.keep e (u _ (by omega) (by omega)), c4⟩, ⟨f5, a5'.keep e (u _ (by omega) (by omega)), c5⟩⟩
theorem MoT.w4 {m : Nat} {th : Int32} {s : ST} (c : MoT h m th s) : ArI h (m + 49) 61 ∧ ArI h (m + 50) 6 ∧ ArI h (m + 51) 6 ∧ ArI h (m + 52) 6 := by
  obtain ⟨-, ⟨-, -, -, -, -, -, -, -, -, -, -, -, -, z1, z2, z3, z4⟩, -⟩ := c
  exact ⟨z1, z2, z3, z4⟩
/-- 'its' is written -/
theorem MoT.its {m : Nat} {th : Int32} {s : ST} (c : MoT h m th s) (f : Nat → Int32) : MoT (hset h (m + 50) (.inl (0, 6, .inl f))) m th s := by
  obtain ⟨⟨f1, z1⟩, ⟨f2, z2⟩, ⟨f3, z3⟩, ⟨f4, z4⟩⟩ := c.w4
  have l2 := z2.1
  exact c.work ((Sm.rf _ _ _).set (by omega) (by omega)) ⟨f1, by (first | assumption | (repeat (first | assumption | exact At.set_eq2 (by (first | omega | (simp only [hset, hnew]; omega) | rfl | decide)) | exact At.new_eq2 _ _ (by (first | omega | (simp only [hset, hnew]; omega) | rfl | decide)) | refine At.set_ne ?_ (by (first | omega | (simp only [hset, hnew]; omega) | rfl | decide)) | refine At.new_ne ?_)))⟩ ⟨f, At.set_eq2 l2⟩ ⟨f3, by (first | assumption | (repeat (first | assumption | exact At.set_eq2 (by (first | omega | (simp only [hset, hnew]; omega) | rfl | decide)) | exact At.new_eq2 _ _ (by (first | omega | (simp only [hset, hnew]; omega) | rfl | decide)) | refine At.set_ne ?_ (by (first | omega | (simp only [hset, hnew]; omega) | rfl | decide)) | refine At.new_ne ?_)))⟩ ⟨f4, by (first | assumption | (repeat (first | assumption | exact At.set_eq2 (by (first | omega | (simp only [hset, hnew]; omega) | rfl | decide)) | exact At.new_eq2 _ _ (by (first | omega | (simp only [hset, hnew]; omega) | rfl | decide)) | refine At.set_ne ?_ (by (first | omega | (simp only [hset, hnew]; omega) | rfl | decide)) | refine At.new_ne ?_)))⟩
theorem MoT.won {m : Nat} {th : Int32} {s : ST} (c : MoT h m th s) (f : Nat → Int32) : MoT (hset h (m + 51) (.inl (0, 6, .inl f))) m th s := by
  obtain ⟨⟨f1, z1⟩, ⟨f2, z2⟩, ⟨f3, z3⟩, ⟨f4, z4⟩⟩ := c.w4
  have l3 := z3.1
  exact c.work ((Sm.rf _ _ _).set (by omega) (by omega)) ⟨f1, by (first | assumption | (repeat (first | assumption | exact At.set_eq2 (by (first | omega | (simp only [hset, hnew]; omega) | rfl | decide)) | exact At.new_eq2 _ _ (by (first | omega | (simp only [hset, hnew]; omega) | rfl | decide)) | refine At.set_ne ?_ (by (first | omega | (simp only [hset, hnew]; omega) | rfl | decide)) | refine At.new_ne ?_)))⟩ ⟨f2, by (first | assumption | (repeat (first | assumption | exact At.set_eq2 (by (first | omega | (simp only [hset, hnew]; omega) | rfl | decide)) | exact At.new_eq2 _ _ (by (first | omega | (simp only [hset, hnew]; omega) | rfl | decide)) | refine At.set_ne ?_ (by (first | omega | (simp only [hset, hnew]; omega) | rfl | decide)) | refine At.new_ne ?_)))⟩ ⟨f, At.set_eq2 l3⟩ ⟨f4, by (first | assumption | (repeat (first | assumption | exact At.set_eq2 (by (first | omega | (simp only [hset, hnew]; omega) | rfl | decide)) | exact At.new_eq2 _ _ (by (first | omega | (simp only [hset, hnew]; omega) | rfl | decide)) | refine At.set_ne ?_ (by (first | omega | (simp only [hset, hnew]; omega) | rfl | decide)) | refine At.new_ne ?_)))⟩
theorem su_ext {f : Nat → Nat} {n : Nat} : ∀ m, n ≤ m → (∀ i, n ≤ i → i < m → f i = 0) → su f m = su f n
  | 0, h, _ => by
    have : n = 0 := by omega
    rw [this]
  | m + 1, h, hz => by
    by_cases e : n = m + 1
    · rw [e]
    · show su f m + f m = su f n
      rw [su_ext m (by omega) (fun i h1 h2 => hz i h1 (by omega)), hz m (by omega) (by omega)]
      rfl
theorem fiN_ext {p : Nat → Nat} {n : Nat} : ∀ m, n ≤ m → (∀ i, n ≤ i → i < m → p i = 0) → fiN p m = fiN p n
  | 0, h, _ => by
    have : n = 0 := by omega
    rw [this]
  | m + 1, h, hz => by
    by_cases e : n = m + 1
    · rw [e]
    · rw [fi_step, if_neg (by rw [hz m (by omega) (by omega)]; exact Nat.not_lt_zero _)]
      exact fiN_ext m (by omega) (fun i h1 h2 => hz i h1 (by omega))

theorem po_la {B : BK} {D : DY} (hb : BDok B D) {j0 : Nat} (hj : j0 < 8) (k : Nat) : po (rt (dF D)) (dB D j0) k = su (fun q => if rt (dF D) q = k then dB D j0 q else 0) (bLa B) := su_ext 6 hb.1 (fun i h1 h2 => by
  show (if rt (dF D) i = k then dB D j0 i else 0) = 0
  rw [hb.2.2.2.2.2.1 j0 i hj h1 h2]
  split <;> rfl)
theorem po_z {B : BK} {D : DY} (hb : BDok B D) {j0 : Nat} (hj : j0 < 8) (k : Nat) (hk : bLa B ≤ k) (hk6 : k < 6) : po (rt (dF D)) (dB D j0) k = 0 := by
  rw [po_la hb hj]
  have g : ∀ n, n ≤ bLa B → su (fun q => if rt (dF D) q = k then dB D j0 q else 0) n = 0 := by
    intro n
    induction n with
    | zero => intro _; rfl
    | succ n ih =>
      intro hn
      have := rt_lt hb 6 n (by omega)
      show su (fun q => if rt (dF D) q = k then dB D j0 q else 0) n + (if rt (dF D) n = k then dB D j0 n else 0) = 0
      rw [ih (by omega), if_neg (by unfold rt; omega)]
  exact g _ (Nat.le_refl _)
theorem all_la {B : BK} {D : DY} (hb : BDok B D) {j0 : Nat} (hj : j0 < 8) : su (dB D j0) 6 = su (dB D j0) (bLa B) := su_ext 6 hb.1 (fun i h1 h2 => hb.2.2.2.2.2.1 j0 i hj h1 h2)
set_option maxHeartbeats 4000000 in
set_option maxRecDepth 100000 in
theorem k_turnout_ok (hd : 7 ≤ d) (c : ClR h 0 bk dr s) (hb : BDok s.2.2.1 s.2.2.2) (hh : 216 ≤ h.1) {j0 : Nat} (q0 : j0 < bJa s.2.2.1) : RQ G mX10_turnout d 0 [some (.ref 0), some (.int (nI j0))] [] h (CK h bk dr s "java/lang/IndexOutOfBoundsException" "" 0 (nI (su (dB s.2.2.2 j0) 6))) := by
  have c1 := c.poll
  have cb := c.book
  obtain ⟨jf, lj, fo, le, u0, u1, u2, u3, u4, u5, u6, u7, u8, u9⟩ := id c.2.2.2.2.1
  have l1 := hb.1
  have l2 := hb.2.1
  have l3 := hb.2.2.1
  refine tX10_turnout_0  (r := ?_)
  refine tX10_turnout_1  (r := ?_)
  refine tX10_turnout_2 (hd := (by omega)) (ha := (by first | assumption | (repeat (first | assumption | exact At.set_eq2 (by first | omega | (simp only [hset, hnew]; omega) | rfl | decide) | exact At.new_eq2 _ _ (by first | omega | (simp only [hset, hnew]; omega) | rfl | decide) | refine At.set_ne ?_ (by first | omega | (simp only [hset, hnew]; omega) | rfl | decide) | refine At.new_ne ?_)))) (call := s_checkJar_ok (d := 6) (QX := fun _ _ => False) c hb q0) (kx := fun E_ h_ hx_ => by exact hx_.elim) (k := ?_)
  intro h_ e0
  rw [e0]
  refine tX10_turnout_5  (r := ?_)
  refine tX10_turnout_6 (ha := (by first | assumption | (repeat (first | assumption | exact At.set_eq2 (by first | omega | (simp only [hset, hnew]; omega) | rfl | decide) | exact At.new_eq2 _ _ (by first | omega | (simp only [hset, hnew]; omega) | rfl | decide) | refine At.set_ne ?_ (by first | omega | (simp only [hset, hnew]; omega) | rfl | decide) | refine At.new_ne ?_)))) (hv := rfl) (r := ?_)
  refine tX10_turnout_9  (r := ?_)
  refine tX10_turnout_10 (hd := (by omega)) (ha := (by first | assumption | (repeat (first | assumption | exact At.set_eq2 (by first | omega | (simp only [hset, hnew]; omega) | rfl | decide) | exact At.new_eq2 _ _ (by first | omega | (simp only [hset, hnew]; omega) | rfl | decide) | refine At.set_ne ?_ (by first | omega | (simp only [hset, hnew]; omega) | rfl | decide) | refine At.new_ne ?_)))) (call := (s_counted (d := 3) (by decide) c.2.2.2.2.1 hb (show j0 < 8 by omega)).imp (fun o9 h9 q9 => (⟨_, q9.1, rfl, q9.2⟩ : Rr (fun r h1 => r = 0 + 66 + 5 + 5 * j0 ∧ JaC h1 (0 + 66 + 5 + 5 * j0) (dB s.2.2.2 j0) (bSe s.2.2.1 j0) (bWy s.2.2.1 j0) (rt (dF s.2.2.2)) ∧ CuR h1 (0 + 66) s.2.2.1 s.2.2.2 ∧ Sm h h1 (0 + 66 + 5 + 5 * j0) (0 + 66 + 5 + 5 * j0 + 5)) o9 h9))) (k := ?_)
  rintro jj h1 ⟨rfl, q9⟩
  obtain ⟨jc, cu, sm⟩ := q9
  have cl := c.now cu sm (by omega) (by omega)
  have chh : Ch h h1 0 216 0 0 := sm.ch (Nat.zero_le _) (by omega)
  obtain ⟨bf, p, w, l, tu, fi, ma, ⟨b0, b1, b2, b3, b4⟩, hb2, cp, cw_, ct, cf, cm⟩ := jc
  refine tX10_turnout_13 (ha := (by first | assumption | (repeat (first | assumption | exact At.set_eq2 (by first | omega | (simp only [hset, hnew]; omega) | rfl | decide) | exact At.new_eq2 _ _ (by first | omega | (simp only [hset, hnew]; omega) | rfl | decide) | refine At.set_ne ?_ (by first | omega | (simp only [hset, hnew]; omega) | rfl | decide) | refine At.new_ne ?_)))) (hv := rfl) (r := ?_)
  rw [ct]
  refine tX10_turnout_16  (hP := ?_)
  exact ck_val cl chh

set_option maxHeartbeats 4000000 in
set_option maxRecDepth 100000 in
theorem k_firstIn_ok (hd : 7 ≤ d) (c : ClR h 0 bk dr s) (hb : BDok s.2.2.1 s.2.2.2) (hh : 216 ≤ h.1) {j0 : Nat} (q0 : j0 < bJa s.2.2.1) : RQ G mX10_firstIn d 0 [some (.ref 0), some (.int (nI j0))] [] h (CK h bk dr s "java/lang/IndexOutOfBoundsException" "" 0 (oI (fiN (po (rt (dF s.2.2.2)) (dB s.2.2.2 j0)) 6))) := by
  have c1 := c.poll
  have cb := c.book
  obtain ⟨jf, lj, fo, le, u0, u1, u2, u3, u4, u5, u6, u7, u8, u9⟩ := id c.2.2.2.2.1
  have l1 := hb.1
  have l2 := hb.2.1
  have l3 := hb.2.2.1
  refine tX10_firstIn_0  (r := ?_)
  refine tX10_firstIn_1  (r := ?_)
  refine tX10_firstIn_2 (hd := (by omega)) (ha := (by first | assumption | (repeat (first | assumption | exact At.set_eq2 (by first | omega | (simp only [hset, hnew]; omega) | rfl | decide) | exact At.new_eq2 _ _ (by first | omega | (simp only [hset, hnew]; omega) | rfl | decide) | refine At.set_ne ?_ (by first | omega | (simp only [hset, hnew]; omega) | rfl | decide) | refine At.new_ne ?_)))) (call := s_checkJar_ok (d := 6) (QX := fun _ _ => False) c hb q0) (kx := fun E_ h_ hx_ => by exact hx_.elim) (k := ?_)
  intro h_ e0
  rw [e0]
  refine tX10_firstIn_5  (r := ?_)
  refine tX10_firstIn_6 (ha := (by first | assumption | (repeat (first | assumption | exact At.set_eq2 (by first | omega | (simp only [hset, hnew]; omega) | rfl | decide) | exact At.new_eq2 _ _ (by first | omega | (simp only [hset, hnew]; omega) | rfl | decide) | refine At.set_ne ?_ (by first | omega | (simp only [hset, hnew]; omega) | rfl | decide) | refine At.new_ne ?_)))) (hv := rfl) (r := ?_)
  refine tX10_firstIn_9  (r := ?_)
  refine tX10_firstIn_10 (hd := (by omega)) (ha := (by first | assumption | (repeat (first | assumption | exact At.set_eq2 (by first | omega | (simp only [hset, hnew]; omega) | rfl | decide) | exact At.new_eq2 _ _ (by first | omega | (simp only [hset, hnew]; omega) | rfl | decide) | refine At.set_ne ?_ (by first | omega | (simp only [hset, hnew]; omega) | rfl | decide) | refine At.new_ne ?_)))) (call := (s_counted (d := 3) (by decide) c.2.2.2.2.1 hb (show j0 < 8 by omega)).imp (fun o9 h9 q9 => (⟨_, q9.1, rfl, q9.2⟩ : Rr (fun r h1 => r = 0 + 66 + 5 + 5 * j0 ∧ JaC h1 (0 + 66 + 5 + 5 * j0) (dB s.2.2.2 j0) (bSe s.2.2.1 j0) (bWy s.2.2.1 j0) (rt (dF s.2.2.2)) ∧ CuR h1 (0 + 66) s.2.2.1 s.2.2.2 ∧ Sm h h1 (0 + 66 + 5 + 5 * j0) (0 + 66 + 5 + 5 * j0 + 5)) o9 h9))) (k := ?_)
  rintro jj h1 ⟨rfl, q9⟩
  obtain ⟨jc, cu, sm⟩ := q9
  have cl := c.now cu sm (by omega) (by omega)
  have chh : Ch h h1 0 216 0 0 := sm.ch (Nat.zero_le _) (by omega)
  obtain ⟨bf, p, w, l, tu, fi, ma, ⟨b0, b1, b2, b3, b4⟩, hb2, cp, cw_, ct, cf, cm⟩ := jc
  refine tX10_firstIn_13 (ha := (by first | assumption | (repeat (first | assumption | exact At.set_eq2 (by first | omega | (simp only [hset, hnew]; omega) | rfl | decide) | exact At.new_eq2 _ _ (by first | omega | (simp only [hset, hnew]; omega) | rfl | decide) | refine At.set_ne ?_ (by first | omega | (simp only [hset, hnew]; omega) | rfl | decide) | refine At.new_ne ?_)))) (hv := rfl) (r := ?_)
  rw [cf]
  refine tX10_firstIn_16  (hP := ?_)
  exact ck_val cl chh

end FI