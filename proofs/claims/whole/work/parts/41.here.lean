/-! who is first in a jar: both sides -/
section FI
variable {G : GT} {d : Nat} {h : AH} {bk dr : Nat} {s : ST}
theorem ClR.now {h1 : AH} (c : ClR h 0 bk dr s) {D : DY} (cu : CuR h1 (0 + 66) s.2.2.1 D) {lo hi : Nat} (sm : Sm h h1 lo hi) (e1 : 66 ≤ lo) (e2 : hi ≤ 111) : ClR h1 0 bk dr (s.1, s.2.1, s.2.2.1, D) := by
  obtain ⟨a1, a2, a3, ⟨a, b, c, a4⟩, a5, ⟨dy, a6⟩, a7, a8, a9⟩ := c
  have hb : (bk = 158 ∧ dr = 8) ∨ (bk = 8 ∧ dr = 158) := by omega
  have e : h.1 ≤ h1.1 := Nat.le_of_eq sm.1.symm
  have l7 := a7.2.elim (fun f q => q.1)
  have lb := a8.room
  have lr := a4.2.2.2.2.2.2.2.2.2.2.2.2.2.elim (fun f q => q.1)
  have l6 : 0 + 111 + 45 ≤ h.1 := by omega
  have hi1 : hi ≤ h.1 := by omega
  have u : ∀ x y, y ≤ lo ∨ hi ≤ x → y ≤ h.1 → Un h h1 x y := fun x y q1 q2 => by
    rcases q1 with q1 | q1
    · exact sm.2.2.1.sub (Nat.zero_le _) q1
    · exact sm.2.2.2.sub q1 q2
  refine ⟨a1.keep e (u 0 1 (by omega) (by omega) _ (by omega) (by omega)), a2.keep e (u _ _ (by omega) (by omega)), a3.keep e (u _ _ (by omega) (by omega)), ⟨a, b, c, a4.keep e (u _ _ (by omega) (by omega))⟩, cu, ⟨dy, a6.keep e (u _ _ (by omega) (by omega))⟩, a7.keep e (u _ _ (by omega) (by omega)), a8.keep e (u _ _ (by omega) (by omega)), a9⟩
theorem Sm.ch {h1 : AH} {lo hi lo2 hi2 ck sk : Nat} (sm : Sm h h1 lo hi) (e1 : lo2 ≤ lo) (e2 : hi ≤ hi2) : Ch h h1 lo2 hi2 ck sk := ⟨Nat.le_of_eq sm.1.symm, by rw [sm.1]; omega, by rw [sm.2.1]; omega, sm.2.2.1.sub (Nat.le_refl _) e1, sm.2.2.2.sub e2 (Nat.le_refl _)⟩
theorem MoT.work {m : Nat} {th : Int32} {s : ST} {h1 : AH} (c : MoT h m th s) (sm : Sm h h1 (m + 49) (m + 53)) (w49 : ArI h1 (m + 49) 61) (w50 : ArI h1 (m + 50) 6) (w51 : ArI h1 (m + 51) 6) (w52 : ArI h1 (m + 52) 6) : MoT h1 m th s := by
  obtain ⟨⟨tk, iw, er, et, dp, nm, a⟩, ⟨-, ⟨f1, a1, c1⟩, a2, a3, a4, a5, a6, a7, a8, ⟨ru, ac, no, a9⟩, ⟨b1, b2, b3, b4, b5, b6, a28⟩, a47, ⟨f, a48, hf⟩, -⟩, ⟨⟨f1', a1', c1'⟩, ⟨f2, a2', c2⟩, ⟨f3, a3', c3⟩, ⟨f4, a4', c4⟩, ⟨f5, a5', c5⟩⟩⟩ := c
  have e : h.1 ≤ h1.1 := Nat.le_of_eq sm.1.symm
  have u : Un h h1 m (m + 49) := sm.2.2.1.sub (Nat.zero_le _) (Nat.le_refl _)
  have am := a.keep e (u m (by omega) (by omega))
  exact ⟨⟨tk, iw, er, et, dp, nm, am⟩, ⟨⟨th, tk, iw, er, et, dp, nm, am⟩, ⟨f1, a1.keep e (u _ (by omega) (by omega)), c1⟩, a2.keep e (u _ (by omega) (by omega)), a3.keep e (u _ (by omega) (by omega)), a4.keep e (u _ (by omega) (by omega)), a5.keep e (u _ (by omega) (by omega)), a6.keep e (u _ (by omega) (by omega)), a7.keep e (u _ (by omega) (by omega)), a8.keep e (u _ (by omega) (by omega)), ⟨ru, ac, no, a9.keep e (u.sub (by omega) (by omega))⟩, ⟨b1, b2, b3, b4, b5, b6, a28.keep e (u.sub (by omega) (by omega))⟩, a47.keep e (u _ (by omega) (by omega)), ⟨f, a48.keep e (u _ (by omega) (by omega)), hf⟩, w49, w50, w51, w52⟩,
    ⟨f1', a1'.keep e (u _ (by omega) (by omega)), c1'⟩, ⟨f2, a2'.keep e (u _ (by omega) (by omega)), c2⟩, ⟨f3, a3'.keep e (u _ (by omega) (by omega)), c3⟩, ⟨f4, a4'.keep e (u _ (by omega) (by omega)), c4⟩, ⟨f5, a5'.keep e (u _ (by omega) (by omega)), c5⟩⟩
theorem MoT.w4 {m : Nat} {th : Int32} {s : ST} (c : MoT h m th s) : ArI h (m + 49) 61 ∧ ArI h (m + 50) 6 ∧ ArI h (m + 51) 6 ∧ ArI h (m + 52) 6 := by
  obtain ⟨-, ⟨-, -, -, -, -, -, -, -, -, -, -, -, -, z1, z2, z3, z4⟩, -⟩ := c
  exact ⟨z1, z2, z3, z4⟩
/-- 'its' is written -/
theorem MoT.its {m : Nat} {th : Int32} {s : ST} (c : MoT h m th s) (f : Nat → Int32) : MoT (hset h (m + 50) (.inl (0, 6, .inl f))) m th s := by
  obtain ⟨⟨f1, z1⟩, ⟨f2, z2⟩, ⟨f3, z3⟩, ⟨f4, z4⟩⟩ := c.w4
  have l2 := z2.1
  exact c.work ((Sm.rf _ _ _).set (by omega) (by omega)) ⟨f1, by (first | assumption | (repeat (first | assumption | exact At.set_eq2 (by (first | omega | (simp only [hset, hnew]; omega) | rfl | decide)) | exact At.new_eq2 _ _ (by (first | omega | (simp only [hset, hnew]; omega) | rfl | decide)) | refine At.set_ne ?_ (by (first | omega | (simp only [hset, hnew]; omega) | rfl | decide)) | refine At.new_ne ?_)))⟩ ⟨f, At.set_eq2 l2⟩ ⟨f3, by (first | assumption | (repeat (first | assumption | exact At.set_eq2 (by (first | omega | (simp only [hset, hnew]; omega) | rfl | decide)) | exact At.new_eq2 _ _ (by (first | omega | (simp only [hset, hnew]; omega) | rfl | decide)) | refine At.set_ne ?_ (by (first | omega | (simp only [hset, hnew]; omega) | rfl | decide)) | refine At.new_ne ?_)))⟩ ⟨f4, by (first | assumption | (repeat (first | assumption | exact At.set_eq2 (by (first | omega | (simp only [hset, hnew]; omega) | rfl | decide)) | exact At.new_eq2 _ _ (by (first | omega | (simp only [hset, hnew]; omega) | rfl | decide)) | refine At.set_ne ?_ (by (first | omega | (simp only [hset, hnew]; omega) | rfl | decide)) | refine At.new_ne ?_)))⟩
theorem MoT.won {m : Nat} {th : Int32} {s : ST} (c : MoT h m th s) (f : Nat → Int32) : MoT (hset h (m + 51) (.inl (0, 6, .inl f))) m th s := by
  obtain ⟨⟨f1, z1⟩, ⟨f2, z2⟩, ⟨f3, z3⟩, ⟨f4, z4⟩⟩ := c.w4
  have l3 := z3.1
  exact c.work ((Sm.rf _ _ _).set (by omega) (by omega)) ⟨f1, by (first | assumption | (repeat (first | assumption | exact At.set_eq2 (by (first | omega | (simp only [hset, hnew]; omega) | rfl | decide)) | exact At.new_eq2 _ _ (by (first | omega | (simp only [hset, hnew]; omega) | rfl | decide)) | refine At.set_ne ?_ (by (first | omega | (simp only [hset, hnew]; omega) | rfl | decide)) | refine At.new_ne ?_)))⟩ ⟨f2, by (first | assumption | (repeat (first | assumption | exact At.set_eq2 (by (first | omega | (simp only [hset, hnew]; omega) | rfl | decide)) | exact At.new_eq2 _ _ (by (first | omega | (simp only [hset, hnew]; omega) | rfl | decide)) | refine At.set_ne ?_ (by (first | omega | (simp only [hset, hnew]; omega) | rfl | decide)) | refine At.new_ne ?_)))⟩ ⟨f, At.set_eq2 l3⟩ ⟨f4, by (first | assumption | (repeat (first | assumption | exact At.set_eq2 (by (first | omega | (simp only [hset, hnew]; omega) | rfl | decide)) | exact At.new_eq2 _ _ (by (first | omega | (simp only [hset, hnew]; omega) | rfl | decide)) | refine At.set_ne ?_ (by (first | omega | (simp only [hset, hnew]; omega) | rfl | decide)) | refine At.new_ne ?_)))⟩
theorem su_ext {f : Nat → Nat} {n : Nat} : ∀ m, n ≤ m → (∀ i, n ≤ i → i < m → f i = 0) → su f m = su f n
  | 0, h, _ => by
    have : n = 0 := by omega
    rw [this]
  | m + 1, h, hz => by
    by_cases e : n = m + 1
    · rw [e]
    · show su f m + f m = su f n
      rw [su_ext m (by omega) (fun i h1 h2 => hz i h1 (by omega)), hz m (by omega) (by omega)]
      rfl
theorem fiN_ext {p : Nat → Nat} {n : Nat} : ∀ m, n ≤ m → (∀ i, n ≤ i → i < m → p i = 0) → fiN p m = fiN p n
  | 0, h, _ => by
    have : n = 0 := by omega
    rw [this]
  | m + 1, h, hz => by
    by_cases e : n = m + 1
    · rw [e]
    · rw [fi_step, if_neg (by rw [hz m (by omega) (by omega)]; exact Nat.not_lt_zero _)]
      exact fiN_ext m (by omega) (fun i h1 h2 => hz i h1 (by omega))

theorem po_la {B : BK} {D : DY} (hb : BDok B D) {j0 : Nat} (hj : j0 < 8) (k : Nat) : po (rt (dF D)) (dB D j0) k = su (fun q => if rt (dF D) q = k then dB D j0 q else 0) (bLa B) := su_ext 6 hb.1 (fun i h1 h2 => by
  show (if rt (dF D) i = k then dB D j0 i else 0) = 0
  rw [hb.2.2.2.2.2.1 j0 i hj h1 h2]
  split <;> rfl)
theorem po_z {B : BK} {D : DY} (hb : BDok B D) {j0 : Nat} (hj : j0 < 8) (k : Nat) (hk : bLa B ≤ k) (hk6 : k < 6) : po (rt (dF D)) (dB D j0) k = 0 := by
  rw [po_la hb hj]
  have g : ∀ n, n ≤ bLa B → su (fun q => if rt (dF D) q = k then dB D j0 q else 0) n = 0 := by
    intro n
    induction n with
    | zero => intro _; rfl
    | succ n ih =>
      intro hn
      have := rt_lt hb 6 n (by omega)
      show su (fun q => if rt (dF D) q = k then dB D j0 q else 0) n + (if rt (dF D) n = k then dB D j0 n else 0) = 0
      rw [ih (by omega), if_neg (by unfold rt; omega)]
  exact g _ (Nat.le_refl _)
set_option maxHeartbeats 4000000 in
set_option maxRecDepth 100000 in
theorem s_add_l2 {h0 : AH} (hd : 1 ≤ d) {th : Int32} (hb : BDok s.2.2.1 s.2.2.2) {j0 : Nat} (q0 : j0 < bJa s.2.2.1) : ∀ (n i : Nat) (h : AH) (f : Nat → Int32), bLa s.2.2.1 ≤ i + n → i ≤ bLa s.2.2.1 → MoT h 216 th s → At h (216 + 50) (.inl (0, 6, .inl f)) → (∀ k, k < 6 → f k = nI (su (fun q => if rt (dF s.2.2.2) q = k then dB s.2.2.2 j0 q else 0) i)) → Sm h0 h (216 + 50) (216 + 51) → RQ G mX12_add d 23 [some (.ref 216), some (.int (nI j0)), some (.int (nI i))] [] h (Rv fun h1 => MoT h1 216 th s ∧ (∃ f, At h1 (216 + 50) (.inl (0, 6, .inl f)) ∧ ∀ k, k < 6 → f k = nI ((po (rt (dF s.2.2.2)) (dB s.2.2.2 j0)) k)) ∧ Sm h0 h1 (216 + 50) (216 + 51)) := by
  have ex : ∀ (i : Nat) (h : AH) (f : Nat → Int32), i = bLa s.2.2.1 → MoT h 216 th s → At h (216 + 50) (.inl (0, 6, .inl f)) → (∀ k, k < 6 → f k = nI (su (fun q => if rt (dF s.2.2.2) q = k then dB s.2.2.2 j0 q else 0) i)) → Sm h0 h (216 + 50) (216 + 51) → RQ G mX12_add d 23 [some (.ref 216), some (.int (nI j0)), some (.int (nI i))] [] h (Rv fun h1 => MoT h1 216 th s ∧ (∃ f, At h1 (216 + 50) (.inl (0, 6, .inl f)) ∧ ∀ k, k < 6 → f k = nI ((po (rt (dF s.2.2.2)) (dB s.2.2.2 j0)) k)) ∧ Sm h0 h1 (216 + 50) (216 + 51)) := by
    intro i h f hi c2 ai hf sm
    subst hi
    obtain ⟨⟨tk, iw, er, et, dp, nm, am⟩, ⟨-, ⟨ft, at1, ct1⟩, -, -, -, -, -, -, -, ⟨ru, ac, no, a9, -⟩, -, -, ⟨fn, a48, n0, nb, nf, nl⟩, -, -, -, -⟩, ⟨⟨gs, as_, cs⟩, ⟨gw, aw, cw⟩, ⟨gl, al, cl⟩, ⟨g0, a0_, c0_⟩, ⟨g1, a1_, c1_⟩⟩⟩ := id c2
    have l1 := hb.1
    have l2 := hb.2.1
    have l3 := hb.2.2.1
    have r6 : ∀ z, z < bLa s.2.2.1 → rt (dF s.2.2.2) z < 6 := fun z hz => rt_lt6 hb z (by omega)
    refine tX12_add_23  (r := ?_)
    refine tX12_add_24  (r := ?_)
    refine tX12_add_25 (ha := (by first | assumption | (repeat (first | assumption | exact At.set_eq2 (by first | omega | (simp only [hset, hnew]; omega) | rfl | decide) | exact At.new_eq2 _ _ (by first | omega | (simp only [hset, hnew]; omega) | rfl | decide) | refine At.set_ne ?_ (by first | omega | (simp only [hset, hnew]; omega) | rfl | decide) | refine At.new_ne ?_)))) (hv := rfl) (r := ?_)
    refine tX12_add_28 (ha := (by first | assumption | (repeat (first | assumption | exact At.set_eq2 (by first | omega | (simp only [hset, hnew]; omega) | rfl | decide) | exact At.new_eq2 _ _ (by first | omega | (simp only [hset, hnew]; omega) | rfl | decide) | refine At.set_ne ?_ (by first | omega | (simp only [hset, hnew]; omega) | rfl | decide) | refine At.new_ne ?_)))) (hv := rfl) (r := ?_)
    refine tX12_add_31  (kf := fun c_ => by exfalso; (simp (disch := first | omega | decide) only [ci_lt, ci_le, ci_eq, ci_lt0, ci_ge0, ci_gt0, ci_le0, ci_eq0, ci_m1_lt, ci_m1_le, ci_lt_m1, ci_le_m1, ci_eq_m1, ci_m1_eq, not_true, not_false_iff, Nat.not_lt, Nat.not_le] at c_ <;> omega)) (kt := fun _ => ?_)
    refine tX12_add_59  (hP := ?_)
    exact ⟨rfl, c2, ⟨f, ai, fun k hk => by rw [hf k hk, po_la hb (by omega)]⟩, sm⟩
  intro n
  induction n with
  | zero => exact fun i h f h1_ h2_ => ex i h f (by omega)
  | succ n ih =>
    intro i h f h1_ h2_ c2 ai hf sm
    by_cases hi : i = bLa s.2.2.1
    · exact ex i h f hi c2 ai hf sm
    have hi2 : i < bLa s.2.2.1 := by omega
    obtain ⟨⟨tk, iw, er, et, dp, nm, am⟩, ⟨-, ⟨ft, at1, ct1⟩, -, -, -, -, -, -, -, ⟨ru, ac, no, a9, -⟩, -, -, ⟨fn, a48, n0, nb, nf, nl⟩, -, -, -, -⟩, ⟨⟨gs, as_, cs⟩, ⟨gw, aw, cw⟩, ⟨gl, al, cl⟩, ⟨g0, a0_, c0_⟩, ⟨g1, a1_, c1_⟩⟩⟩ := id c2
    have l1 := hb.1
    have l2 := hb.2.1
    have l3 := hb.2.2.1
    have r6 : ∀ z, z < bLa s.2.2.1 → rt (dF s.2.2.2) z < 6 := fun z hz => rt_lt6 hb z (by omega)
    have r6 := r6 i hi2
    refine tX12_add_23  (r := ?_)
    refine tX12_add_24  (r := ?_)
    refine tX12_add_25 (ha := (by first | assumption | (repeat (first | assumption | exact At.set_eq2 (by first | omega | (simp only [hset, hnew]; omega) | rfl | decide) | exact At.new_eq2 _ _ (by first | omega | (simp only [hset, hnew]; omega) | rfl | decide) | refine At.set_ne ?_ (by first | omega | (simp only [hset, hnew]; omega) | rfl | decide) | refine At.new_ne ?_)))) (hv := rfl) (r := ?_)
    refine tX12_add_28 (ha := (by first | assumption | (repeat (first | assumption | exact At.set_eq2 (by first | omega | (simp only [hset, hnew]; omega) | rfl | decide) | exact At.new_eq2 _ _ (by first | omega | (simp only [hset, hnew]; omega) | rfl | decide) | refine At.set_ne ?_ (by first | omega | (simp only [hset, hnew]; omega) | rfl | decide) | refine At.new_ne ?_)))) (hv := rfl) (r := ?_)
    refine tX12_add_31  (kt := fun c_ => by exfalso; (simp (disch := first | omega | decide) only [ci_lt, ci_le, ci_eq, ci_lt0, ci_ge0, ci_gt0, ci_le0, ci_eq0, ci_m1_lt, ci_m1_le, ci_lt_m1, ci_le_m1, ci_eq_m1, ci_m1_eq, not_true, not_false_iff, Nat.not_lt, Nat.not_le] at c_ <;> omega)) (kf := fun _ => ?_)
    refine tX12_add_34  (r := ?_)
    refine tX12_add_35 (ha := (by first | assumption | (repeat (first | assumption | exact At.set_eq2 (by first | omega | (simp only [hset, hnew]; omega) | rfl | decide) | exact At.new_eq2 _ _ (by first | omega | (simp only [hset, hnew]; omega) | rfl | decide) | refine At.set_ne ?_ (by first | omega | (simp only [hset, hnew]; omega) | rfl | decide) | refine At.new_ne ?_)))) (hv := rfl) (r := ?_)
    refine tX12_add_38  (r := ?_)
    refine tX12_add_39  (r := ?_)
    refine tX12_add_40 (hd := (by omega)) (ha := (by first | assumption | (repeat (first | assumption | exact At.set_eq2 (by first | omega | (simp only [hset, hnew]; omega) | rfl | decide) | exact At.new_eq2 _ _ (by first | omega | (simp only [hset, hnew]; omega) | rfl | decide) | refine At.set_ne ?_ (by first | omega | (simp only [hset, hnew]; omega) | rfl | decide) | refine At.new_ne ?_)))) (call := s_leader (d := 0) c2 hb hi2) (k := ?_)
    rintro v1 h_ ⟨rfl, e9⟩
    rw [e9]
    refine tX12_add_43  (r := ?_)
    refine tX12_add_44 (ha := (by first | assumption | (repeat (first | assumption | exact At.set_eq2 (by first | omega | (simp only [hset, hnew]; omega) | rfl | decide) | exact At.new_eq2 _ _ (by first | omega | (simp only [hset, hnew]; omega) | rfl | decide) | refine At.set_ne ?_ (by first | omega | (simp only [hset, hnew]; omega) | rfl | decide) | refine At.new_ne ?_)))) (hx := rfl) (hj := r6) (hn := (by decide)) (r := ?_)
    rw [hf _ r6]
    refine tX12_add_45  (r := ?_)
    refine tX12_add_46  (r := ?_)
    refine tX12_add_47  (r := ?_)
    refine tX12_add_48 (hd := (by omega)) (ha := (by first | assumption | (repeat (first | assumption | exact At.set_eq2 (by first | omega | (simp only [hset, hnew]; omega) | rfl | decide) | exact At.new_eq2 _ _ (by first | omega | (simp only [hset, hnew]; omega) | rfl | decide) | refine At.set_ne ?_ (by first | omega | (simp only [hset, hnew]; omega) | rfl | decide) | refine At.new_ne ?_)))) (call := s_held (d := 0) c2 hb q0 hi2) (k := ?_)
    rintro v2 h_ ⟨rfl, e8⟩
    rw [e8]
    refine tX12_add_51  (r := ?_)
    rw [nI_add]
    refine tX12_add_52 (ha := (by first | assumption | (repeat (first | assumption | exact At.set_eq2 (by first | omega | (simp only [hset, hnew]; omega) | rfl | decide) | exact At.new_eq2 _ _ (by first | omega | (simp only [hset, hnew]; omega) | rfl | decide) | refine At.set_ne ?_ (by first | omega | (simp only [hset, hnew]; omega) | rfl | decide) | refine At.new_ne ?_)))) (hx := rfl) (hj := r6) (hn := (by decide)) (r := ?_)
    refine tX12_add_53  (r := ?_)
    rw [nI_add]
    refine tX12_add_56 (r := ?_)
    refine ih (i + 1) _ _ (by omega) (by omega) (c2.its _) (At.set_eq2 ai.1) (fun k hk => ?_) (sm.set (by omega) (by omega))
    show (if k = rt (dF s.2.2.2) i then _ else f k) = nI (su (fun q => if rt (dF s.2.2.2) q = k then dB s.2.2.2 j0 q else 0) i + (if rt (dF s.2.2.2) i = k then dB s.2.2.2 j0 i else 0))
    by_cases e : k = rt (dF s.2.2.2) i
    · rw [if_pos e, if_pos e.symm, e]
    · rw [if_neg e, if_neg (fun z => e z.symm), hf k hk]
      rfl

set_option maxHeartbeats 4000000 in
set_option maxRecDepth 100000 in
theorem s_add_l1 {h0 : AH} (hd : 1 ≤ d) {th : Int32} (hb : BDok s.2.2.1 s.2.2.2) {j0 : Nat} (q0 : j0 < bJa s.2.2.1) : ∀ (n i : Nat) (h : AH) (f : Nat → Int32), 6 ≤ i + n → i ≤ 6 → MoT h 216 th s → At h (216 + 50) (.inl (0, 6, .inl f)) → (∀ k, k < i → f k = nI 0) → Sm h0 h (216 + 50) (216 + 51) → RQ G mX12_add d 2 [some (.ref 216), some (.int (nI j0)), some (.int (nI i))] [] h (Rv fun h1 => MoT h1 216 th s ∧ (∃ f, At h1 (216 + 50) (.inl (0, 6, .inl f)) ∧ ∀ k, k < 6 → f k = nI ((po (rt (dF s.2.2.2)) (dB s.2.2.2 j0)) k)) ∧ Sm h0 h1 (216 + 50) (216 + 51)) := by
  have ex : ∀ (i : Nat) (h : AH) (f : Nat → Int32), i = 6 → MoT h 216 th s → At h (216 + 50) (.inl (0, 6, .inl f)) → (∀ k, k < i → f k = nI 0) → Sm h0 h (216 + 50) (216 + 51) → RQ G mX12_add d 2 [some (.ref 216), some (.int (nI j0)), some (.int (nI i))] [] h (Rv fun h1 => MoT h1 216 th s ∧ (∃ f, At h1 (216 + 50) (.inl (0, 6, .inl f)) ∧ ∀ k, k < 6 → f k = nI ((po (rt (dF s.2.2.2)) (dB s.2.2.2 j0)) k)) ∧ Sm h0 h1 (216 + 50) (216 + 51)) := by
    intro i h f hi c2 ai hf sm
    subst hi
    obtain ⟨⟨tk, iw, er, et, dp, nm, am⟩, ⟨-, ⟨ft, at1, ct1⟩, -, -, -, -, -, -, -, ⟨ru, ac, no, a9, -⟩, -, -, ⟨fn, a48, n0, nb, nf, nl⟩, -, -, -, -⟩, ⟨⟨gs, as_, cs⟩, ⟨gw, aw, cw⟩, ⟨gl, al, cl⟩, ⟨g0, a0_, c0_⟩, ⟨g1, a1_, c1_⟩⟩⟩ := id c2
    have l1 := hb.1
    have l2 := hb.2.1
    have l3 := hb.2.2.1
    refine tX12_add_2  (r := ?_)
    refine tX12_add_3  (r := ?_)
    refine tX12_add_5  (kf := fun c_ => by exfalso; exact c_ (by decide)) (kt := fun _ => ?_)
    refine tX12_add_21  (r := ?_)
    refine tX12_add_22  (r := ?_)
    exact s_add_l2 hd hb q0 (bLa s.2.2.1) 0 h f (by omega) (by omega) c2 ai (fun k hk => hf k hk) sm
  intro n
  induction n with
  | zero => exact fun i h f h1_ h2_ => ex i h f (by omega)
  | succ n ih =>
    intro i h f h1_ h2_ c2 ai hf sm
    by_cases hi : i = 6
    · exact ex i h f hi c2 ai hf sm
    have hi2 : i < 6 := by omega
    obtain ⟨⟨tk, iw, er, et, dp, nm, am⟩, ⟨-, ⟨ft, at1, ct1⟩, -, -, -, -, -, -, -, ⟨ru, ac, no, a9, -⟩, -, -, ⟨fn, a48, n0, nb, nf, nl⟩, -, -, -, -⟩, ⟨⟨gs, as_, cs⟩, ⟨gw, aw, cw⟩, ⟨gl, al, cl⟩, ⟨g0, a0_, c0_⟩, ⟨g1, a1_, c1_⟩⟩⟩ := id c2
    have l1 := hb.1
    have l2 := hb.2.1
    have l3 := hb.2.2.1
    refine tX12_add_2  (r := ?_)
    refine tX12_add_3  (r := ?_)
    refine tX12_add_5  (kt := fun c_ => by exfalso; (simp (disch := first | omega | decide) only [ci_lt, ci_le, ci_eq, ci_lt0, ci_ge0, ci_gt0, ci_le0, ci_eq0, ci_m1_lt, ci_m1_le, ci_lt_m1, ci_le_m1, ci_eq_m1, ci_m1_eq, not_true, not_false_iff, Nat.not_lt, Nat.not_le] at c_ <;> omega)) (kf := fun _ => ?_)
    refine tX12_add_8  (r := ?_)
    refine tX12_add_9 (ha := (by first | assumption | (repeat (first | assumption | exact At.set_eq2 (by first | omega | (simp only [hset, hnew]; omega) | rfl | decide) | exact At.new_eq2 _ _ (by first | omega | (simp only [hset, hnew]; omega) | rfl | decide) | refine At.set_ne ?_ (by first | omega | (simp only [hset, hnew]; omega) | rfl | decide) | refine At.new_ne ?_)))) (hv := rfl) (r := ?_)
    refine tX12_add_12  (r := ?_)
    refine tX12_add_13  (r := ?_)
    refine tX12_add_14 (ha := (by first | assumption | (repeat (first | assumption | exact At.set_eq2 (by first | omega | (simp only [hset, hnew]; omega) | rfl | decide) | exact At.new_eq2 _ _ (by first | omega | (simp only [hset, hnew]; omega) | rfl | decide) | refine At.set_ne ?_ (by first | omega | (simp only [hset, hnew]; omega) | rfl | decide) | refine At.new_ne ?_)))) (hx := rfl) (hj := (by omega)) (hn := (by decide)) (r := ?_)
    refine tX12_add_15  (r := ?_)
    rw [nI_add]
    refine tX12_add_18 (r := ?_)
    refine ih (i + 1) _ _ (by omega) (by omega) (c2.its _) (At.set_eq2 ai.1) (fun k hk => ?_) (sm.set (by omega) (by omega))
    by_cases e : k = i
    · subst e
      exact if_pos rfl
    · exact (if_neg e).trans (hf k (by omega))

set_option maxHeartbeats 4000000 in
set_option maxRecDepth 100000 in
theorem s_add (hd : 1 ≤ d) {th : Int32} (c2 : MoT h 216 th s) (hb : BDok s.2.2.1 s.2.2.2) {j0 : Nat} (q0 : j0 < bJa s.2.2.1) : RQ G mX12_add d 0 [some (.ref 216), some (.int (nI j0)), none] [] h (Rv fun h1 => MoT h1 216 th s ∧ (∃ f, At h1 (216 + 50) (.inl (0, 6, .inl f)) ∧ ∀ k, k < 6 → f k = nI ((po (rt (dF s.2.2.2)) (dB s.2.2.2 j0)) k)) ∧ Sm h h1 (216 + 50) (216 + 51)) := by
  obtain ⟨-, ⟨f, ai⟩, -, -⟩ := c2.w4
  refine tX12_add_0  (r := ?_)
  refine tX12_add_1  (r := ?_)
  exact s_add_l1 hd hb q0 6 0 h f (by omega) (by omega) c2 ai (fun k hk => absurd hk (Nat.not_lt_zero k)) (Sm.rf _ _ _)

set_option maxHeartbeats 4000000 in
set_option maxRecDepth 100000 in
theorem s_firstOf_l {th : Int32} (c2 : MoT h 216 th s) (hb : BDok s.2.2.1 s.2.2.2) {f : Nat → Int32} (ai : At h (216 + 50) (.inl (0, 6, .inl f))) {q : Nat → Nat} (hf : ∀ k, k < bLa s.2.2.1 → f k = nI (q k)) (hq : ∀ k, k < 6 → q k ≤ 1200) (hz : ∀ k, bLa s.2.2.1 ≤ k → k < 6 → q k = 0) : ∀ (n i : Nat), bLa s.2.2.1 ≤ i + n → i ≤ bLa s.2.2.1 → RQ G mX12_firstOf d 4 [some (.ref 216), some (.int (oI (fiN q i))), some (.int (nI i))] [] h (Ri fun v h1 => v = oI (fiN q 6) ∧ h1 = h) := by
  obtain ⟨⟨tk, iw, er, et, dp, nm, am⟩, ⟨-, ⟨ft, at1, ct1⟩, -, -, -, -, -, -, -, ⟨ru, ac, no, a9, -⟩, -, -, ⟨fn, a48, n0, nb, nf, nl⟩, -, -, -, -⟩, ⟨⟨gs, as_, cs⟩, ⟨gw, aw, cw⟩, ⟨gl, al, cl⟩, ⟨g0, a0_, c0_⟩, ⟨g1, a1_, c1_⟩⟩⟩ := id c2
  have l1 := hb.1
  have l2 := hb.2.1
  have l3 := hb.2.2.1
  have ex : RQ G mX12_firstOf d 4 [some (.ref 216), some (.int (oI (fiN q (bLa s.2.2.1)))), some (.int (nI (bLa s.2.2.1)))] [] h (Ri fun v h1 => v = oI (fiN q 6) ∧ h1 = h) := by
    refine tX12_firstOf_4  (r := ?_)
    refine tX12_firstOf_5  (r := ?_)
    refine tX12_firstOf_6 (ha := (by first | assumption | (repeat (first | assumption | exact At.set_eq2 (by first | omega | (simp only [hset, hnew]; omega) | rfl | decide) | exact At.new_eq2 _ _ (by first | omega | (simp only [hset, hnew]; omega) | rfl | decide) | refine At.set_ne ?_ (by first | omega | (simp only [hset, hnew]; omega) | rfl | decide) | refine At.new_ne ?_)))) (hv := rfl) (r := ?_)
    refine tX12_firstOf_9 (ha := (by first | assumption | (repeat (first | assumption | exact At.set_eq2 (by first | omega | (simp only [hset, hnew]; omega) | rfl | decide) | exact At.new_eq2 _ _ (by first | omega | (simp only [hset, hnew]; omega) | rfl | decide) | refine At.set_ne ?_ (by first | omega | (simp only [hset, hnew]; omega) | rfl | decide) | refine At.new_ne ?_)))) (hv := rfl) (r := ?_)
    refine tX12_firstOf_12  (kf := fun c_ => by exfalso; (simp (disch := first | omega | decide) only [ci_lt, ci_le, ci_eq, ci_lt0, ci_ge0, ci_gt0, ci_le0, ci_eq0, ci_m1_lt, ci_m1_le, ci_lt_m1, ci_le_m1, ci_eq_m1, ci_m1_eq, not_true, not_false_iff, Nat.not_lt, Nat.not_le] at c_ <;> omega)) (kt := fun _ => ?_)
    refine tX12_firstOf_52  (r := ?_)
    refine tX12_firstOf_53  (hP := ?_)
    exact ⟨_, rfl, by rw [fiN_ext 6 l1 hz], rfl⟩
  intro n
  induction n with
  | zero =>
    intro i h1_ h2_
    have hi : i = bLa s.2.2.1 := by omega
    rw [hi]
    exact ex
  | succ n ih =>
    intro i h1_ h2_
    by_cases hi : i = bLa s.2.2.1
    · rw [hi]
      exact ex
    have hi2 : i < bLa s.2.2.1 := by omega
    have v1 := hq i (by omega)
    have fs := fi_step q i
    refine tX12_firstOf_4  (r := ?_)
    refine tX12_firstOf_5  (r := ?_)
    refine tX12_firstOf_6 (ha := (by first | assumption | (repeat (first | assumption | exact At.set_eq2 (by first | omega | (simp only [hset, hnew]; omega) | rfl | decide) | exact At.new_eq2 _ _ (by first | omega | (simp only [hset, hnew]; omega) | rfl | decide) | refine At.set_ne ?_ (by first | omega | (simp only [hset, hnew]; omega) | rfl | decide) | refine At.new_ne ?_)))) (hv := rfl) (r := ?_)
    refine tX12_firstOf_9 (ha := (by first | assumption | (repeat (first | assumption | exact At.set_eq2 (by first | omega | (simp only [hset, hnew]; omega) | rfl | decide) | exact At.new_eq2 _ _ (by first | omega | (simp only [hset, hnew]; omega) | rfl | decide) | refine At.set_ne ?_ (by first | omega | (simp only [hset, hnew]; omega) | rfl | decide) | refine At.new_ne ?_)))) (hv := rfl) (r := ?_)
    refine tX12_firstOf_12  (kt := fun c_ => by exfalso; (simp (disch := first | omega | decide) only [ci_lt, ci_le, ci_eq, ci_lt0, ci_ge0, ci_gt0, ci_le0, ci_eq0, ci_m1_lt, ci_m1_le, ci_lt_m1, ci_le_m1, ci_eq_m1, ci_m1_eq, not_true, not_false_iff, Nat.not_lt, Nat.not_le] at c_ <;> omega)) (kf := fun _ => ?_)
    refine tX12_firstOf_15  (r := ?_)
    refine tX12_firstOf_16 (ha := (by first | assumption | (repeat (first | assumption | exact At.set_eq2 (by first | omega | (simp only [hset, hnew]; omega) | rfl | decide) | exact At.new_eq2 _ _ (by first | omega | (simp only [hset, hnew]; omega) | rfl | decide) | refine At.set_ne ?_ (by first | omega | (simp only [hset, hnew]; omega) | rfl | decide) | refine At.new_ne ?_)))) (hv := rfl) (r := ?_)
    refine tX12_firstOf_19  (r := ?_)
    refine tX12_firstOf_20 (ha := (by first | assumption | (repeat (first | assumption | exact At.set_eq2 (by first | omega | (simp only [hset, hnew]; omega) | rfl | decide) | exact At.new_eq2 _ _ (by first | omega | (simp only [hset, hnew]; omega) | rfl | decide) | refine At.set_ne ?_ (by first | omega | (simp only [hset, hnew]; omega) | rfl | decide) | refine At.new_ne ?_)))) (hx := rfl) (hj := (by omega)) (hn := (by decide)) (r := ?_)
    rw [hf _ hi2]
    refine tX12_firstOf_21  (kt := fun c_21 => ?_) (kf := fun c_21 => ?_)
    · have e0 : q i = 0 := by
        have := (nI_leI (a := q i) (b := 0) (by omega) (by decide)).mp (by rw [nI_0]; exact c_21)
        omega
      have e : fiN q (i + 1) = fiN q i := by rw [fs, if_neg (by omega)]
      rw [← e]
      refine tX12_firstOf_46  (r := ?_)
      rw [nI_add]
      refine tX12_firstOf_49 (r := ?_)
      exact ih (i + 1) (by omega) (by omega)
    · have e0 : 0 < q i := Nat.lt_of_not_le (fun z => c_21 (by rw [← nI_0]; exact (nI_leI (by omega) (by decide)).mpr z))
      refine tX12_firstOf_24  (r := ?_)
      refine tX12_firstOf_25  (r := ?_)
      refine tX12_firstOf_26  (kt := fun c_26 => ?_) (kf := fun c_26 => ?_)
      · have e : fiN q (i + 1) = some i := by
          cases e1 : fiN q i with
          | none =>
            rw [fs, e1, if_pos (show mo q none < q i from e0)]
          | some k =>
            have k6 := fi_lt _ _ _ e1
            rw [e1] at c_26
            have c9 : nI k = -1 := c_26
            rw [ci_eq_m1 (by omega)] at c9
            exact c9.elim
        refine tX12_firstOf_44  (r := ?_)
        refine tX12_firstOf_45  (r := ?_)
        refine tX12_firstOf_46  (r := ?_)
        rw [nI_add]
        refine tX12_firstOf_49 (r := ?_)
        have key := ih (i + 1) (by omega) (by omega)
        rw [e] at key
        exact key
      · obtain ⟨k, e1⟩ : ∃ k, fiN q i = some k := by
          cases e1 : fiN q i with
          | none =>
            rw [e1] at c_26
            exact absurd rfl c_26
          | some k => exact ⟨k, rfl⟩
        have k6 := fi_lt _ _ _ e1
        have v2 := hq k (by omega)
        rw [e1]
        refine tX12_firstOf_29  (r := ?_)
        refine tX12_firstOf_30 (ha := (by first | assumption | (repeat (first | assumption | exact At.set_eq2 (by first | omega | (simp only [hset, hnew]; omega) | rfl | decide) | exact At.new_eq2 _ _ (by first | omega | (simp only [hset, hnew]; omega) | rfl | decide) | refine At.set_ne ?_ (by first | omega | (simp only [hset, hnew]; omega) | rfl | decide) | refine At.new_ne ?_)))) (hv := rfl) (r := ?_)
        refine tX12_firstOf_33  (r := ?_)
        refine tX12_firstOf_34 (ha := (by first | assumption | (repeat (first | assumption | exact At.set_eq2 (by first | omega | (simp only [hset, hnew]; omega) | rfl | decide) | exact At.new_eq2 _ _ (by first | omega | (simp only [hset, hnew]; omega) | rfl | decide) | refine At.set_ne ?_ (by first | omega | (simp only [hset, hnew]; omega) | rfl | decide) | refine At.new_ne ?_)))) (hx := rfl) (hj := (by omega)) (hn := (by decide)) (r := ?_)
        rw [hf _ hi2]
        refine tX12_firstOf_35  (r := ?_)
        refine tX12_firstOf_36 (ha := (by first | assumption | (repeat (first | assumption | exact At.set_eq2 (by first | omega | (simp only [hset, hnew]; omega) | rfl | decide) | exact At.new_eq2 _ _ (by first | omega | (simp only [hset, hnew]; omega) | rfl | decide) | refine At.set_ne ?_ (by first | omega | (simp only [hset, hnew]; omega) | rfl | decide) | refine At.new_ne ?_)))) (hv := rfl) (r := ?_)
        refine tX12_firstOf_39  (r := ?_)
        refine tX12_firstOf_40 (ha := (by first | assumption | (repeat (first | assumption | exact At.set_eq2 (by first | omega | (simp only [hset, hnew]; omega) | rfl | decide) | exact At.new_eq2 _ _ (by first | omega | (simp only [hset, hnew]; omega) | rfl | decide) | refine At.set_ne ?_ (by first | omega | (simp only [hset, hnew]; omega) | rfl | decide) | refine At.new_ne ?_)))) (hx := rfl) (hj := (by omega)) (hn := (by decide)) (r := ?_)
        rw [hf _ (by omega)]
        refine tX12_firstOf_41  (kt := fun c_41 => ?_) (kf := fun c_41 => ?_)
        · have e : fiN q (i + 1) = some k := by
            have := (nI_leI (by omega) (by omega)).mp c_41
            rw [fs, e1]
            exact if_neg (show ¬ q k < q i by omega)
          refine tX12_firstOf_46  (r := ?_)
          rw [nI_add]
          refine tX12_firstOf_49 (r := ?_)
          have key := ih (i + 1) (by omega) (by omega)
          rw [e] at key
          exact key
        · have e : fiN q (i + 1) = some i := by
            have := Nat.lt_of_not_le (fun z => c_41 ((nI_leI (by omega) (by omega)).mpr z))
            rw [fs, e1]
            exact if_pos (show q k < q i by omega)
          refine tX12_firstOf_44  (r := ?_)
          refine tX12_firstOf_45  (r := ?_)
          refine tX12_firstOf_46  (r := ?_)
          rw [nI_add]
          refine tX12_firstOf_49 (r := ?_)
          have key := ih (i + 1) (by omega) (by omega)
          rw [e] at key
          exact key

set_option maxHeartbeats 4000000 in
set_option maxRecDepth 100000 in
theorem s_firstOf {th : Int32} (c2 : MoT h 216 th s) (hb : BDok s.2.2.1 s.2.2.2) {f : Nat → Int32} (ai : At h (216 + 50) (.inl (0, 6, .inl f))) {q : Nat → Nat} (hf : ∀ k, k < bLa s.2.2.1 → f k = nI (q k)) (hq : ∀ k, k < 6 → q k ≤ 1200) (hz : ∀ k, bLa s.2.2.1 ≤ k → k < 6 → q k = 0) : RQ G mX12_firstOf d 0 [some (.ref 216), none, none] [] h (Ri fun v h1 => v = oI (fiN q 6) ∧ h1 = h) := by
  refine tX12_firstOf_0  (r := ?_)
  refine tX12_firstOf_1  (r := ?_)
  refine tX12_firstOf_2  (r := ?_)
  refine tX12_firstOf_3  (r := ?_)
  exact s_firstOf_l c2 hb ai hf hq hz (bLa s.2.2.1) 0 (by omega) (by omega)

set_option maxHeartbeats 4000000 in
set_option maxRecDepth 100000 in
theorem s_firstHere (hd : 2 ≤ d) {th : Int32} (c2 : MoT h 216 th s) (hb : BDok s.2.2.1 s.2.2.2) {j0 : Nat} (q0 : j0 < bJa s.2.2.1) : RQ G mX12_firstHere d 0 [some (.ref 216), some (.int (nI j0))] [] h (Ri fun v h1 => v = oI (fiN (po (rt (dF s.2.2.2)) (dB s.2.2.2 j0)) 6) ∧ MoT h1 216 th s ∧ (∃ f, At h1 (216 + 50) (.inl (0, 6, .inl f)) ∧ ∀ k, k < 6 → f k = nI ((po (rt (dF s.2.2.2)) (dB s.2.2.2 j0)) k)) ∧ Sm h h1 (216 + 50) (216 + 51)) := by
  have l2 := hb.2.1
  have hs := hb.2.2.2.2.2.2.1 j0 (by omega)
  obtain ⟨⟨tk, iw, er, et, dp, nm, am⟩, -⟩ := id c2
  refine tX12_firstHere_0  (r := ?_)
  refine tX12_firstHere_1  (r := ?_)
  refine tX12_firstHere_2 (hd := (by omega)) (ha := (by first | assumption | (repeat (first | assumption | exact At.set_eq2 (by first | omega | (simp only [hset, hnew]; omega) | rfl | decide) | exact At.new_eq2 _ _ (by first | omega | (simp only [hset, hnew]; omega) | rfl | decide) | refine At.set_ne ?_ (by first | omega | (simp only [hset, hnew]; omega) | rfl | decide) | refine At.new_ne ?_)))) (call := s_add (d := 1) (by decide) c2 hb q0) (k := ?_)
  intro h1 hq
  obtain ⟨c3, ⟨f, ai, hf⟩, sm⟩ := hq
  obtain ⟨⟨tk3, iw3, er3, et3, dp3, nm3, am3⟩, -⟩ := id c3
  refine tX12_firstHere_5  (r := ?_)
  refine tX12_firstHere_6 (hd := (by omega)) (ha := (by first | assumption | (repeat (first | assumption | exact At.set_eq2 (by first | omega | (simp only [hset, hnew]; omega) | rfl | decide) | exact At.new_eq2 _ _ (by first | omega | (simp only [hset, hnew]; omega) | rfl | decide) | refine At.set_ne ?_ (by first | omega | (simp only [hset, hnew]; omega) | rfl | decide) | refine At.new_ne ?_)))) (call := s_firstOf (d := 0) c3 hb ai (fun k hk => hf k (Nat.lt_of_lt_of_le hk hb.1)) (fun k hk => po_le hs k) (fun k h1_ h2_ => po_z hb (by omega) k h1_ h2_)) (k := ?_)
  rintro v h2 ⟨rfl, e9⟩
  rw [e9]
  refine tX12_firstHere_9  (hP := ?_)
  exact ⟨_, rfl, rfl, c3, ⟨f, ai, hf⟩, sm⟩

theorem all_la {B : BK} {D : DY} (hb : BDok B D) {j0 : Nat} (hj : j0 < 8) : su (dB D j0) 6 = su (dB D j0) (bLa B) := su_ext 6 hb.1 (fun i h1 h2 => hb.2.2.2.2.2.1 j0 i hj h1 h2)
set_option maxHeartbeats 4000000 in
set_option maxRecDepth 100000 in
theorem s_all_l {th : Int32} (hd : 1 ≤ d) (c2 : MoT h 216 th s) (hb : BDok s.2.2.1 s.2.2.2) {j0 : Nat} (q0 : j0 < bJa s.2.2.1) : ∀ (n i : Nat), bLa s.2.2.1 ≤ i + n → i ≤ bLa s.2.2.1 → RQ G mX12_all d 4 [some (.ref 216), some (.int (nI j0)), some (.int (nI (su (dB s.2.2.2 j0) i))), some (.int (nI i))] [] h (Ri fun v h1 => v = nI (su (dB s.2.2.2 j0) 6) ∧ h1 = h) := by
  obtain ⟨⟨tk, iw, er, et, dp, nm, am⟩, ⟨-, ⟨ft, at1, ct1⟩, -, -, -, -, -, -, -, ⟨ru, ac, no, a9, -⟩, -, -, ⟨fn, a48, n0, nb, nf, nl⟩, -, -, -, -⟩, ⟨⟨gs, as_, cs⟩, ⟨gw, aw, cw⟩, ⟨gl, al, cl⟩, ⟨g0, a0_, c0_⟩, ⟨g1, a1_, c1_⟩⟩⟩ := id c2
  have l1 := hb.1
  have l2 := hb.2.1
  have l3 := hb.2.2.1
  have ex : ∀ i, i = bLa s.2.2.1 → RQ G mX12_all d 4 [some (.ref 216), some (.int (nI j0)), some (.int (nI (su (dB s.2.2.2 j0) i))), some (.int (nI i))] [] h (Ri fun v h1 => v = nI (su (dB s.2.2.2 j0) 6) ∧ h1 = h) := by
    intro i hi
    rw [hi]
    refine tX12_all_4  (r := ?_)
    refine tX12_all_5  (r := ?_)
    refine tX12_all_6 (ha := (by first | assumption | (repeat (first | assumption | exact At.set_eq2 (by first | omega | (simp only [hset, hnew]; omega) | rfl | decide) | exact At.new_eq2 _ _ (by first | omega | (simp only [hset, hnew]; omega) | rfl | decide) | refine At.set_ne ?_ (by first | omega | (simp only [hset, hnew]; omega) | rfl | decide) | refine At.new_ne ?_)))) (hv := rfl) (r := ?_)
    refine tX12_all_9 (ha := (by first | assumption | (repeat (first | assumption | exact At.set_eq2 (by first | omega | (simp only [hset, hnew]; omega) | rfl | decide) | exact At.new_eq2 _ _ (by first | omega | (simp only [hset, hnew]; omega) | rfl | decide) | refine At.set_ne ?_ (by first | omega | (simp only [hset, hnew]; omega) | rfl | decide) | refine At.new_ne ?_)))) (hv := rfl) (r := ?_)
    refine tX12_all_12  (kf := fun c_ => by exfalso; (simp (disch := first | omega | decide) only [ci_lt, ci_le, ci_eq, ci_lt0, ci_ge0, ci_gt0, ci_le0, ci_eq0, ci_m1_lt, ci_m1_le, ci_lt_m1, ci_le_m1, ci_eq_m1, ci_m1_eq, not_true, not_false_iff, Nat.not_lt, Nat.not_le] at c_ <;> omega)) (kt := fun _ => ?_)
    refine tX12_all_30  (r := ?_)
    refine tX12_all_31  (hP := ?_)
    exact ⟨_, rfl, by rw [all_la hb (by omega)], rfl⟩
  intro n
  induction n with
  | zero => exact fun i h1_ h2_ => ex i (by omega)
  | succ n ih =>
    intro i h1_ h2_
    by_cases hi : i = bLa s.2.2.1
    · exact ex i hi
    have hi2 : i < bLa s.2.2.1 := by omega
    refine tX12_all_4  (r := ?_)
    refine tX12_all_5  (r := ?_)
    refine tX12_all_6 (ha := (by first | assumption | (repeat (first | assumption | exact At.set_eq2 (by first | omega | (simp only [hset, hnew]; omega) | rfl | decide) | exact At.new_eq2 _ _ (by first | omega | (simp only [hset, hnew]; omega) | rfl | decide) | refine At.set_ne ?_ (by first | omega | (simp only [hset, hnew]; omega) | rfl | decide) | refine At.new_ne ?_)))) (hv := rfl) (r := ?_)
    refine tX12_all_9 (ha := (by first | assumption | (repeat (first | assumption | exact At.set_eq2 (by first | omega | (simp only [hset, hnew]; omega) | rfl | decide) | exact At.new_eq2 _ _ (by first | omega | (simp only [hset, hnew]; omega) | rfl | decide) | refine At.set_ne ?_ (by first | omega | (simp only [hset, hnew]; omega) | rfl | decide) | refine At.new_ne ?_)))) (hv := rfl) (r := ?_)
    refine tX12_all_12  (kt := fun c_ => by exfalso; (simp (disch := first | omega | decide) only [ci_lt, ci_le, ci_eq, ci_lt0, ci_ge0, ci_gt0, ci_le0, ci_eq0, ci_m1_lt, ci_m1_le, ci_lt_m1, ci_le_m1, ci_eq_m1, ci_m1_eq, not_true, not_false_iff, Nat.not_lt, Nat.not_le] at c_ <;> omega)) (kf := fun _ => ?_)
    refine tX12_all_15  (r := ?_)
    refine tX12_all_16  (r := ?_)
    refine tX12_all_17  (r := ?_)
    refine tX12_all_18  (r := ?_)
    refine tX12_all_19 (hd := (by omega)) (ha := (by first | assumption | (repeat (first | assumption | exact At.set_eq2 (by first | omega | (simp only [hset, hnew]; omega) | rfl | decide) | exact At.new_eq2 _ _ (by first | omega | (simp only [hset, hnew]; omega) | rfl | decide) | refine At.set_ne ?_ (by first | omega | (simp only [hset, hnew]; omega) | rfl | decide) | refine At.new_ne ?_)))) (call := s_held (d := 0) c2 hb q0 hi2) (k := ?_)
    rintro v h_ ⟨rfl, e9⟩
    rw [e9]
    refine tX12_all_22  (r := ?_)
    rw [nI_add]
    refine tX12_all_23  (r := ?_)
    refine tX12_all_24  (r := ?_)
    rw [nI_add]
    refine tX12_all_27 (r := ?_)
    exact ih (i + 1) (by omega) (by omega)

set_option maxHeartbeats 4000000 in
set_option maxRecDepth 100000 in
theorem s_all {th : Int32} (hd : 1 ≤ d) (c2 : MoT h 216 th s) (hb : BDok s.2.2.1 s.2.2.2) {j0 : Nat} (q0 : j0 < bJa s.2.2.1) : RQ G mX12_all d 0 [some (.ref 216), some (.int (nI j0)), none, none] [] h (Ri fun v h1 => v = nI (su (dB s.2.2.2 j0) 6) ∧ h1 = h) := by
  refine tX12_all_0  (r := ?_)
  refine tX12_all_1  (r := ?_)
  refine tX12_all_2  (r := ?_)
  refine tX12_all_3  (r := ?_)
  exact s_all_l hd c2 hb q0 (bLa s.2.2.1) 0 (by omega) (by omega)

set_option maxHeartbeats 4000000 in
set_option maxRecDepth 100000 in
theorem k_turnout_ok (hd : 7 ≤ d) (c : ClR h 0 bk dr s) (hb : BDok s.2.2.1 s.2.2.2) (hh : 216 ≤ h.1) {j0 : Nat} (q0 : j0 < bJa s.2.2.1) : RQ G mX10_turnout d 0 [some (.ref 0), some (.int (nI j0))] [] h (CK h bk dr s "java/lang/IndexOutOfBoundsException" "" 0 (nI (su (dB s.2.2.2 j0) 6))) := by
  have c1 := c.poll
  have cb := c.book
  obtain ⟨jf, lj, fo, le, u0, u1, u2, u3, u4, u5, u6, u7, u8, u9⟩ := id c.2.2.2.2.1
  have l1 := hb.1
  have l2 := hb.2.1
  have l3 := hb.2.2.1
  refine tX10_turnout_0  (r := ?_)
  refine tX10_turnout_1  (r := ?_)
  refine tX10_turnout_2 (hd := (by omega)) (ha := (by first | assumption | (repeat (first | assumption | exact At.set_eq2 (by first | omega | (simp only [hset, hnew]; omega) | rfl | decide) | exact At.new_eq2 _ _ (by first | omega | (simp only [hset, hnew]; omega) | rfl | decide) | refine At.set_ne ?_ (by first | omega | (simp only [hset, hnew]; omega) | rfl | decide) | refine At.new_ne ?_)))) (call := s_checkJar_ok (d := 6) (QX := fun _ _ => False) c hb q0) (kx := fun E_ h_ hx_ => by exact hx_.elim) (k := ?_)
  intro h_ e0
  rw [e0]
  refine tX10_turnout_5  (r := ?_)
  refine tX10_turnout_6 (ha := (by first | assumption | (repeat (first | assumption | exact At.set_eq2 (by first | omega | (simp only [hset, hnew]; omega) | rfl | decide) | exact At.new_eq2 _ _ (by first | omega | (simp only [hset, hnew]; omega) | rfl | decide) | refine At.set_ne ?_ (by first | omega | (simp only [hset, hnew]; omega) | rfl | decide) | refine At.new_ne ?_)))) (hv := rfl) (r := ?_)
  refine tX10_turnout_9  (r := ?_)
  refine tX10_turnout_10 (hd := (by omega)) (ha := (by first | assumption | (repeat (first | assumption | exact At.set_eq2 (by first | omega | (simp only [hset, hnew]; omega) | rfl | decide) | exact At.new_eq2 _ _ (by first | omega | (simp only [hset, hnew]; omega) | rfl | decide) | refine At.set_ne ?_ (by first | omega | (simp only [hset, hnew]; omega) | rfl | decide) | refine At.new_ne ?_)))) (call := (s_counted (d := 3) (by decide) c.2.2.2.2.1 hb (show j0 < 8 by omega)).imp (fun o9 h9 q9 => (⟨_, q9.1, rfl, q9.2⟩ : Rr (fun r h1 => r = 0 + 66 + 5 + 5 * j0 ∧ JaC h1 (0 + 66 + 5 + 5 * j0) (dB s.2.2.2 j0) (bSe s.2.2.1 j0) (bWy s.2.2.1 j0) (rt (dF s.2.2.2)) ∧ CuR h1 (0 + 66) s.2.2.1 s.2.2.2 ∧ Sm h h1 (0 + 66 + 5 + 5 * j0) (0 + 66 + 5 + 5 * j0 + 5)) o9 h9))) (k := ?_)
  rintro jj h1 ⟨rfl, q9⟩
  obtain ⟨jc, cu, sm⟩ := q9
  have cl := c.now cu sm (by omega) (by omega)
  have chh : Ch h h1 0 216 0 0 := sm.ch (Nat.zero_le _) (by omega)
  obtain ⟨bf, p, w, l, tu, fi, ma, ⟨b0, b1, b2, b3, b4⟩, hb2, cp, cw_, ct, cf, cm⟩ := jc
  refine tX10_turnout_13 (ha := (by first | assumption | (repeat (first | assumption | exact At.set_eq2 (by first | omega | (simp only [hset, hnew]; omega) | rfl | decide) | exact At.new_eq2 _ _ (by first | omega | (simp only [hset, hnew]; omega) | rfl | decide) | refine At.set_ne ?_ (by first | omega | (simp only [hset, hnew]; omega) | rfl | decide) | refine At.new_ne ?_)))) (hv := rfl) (r := ?_)
  rw [ct]
  refine tX10_turnout_16  (hP := ?_)
  exact ck_val cl chh

set_option maxHeartbeats 4000000 in
set_option maxRecDepth 100000 in
theorem m_turnout_ok (hd : 4 ≤ d) (m1 : MoR h 216 s) (t1 : ToR h 216 s.2.2.1) (hb : BDok s.2.2.1 s.2.2.2) {j0 : Nat} (q0 : j0 < bJa s.2.2.1) : RQ G mX12_turnout d 0 [some (.ref 216), some (.int (nI j0))] [] h (MK h s 0 (nI (su (dB s.2.2.2 j0) 6))) := by
  obtain ⟨th, c⟩ := MoT.ofR m1 t1
  refine b_turnout c (fun h2 c2 ch2 => ?_)
  obtain ⟨⟨tk, iw, er, et, dp, nm, am⟩, ⟨-, ⟨ft, at1, ct1⟩, -, -, -, -, -, -, -, ⟨ru, ac, no, a9, -⟩, -, -, ⟨fn, a48, n0, nb, nf, nl⟩, -, -, -, -⟩, ⟨⟨gs, as_, cs⟩, ⟨gw, aw, cw⟩, ⟨gl, al, cl⟩, ⟨g0, a0_, c0_⟩, ⟨g1, a1_, c1_⟩⟩⟩ := id c2
  have l1 := hb.1
  have l2 := hb.2.1
  have l3 := hb.2.2.1
  refine tX12_turnout_5  (r := ?_)
  refine tX12_turnout_6  (r := ?_)
  refine tX12_turnout_7 (hd := (by omega)) (ha := (by first | assumption | (repeat (first | assumption | exact At.set_eq2 (by first | omega | (simp only [hset, hnew]; omega) | rfl | decide) | exact At.new_eq2 _ _ (by first | omega | (simp only [hset, hnew]; omega) | rfl | decide) | refine At.set_ne ?_ (by first | omega | (simp only [hset, hnew]; omega) | rfl | decide) | refine At.new_ne ?_)))) (call := s_isJar_ok (d := 1) (by decide) c2 hb q0) (k := ?_)
  rintro v0 h_ ⟨rfl, e0⟩
  rw [e0]
  refine tX12_turnout_10  (kt := fun c_ => by exfalso; exact absurd c_ (by decide)) (kf := fun _ => ?_)
  refine tX12_turnout_13  (r := ?_)
  refine tX12_turnout_14  (r := ?_)
  refine tX12_turnout_15 (hd := (by omega)) (ha := (by first | assumption | (repeat (first | assumption | exact At.set_eq2 (by first | omega | (simp only [hset, hnew]; omega) | rfl | decide) | exact At.new_eq2 _ _ (by first | omega | (simp only [hset, hnew]; omega) | rfl | decide) | refine At.set_ne ?_ (by first | omega | (simp only [hset, hnew]; omega) | rfl | decide) | refine At.new_ne ?_)))) (call := s_all (d := 3) (by decide) c2 hb q0) (k := ?_)
  rintro v h_ ⟨rfl, e9⟩
  rw [e9]
  refine tX12_turnout_18 (r := ?_)
  refine tX12_turnout_26  (hP := ?_)
  exact MK.of c2 (ch2.sub (Nat.le_refl _) (Nat.le_refl _) (by decide) (by decide))

set_option maxHeartbeats 4000000 in
set_option maxRecDepth 100000 in
theorem k_firstIn_ok (hd : 7 ≤ d) (c : ClR h 0 bk dr s) (hb : BDok s.2.2.1 s.2.2.2) (hh : 216 ≤ h.1) {j0 : Nat} (q0 : j0 < bJa s.2.2.1) : RQ G mX10_firstIn d 0 [some (.ref 0), some (.int (nI j0))] [] h (CK h bk dr s "java/lang/IndexOutOfBoundsException" "" 0 (oI (fiN (po (rt (dF s.2.2.2)) (dB s.2.2.2 j0)) 6))) := by
  have c1 := c.poll
  have cb := c.book
  obtain ⟨jf, lj, fo, le, u0, u1, u2, u3, u4, u5, u6, u7, u8, u9⟩ := id c.2.2.2.2.1
  have l1 := hb.1
  have l2 := hb.2.1
  have l3 := hb.2.2.1
  refine tX10_firstIn_0  (r := ?_)
  refine tX10_firstIn_1  (r := ?_)
  refine tX10_firstIn_2 (hd := (by omega)) (ha := (by first | assumption | (repeat (first | assumption | exact At.set_eq2 (by first | omega | (simp only [hset, hnew]; omega) | rfl | decide) | exact At.new_eq2 _ _ (by first | omega | (simp only [hset, hnew]; omega) | rfl | decide) | refine At.set_ne ?_ (by first | omega | (simp only [hset, hnew]; omega) | rfl | decide) | refine At.new_ne ?_)))) (call := s_checkJar_ok (d := 6) (QX := fun _ _ => False) c hb q0) (kx := fun E_ h_ hx_ => by exact hx_.elim) (k := ?_)
  intro h_ e0
  rw [e0]
  refine tX10_firstIn_5  (r := ?_)
  refine tX10_firstIn_6 (ha := (by first | assumption | (repeat (first | assumption | exact At.set_eq2 (by first | omega | (simp only [hset, hnew]; omega) | rfl | decide) | exact At.new_eq2 _ _ (by first | omega | (simp only [hset, hnew]; omega) | rfl | decide) | refine At.set_ne ?_ (by first | omega | (simp only [hset, hnew]; omega) | rfl | decide) | refine At.new_ne ?_)))) (hv := rfl) (r := ?_)
  refine tX10_firstIn_9  (r := ?_)
  refine tX10_firstIn_10 (hd := (by omega)) (ha := (by first | assumption | (repeat (first | assumption | exact At.set_eq2 (by first | omega | (simp only [hset, hnew]; omega) | rfl | decide) | exact At.new_eq2 _ _ (by first | omega | (simp only [hset, hnew]; omega) | rfl | decide) | refine At.set_ne ?_ (by first | omega | (simp only [hset, hnew]; omega) | rfl | decide) | refine At.new_ne ?_)))) (call := (s_counted (d := 3) (by decide) c.2.2.2.2.1 hb (show j0 < 8 by omega)).imp (fun o9 h9 q9 => (⟨_, q9.1, rfl, q9.2⟩ : Rr (fun r h1 => r = 0 + 66 + 5 + 5 * j0 ∧ JaC h1 (0 + 66 + 5 + 5 * j0) (dB s.2.2.2 j0) (bSe s.2.2.1 j0) (bWy s.2.2.1 j0) (rt (dF s.2.2.2)) ∧ CuR h1 (0 + 66) s.2.2.1 s.2.2.2 ∧ Sm h h1 (0 + 66 + 5 + 5 * j0) (0 + 66 + 5 + 5 * j0 + 5)) o9 h9))) (k := ?_)
  rintro jj h1 ⟨rfl, q9⟩
  obtain ⟨jc, cu, sm⟩ := q9
  have cl := c.now cu sm (by omega) (by omega)
  have chh : Ch h h1 0 216 0 0 := sm.ch (Nat.zero_le _) (by omega)
  obtain ⟨bf, p, w, l, tu, fi, ma, ⟨b0, b1, b2, b3, b4⟩, hb2, cp, cw_, ct, cf, cm⟩ := jc
  refine tX10_firstIn_13 (ha := (by first | assumption | (repeat (first | assumption | exact At.set_eq2 (by first | omega | (simp only [hset, hnew]; omega) | rfl | decide) | exact At.new_eq2 _ _ (by first | omega | (simp only [hset, hnew]; omega) | rfl | decide) | refine At.set_ne ?_ (by first | omega | (simp only [hset, hnew]; omega) | rfl | decide) | refine At.new_ne ?_)))) (hv := rfl) (r := ?_)
  rw [cf]
  refine tX10_firstIn_16  (hP := ?_)
  exact ck_val cl chh

set_option maxHeartbeats 4000000 in
set_option maxRecDepth 100000 in
theorem m_firstIn_ok (hd : 4 ≤ d) (m1 : MoR h 216 s) (t1 : ToR h 216 s.2.2.1) (hb : BDok s.2.2.1 s.2.2.2) {j0 : Nat} (q0 : j0 < bJa s.2.2.1) : RQ G mX12_firstIn d 0 [some (.ref 216), some (.int (nI j0))] [] h (MK h s 0 (oI (fiN (po (rt (dF s.2.2.2)) (dB s.2.2.2 j0)) 6))) := by
  obtain ⟨th, c⟩ := MoT.ofR m1 t1
  refine b_firstIn c (fun h2 c2 ch2 => ?_)
  obtain ⟨⟨tk, iw, er, et, dp, nm, am⟩, ⟨-, ⟨ft, at1, ct1⟩, -, -, -, -, -, -, -, ⟨ru, ac, no, a9, -⟩, -, -, ⟨fn, a48, n0, nb, nf, nl⟩, -, -, -, -⟩, ⟨⟨gs, as_, cs⟩, ⟨gw, aw, cw⟩, ⟨gl, al, cl⟩, ⟨g0, a0_, c0_⟩, ⟨g1, a1_, c1_⟩⟩⟩ := id c2
  have l1 := hb.1
  have l2 := hb.2.1
  have l3 := hb.2.2.1
  refine tX12_firstIn_5  (r := ?_)
  refine tX12_firstIn_6  (r := ?_)
  refine tX12_firstIn_7 (hd := (by omega)) (ha := (by first | assumption | (repeat (first | assumption | exact At.set_eq2 (by first | omega | (simp only [hset, hnew]; omega) | rfl | decide) | exact At.new_eq2 _ _ (by first | omega | (simp only [hset, hnew]; omega) | rfl | decide) | refine At.set_ne ?_ (by first | omega | (simp only [hset, hnew]; omega) | rfl | decide) | refine At.new_ne ?_)))) (call := s_isJar_ok (d := 1) (by decide) c2 hb q0) (k := ?_)
  rintro v0 h_ ⟨rfl, e0⟩
  rw [e0]
  refine tX12_firstIn_10  (kt := fun c_ => by exfalso; exact absurd c_ (by decide)) (kf := fun _ => ?_)
  refine tX12_firstIn_13  (r := ?_)
  refine tX12_firstIn_14  (r := ?_)
  refine tX12_firstIn_15 (hd := (by omega)) (ha := (by first | assumption | (repeat (first | assumption | exact At.set_eq2 (by first | omega | (simp only [hset, hnew]; omega) | rfl | decide) | exact At.new_eq2 _ _ (by first | omega | (simp only [hset, hnew]; omega) | rfl | decide) | refine At.set_ne ?_ (by first | omega | (simp only [hset, hnew]; omega) | rfl | decide) | refine At.new_ne ?_)))) (call := s_firstHere (d := 3) (by decide) c2 hb q0) (k := ?_)
  rintro v h3 ⟨rfl, c3, -, sm3⟩
  refine tX12_firstIn_18 (r := ?_)
  refine tX12_firstIn_26  (hP := ?_)
  exact MK.of c3 ((ch2.trans (sm3.ch (lo2 := 216) (hi2 := 269) (ck := 0) (sk := 0) (by omega) (by omega))).sub (Nat.le_refl _) (Nat.le_refl _) (by decide) (by decide))

end FI
theorem O_turnout {G : GT} {h : AH} {s : ST} {bk dr : Nat} {a0 : Int32} (j : Jd h s bk dr) : OpC G mX10_turnout mX12_turnout 2046 2047 [some (.ref 0), some (.int a0)] [some (.ref 216), some (.int a0)] "java/lang/IndexOutOfBoundsException" "" (fun _ => True) h s := by
  have hb := j.1
  have hh := j.room
  have l1 := hb.1
  have l2 := hb.2.1
  have l3 := hb.2.2.1
  rcases ix_cases a0 (n := bJa s.2.2.1) (by omega) with ⟨j0, q0, rfl⟩ | bad
  rotate_left
  · exact ⟨1, nI 0, s, bk, dr, hb, trivial, k_turnout_no1 (by decide) j.2.1 hb hh bad, fun h1 m1 t1 => m_turnout_no1 (by decide) m1 t1 hb bad⟩
  exact ⟨0, _, s, bk, dr, hb, trivial, k_turnout_ok (by decide) j.2.1 hb hh q0 , fun h1 m1 t1 => m_turnout_ok (by decide) m1 t1 hb q0 ⟩

theorem O_firstIn {G : GT} {h : AH} {s : ST} {bk dr : Nat} {a0 : Int32} (j : Jd h s bk dr) : OpC G mX10_firstIn mX12_firstIn 2046 2047 [some (.ref 0), some (.int a0)] [some (.ref 216), some (.int a0)] "java/lang/IndexOutOfBoundsException" "" (fun _ => True) h s := by
  have hb := j.1
  have hh := j.room
  have l1 := hb.1
  have l2 := hb.2.1
  have l3 := hb.2.2.1
  rcases ix_cases a0 (n := bJa s.2.2.1) (by omega) with ⟨j0, q0, rfl⟩ | bad
  rotate_left
  · exact ⟨1, nI 0, s, bk, dr, hb, trivial, k_firstIn_no1 (by decide) j.2.1 hb hh bad, fun h1 m1 t1 => m_firstIn_no1 (by decide) m1 t1 hb bad⟩
  exact ⟨0, _, s, bk, dr, hb, trivial, k_firstIn_ok (by decide) j.2.1 hb hh q0 , fun h1 m1 t1 => m_firstIn_ok (by decide) m1 t1 hb q0 ⟩

