/-! the cupboard by hand, all of it; a label's seats, shaking, pouring, chains -/
/-- a lid by hand -/
def LhR (h : AH) (y ru jar lab : Nat) (rs : List ERu) : Prop := 216 ≤ y ∧ 216 ≤ ru ∧ At h y (.inr (13, [.int (nI jar), .int (nI lab), .ref ru])) ∧ ∃ f : Nat → Option Nat, At h ru (.inl (7, rs.length, .inr (.inr (.inr (.inr f))))) ∧ ∀ k (hk : k < rs.length), ∃ z, f k = some z ∧ RuR h z rs[k]
def HaR (h : AH) (c : Nat) (B : BK) (D : DY) (Rs : Nat → List ERu) : Prop := ∃ (fo ja li : Nat) (xj bj yl rl : Nat → Nat) (ff : Nat → Int32) (jf lf : Nat → Option Nat), (216 ≤ c ∧ 216 ≤ fo ∧ 216 ≤ ja ∧ 216 ≤ li) ∧ At h c (.inr (10, [.ref fo, .ref ja, .ref li, .int (dDay D)])) ∧ (At h fo (.inl (0, bLa B, .inl ff)) ∧ ∀ k, k < bLa B → ff k = oI (dF D k)) ∧ (At h ja (.inl (5, bJa B, .inr (.inr (.inr (.inr jf))))) ∧ ∀ j, j < bJa B → jf j = some (xj j)) ∧ (At h li (.inl (6, bLi B, .inr (.inr (.inr (.inr lf))))) ∧ ∀ i, i < bLi B → lf i = some (yl i)) ∧ (∀ j, j < bJa B → JhR h (xj j) (bj j) (bLa B) (bSe B j) (bWy B j) (dB D j)) ∧ (∀ i, i < bLi B → LhR h (yl i) (rl i) (dL D i) (bLl B i) (Rs i)) ∧ (∀ j, j < bJa B → bj j ≠ fo) ∧ (∀ i j, i < bJa B → j < bJa B → i ≠ j → xj i ≠ xj j ∧ bj i ≠ bj j) ∧ ∀ i j, i < bLi B → j < bLi B → i ≠ j → yl i ≠ yl j
/-- what lies from 216 on is kept -/
def Kp6 (h h1 : AH) : Prop := h.1 ≤ h1.1 ∧ ∀ i, 216 ≤ i → i < h.1 → h1.2.2 i = h.2.2 i
theorem Kp6.rf (h : AH) : Kp6 h h := ⟨Nat.le_refl _, fun _ _ _ => rfl⟩
theorem Kp6.trans {h h1 h2 : AH} (a : Kp6 h h1) (b : Kp6 h1 h2) : Kp6 h h2 := ⟨Nat.le_trans a.1 b.1, fun i p q => (b.2 i p (by have := a.1; omega)).trans (a.2 i p q)⟩
theorem Kp6.at {h h1 : AH} {i : Nat} {c : AC} (k : Kp6 h h1) (e : 216 ≤ i) (a : At h i c) : At h1 i c := a.keep k.1 (k.2 i e a.1)
theorem Kp6.i {h h1 : AH} (k : Kp6 h h1) : KpI h h1 := fun _ _ e a _ => k.at e a
theorem Ch.k6 {h h1 : AH} {ck sk : Nat} (x : Ch h h1 0 216 ck sk) : Kp6 h h1 := ⟨x.1, fun i p q => x.2.2.2.2 i p q⟩
theorem Ch.k60 {h h1 : AH} {ck sk : Nat} (x : Ch h h1 0 0 ck sk) : Kp6 h h1 := ⟨x.1, fun i _ q => x.2.2.2.2 i (Nat.zero_le _) q⟩
theorem JhR.k6 {h h1 : AH} {x be n se wy : Nat} {b : Nat → Nat} (q : JhR h x be n se wy b) (k : Kp6 h h1) : JhR h1 x be n se wy b := by
  obtain ⟨q1, q2, q3, bf, q4, q5⟩ := q
  exact ⟨q1, q2, k.at q1 q3, bf, k.at q2 q4, q5⟩
theorem LhR.k6 {h h1 : AH} {y ru jar lab : Nat} {rs : List ERu} (q : LhR h y ru jar lab rs) (k : Kp6 h h1) : LhR h1 y ru jar lab rs := by
  obtain ⟨q1, q2, q3, f, q4, q5⟩ := q
  exact ⟨q1, q2, k.at q1 q3, f, k.at q2 q4, fun j hj => (q5 j hj).imp (fun z w => ⟨w.1, w.2.kp k.i⟩)⟩
theorem HaR.k6 {h h1 : AH} {c : Nat} {B : BK} {D : DY} {Rs : Nat → List ERu} (q : HaR h c B D Rs) (k : Kp6 h h1) : HaR h1 c B D Rs := by
  obtain ⟨fo, ja, li, xj, bj, yl, rl, ff, jf, lf, ⟨a1, a2, a3, a4⟩, a5, ⟨a6, a7⟩, ⟨a8, a9⟩, ⟨a10, a11⟩, a12, a13, a14⟩ := q
  exact ⟨fo, ja, li, xj, bj, yl, rl, ff, jf, lf, ⟨a1, a2, a3, a4⟩, k.at a1 a5, ⟨k.at a2 a6, a7⟩, ⟨k.at a3 a8, a9⟩, ⟨k.at a4 a10, a11⟩, fun j hj => (a12 j hj).k6 k, fun i hi => (a13 i hi).k6 k, a14⟩
theorem HaR.fo {h : AH} {c : Nat} {B : BK} {D : DY} {Rs : Nat → List ERu} (q : HaR h c B D Rs) : FoR h c (bLa B) (dF D) := by
  obtain ⟨fo, ja, li, xj, bj, yl, rl, ff, jf, lf, ⟨a1, a2, a3, a4⟩, a5, ⟨a6, a7⟩, -⟩ := q
  exact ⟨fo, _, _, _, ff, a5, a6, a7⟩
section HB9
variable {B : BK} {D : DY}
theorem BDok.hF (hb : BDok B D) : ∀ k j, k < bLa B → dF D k = some j → j < bLa B := fun k j hk e => (hb.2.2.2.2.2.2.2.2.1 k j (by have := hb.1; omega) e).2
theorem BDok.hR (hb : BDok B D) : ∀ k, k < bLa B → dF D (rt (dF D) k) = none := fun k hk => hb.2.2.2.2.2.2.2.2.2.1 k (by have := hb.1; omega)
theorem BDok.hl (hb : BDok B D) : ∀ k, k < bLa B → rt (dF D) k < bLa B := fun k hk => rt_lt hb 6 k hk
theorem BDok.b0 (hb : BDok B D) {j : Nat} (hj : j < bJa B) : ∀ k, bLa B ≤ k → k < 6 → dB D j k = 0 := fun k h1 h2 => hb.2.2.2.2.2.1 j k (by have := hb.2.1; omega) h1 h2
theorem BDok.bs9 (hb : BDok B D) {j : Nat} (hj : j < bJa B) : su (dB D j) 6 ≤ 1200 := hb.2.2.2.2.2.2.1 j (by have := hb.2.1; omega)
theorem BDok.s9 (hb : BDok B D) {j : Nat} (hj : j < bJa B) : bSe B j ≤ 9 ∧ bWy B j < 3 := hb.2.2.2.1 j (by have := hb.2.1; omega)
theorem BDok.ps (hb : BDok B D) (j : Nat) : su (po (rt (dF D)) (dB D j)) 6 = su (dB D j) 6 := po_sum (fun i hi => rt_lt6 hb i hi)
end HB9
section HY
variable {G : GT} {d : Nat} {h : AH} {c n x be se wy : Nat} {b : Nat → Nat} {B : BK} {D : DY} {Rs : Nat → List ERu} {F : Nat → Option Nat}

set_option maxHeartbeats 4000000 in
theorem s_hseats_l (hd : 9 ≤ d) (hb : BDok B D) {k0 : Nat} (hk : k0 < bLa B) {ja : Nat} {jf : Nat → Option Nat} (ha : HaR h c B D Rs) (aj : At h ja (.inl (5, bJa B, .inr (.inr (.inr (.inr jf))))))  (ac : ∃ fo li v, At h c (.inr (10, [.ref fo, .ref ja, .ref li, v]))) : ∀ (nn i : Nat) (h9 : AH) (x6 : Option Value), bJa B ≤ i + nn → i ≤ bJa B → Ch h h9 0 0 (2 * i) (13 * i) → RQ G mX12_seats d 14 [some (.ref c), some (.int (nI k0)), some (.int (nI (su (sw B D k0) i))), some (.ref ja), some (.int (nI (bJa B))), some (.int (nI i)), x6] [] h9 (Ri fun r h1 => r = nI (su (sw B D k0) 8) ∧ Ch h h1 0 0 16 104) := by
  have ex : ∀ (i : Nat) (h9 : AH) (x6 : Option Value), i = bJa B → Ch h h9 0 0 (2 * i) (13 * i) → RQ G mX12_seats d 14 [some (.ref c), some (.int (nI k0)), some (.int (nI (su (sw B D k0) i))), some (.ref ja), some (.int (nI (bJa B))), some (.int (nI i)), x6] [] h9 (Ri fun r h1 => r = nI (su (sw B D k0) 8) ∧ Ch h h1 0 0 16 104) := by
    intro i h9 x6 hi ch
    subst hi
    have l1 := hb.1
    have l2 := hb.2.1
    have ha9 := ha.k6 (Ch.k60 ch)
    obtain ⟨fo0, li0, v0, cc0⟩ := ac
    have cc9 := Ch0.at ch cc0
    obtain ⟨fo, ja9, li, xj, bj, yl, rl, ff, jf2, lf, ⟨a1, a2, a3, a4⟩, a5, ⟨a6, a7⟩, ⟨a8, a9⟩, -, jh9, -⟩ := id ha9
    obtain ⟨e1, e2⟩ : ja9 = ja ∧ jf2 = jf := by
      have e := a5.2.symm.trans cc9.2
      injection e with e
      injection e with _ e
      simp only [List.cons.injEq, Value.ref.injEq] at e
      obtain ⟨-, e, -⟩ := e
      subst e
      have e := a8.2.symm.trans (Ch0.at ch aj).2
      simp only [Sum.inl.injEq, Sum.inr.injEq, Prod.mk.injEq, true_and] at e
      exact ⟨rfl, e⟩
    subst e1
    subst e2
    have jf9 := a9
    refine tX12_seats_14  (r := ?_)
    refine tX12_seats_16  (r := ?_)
    refine tX12_seats_18  (kf := fun c_ => by exfalso; (simp (disch := first | omega | decide) only [ci_lt, ci_le, ci_eq, ci_lt0, ci_ge0, ci_gt0, ci_le0, ci_eq0, ci_m1_lt, ci_m1_le, ci_lt_m1, ci_le_m1, ci_eq_m1, ci_m1_eq, not_true, not_false_iff, Nat.not_lt, Nat.not_le] at c_ <;> omega)) (kt := fun _ => ?_)
    refine tX12_seats_48  (r := ?_)
    refine tX12_seats_49  (hP := ?_)
    exact ⟨_, rfl, by rw [sw_all hb], ch.sub (Nat.le_refl _) (Nat.le_refl _) (by omega) (by omega)⟩
  intro nn
  induction nn with
  | zero => exact fun i h9 x6 h1_ h2_ => ex i h9 x6 (by omega)
  | succ nn ih =>
    intro i h9 x6 h1_ h2_ ch
    by_cases hi : i = bJa B
    · exact ex i h9 x6 hi ch
    have hi2 : i < bJa B := by omega
    have l1 := hb.1
    have l2 := hb.2.1
    have ha9 := ha.k6 (Ch.k60 ch)
    obtain ⟨fo0, li0, v0, cc0⟩ := ac
    have cc9 := Ch0.at ch cc0
    obtain ⟨fo, ja9, li, xj, bj, yl, rl, ff, jf2, lf, ⟨a1, a2, a3, a4⟩, a5, ⟨a6, a7⟩, ⟨a8, a9⟩, -, jh9, -⟩ := id ha9
    obtain ⟨e1, e2⟩ : ja9 = ja ∧ jf2 = jf := by
      have e := a5.2.symm.trans cc9.2
      injection e with e
      injection e with _ e
      simp only [List.cons.injEq, Value.ref.injEq] at e
      obtain ⟨-, e, -⟩ := e
      subst e
      have e := a8.2.symm.trans (Ch0.at ch aj).2
      simp only [Sum.inl.injEq, Sum.inr.injEq, Prod.mk.injEq, true_and] at e
      exact ⟨rfl, e⟩
    subst e1
    subst e2
    have jf9 := a9
    refine tX12_seats_14  (r := ?_)
    refine tX12_seats_16  (r := ?_)
    refine tX12_seats_18  (kt := fun c_ => by exfalso; (simp (disch := first | omega | decide) only [ci_lt, ci_le, ci_eq, ci_lt0, ci_ge0, ci_gt0, ci_le0, ci_eq0, ci_m1_lt, ci_m1_le, ci_lt_m1, ci_le_m1, ci_eq_m1, ci_m1_eq, not_true, not_false_iff, Nat.not_lt, Nat.not_le] at c_ <;> omega)) (kf := fun _ => ?_)
    refine tX12_seats_21  (r := ?_)
    refine tX12_seats_22  (r := ?_)
    refine tX12_seats_24 (t := 5) (ha := (Ch0.at ch aj)) (ht := rfl) (hx := rfl) (hj := (by omega)) (hn := (by omega)) (hf := (jf9 i hi2)) (r := ?_)
    refine tX12_seats_25  (r := ?_)
    refine tX12_seats_27  (r := ?_)
    refine tX12_seats_28  (r := ?_)
    refine tX12_seats_29  (r := ?_)
    refine tX12_seats_31 (hd := (by omega)) (ha := cc9) (call := s_hwon (d := d - 1) (h := h9) (by omega) hb.1 (ha9.fo) hb.hF hb.hR hb.hl (jh9 i hi2) (hb.b0 hi2) (hb.bs9 hi2) (hb.s9 hi2).1 (hb.s9 hi2).2 (hb.ps i)) (k := ?_)
    rintro a h2 ⟨ga, ⟨wf, aw, hw⟩, ch2⟩
    have cc2 := Ch0.at ch2 cc9
    refine tX12_seats_34  (r := ?_)
    refine tX12_seats_35  (r := ?_)
    refine tX12_seats_36 (hd := (by omega)) (ha := (by first | assumption | (repeat (first | assumption | exact At.set_eq2 (by first | omega | (simp only [hset, hnew]; omega) | rfl | decide) | exact At.new_eq2 _ _ (by first | omega | (simp only [hset, hnew]; omega) | rfl | decide) | refine At.set_ne ?_ (by first | omega | (simp only [hset, hnew]; omega) | rfl | decide) | refine At.new_ne ?_)))) (call := s_leader (d := d - 1) (by omega) hb.1 (ha9.fo.ch ch2) hb.hF hb.hR hk) (k := ?_)
    rintro v h_ ⟨rfl, e9⟩
    rw [e9]
    refine tX12_seats_39 (ha := (by first | assumption | (repeat (first | assumption | exact At.set_eq2 (by first | omega | (simp only [hset, hnew]; omega) | rfl | decide) | exact At.new_eq2 _ _ (by first | omega | (simp only [hset, hnew]; omega) | rfl | decide) | refine At.set_ne ?_ (by first | omega | (simp only [hset, hnew]; omega) | rfl | decide) | refine At.new_ne ?_)))) (hx := rfl) (hj := (by have := hb.hl k0 hk; omega)) (hn := (by omega)) (r := ?_)
    rw [hw _ (hb.hl k0 hk)]
    refine tX12_seats_40  (r := ?_)
    rw [nI_add]
    refine tX12_seats_41  (r := ?_)
    refine tX12_seats_42  (r := ?_)
    rw [nI_add]
    refine tX12_seats_45 (r := ?_)
    exact ih (i + 1) _ _ (by omega) (by omega) ((ch.trans ch2).sub (Nat.le_refl _) (Nat.le_refl _) (by omega) (by omega))
set_option maxHeartbeats 4000000 in
theorem s_hseats (hd : 9 ≤ d) (hb : BDok B D) {k0 : Nat} (hk : k0 < bLa B) (ha : HaR h c B D Rs) : RQ G mX12_seats d 0 [some (.ref c), some (.int (nI k0)), none, none, none, none, none] [] h (Ri fun r h1 => r = nI (su (sw B D k0) 8) ∧ Ch h h1 0 0 16 104) := by
  obtain ⟨fo, ja, li, xj, bj, yl, rl, ff, jf, lf, ⟨a1, a2, a3, a4⟩, a5, ⟨a6, a7⟩, ⟨a8, a9⟩, -⟩ := id ha
  refine tX12_seats_0  (r := ?_)
  refine tX12_seats_1  (r := ?_)
  refine tX12_seats_2  (r := ?_)
  refine tX12_seats_3 (ha := (by first | assumption | (repeat (first | assumption | exact At.set_eq2 (by first | omega | (simp only [hset, hnew]; omega) | rfl | decide) | exact At.new_eq2 _ _ (by first | omega | (simp only [hset, hnew]; omega) | rfl | decide) | refine At.set_ne ?_ (by first | omega | (simp only [hset, hnew]; omega) | rfl | decide) | refine At.new_ne ?_)))) (hv := rfl) (r := ?_)
  refine tX12_seats_6  (r := ?_)
  refine tX12_seats_7  (r := ?_)
  refine tX12_seats_8 (t := 5) (ha := (by first | assumption | (repeat (first | assumption | exact At.set_eq2 (by first | omega | (simp only [hset, hnew]; omega) | rfl | decide) | exact At.new_eq2 _ _ (by first | omega | (simp only [hset, hnew]; omega) | rfl | decide) | refine At.set_ne ?_ (by first | omega | (simp only [hset, hnew]; omega) | rfl | decide) | refine At.new_ne ?_)))) (ht := rfl) (r := ?_)
  refine tX12_seats_9  (r := ?_)
  refine tX12_seats_11  (r := ?_)
  refine tX12_seats_12  (r := ?_)
  exact s_hseats_l hd hb hk ha a8 ⟨_, _, _, a5⟩ (bJa B) 0 h none (by omega) (by omega) (Ch.rf h 0 0 0 0)
set_option maxHeartbeats 4000000 in
theorem s_hshake_l (n6 : n ≤ 6) (n1 : 0 < n) (jh : JhR h x be n se wy b) (bl : ∀ k, k < n → b k ≤ 1200) : ∀ (nn i : Nat) (h9 : AH) (mf : Nat → Int32), n ≤ i + nn → i ≤ n → At h9 h.1 (.inl (0, n, .inl mf)) → (∀ k, k < n → mf k = nI ((fun k => (if k < i then b k - b k / 10 else 0) + (if prL n k < i then b (prL n k) / 10 else 0)) k)) → Ch h h9 0 0 1 n → RQ G mX12_shake d 12 [some (.ref x), some (.int (nI n)), some (.ref h.1), some (.int (nI i))] [] h9 (Rv fun h1 => ∃ mf : Nat → Int32, ∃ h8, Ch h h8 0 0 1 n ∧ At h8 h.1 (.inl (0, n, .inl mf)) ∧ (∀ k, k < n → mf k = nI (stB b n k)) ∧ h1 = hset h8 x (.inr (12, [.int (nI se), .int (nI wy), .ref h.1]))) := by
  have ex : ∀ (i : Nat) (h9 : AH) (mf : Nat → Int32), i = n → At h9 h.1 (.inl (0, n, .inl mf)) → (∀ k, k < n → mf k = nI ((fun k => (if k < i then b k - b k / 10 else 0) + (if prL n k < i then b (prL n k) / 10 else 0)) k)) → Ch h h9 0 0 1 n → RQ G mX12_shake d 12 [some (.ref x), some (.int (nI n)), some (.ref h.1), some (.int (nI i))] [] h9 (Rv fun h1 => ∃ mf : Nat → Int32, ∃ h8, Ch h h8 0 0 1 n ∧ At h8 h.1 (.inl (0, n, .inl mf)) ∧ (∀ k, k < n → mf k = nI (stB b n k)) ∧ h1 = hset h8 x (.inr (12, [.int (nI se), .int (nI wy), .ref h.1]))) := by
    intro i h9 mf hi am hm ch
    subst hi
    obtain ⟨j1, j2, j3, bf, j4, j5⟩ := jh.ch ch
    have nbm : be ≠ h.1 := by
      obtain ⟨_, _, _, _, z, _⟩ := jh
      have := z.1
      omega
    refine tX12_shake_12  (r := ?_)
    refine tX12_shake_13  (r := ?_)
    refine tX12_shake_14  (kf := fun c_ => by exfalso; (simp (disch := first | omega | decide) only [ci_lt, ci_le, ci_eq, ci_lt0, ci_ge0, ci_gt0, ci_le0, ci_eq0, ci_m1_lt, ci_m1_le, ci_lt_m1, ci_le_m1, ci_eq_m1, ci_m1_eq, not_true, not_false_iff, Nat.not_lt, Nat.not_le] at c_ <;> omega)) (kt := fun _ => ?_)
    refine tX12_shake_73  (r := ?_)
    refine tX12_shake_74  (r := ?_)
    refine tX12_shake_75 (ha := j3) (hlen := rfl) (r := ?_)
    refine tX12_shake_78  (hP := ?_)
    refine ⟨rfl, mf, h9, ch, am, fun k hk => ?_, rfl⟩
    rw [hm k hk]
    have e1 : ∀ m, k < m → prL m k < m := fun m hm => by unfold prL; split <;> omega
    unfold stB
    rw [if_pos hk]
    show nI ((if k < _ then b k - b k / 10 else 0) + (if prL _ k < _ then b (prL _ k) / 10 else 0)) = _
    rw [if_pos hk, if_pos (e1 _ hk)]
    have := Nat.div_le_self (b k) 10
    congr 1
    omega
  intro nn
  induction nn with
  | zero => exact fun i h9 mf h1_ h2_ => ex i h9 mf (by omega)
  | succ nn ih =>
    intro i h9 mf h1_ h2_ am hm ch
    by_cases hi : i = n
    · exact ex i h9 mf hi am hm ch
    have hi2 : i < n := by omega
    obtain ⟨j1, j2, j3, bf, j4, j5⟩ := jh.ch ch
    have nbm : be ≠ h.1 := by
      obtain ⟨_, _, _, _, z, _⟩ := jh
      have := z.1
      omega
    refine tX12_shake_12  (r := ?_)
    refine tX12_shake_13  (r := ?_)
    have st : ∀ t, t < n → prL n t = i → i < n → ∀ k, k < n → upd (upd mf i (nI ((if i < i then b i - b i / 10 else 0) + (if prL n i < i then b (prL n i) / 10 else 0) + (b i - b i / 10)))) t (upd mf i (nI ((if i < i then b i - b i / 10 else 0) + (if prL n i < i then b (prL n i) / 10 else 0) + (b i - b i / 10))) t + nI (b i / 10)) k = nI ((if k < i + 1 then b k - b k / 10 else 0) + (if prL n k < i + 1 then b (prL n k) / 10 else 0)) := by
      intro t ht et hin k hk
      have inj : ∀ u v, u < n → v < n → prL n u = prL n v → u = v := fun u v hu hv e => by
        unfold prL at e
        by_cases z1 : u = 0
        · by_cases z2 : v = 0
          · rw [z1, z2]
          · rw [if_pos z1, if_neg z2] at e; omega
        · by_cases z2 : v = 0
          · rw [if_neg z1, if_pos z2] at e; omega
          · rw [if_neg z1, if_neg z2] at e; omega
      have up : ∀ u, u < n → upd mf i (nI ((if i < i then b i - b i / 10 else 0) + (if prL n i < i then b (prL n i) / 10 else 0) + (b i - b i / 10))) u = nI ((if u < i + 1 then b u - b u / 10 else 0) + (if prL n u < i then b (prL n u) / 10 else 0)) := fun u hu => by
        show (if u = i then _ else mf u) = _
        by_cases z : u = i
        · subst z
          rw [if_pos rfl, if_neg (Nat.lt_irrefl u), if_pos (Nat.lt_succ_self u)]
          congr 1
          omega
        · rw [if_neg z, hm u hu]
          show nI ((if u < i then b u - b u / 10 else 0) + _) = _
          by_cases y : u < i
          · rw [if_pos y, if_pos (show u < i + 1 by omega)]
          · rw [if_neg y, if_neg (show ¬ u < i + 1 by omega)]
      show (if k = t then _ else _) = _
      by_cases z : k = t
      · subst z
        rw [if_pos rfl, up k hk, nI_add, et, if_neg (Nat.lt_irrefl i), if_pos (Nat.lt_succ_self i), Nat.add_zero]
      · rw [if_neg z, up k hk]
        have ne : prL n k ≠ i := fun e => z (inj k t hk ht (e.trans et.symm))
        by_cases y : prL n k < i
        · rw [if_pos y, if_pos (show prL n k < i + 1 by omega)]
        · rw [if_neg y, if_neg (show ¬ prL n k < i + 1 by omega)]
    refine tX12_shake_14  (kt := fun c_ => by exfalso; (simp (disch := first | omega | decide) only [ci_lt, ci_le, ci_eq, ci_lt0, ci_ge0, ci_gt0, ci_le0, ci_eq0, ci_m1_lt, ci_m1_le, ci_lt_m1, ci_le_m1, ci_eq_m1, ci_m1_eq, not_true, not_false_iff, Nat.not_lt, Nat.not_le] at c_ <;> omega)) (kf := fun _ => ?_)
    refine tX12_shake_17  (r := ?_)
    refine tX12_shake_18  (r := ?_)
    refine tX12_shake_19  (r := ?_)
    refine tX12_shake_20 (ha := (by first | assumption | (repeat (first | assumption | exact At.set_eq2 (by first | omega | (simp only [hset, hnew]; omega) | rfl | decide) | exact At.new_eq2 _ _ (by first | omega | (simp only [hset, hnew]; omega) | rfl | decide) | refine At.set_ne ?_ (by first | omega | (simp only [hset, hnew]; omega) | rfl | decide) | refine At.new_ne ?_)))) (hx := rfl) (hj := (by omega)) (hn := (by omega)) (r := ?_)
    rw [hm i hi2]
    refine tX12_shake_21  (r := ?_)
    refine tX12_shake_22 (ha := j3) (hv := rfl) (r := ?_)
    refine tX12_shake_25  (r := ?_)
    refine tX12_shake_26 (ha := j4) (hx := rfl) (hj := (by omega)) (hn := (by omega)) (r := ?_)
    rw [j5 i hi2]
    refine tX12_shake_27  (r := ?_)
    refine tX12_shake_28 (ha := j3) (hv := rfl) (r := ?_)
    refine tX12_shake_31  (r := ?_)
    refine tX12_shake_32 (ha := j4) (hx := rfl) (hj := (by omega)) (hn := (by omega)) (r := ?_)
    rw [j5 i hi2]
    refine tX12_shake_33  (r := ?_)
    refine tX12_shake_35 (hne := (by decide)) (r := ?_)
    rw [dv_nn (by have := bl i hi2; omega) (by decide)]
    refine tX12_shake_36  (r := ?_)
    rw [nI_subN (Nat.div_le_self (b i) 10) (by have := bl i hi2; omega)]
    refine tX12_shake_37  (r := ?_)
    rw [nI_add]
    refine tX12_shake_38 (ha := (by first | assumption | (repeat (first | assumption | exact At.set_eq2 (by first | omega | (simp only [hset, hnew]; omega) | rfl | decide) | exact At.new_eq2 _ _ (by first | omega | (simp only [hset, hnew]; omega) | rfl | decide) | refine At.set_ne ?_ (by first | omega | (simp only [hset, hnew]; omega) | rfl | decide) | refine At.new_ne ?_)))) (hx := rfl) (hj := (by omega)) (hn := (by omega)) (r := ?_)
    refine tX12_shake_39  (r := ?_)
    refine tX12_shake_40  (r := ?_)
    refine tX12_shake_41  (r := ?_)
    refine tX12_shake_42  (r := ?_)
    rw [nI_add]
    refine tX12_shake_43  (r := ?_)
    refine tX12_shake_44  (kt := fun c_44 => ?_) (kf := fun c_44 => ?_)
    · have e3 : ¬ i + 1 = n := fun z => c_44 (by rw [z])
      refine tX12_shake_51  (r := ?_)
      refine tX12_shake_52  (r := ?_)
      refine tX12_shake_53  (r := ?_)
      rw [nI_add]
      refine tX12_shake_54  (r := ?_)
      refine tX12_shake_55 (j := i + 1) (ha := (At.set_eq2 am.1)) (hx := rfl) (hj := (by omega)) (hn := (by omega)) (r := ?_)
      refine tX12_shake_56  (r := ?_)
      refine tX12_shake_57 (ha := (At.set_ne j3 (j3.ne am (by simp)))) (hv := rfl) (r := ?_)
      refine tX12_shake_60  (r := ?_)
      refine tX12_shake_61 (j := i) (ha := (At.set_ne j4 nbm)) (hx := rfl) (hj := (by omega)) (hn := (by omega)) (r := ?_)
      rw [j5 i hi2]
      refine tX12_shake_62  (r := ?_)
      refine tX12_shake_64 (hne := (by decide)) (r := ?_)
      rw [dv_nn (by have := bl i hi2; omega) (by decide)]
      refine tX12_shake_65  (r := ?_)
      refine tX12_shake_66 (j := i + 1) (ha := (At.set_eq2 am.1)) (hx := rfl) (hj := (by omega)) (hn := (by omega)) (r := ?_)
      refine tX12_shake_67  (r := ?_)
      rw [nI_add]
      refine tX12_shake_70 (r := ?_)
      refine ih (i + 1) _ _ (by omega) (by omega) (At.set_eq2 am.1) (st (i + 1) (by omega) (if_neg (Nat.succ_ne_zero i)) hi2) (Ch0.set (Ch0.set ch (Nat.le_refl _)) (Nat.le_refl _))
    · have e3 : i + 1 = n := (nI_eq (by omega) (by omega)).mp c_44
      refine tX12_shake_47  (r := ?_)
      refine tX12_shake_48 (r := ?_)
      refine tX12_shake_54  (r := ?_)
      refine tX12_shake_55 (j := 0) (ha := (At.set_eq2 am.1)) (hx := rfl) (hj := (by omega)) (hn := (by omega)) (r := ?_)
      refine tX12_shake_56  (r := ?_)
      refine tX12_shake_57 (ha := (At.set_ne j3 (j3.ne am (by simp)))) (hv := rfl) (r := ?_)
      refine tX12_shake_60  (r := ?_)
      refine tX12_shake_61 (j := i) (ha := (At.set_ne j4 nbm)) (hx := rfl) (hj := (by omega)) (hn := (by omega)) (r := ?_)
      rw [j5 i hi2]
      refine tX12_shake_62  (r := ?_)
      refine tX12_shake_64 (hne := (by decide)) (r := ?_)
      rw [dv_nn (by have := bl i hi2; omega) (by decide)]
      refine tX12_shake_65  (r := ?_)
      refine tX12_shake_66 (j := 0) (ha := (At.set_eq2 am.1)) (hx := rfl) (hj := (by omega)) (hn := (by omega)) (r := ?_)
      refine tX12_shake_67  (r := ?_)
      rw [nI_add]
      refine tX12_shake_70 (r := ?_)
      refine ih (i + 1) _ _ (by omega) (by omega) (At.set_eq2 am.1) (st 0 (by omega) (by unfold prL; rw [if_pos rfl]; omega) hi2) (Ch0.set (Ch0.set ch (Nat.le_refl _)) (Nat.le_refl _))
set_option maxHeartbeats 4000000 in
theorem s_hshake (n6 : n ≤ 6) (n1 : 0 < n) (jh : JhR h x be n se wy b) (bl : ∀ k, k < n → b k ≤ 1200) : RQ G mX12_shake d 0 [some (.ref x), none, none, none] [] h (Rv fun h1 => ∃ mf : Nat → Int32, ∃ h8, Ch h h8 0 0 1 n ∧ At h8 h.1 (.inl (0, n, .inl mf)) ∧ (∀ k, k < n → mf k = nI (stB b n k)) ∧ h1 = hset h8 x (.inr (12, [.int (nI se), .int (nI wy), .ref h.1]))) := by
  obtain ⟨j1, j2, j3, bf, j4, j5⟩ := id jh
  refine tX12_shake_0  (r := ?_)
  refine tX12_shake_1 (ha := j3) (hv := rfl) (r := ?_)
  refine tX12_shake_4 (t := 0) (ha := (by first | assumption | (repeat (first | assumption | exact At.set_eq2 (by first | omega | (simp only [hset, hnew]; omega) | rfl | decide) | exact At.new_eq2 _ _ (by first | omega | (simp only [hset, hnew]; omega) | rfl | decide) | refine At.set_ne ?_ (by first | omega | (simp only [hset, hnew]; omega) | rfl | decide) | refine At.new_ne ?_)))) (ht := rfl) (r := ?_)
  refine tX12_shake_5  (r := ?_)
  refine tX12_shake_6  (r := ?_)
  refine tX12_shake_7 (hx := rfl) (hn := (by omega)) (r := ?_)
  refine tX12_shake_9  (r := ?_)
  refine tX12_shake_10  (r := ?_)
  refine tX12_shake_11  (r := ?_)
  exact s_hshake_l n6 n1 jh bl n 0 _ _ (by omega) (by omega) (At.new_eq h n _) (fun k hk => by show (0 : Int32) = nI ((if k < 0 then b k - b k / 10 else 0) + (if prL n k < 0 then b (prL n k) / 10 else 0)); rw [if_neg (Nat.not_lt_zero k), if_neg (Nat.not_lt_zero _)]; rfl) (Ch0.new h n _)
theorem hset_hset {h : AH} {i : Nat} {a b : AC} : hset (hset h i a) i b = hset h i b := by
  unfold hset
  refine Prod.ext rfl (Prod.ext rfl (funext fun j => ?_))
  show (if j = i then b else if j = i then a else h.2.2 j) = if j = i then b else h.2.2 j
  by_cases z : j = i
  · rw [if_pos z, if_pos z]
  · rw [if_neg z, if_neg z, if_neg z]
set_option maxHeartbeats 4000000 in
theorem s_hpour_t (n6 : n ≤ 6) (jh : JhR h x be n se wy b) (bl : ∀ k, k < n → b k ≤ 1200) {f t v : Nat} (hf : f < n) (ht : t < n) (vle : v ≤ b f) {x3 x4 : Option Value} (o3 : ok1 x3 = true) : RQ G mX12_pour d 28 [some (.ref x), some (.int (nI f)), some (.int (nI t)), x3, x4] [.int (nI v)] h (Ri fun r h1 => r = nI v ∧ ∃ bf2 : Nat → Int32, (∀ k, k < n → bf2 k = nI (mvB b f t v k)) ∧ h1 = hset h be (.inl (0, n, .inl bf2))) := by
  obtain ⟨j1, j2, j3, bf, j4, j5⟩ := id jh
  refine tX12_pour_28 (ho := o3) (r := ?_)
  refine tX12_pour_30  (r := ?_)
  refine tX12_pour_31 (ha := j3) (hv := rfl) (r := ?_)
  refine tX12_pour_34  (r := ?_)
  refine tX12_pour_35  (r := ?_)
  refine tX12_pour_36 (j := f) (ha := (by first | assumption | (repeat (first | assumption | exact At.set_eq2 (by first | omega | (simp only [hset, hnew]; omega) | rfl | decide) | exact At.new_eq2 _ _ (by first | omega | (simp only [hset, hnew]; omega) | rfl | decide) | refine At.set_ne ?_ (by first | omega | (simp only [hset, hnew]; omega) | rfl | decide) | refine At.new_ne ?_)))) (hx := rfl) (hj := hf) (hn := (by omega)) (r := ?_)
  rw [j5 f hf]
  refine tX12_pour_37  (r := ?_)
  refine tX12_pour_39  (r := ?_)
  rw [nI_subN vle (by have := bl f hf; omega)]
  refine tX12_pour_40 (j := f) (ha := (by first | assumption | (repeat (first | assumption | exact At.set_eq2 (by first | omega | (simp only [hset, hnew]; omega) | rfl | decide) | exact At.new_eq2 _ _ (by first | omega | (simp only [hset, hnew]; omega) | rfl | decide) | refine At.set_ne ?_ (by first | omega | (simp only [hset, hnew]; omega) | rfl | decide) | refine At.new_ne ?_)))) (hx := rfl) (hj := hf) (hn := (by omega)) (r := ?_)
  refine tX12_pour_41  (r := ?_)
  refine tX12_pour_42 (ha := (At.set_ne j3 (j3.ne j4 (by simp)))) (hv := rfl) (r := ?_)
  refine tX12_pour_45  (r := ?_)
  refine tX12_pour_46  (r := ?_)
  refine tX12_pour_47 (j := t) (ha := (At.set_eq2 j4.1)) (hx := rfl) (hj := ht) (hn := (by omega)) (r := ?_)
  refine tX12_pour_48  (r := ?_)
  refine tX12_pour_50  (r := ?_)
  refine tX12_pour_51 (j := t) (ha := (At.set_eq2 j4.1)) (hx := rfl) (hj := ht) (hn := (by omega)) (r := ?_)
  refine tX12_pour_52  (r := ?_)
  refine tX12_pour_54  (hP := ?_)
  refine ⟨_, rfl, rfl, upd (upd bf f (nI (b f - v))) t (upd bf f (nI (b f - v)) t + nI v), fun k hk => ?_, hset_hset⟩
  show (if k = t then (if t = f then nI (b f - v) else bf t) + nI v else (if k = f then nI (b f - v) else bf k)) = nI (if k = t then (if t = f then b f - v else b t) + v else if k = f then b f - v else b k)
  by_cases z : k = t
  · rw [if_pos z, if_pos z]
    by_cases y : t = f
    · rw [if_pos y, if_pos y, nI_add]
    · rw [if_neg y, if_neg y, j5 t ht, nI_add]
  · rw [if_neg z, if_neg z]
    by_cases y : k = f
    · rw [if_pos y, if_pos y]
    · rw [if_neg y, if_neg y, j5 k hk]
set_option maxHeartbeats 4000000 in
theorem s_hpour (n6 : n ≤ 6) (jh : JhR h x be n se wy b) (bl : ∀ k, k < n → b k ≤ 1200) {f t : Nat} {w : Int32} (hf : f < n) (ht : t < n) : RQ G mX12_pour d 0 [some (.ref x), some (.int (nI f)), some (.int (nI t)), some (.int w), none] [] h (Ri fun r h1 => r = nI (mvN w (b f)) ∧ ∃ bf2 : Nat → Int32, (∀ k, k < n → bf2 k = nI (mvB b f t (mvN w (b f)) k)) ∧ h1 = hset h be (.inl (0, n, .inl bf2))) := by
  obtain ⟨j1, j2, j3, bf, j4, j5⟩ := id jh
  have bf9 := bl f hf
  have bI : (nI (b f)).toInt = (b f : Int) := nI_toInt (by omega)
  refine tX12_pour_0  (r := ?_)
  refine tX12_pour_1  (kt := fun c_1 => ?_) (kf := fun c_1 => ?_)
  · refine tX12_pour_8  (r := ?_)
    refine tX12_pour_9  (r := ?_)
    refine tX12_pour_10 (ha := j3) (hv := rfl) (r := ?_)
    refine tX12_pour_13  (r := ?_)
    refine tX12_pour_14 (j := f) (ha := j4) (hx := rfl) (hj := hf) (hn := (by omega)) (r := ?_)
    rw [j5 f hf]
    refine tX12_pour_15  (kt := fun c_15 => ?_) (kf := fun c_15 => ?_)
    · have ev : w = nI (mvN w (b f)) := by
        rw [Int32.le_iff_toInt_le, bI] at c_15
        have c1 : (0 : Int32).toInt ≤ w.toInt := Int32.le_iff_toInt_le.mp c_1
        have c2 : (0 : Int32).toInt = 0 := rfl
        apply Int32.toInt_inj.mp
        unfold mvN
        rw [nI_toInt (by omega)]
        omega
      refine tX12_pour_27  (r := ?_)
      refine (show RQ _ _ _ _ _ [.int w] _ _ from ?_)
      have r := s_hpour_t (G := G) (d := d) n6 jh bl (v := mvN w (b f)) hf ht (Nat.min_le_right _ _) (x3 := some (.int w)) (x4 := none) rfl
      rw [← ev] at r
      rw [← ev]
      exact r
    · have ev : mvN w (b f) = b f := by
        rw [Int32.le_iff_toInt_le, bI] at c_15
        unfold mvN
        omega
      refine tX12_pour_18  (r := ?_)
      refine tX12_pour_19 (ha := j3) (hv := rfl) (r := ?_)
      refine tX12_pour_22  (r := ?_)
      refine tX12_pour_23 (j := f) (ha := j4) (hx := rfl) (hj := hf) (hn := (by omega)) (r := ?_)
      rw [j5 f hf]
      refine tX12_pour_24 (r := ?_)
      rw [ev]
      exact s_hpour_t n6 jh bl hf ht (Nat.le_refl _) rfl
  · have ev : mvN w (b f) = 0 := by
      have c1 : ¬ (0 : Int32).toInt ≤ w.toInt := fun z => c_1 (Int32.le_iff_toInt_le.mpr z)
      have c2 : (0 : Int32).toInt = 0 := rfl
      unfold mvN
      omega
    refine tX12_pour_4  (r := ?_)
    refine tX12_pour_5 (r := ?_)
    rw [ev]
    exact s_hpour_t n6 jh bl hf ht (Nat.zero_le _) rfl
/-- within m links -/
def thr9 (F : Nat → Option Nat) (l : Nat) : Nat → Nat → Bool
  | 0, k => k == l
  | m + 1, k => k == l || (match F k with
    | none => false
    | some j => thr9 F l m j)
theorem thr9_self {F : Nat → Option Nat} {l : Nat} : ∀ m, thr9 F l m l = true
  | 0 => beq_self_eq_true l
  | m + 1 => by
    show (l == l || _) = true
    rw [beq_self_eq_true, Bool.true_or]
theorem thr9_iff {F : Nat → Option Nat} {l : Nat} : ∀ (m k : Nat), F (rtn F m k) = none → (thr9 F l m k = true ↔ thr F l k)
  | 0, k, h => by
    have h : F k = none := h
    constructor
    · intro e
      exact ⟨0, by rw [show k = l from eq_of_beq e]; rfl⟩
    · rintro ⟨n, e⟩
      cases n with
      | zero =>
        have e : some k = some l := e
        injection e with e
        exact beq_iff_eq.mpr e
      | succ n =>
        have e : (match F k with | none => none | some j => itn F n j) = some l := e
        rw [h] at e
        exact nomatch e
  | m + 1, k, h => by
    cases e : F k with
    | none =>
      have h0 := thr9_iff (l := l) 0 k e
      have e1 : thr9 F l (m + 1) k = thr9 F l 0 k := by
        show (k == l || (match F k with | none => false | some j => thr9 F l m j)) = (k == l)
        rw [e, Bool.or_false]
      rw [e1]
      exact h0
    | some j =>
      have ih := thr9_iff (l := l) m j (by rw [rtn_yes e] at h; exact h)
      have e1 : thr9 F l (m + 1) k = (k == l || thr9 F l m j) := by
        show (k == l || (match F k with | none => false | some j => thr9 F l m j)) = _
        rw [e]
      rw [e1]
      by_cases z : k = l
      · rw [beq_iff_eq.mpr z, Bool.true_or]
        exact ⟨fun _ => ⟨0, by rw [z]; rfl⟩, fun _ => rfl⟩
      · rw [thr_next e z, ← ih, show (k == l) = false from beq_eq_false_iff_ne.mpr z, Bool.false_or]
set_option maxHeartbeats 4000000 in
theorem s_hund (n6 : n ≤ 6) (q : FoR h c n F) (hF : ∀ k j, k < n → F k = some j → j < n) {l : Nat} (hl : l < n) : ∀ (m dd k : Nat), m ≤ dd → k < n → F (rtn F m k) = none → RQ G mX12_isUnder dd 0 [some (.ref c), some (.int (nI k)), some (.int (nI l))] [] h (Ri fun r h1 => r = (if thr9 F l m k then nI 1 else nI 0) ∧ h1 = h) := by
  obtain ⟨fo, v1, v2, v3, ff, q1, q2, qf⟩ := q
  have no : ∀ (m dd k : Nat), k < n → F k = none → RQ G mX12_isUnder dd 0 [some (.ref c), some (.int (nI k)), some (.int (nI l))] [] h (Ri fun r h1 => r = (if thr9 F l m k then nI 1 else nI 0) ∧ h1 = h) := by
    intro m dd k hk e
    by_cases z : k = l
    · subst z
      refine tX12_isUnder_0  (r := ?_)
      refine tX12_isUnder_1  (r := ?_)
      refine tX12_isUnder_2  (kf := fun c_ => by exfalso; exact c_ rfl) (kt := fun _ => ?_)
      refine tX12_isUnder_28  (r := ?_)
      refine tX12_isUnder_29 (r := ?_)
      refine tX12_isUnder_33 (hb := (by first | exact Or.inl rfl | exact Or.inr rfl | assumption)) (hP := ?_)
      exact ⟨_, rfl, (if_pos (thr9_self _)).symm, rfl⟩
    · skip
      refine tX12_isUnder_0  (r := ?_)
      refine tX12_isUnder_1  (r := ?_)
      refine tX12_isUnder_2  (kt := fun c_ => by exfalso; exact z ((nI_eq (by omega) (by omega)).mp c_)) (kf := fun _ => ?_)
      refine tX12_isUnder_5  (r := ?_)
      refine tX12_isUnder_6 (ha := q1) (hv := rfl) (r := ?_)
      refine tX12_isUnder_9  (r := ?_)
      refine tX12_isUnder_10 (ha := q2) (hx := rfl) (hj := (by omega)) (hn := (by omega)) (r := ?_)
      rw [qf k hk, e]
      refine tX12_isUnder_11  (kf := fun c_ => by exfalso; exact c_ (show (-1 : Int32) < 0 by decide)) (kt := fun _ => ?_)
      refine tX12_isUnder_32  (r := ?_)
      refine tX12_isUnder_33 (hb := (by first | exact Or.inl rfl | exact Or.inr rfl | assumption)) (hP := ?_)
      refine ⟨_, rfl, (if_neg (fun y => ?_)).symm, rfl⟩
      have y0 : (k == l) = false := beq_eq_false_iff_ne.mpr z
      cases m with
      | zero =>
        have y : (k == l) = true := y
        rw [y0] at y
        exact nomatch y
      | succ m =>
        have y : (k == l || (match F k with | none => false | some j => thr9 F l m j)) = true := y
        rw [e, y0] at y
        exact nomatch y
  intro m
  induction m with
  | zero => exact fun dd k _ hk hr => no 0 dd k hk hr
  | succ m ih =>
    intro dd k hd hk hr
    cases e : F k with
    | none => exact no (m + 1) dd k hk e
    | some j =>
      have hjn := hF k j hk e
      obtain ⟨dd, rfl⟩ : ∃ d0, dd = d0 + 1 := ⟨dd - 1, by omega⟩
      by_cases z : k = l
      · subst z
        refine tX12_isUnder_0  (r := ?_)
        refine tX12_isUnder_1  (r := ?_)
        refine tX12_isUnder_2  (kf := fun c_ => by exfalso; exact c_ rfl) (kt := fun _ => ?_)
        refine tX12_isUnder_28  (r := ?_)
        refine tX12_isUnder_29 (r := ?_)
        refine tX12_isUnder_33 (hb := (by first | exact Or.inl rfl | exact Or.inr rfl | assumption)) (hP := ?_)
        exact ⟨_, rfl, (if_pos (thr9_self _)).symm, rfl⟩
      · skip
        refine tX12_isUnder_0  (r := ?_)
        refine tX12_isUnder_1  (r := ?_)
        refine tX12_isUnder_2  (kt := fun c_ => by exfalso; exact z ((nI_eq (by omega) (by omega)).mp c_)) (kf := fun _ => ?_)
        refine tX12_isUnder_5  (r := ?_)
        refine tX12_isUnder_6 (ha := q1) (hv := rfl) (r := ?_)
        refine tX12_isUnder_9  (r := ?_)
        refine tX12_isUnder_10 (ha := q2) (hx := rfl) (hj := (by omega)) (hn := (by omega)) (r := ?_)
        rw [qf k hk, e]
        rw [show oI (some j) = nI j from rfl]
        refine tX12_isUnder_11  (kt := fun c_ => by exfalso; exact absurd c_ (nI_pos (n := j) (by omega))) (kf := fun _ => ?_)
        refine tX12_isUnder_14  (r := ?_)
        refine tX12_isUnder_15  (r := ?_)
        refine tX12_isUnder_16 (ha := q1) (hv := rfl) (r := ?_)
        refine tX12_isUnder_19  (r := ?_)
        refine tX12_isUnder_20 (ha := q2) (hx := rfl) (hj := (by omega)) (hn := (by omega)) (r := ?_)
        rw [qf k hk, e]
        rw [show oI (some j) = nI j from rfl]
        refine tX12_isUnder_21  (r := ?_)
        refine tX12_isUnder_22 (hd := (by omega)) (ha := q1) (call := ih dd j (by omega) (hF k j hk e) (by rw [← rtn_yes (n := m) e]; exact hr)) (k := ?_)
        rintro v h_ ⟨ev, e9⟩
        rw [e9, ev]
        have e1 : thr9 F l (m + 1) k = thr9 F l m j := by
          show (k == l || (match F k with | none => false | some j => thr9 F l m j)) = _
          rw [e, show (k == l) = false from beq_eq_false_iff_ne.mpr z, Bool.false_or]
        rw [e1]
        refine tX12_isUnder_25  (kt := fun c_25 => ?_) (kf := fun c_25 => ?_)
        · have t0 : ¬ thr9 F l m j = true := fun y => by rw [if_pos y] at c_25; exact absurd c_25 (by decide)
          refine tX12_isUnder_32  (r := ?_)
          refine tX12_isUnder_33 (hb := (by first | exact Or.inl rfl | exact Or.inr rfl | assumption)) (hP := ?_)
          exact ⟨_, rfl, (if_neg t0).symm, rfl⟩
        · have t0 : thr9 F l m j = true := Classical.byContradiction (fun y => c_25 (by rw [if_neg y]; rfl))
          refine tX12_isUnder_28  (r := ?_)
          refine tX12_isUnder_29 (r := ?_)
          refine tX12_isUnder_33 (hb := (by first | exact Or.inl rfl | exact Or.inr rfl | assumption)) (hP := ?_)
          exact ⟨_, rfl, (if_pos t0).symm, rfl⟩
end HY
