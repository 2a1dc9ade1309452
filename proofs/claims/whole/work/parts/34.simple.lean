/-! simple calls: what the class answers, what the reference answers -/
section SI
variable {G : GT} {d : Nat} {h : AH} {bk dr : Nat} {s : ST}
theorem nI_mulN (a b : Nat) : nI a * nI b = nI (a * b) := (Int32.ofNat_mul a b).symm
theorem Jd.room (j : Jd h s bk dr) : 216 ≤ h.1 := by
  obtain ⟨f9, j9⟩ := j.2.2.2.2
  have := j9.1
  omega

set_option maxHeartbeats 4000000 in
set_option maxRecDepth 100000 in
theorem s_held {th : Int32} (c2 : MoT h 216 th s) (hb : BDok s.2.2.1 s.2.2.2) {j k : Nat} (qj : j < bJa s.2.2.1) (qk : k < bLa s.2.2.1) : RQ G mX12_held d 0 [some (.ref 216), some (.int (nI j)), some (.int (nI k))] [] h (Ri fun v h1 => v = nI (dB s.2.2.2 j k) ∧ h1 = h) := by
  obtain ⟨⟨tk, iw, er, et, dp, nm, am⟩, ⟨-, ⟨ft, at1, ct1⟩, -, -, -, -, -, -, -, ⟨ru, ac, no, a9, -⟩, -, -, ⟨fn, a48, n0, nb, nf, nl⟩, -, -, -, -⟩, ⟨⟨gs, as_, cs⟩, ⟨gw, aw, cw⟩, ⟨gl, al, cl⟩, ⟨g0, a0_, c0_⟩, ⟨g1, a1_, c1_⟩⟩⟩ := id c2
  have l1 := hb.1
  have l2 := hb.2.1
  have l3 := hb.2.2.1
  refine tX12_held_0  (r := ?_)
  refine tX12_held_1 (ha := (by first | assumption | (repeat (first | assumption | exact At.set_eq2 (by first | omega | (simp only [hset, hnew]; omega) | rfl | decide) | exact At.new_eq2 _ _ (by first | omega | (simp only [hset, hnew]; omega) | rfl | decide) | refine At.set_ne ?_ (by first | omega | (simp only [hset, hnew]; omega) | rfl | decide) | refine At.new_ne ?_)))) (hv := rfl) (r := ?_)
  refine tX12_held_4  (r := ?_)
  refine tX12_held_5  (r := ?_)
  refine tX12_held_7  (r := ?_)
  refine tX12_held_8  (r := ?_)
  rw [nI_mulN]
  refine tX12_held_9  (r := ?_)
  rw [nI_add]
  refine tX12_held_10  (r := ?_)
  refine tX12_held_11  (r := ?_)
  rw [nI_add]
  refine tX12_held_12 (ha := (by first | assumption | (repeat (first | assumption | exact At.set_eq2 (by first | omega | (simp only [hset, hnew]; omega) | rfl | decide) | exact At.new_eq2 _ _ (by first | omega | (simp only [hset, hnew]; omega) | rfl | decide) | refine At.set_ne ?_ (by first | omega | (simp only [hset, hnew]; omega) | rfl | decide) | refine At.new_ne ?_)))) (hx := rfl) (hj := (by omega)) (hn := (by decide)) (r := ?_)
  rw [nb _ _ qj qk]
  refine tX12_held_13  (hP := ?_)
  exact ⟨_, rfl, rfl, rfl⟩

set_option maxHeartbeats 4000000 in
set_option maxRecDepth 100000 in
theorem s_leader_l {th : Int32} (c2 : MoT h 216 th s) (hb : BDok s.2.2.1 s.2.2.2) {v : Int32} : ∀ (n at_ : Nat), at_ < bLa s.2.2.1 → dF s.2.2.2 (rtn (dF s.2.2.2) n at_) = none → RQ G mX12_leader d 2 [some (.ref 216), some (.int v), some (.int (nI at_))] [] h (Ri fun x h1 => x = nI (rtn (dF s.2.2.2) n at_) ∧ h1 = h) := by
  obtain ⟨⟨tk, iw, er, et, dp, nm, am⟩, ⟨-, ⟨ft, at1, ct1⟩, -, -, -, -, -, -, -, ⟨ru, ac, no, a9, -⟩, -, -, ⟨fn, a48, n0, nb, nf, nl⟩, -, -, -, -⟩, ⟨⟨gs, as_, cs⟩, ⟨gw, aw, cw⟩, ⟨gl, al, cl⟩, ⟨g0, a0_, c0_⟩, ⟨g1, a1_, c1_⟩⟩⟩ := id c2
  have l1 := hb.1
  have ex : ∀ at_, at_ < bLa s.2.2.1 → dF s.2.2.2 at_ = none → RQ G mX12_leader d 2 [some (.ref 216), some (.int v), some (.int (nI at_))] [] h (Ri fun x h1 => x = nI at_ ∧ h1 = h) := by
    intro at_ h1 h2
    refine tX12_leader_2  (r := ?_)
    refine tX12_leader_3 (ha := (by first | assumption | (repeat (first | assumption | exact At.set_eq2 (by first | omega | (simp only [hset, hnew]; omega) | rfl | decide) | exact At.new_eq2 _ _ (by first | omega | (simp only [hset, hnew]; omega) | rfl | decide) | refine At.set_ne ?_ (by first | omega | (simp only [hset, hnew]; omega) | rfl | decide) | refine At.new_ne ?_)))) (hv := rfl) (r := ?_)
    refine tX12_leader_6  (r := ?_)
    refine tX12_leader_8  (r := ?_)
    refine tX12_leader_9  (r := ?_)
    rw [nI_add]
    refine tX12_leader_10 (ha := (by first | assumption | (repeat (first | assumption | exact At.set_eq2 (by first | omega | (simp only [hset, hnew]; omega) | rfl | decide) | exact At.new_eq2 _ _ (by first | omega | (simp only [hset, hnew]; omega) | rfl | decide) | refine At.set_ne ?_ (by first | omega | (simp only [hset, hnew]; omega) | rfl | decide) | refine At.new_ne ?_)))) (hx := rfl) (hj := (by omega)) (hn := (by decide)) (r := ?_)
    rw [nf _ h1, h2]
    refine tX12_leader_11  (r := ?_)
    refine tX12_leader_12  (kf := fun c_ => by exfalso; exact c_ rfl) (kt := fun _ => ?_)
    refine tX12_leader_28  (r := ?_)
    refine tX12_leader_29  (hP := ?_)
    exact ⟨_, rfl, rfl, rfl⟩
  intro n
  induction n with
  | zero =>
    intro at_ h1 h2
    exact ex at_ h1 h2
  | succ n ih =>
    intro at_ h1 h2
    cases e : dF s.2.2.2 at_ with
    | none =>
      have e2 : rtn (dF s.2.2.2) (n + 1) at_ = at_ := by simp [rtn, e]
      rw [e2]
      exact ex at_ h1 e
    | some j =>
      have e2 : rtn (dF s.2.2.2) (n + 1) at_ = rtn (dF s.2.2.2) n j := by simp [rtn, e]
      rw [e2] at h2 ⊢
      have hj := (hb.2.2.2.2.2.2.2.2.1 at_ j (by omega) e).2
      have hj2 : j < 2147483648 := by omega
      refine tX12_leader_2  (r := ?_)
      refine tX12_leader_3 (ha := (by first | assumption | (repeat (first | assumption | exact At.set_eq2 (by first | omega | (simp only [hset, hnew]; omega) | rfl | decide) | exact At.new_eq2 _ _ (by first | omega | (simp only [hset, hnew]; omega) | rfl | decide) | refine At.set_ne ?_ (by first | omega | (simp only [hset, hnew]; omega) | rfl | decide) | refine At.new_ne ?_)))) (hv := rfl) (r := ?_)
      refine tX12_leader_6  (r := ?_)
      refine tX12_leader_8  (r := ?_)
      refine tX12_leader_9  (r := ?_)
      rw [nI_add]
      refine tX12_leader_10 (ha := (by first | assumption | (repeat (first | assumption | exact At.set_eq2 (by first | omega | (simp only [hset, hnew]; omega) | rfl | decide) | exact At.new_eq2 _ _ (by first | omega | (simp only [hset, hnew]; omega) | rfl | decide) | refine At.set_ne ?_ (by first | omega | (simp only [hset, hnew]; omega) | rfl | decide) | refine At.new_ne ?_)))) (hx := rfl) (hj := (by omega)) (hn := (by decide)) (r := ?_)
      rw [nf _ h1, e]
      refine tX12_leader_11  (r := ?_)
      refine tX12_leader_12  (kt := fun c_ => by exfalso; exact absurd c_ (show ¬ nI j = -1 by simp only [ci_eq_m1 hj2, not_false_iff])) (kf := fun _ => ?_)
      refine tX12_leader_15  (r := ?_)
      refine tX12_leader_16 (ha := (by first | assumption | (repeat (first | assumption | exact At.set_eq2 (by first | omega | (simp only [hset, hnew]; omega) | rfl | decide) | exact At.new_eq2 _ _ (by first | omega | (simp only [hset, hnew]; omega) | rfl | decide) | refine At.set_ne ?_ (by first | omega | (simp only [hset, hnew]; omega) | rfl | decide) | refine At.new_ne ?_)))) (hv := rfl) (r := ?_)
      refine tX12_leader_19  (r := ?_)
      refine tX12_leader_21  (r := ?_)
      refine tX12_leader_22  (r := ?_)
      rw [nI_add]
      refine tX12_leader_23 (ha := (by first | assumption | (repeat (first | assumption | exact At.set_eq2 (by first | omega | (simp only [hset, hnew]; omega) | rfl | decide) | exact At.new_eq2 _ _ (by first | omega | (simp only [hset, hnew]; omega) | rfl | decide) | refine At.set_ne ?_ (by first | omega | (simp only [hset, hnew]; omega) | rfl | decide) | refine At.new_ne ?_)))) (hx := rfl) (hj := (by omega)) (hn := (by decide)) (r := ?_)
      rw [nf _ h1, e]
      refine tX12_leader_24  (r := ?_)
      refine tX12_leader_25 (r := ?_)
      exact ih j hj h2

theorem rt_lt {B : BK} {D : DY} (hb : BDok B D) : ∀ (n k : Nat), k < bLa B → rtn (dF D) n k < bLa B := by
  intro n
  induction n with
  | zero => exact fun k hk => hk
  | succ n ih =>
    intro k hk
    have l1 := hb.1
    cases e : dF D k with
    | none => simpa [rtn, e] using hk
    | some j => simpa [rtn, e] using ih j (hb.2.2.2.2.2.2.2.2.1 k j (by omega) e).2
set_option maxHeartbeats 4000000 in
set_option maxRecDepth 100000 in
theorem s_leader {th : Int32} (c2 : MoT h 216 th s) (hb : BDok s.2.2.1 s.2.2.2) {k : Nat} (qk : k < bLa s.2.2.1) : RQ G mX12_leader d 0 [some (.ref 216), some (.int (nI k)), none] [] h (Ri fun x h1 => x = nI (rt (dF s.2.2.2) k) ∧ h1 = h) := by
  have l1 := hb.1
  refine tX12_leader_0  (r := ?_)
  refine tX12_leader_1  (r := ?_)
  exact s_leader_l c2 hb 6 k qk (hb.2.2.2.2.2.2.2.2.2.1 k (by omega))

set_option maxHeartbeats 4000000 in
set_option maxRecDepth 100000 in
theorem k_beansIn_ok (hd : 7 ≤ d) (c : ClR h 0 bk dr s) (hb : BDok s.2.2.1 s.2.2.2) (hh : 216 ≤ h.1) {j0 : Nat} (q0 : j0 < bJa s.2.2.1) {j1 : Nat} (q1 : j1 < bLa s.2.2.1) : RQ G mX10_beansIn d 0 [some (.ref 0), some (.int (nI j0)), some (.int (nI j1))] [] h (CK h bk dr s "java/lang/IndexOutOfBoundsException" "" 0 (nI (dB s.2.2.2 j0 j1))) := by
  have c1 := c.poll
  have cb := c.book
  obtain ⟨jf, lj, fo, le, u0, u1, u2, u3, u4, u5, u6, u7, u8, u9⟩ := id c.2.2.2.2.1
  have l1 := hb.1
  have l2 := hb.2.1
  have l3 := hb.2.2.1
  obtain ⟨bf, p, w, l, tu, fi, ma, co, ⟨b0, b1, b2, b3, b4⟩, hb2, hb3⟩ := u9 j0 (by omega)
  refine tX10_beansIn_0  (r := ?_)
  refine tX10_beansIn_1  (r := ?_)
  refine tX10_beansIn_2 (hd := (by omega)) (ha := (by first | assumption | (repeat (first | assumption | exact At.set_eq2 (by first | omega | (simp only [hset, hnew]; omega) | rfl | decide) | exact At.new_eq2 _ _ (by first | omega | (simp only [hset, hnew]; omega) | rfl | decide) | refine At.set_ne ?_ (by first | omega | (simp only [hset, hnew]; omega) | rfl | decide) | refine At.new_ne ?_)))) (call := s_checkJar_ok (d := 6) (QX := fun _ _ => False) c hb q0) (kx := fun E_ h_ hx_ => by exact hx_.elim) (k := ?_)
  intro h_ e0
  rw [e0]
  refine tX10_beansIn_5  (r := ?_)
  refine tX10_beansIn_6  (r := ?_)
  refine tX10_beansIn_7 (hd := (by omega)) (ha := (by first | assumption | (repeat (first | assumption | exact At.set_eq2 (by first | omega | (simp only [hset, hnew]; omega) | rfl | decide) | exact At.new_eq2 _ _ (by first | omega | (simp only [hset, hnew]; omega) | rfl | decide) | refine At.set_ne ?_ (by first | omega | (simp only [hset, hnew]; omega) | rfl | decide) | refine At.new_ne ?_)))) (call := s_checkLabel_ok (d := 6) (QX := fun _ _ => False) c hb q1) (kx := fun E_ h_ hx_ => by exact hx_.elim) (k := ?_)
  intro h_ e1
  rw [e1]
  refine tX10_beansIn_10  (r := ?_)
  refine tX10_beansIn_11 (ha := (by first | assumption | (repeat (first | assumption | exact At.set_eq2 (by first | omega | (simp only [hset, hnew]; omega) | rfl | decide) | exact At.new_eq2 _ _ (by first | omega | (simp only [hset, hnew]; omega) | rfl | decide) | refine At.set_ne ?_ (by first | omega | (simp only [hset, hnew]; omega) | rfl | decide) | refine At.new_ne ?_)))) (hv := rfl) (r := ?_)
  refine tX10_beansIn_14 (ha := (by first | assumption | (repeat (first | assumption | exact At.set_eq2 (by first | omega | (simp only [hset, hnew]; omega) | rfl | decide) | exact At.new_eq2 _ _ (by first | omega | (simp only [hset, hnew]; omega) | rfl | decide) | refine At.set_ne ?_ (by first | omega | (simp only [hset, hnew]; omega) | rfl | decide) | refine At.new_ne ?_)))) (hv := rfl) (r := ?_)
  refine tX10_beansIn_17  (r := ?_)
  refine tX10_beansIn_18 (ha := (by first | assumption | (repeat (first | assumption | exact At.set_eq2 (by first | omega | (simp only [hset, hnew]; omega) | rfl | decide) | exact At.new_eq2 _ _ (by first | omega | (simp only [hset, hnew]; omega) | rfl | decide) | refine At.set_ne ?_ (by first | omega | (simp only [hset, hnew]; omega) | rfl | decide) | refine At.new_ne ?_)))) (hx := rfl) (hj := (by omega)) (hn := (by decide)) (hf := (u5 _ (by omega))) (r := ?_)
  refine tX10_beansIn_19 (ha := (by first | assumption | (repeat (first | assumption | exact At.set_eq2 (by first | omega | (simp only [hset, hnew]; omega) | rfl | decide) | exact At.new_eq2 _ _ (by first | omega | (simp only [hset, hnew]; omega) | rfl | decide) | refine At.set_ne ?_ (by first | omega | (simp only [hset, hnew]; omega) | rfl | decide) | refine At.new_ne ?_)))) (hv := rfl) (r := ?_)
  refine tX10_beansIn_22  (r := ?_)
  refine tX10_beansIn_23 (ha := (by first | assumption | (repeat (first | assumption | exact At.set_eq2 (by first | omega | (simp only [hset, hnew]; omega) | rfl | decide) | exact At.new_eq2 _ _ (by first | omega | (simp only [hset, hnew]; omega) | rfl | decide) | refine At.set_ne ?_ (by first | omega | (simp only [hset, hnew]; omega) | rfl | decide) | refine At.new_ne ?_)))) (hx := rfl) (hj := (by omega)) (hn := (by decide)) (r := ?_)
  rw [hb2 _ (by omega)]
  refine tX10_beansIn_24  (hP := ?_)
  exact ck_val c (Ch.rf _ _ _ _ _)

set_option maxHeartbeats 4000000 in
set_option maxRecDepth 100000 in
theorem m_beansIn_ok (hd : 4 ≤ d) (m1 : MoR h 216 s) (t1 : ToR h 216 s.2.2.1) (hb : BDok s.2.2.1 s.2.2.2) {j0 : Nat} (q0 : j0 < bJa s.2.2.1) {j1 : Nat} (q1 : j1 < bLa s.2.2.1) : RQ G mX12_beansIn d 0 [some (.ref 216), some (.int (nI j0)), some (.int (nI j1))] [] h (MK h s 0 (nI (dB s.2.2.2 j0 j1))) := by
  obtain ⟨th, c⟩ := MoT.ofR m1 t1
  refine b_beansIn c (fun h2 c2 ch2 => ?_)
  obtain ⟨⟨tk, iw, er, et, dp, nm, am⟩, ⟨-, ⟨ft, at1, ct1⟩, -, -, -, -, -, -, -, ⟨ru, ac, no, a9, -⟩, -, -, ⟨fn, a48, n0, nb, nf, nl⟩, -, -, -, -⟩, ⟨⟨gs, as_, cs⟩, ⟨gw, aw, cw⟩, ⟨gl, al, cl⟩, ⟨g0, a0_, c0_⟩, ⟨g1, a1_, c1_⟩⟩⟩ := id c2
  have l1 := hb.1
  have l2 := hb.2.1
  have l3 := hb.2.2.1
  refine tX12_beansIn_5  (r := ?_)
  refine tX12_beansIn_6  (r := ?_)
  refine tX12_beansIn_7 (hd := (by omega)) (ha := (by first | assumption | (repeat (first | assumption | exact At.set_eq2 (by first | omega | (simp only [hset, hnew]; omega) | rfl | decide) | exact At.new_eq2 _ _ (by first | omega | (simp only [hset, hnew]; omega) | rfl | decide) | refine At.set_ne ?_ (by first | omega | (simp only [hset, hnew]; omega) | rfl | decide) | refine At.new_ne ?_)))) (call := s_isJar_ok (d := 1) (by decide) c2 hb q0) (k := ?_)
  rintro v0 h_ ⟨rfl, e0⟩
  rw [e0]
  refine tX12_beansIn_10  (kt := fun c_ => by exfalso; exact absurd c_ (by decide)) (kf := fun _ => ?_)
  refine tX12_beansIn_13  (r := ?_)
  refine tX12_beansIn_14  (r := ?_)
  refine tX12_beansIn_15 (hd := (by omega)) (ha := (by first | assumption | (repeat (first | assumption | exact At.set_eq2 (by first | omega | (simp only [hset, hnew]; omega) | rfl | decide) | exact At.new_eq2 _ _ (by first | omega | (simp only [hset, hnew]; omega) | rfl | decide) | refine At.set_ne ?_ (by first | omega | (simp only [hset, hnew]; omega) | rfl | decide) | refine At.new_ne ?_)))) (call := s_isLabel_ok (d := 1) (by decide) c2 hb q1) (k := ?_)
  rintro v1 h_ ⟨rfl, e1⟩
  rw [e1]
  refine tX12_beansIn_18  (kt := fun c_ => by exfalso; exact absurd c_ (by decide)) (kf := fun _ => ?_)
  refine tX12_beansIn_21  (r := ?_)
  refine tX12_beansIn_22  (r := ?_)
  refine tX12_beansIn_23  (r := ?_)
  refine tX12_beansIn_24 (hd := (by omega)) (ha := (by first | assumption | (repeat (first | assumption | exact At.set_eq2 (by first | omega | (simp only [hset, hnew]; omega) | rfl | decide) | exact At.new_eq2 _ _ (by first | omega | (simp only [hset, hnew]; omega) | rfl | decide) | refine At.set_ne ?_ (by first | omega | (simp only [hset, hnew]; omega) | rfl | decide) | refine At.new_ne ?_)))) (call := s_held (d := 1) c2 hb q0 q1) (k := ?_)
  rintro v h_ ⟨rfl, e9⟩
  rw [e9]
  refine tX12_beansIn_27 (r := ?_)
  refine tX12_beansIn_35  (hP := ?_)
  exact MK.of c2 (ch2.sub (Nat.le_refl _) (Nat.le_refl _) (by decide) (by decide))

set_option maxHeartbeats 4000000 in
set_option maxRecDepth 100000 in
theorem k_seatsOf_ok (hd : 7 ≤ d) (c : ClR h 0 bk dr s) (hb : BDok s.2.2.1 s.2.2.2) (hh : 216 ≤ h.1) {j0 : Nat} (q0 : j0 < bJa s.2.2.1) : RQ G mX10_seatsOf d 0 [some (.ref 0), some (.int (nI j0))] [] h (CK h bk dr s "java/lang/IndexOutOfBoundsException" "" 0 (nI (bSe s.2.2.1 j0))) := by
  have c1 := c.poll
  have cb := c.book
  obtain ⟨jf, lj, fo, le, u0, u1, u2, u3, u4, u5, u6, u7, u8, u9⟩ := id c.2.2.2.2.1
  have l1 := hb.1
  have l2 := hb.2.1
  have l3 := hb.2.2.1
  obtain ⟨bf, p, w, l, tu, fi, ma, co, ⟨b0, b1, b2, b3, b4⟩, hb2, hb3⟩ := u9 j0 (by omega)
  refine tX10_seatsOf_0  (r := ?_)
  refine tX10_seatsOf_1  (r := ?_)
  refine tX10_seatsOf_2 (hd := (by omega)) (ha := (by first | assumption | (repeat (first | assumption | exact At.set_eq2 (by first | omega | (simp only [hset, hnew]; omega) | rfl | decide) | exact At.new_eq2 _ _ (by first | omega | (simp only [hset, hnew]; omega) | rfl | decide) | refine At.set_ne ?_ (by first | omega | (simp only [hset, hnew]; omega) | rfl | decide) | refine At.new_ne ?_)))) (call := s_checkJar_ok (d := 6) (QX := fun _ _ => False) c hb q0) (kx := fun E_ h_ hx_ => by exact hx_.elim) (k := ?_)
  intro h_ e0
  rw [e0]
  refine tX10_seatsOf_5  (r := ?_)
  refine tX10_seatsOf_6 (ha := (by first | assumption | (repeat (first | assumption | exact At.set_eq2 (by first | omega | (simp only [hset, hnew]; omega) | rfl | decide) | exact At.new_eq2 _ _ (by first | omega | (simp only [hset, hnew]; omega) | rfl | decide) | refine At.set_ne ?_ (by first | omega | (simp only [hset, hnew]; omega) | rfl | decide) | refine At.new_ne ?_)))) (hv := rfl) (r := ?_)
  refine tX10_seatsOf_9 (ha := (by first | assumption | (repeat (first | assumption | exact At.set_eq2 (by first | omega | (simp only [hset, hnew]; omega) | rfl | decide) | exact At.new_eq2 _ _ (by first | omega | (simp only [hset, hnew]; omega) | rfl | decide) | refine At.set_ne ?_ (by first | omega | (simp only [hset, hnew]; omega) | rfl | decide) | refine At.new_ne ?_)))) (hv := rfl) (r := ?_)
  refine tX10_seatsOf_12  (r := ?_)
  refine tX10_seatsOf_13 (ha := (by first | assumption | (repeat (first | assumption | exact At.set_eq2 (by first | omega | (simp only [hset, hnew]; omega) | rfl | decide) | exact At.new_eq2 _ _ (by first | omega | (simp only [hset, hnew]; omega) | rfl | decide) | refine At.set_ne ?_ (by first | omega | (simp only [hset, hnew]; omega) | rfl | decide) | refine At.new_ne ?_)))) (hx := rfl) (hj := (by omega)) (hn := (by decide)) (hf := (u5 _ (by omega))) (r := ?_)
  refine tX10_seatsOf_14 (ha := (by first | assumption | (repeat (first | assumption | exact At.set_eq2 (by first | omega | (simp only [hset, hnew]; omega) | rfl | decide) | exact At.new_eq2 _ _ (by first | omega | (simp only [hset, hnew]; omega) | rfl | decide) | refine At.set_ne ?_ (by first | omega | (simp only [hset, hnew]; omega) | rfl | decide) | refine At.new_ne ?_)))) (hv := rfl) (r := ?_)
  refine tX10_seatsOf_17  (hP := ?_)
  exact ck_val c (Ch.rf _ _ _ _ _)

set_option maxHeartbeats 4000000 in
set_option maxRecDepth 100000 in
theorem m_seatsOf_ok (hd : 4 ≤ d) (m1 : MoR h 216 s) (t1 : ToR h 216 s.2.2.1) (hb : BDok s.2.2.1 s.2.2.2) {j0 : Nat} (q0 : j0 < bJa s.2.2.1) : RQ G mX12_seatsOf d 0 [some (.ref 216), some (.int (nI j0))] [] h (MK h s 0 (nI (bSe s.2.2.1 j0))) := by
  obtain ⟨th, c⟩ := MoT.ofR m1 t1
  refine b_seatsOf c (fun h2 c2 ch2 => ?_)
  obtain ⟨⟨tk, iw, er, et, dp, nm, am⟩, ⟨-, ⟨ft, at1, ct1⟩, -, -, -, -, -, -, -, ⟨ru, ac, no, a9, -⟩, -, -, ⟨fn, a48, n0, nb, nf, nl⟩, -, -, -, -⟩, ⟨⟨gs, as_, cs⟩, ⟨gw, aw, cw⟩, ⟨gl, al, cl⟩, ⟨g0, a0_, c0_⟩, ⟨g1, a1_, c1_⟩⟩⟩ := id c2
  have l1 := hb.1
  have l2 := hb.2.1
  have l3 := hb.2.2.1
  refine tX12_seatsOf_5  (r := ?_)
  refine tX12_seatsOf_6  (r := ?_)
  refine tX12_seatsOf_7 (hd := (by omega)) (ha := (by first | assumption | (repeat (first | assumption | exact At.set_eq2 (by first | omega | (simp only [hset, hnew]; omega) | rfl | decide) | exact At.new_eq2 _ _ (by first | omega | (simp only [hset, hnew]; omega) | rfl | decide) | refine At.set_ne ?_ (by first | omega | (simp only [hset, hnew]; omega) | rfl | decide) | refine At.new_ne ?_)))) (call := s_isJar_ok (d := 1) (by decide) c2 hb q0) (k := ?_)
  rintro v0 h_ ⟨rfl, e0⟩
  rw [e0]
  refine tX12_seatsOf_10  (kt := fun c_ => by exfalso; exact absurd c_ (by decide)) (kf := fun _ => ?_)
  refine tX12_seatsOf_13  (r := ?_)
  refine tX12_seatsOf_14 (ha := (by first | assumption | (repeat (first | assumption | exact At.set_eq2 (by first | omega | (simp only [hset, hnew]; omega) | rfl | decide) | exact At.new_eq2 _ _ (by first | omega | (simp only [hset, hnew]; omega) | rfl | decide) | refine At.set_ne ?_ (by first | omega | (simp only [hset, hnew]; omega) | rfl | decide) | refine At.new_ne ?_)))) (hv := rfl) (r := ?_)
  refine tX12_seatsOf_17 (ha := (by first | assumption | (repeat (first | assumption | exact At.set_eq2 (by first | omega | (simp only [hset, hnew]; omega) | rfl | decide) | exact At.new_eq2 _ _ (by first | omega | (simp only [hset, hnew]; omega) | rfl | decide) | refine At.set_ne ?_ (by first | omega | (simp only [hset, hnew]; omega) | rfl | decide) | refine At.new_ne ?_)))) (hv := rfl) (r := ?_)
  refine tX12_seatsOf_20  (r := ?_)
  refine tX12_seatsOf_21 (ha := (by first | assumption | (repeat (first | assumption | exact At.set_eq2 (by first | omega | (simp only [hset, hnew]; omega) | rfl | decide) | exact At.new_eq2 _ _ (by first | omega | (simp only [hset, hnew]; omega) | rfl | decide) | refine At.set_ne ?_ (by first | omega | (simp only [hset, hnew]; omega) | rfl | decide) | refine At.new_ne ?_)))) (hx := rfl) (hj := (by omega)) (hn := (by decide)) (r := ?_)
  rw [cs _ q0]
  refine tX12_seatsOf_22 (r := ?_)
  refine tX12_seatsOf_30  (hP := ?_)
  exact MK.of c2 (ch2.sub (Nat.le_refl _) (Nat.le_refl _) (by decide) (by decide))

set_option maxHeartbeats 4000000 in
set_option maxRecDepth 100000 in
theorem k_leaderOf_ok (hd : 7 ≤ d) (c : ClR h 0 bk dr s) (hb : BDok s.2.2.1 s.2.2.2) (hh : 216 ≤ h.1) {j0 : Nat} (q0 : j0 < bLa s.2.2.1) : RQ G mX10_leaderOf d 0 [some (.ref 0), some (.int (nI j0))] [] h (CK h bk dr s "java/lang/IndexOutOfBoundsException" "" 0 (nI (rt (dF s.2.2.2) j0))) := by
  have c1 := c.poll
  have cb := c.book
  obtain ⟨jf, lj, fo, le, u0, u1, u2, u3, u4, u5, u6, u7, u8, u9⟩ := id c.2.2.2.2.1
  have l1 := hb.1
  have l2 := hb.2.1
  have l3 := hb.2.2.1
  refine tX10_leaderOf_0  (r := ?_)
  refine tX10_leaderOf_1  (r := ?_)
  refine tX10_leaderOf_2 (hd := (by omega)) (ha := (by first | assumption | (repeat (first | assumption | exact At.set_eq2 (by first | omega | (simp only [hset, hnew]; omega) | rfl | decide) | exact At.new_eq2 _ _ (by first | omega | (simp only [hset, hnew]; omega) | rfl | decide) | refine At.set_ne ?_ (by first | omega | (simp only [hset, hnew]; omega) | rfl | decide) | refine At.new_ne ?_)))) (call := s_checkLabel_ok (d := 6) (QX := fun _ _ => False) c hb q0) (kx := fun E_ h_ hx_ => by exact hx_.elim) (k := ?_)
  intro h_ e0
  rw [e0]
  refine tX10_leaderOf_5  (r := ?_)
  refine tX10_leaderOf_6 (ha := (by first | assumption | (repeat (first | assumption | exact At.set_eq2 (by first | omega | (simp only [hset, hnew]; omega) | rfl | decide) | exact At.new_eq2 _ _ (by first | omega | (simp only [hset, hnew]; omega) | rfl | decide) | refine At.set_ne ?_ (by first | omega | (simp only [hset, hnew]; omega) | rfl | decide) | refine At.new_ne ?_)))) (hv := rfl) (r := ?_)
  refine tX10_leaderOf_9 (ha := (by first | assumption | (repeat (first | assumption | exact At.set_eq2 (by first | omega | (simp only [hset, hnew]; omega) | rfl | decide) | exact At.new_eq2 _ _ (by first | omega | (simp only [hset, hnew]; omega) | rfl | decide) | refine At.set_ne ?_ (by first | omega | (simp only [hset, hnew]; omega) | rfl | decide) | refine At.new_ne ?_)))) (hv := rfl) (r := ?_)
  refine tX10_leaderOf_12  (r := ?_)
  refine tX10_leaderOf_13 (ha := (by first | assumption | (repeat (first | assumption | exact At.set_eq2 (by first | omega | (simp only [hset, hnew]; omega) | rfl | decide) | exact At.new_eq2 _ _ (by first | omega | (simp only [hset, hnew]; omega) | rfl | decide) | refine At.set_ne ?_ (by first | omega | (simp only [hset, hnew]; omega) | rfl | decide) | refine At.new_ne ?_)))) (hx := rfl) (hj := (by omega)) (hn := (by decide)) (r := ?_)
  rw [u8 _ (by omega)]
  refine tX10_leaderOf_14  (hP := ?_)
  exact ck_val c (Ch.rf _ _ _ _ _)

set_option maxHeartbeats 4000000 in
set_option maxRecDepth 100000 in
theorem m_leaderOf_ok (hd : 4 ≤ d) (m1 : MoR h 216 s) (t1 : ToR h 216 s.2.2.1) (hb : BDok s.2.2.1 s.2.2.2) {j0 : Nat} (q0 : j0 < bLa s.2.2.1) : RQ G mX12_leaderOf d 0 [some (.ref 216), some (.int (nI j0))] [] h (MK h s 0 (nI (rt (dF s.2.2.2) j0))) := by
  obtain ⟨th, c⟩ := MoT.ofR m1 t1
  refine b_leaderOf c (fun h2 c2 ch2 => ?_)
  obtain ⟨⟨tk, iw, er, et, dp, nm, am⟩, ⟨-, ⟨ft, at1, ct1⟩, -, -, -, -, -, -, -, ⟨ru, ac, no, a9, -⟩, -, -, ⟨fn, a48, n0, nb, nf, nl⟩, -, -, -, -⟩, ⟨⟨gs, as_, cs⟩, ⟨gw, aw, cw⟩, ⟨gl, al, cl⟩, ⟨g0, a0_, c0_⟩, ⟨g1, a1_, c1_⟩⟩⟩ := id c2
  have l1 := hb.1
  have l2 := hb.2.1
  have l3 := hb.2.2.1
  refine tX12_leaderOf_5  (r := ?_)
  refine tX12_leaderOf_6  (r := ?_)
  refine tX12_leaderOf_7 (hd := (by omega)) (ha := (by first | assumption | (repeat (first | assumption | exact At.set_eq2 (by first | omega | (simp only [hset, hnew]; omega) | rfl | decide) | exact At.new_eq2 _ _ (by first | omega | (simp only [hset, hnew]; omega) | rfl | decide) | refine At.set_ne ?_ (by first | omega | (simp only [hset, hnew]; omega) | rfl | decide) | refine At.new_ne ?_)))) (call := s_isLabel_ok (d := 1) (by decide) c2 hb q0) (k := ?_)
  rintro v0 h_ ⟨rfl, e0⟩
  rw [e0]
  refine tX12_leaderOf_10  (kt := fun c_ => by exfalso; exact absurd c_ (by decide)) (kf := fun _ => ?_)
  refine tX12_leaderOf_13  (r := ?_)
  refine tX12_leaderOf_14  (r := ?_)
  refine tX12_leaderOf_15 (hd := (by omega)) (ha := (by first | assumption | (repeat (first | assumption | exact At.set_eq2 (by first | omega | (simp only [hset, hnew]; omega) | rfl | decide) | exact At.new_eq2 _ _ (by first | omega | (simp only [hset, hnew]; omega) | rfl | decide) | refine At.set_ne ?_ (by first | omega | (simp only [hset, hnew]; omega) | rfl | decide) | refine At.new_ne ?_)))) (call := s_leader (d := 1) c2 hb q0) (k := ?_)
  rintro v h_ ⟨rfl, e9⟩
  rw [e9]
  refine tX12_leaderOf_18 (r := ?_)
  refine tX12_leaderOf_26  (hP := ?_)
  exact MK.of c2 (ch2.sub (Nat.le_refl _) (Nat.le_refl _) (by decide) (by decide))

set_option maxHeartbeats 4000000 in
set_option maxRecDepth 100000 in
theorem k_jarOfLid_ok (hd : 7 ≤ d) (c : ClR h 0 bk dr s) (hb : BDok s.2.2.1 s.2.2.2) (hh : 216 ≤ h.1) {j0 : Nat} (q0 : j0 < bLi s.2.2.1) : RQ G mX10_jarOfLid d 0 [some (.ref 0), some (.int (nI j0))] [] h (CK h bk dr s "java/lang/IndexOutOfBoundsException" "" 0 (nI (dL s.2.2.2 j0))) := by
  have c1 := c.poll
  have cb := c.book
  obtain ⟨jf, lj, fo, le, u0, u1, u2, u3, u4, u5, u6, u7, u8, u9⟩ := id c.2.2.2.2.1
  have l1 := hb.1
  have l2 := hb.2.1
  have l3 := hb.2.2.1
  refine tX10_jarOfLid_0  (r := ?_)
  refine tX10_jarOfLid_1  (r := ?_)
  refine tX10_jarOfLid_2 (hd := (by omega)) (ha := (by first | assumption | (repeat (first | assumption | exact At.set_eq2 (by first | omega | (simp only [hset, hnew]; omega) | rfl | decide) | exact At.new_eq2 _ _ (by first | omega | (simp only [hset, hnew]; omega) | rfl | decide) | refine At.set_ne ?_ (by first | omega | (simp only [hset, hnew]; omega) | rfl | decide) | refine At.new_ne ?_)))) (call := s_checkLid_ok (d := 6) (QX := fun _ _ => False) c hb q0) (kx := fun E_ h_ hx_ => by exact hx_.elim) (k := ?_)
  intro h_ e0
  rw [e0]
  refine tX10_jarOfLid_5  (r := ?_)
  refine tX10_jarOfLid_6 (ha := (by first | assumption | (repeat (first | assumption | exact At.set_eq2 (by first | omega | (simp only [hset, hnew]; omega) | rfl | decide) | exact At.new_eq2 _ _ (by first | omega | (simp only [hset, hnew]; omega) | rfl | decide) | refine At.set_ne ?_ (by first | omega | (simp only [hset, hnew]; omega) | rfl | decide) | refine At.new_ne ?_)))) (hv := rfl) (r := ?_)
  refine tX10_jarOfLid_9 (ha := (by first | assumption | (repeat (first | assumption | exact At.set_eq2 (by first | omega | (simp only [hset, hnew]; omega) | rfl | decide) | exact At.new_eq2 _ _ (by first | omega | (simp only [hset, hnew]; omega) | rfl | decide) | refine At.set_ne ?_ (by first | omega | (simp only [hset, hnew]; omega) | rfl | decide) | refine At.new_ne ?_)))) (hv := rfl) (r := ?_)
  refine tX10_jarOfLid_12  (r := ?_)
  refine tX10_jarOfLid_13 (ha := (by first | assumption | (repeat (first | assumption | exact At.set_eq2 (by first | omega | (simp only [hset, hnew]; omega) | rfl | decide) | exact At.new_eq2 _ _ (by first | omega | (simp only [hset, hnew]; omega) | rfl | decide) | refine At.set_ne ?_ (by first | omega | (simp only [hset, hnew]; omega) | rfl | decide) | refine At.new_ne ?_)))) (hx := rfl) (hj := (by omega)) (hn := (by decide)) (r := ?_)
  rw [u6 _ (by omega)]
  refine tX10_jarOfLid_14  (hP := ?_)
  exact ck_val c (Ch.rf _ _ _ _ _)

set_option maxHeartbeats 4000000 in
set_option maxRecDepth 100000 in
theorem m_jarOfLid_ok (hd : 4 ≤ d) (m1 : MoR h 216 s) (t1 : ToR h 216 s.2.2.1) (hb : BDok s.2.2.1 s.2.2.2) {j0 : Nat} (q0 : j0 < bLi s.2.2.1) : RQ G mX12_jarOfLid d 0 [some (.ref 216), some (.int (nI j0))] [] h (MK h s 0 (nI (dL s.2.2.2 j0))) := by
  obtain ⟨th, c⟩ := MoT.ofR m1 t1
  refine b_jarOfLid c (fun h2 c2 ch2 => ?_)
  obtain ⟨⟨tk, iw, er, et, dp, nm, am⟩, ⟨-, ⟨ft, at1, ct1⟩, -, -, -, -, -, -, -, ⟨ru, ac, no, a9, -⟩, -, -, ⟨fn, a48, n0, nb, nf, nl⟩, -, -, -, -⟩, ⟨⟨gs, as_, cs⟩, ⟨gw, aw, cw⟩, ⟨gl, al, cl⟩, ⟨g0, a0_, c0_⟩, ⟨g1, a1_, c1_⟩⟩⟩ := id c2
  have l1 := hb.1
  have l2 := hb.2.1
  have l3 := hb.2.2.1
  refine tX12_jarOfLid_5  (r := ?_)
  refine tX12_jarOfLid_6  (r := ?_)
  refine tX12_jarOfLid_7 (hd := (by omega)) (ha := (by first | assumption | (repeat (first | assumption | exact At.set_eq2 (by first | omega | (simp only [hset, hnew]; omega) | rfl | decide) | exact At.new_eq2 _ _ (by first | omega | (simp only [hset, hnew]; omega) | rfl | decide) | refine At.set_ne ?_ (by first | omega | (simp only [hset, hnew]; omega) | rfl | decide) | refine At.new_ne ?_)))) (call := s_isLid_ok (d := 1) (by decide) c2 hb q0) (k := ?_)
  rintro v0 h_ ⟨rfl, e0⟩
  rw [e0]
  refine tX12_jarOfLid_10  (kt := fun c_ => by exfalso; exact absurd c_ (by decide)) (kf := fun _ => ?_)
  refine tX12_jarOfLid_13  (r := ?_)
  refine tX12_jarOfLid_14 (ha := (by first | assumption | (repeat (first | assumption | exact At.set_eq2 (by first | omega | (simp only [hset, hnew]; omega) | rfl | decide) | exact At.new_eq2 _ _ (by first | omega | (simp only [hset, hnew]; omega) | rfl | decide) | refine At.set_ne ?_ (by first | omega | (simp only [hset, hnew]; omega) | rfl | decide) | refine At.new_ne ?_)))) (hv := rfl) (r := ?_)
  refine tX12_jarOfLid_17  (r := ?_)
  refine tX12_jarOfLid_19  (r := ?_)
  refine tX12_jarOfLid_20  (r := ?_)
  rw [nI_add]
  refine tX12_jarOfLid_21 (ha := (by first | assumption | (repeat (first | assumption | exact At.set_eq2 (by first | omega | (simp only [hset, hnew]; omega) | rfl | decide) | exact At.new_eq2 _ _ (by first | omega | (simp only [hset, hnew]; omega) | rfl | decide) | refine At.set_ne ?_ (by first | omega | (simp only [hset, hnew]; omega) | rfl | decide) | refine At.new_ne ?_)))) (hx := rfl) (hj := (by omega)) (hn := (by decide)) (r := ?_)
  rw [nl _ q0]
  refine tX12_jarOfLid_22 (r := ?_)
  refine tX12_jarOfLid_30  (hP := ?_)
  exact MK.of c2 (ch2.sub (Nat.le_refl _) (Nat.le_refl _) (by decide) (by decide))

set_option maxHeartbeats 4000000 in
set_option maxRecDepth 100000 in
theorem k_labelOfLid_ok (hd : 7 ≤ d) (c : ClR h 0 bk dr s) (hb : BDok s.2.2.1 s.2.2.2) (hh : 216 ≤ h.1) {j0 : Nat} (q0 : j0 < bLi s.2.2.1) : RQ G mX10_labelOfLid d 0 [some (.ref 0), some (.int (nI j0))] [] h (CK h bk dr s "java/lang/IndexOutOfBoundsException" "" 0 (nI (bLl s.2.2.1 j0))) := by
  have c1 := c.poll
  have cb := c.book
  obtain ⟨jf, lj, fo, le, u0, u1, u2, u3, u4, u5, u6, u7, u8, u9⟩ := id c.2.2.2.2.1
  have l1 := hb.1
  have l2 := hb.2.1
  have l3 := hb.2.2.1
  obtain ⟨-, -, -, -, ⟨y3, y4, y5⟩, -⟩ := id c.2.2.2.2.2.2.2.1
  refine tX10_labelOfLid_0  (r := ?_)
  refine tX10_labelOfLid_1  (r := ?_)
  refine tX10_labelOfLid_2 (hd := (by omega)) (ha := (by first | assumption | (repeat (first | assumption | exact At.set_eq2 (by first | omega | (simp only [hset, hnew]; omega) | rfl | decide) | exact At.new_eq2 _ _ (by first | omega | (simp only [hset, hnew]; omega) | rfl | decide) | refine At.set_ne ?_ (by first | omega | (simp only [hset, hnew]; omega) | rfl | decide) | refine At.new_ne ?_)))) (call := s_checkLid_ok (d := 6) (QX := fun _ _ => False) c hb q0) (kx := fun E_ h_ hx_ => by exact hx_.elim) (k := ?_)
  intro h_ e0
  rw [e0]
  refine tX10_labelOfLid_5  (r := ?_)
  refine tX10_labelOfLid_6 (ha := (by first | assumption | (repeat (first | assumption | exact At.set_eq2 (by first | omega | (simp only [hset, hnew]; omega) | rfl | decide) | exact At.new_eq2 _ _ (by first | omega | (simp only [hset, hnew]; omega) | rfl | decide) | refine At.set_ne ?_ (by first | omega | (simp only [hset, hnew]; omega) | rfl | decide) | refine At.new_ne ?_)))) (hv := rfl) (r := ?_)
  refine tX10_labelOfLid_9 (ha := (by first | assumption | (repeat (first | assumption | exact At.set_eq2 (by first | omega | (simp only [hset, hnew]; omega) | rfl | decide) | exact At.new_eq2 _ _ (by first | omega | (simp only [hset, hnew]; omega) | rfl | decide) | refine At.set_ne ?_ (by first | omega | (simp only [hset, hnew]; omega) | rfl | decide) | refine At.new_ne ?_)))) (hv := rfl) (r := ?_)
  refine tX10_labelOfLid_12  (r := ?_)
  refine tX10_labelOfLid_13 (ha := (by first | assumption | (repeat (first | assumption | exact At.set_eq2 (by first | omega | (simp only [hset, hnew]; omega) | rfl | decide) | exact At.new_eq2 _ _ (by first | omega | (simp only [hset, hnew]; omega) | rfl | decide) | refine At.set_ne ?_ (by first | omega | (simp only [hset, hnew]; omega) | rfl | decide) | refine At.new_ne ?_)))) (hx := rfl) (hj := (by omega)) (hn := (by decide)) (r := ?_)
  rw [y5 _ q0]
  refine tX10_labelOfLid_14  (hP := ?_)
  exact ck_val c (Ch.rf _ _ _ _ _)

set_option maxHeartbeats 4000000 in
set_option maxRecDepth 100000 in
theorem m_labelOfLid_ok (hd : 4 ≤ d) (m1 : MoR h 216 s) (t1 : ToR h 216 s.2.2.1) (hb : BDok s.2.2.1 s.2.2.2) {j0 : Nat} (q0 : j0 < bLi s.2.2.1) : RQ G mX12_labelOfLid d 0 [some (.ref 216), some (.int (nI j0))] [] h (MK h s 0 (nI (bLl s.2.2.1 j0))) := by
  obtain ⟨th, c⟩ := MoT.ofR m1 t1
  refine b_labelOfLid c (fun h2 c2 ch2 => ?_)
  obtain ⟨⟨tk, iw, er, et, dp, nm, am⟩, ⟨-, ⟨ft, at1, ct1⟩, -, -, -, -, -, -, -, ⟨ru, ac, no, a9, -⟩, -, -, ⟨fn, a48, n0, nb, nf, nl⟩, -, -, -, -⟩, ⟨⟨gs, as_, cs⟩, ⟨gw, aw, cw⟩, ⟨gl, al, cl⟩, ⟨g0, a0_, c0_⟩, ⟨g1, a1_, c1_⟩⟩⟩ := id c2
  have l1 := hb.1
  have l2 := hb.2.1
  have l3 := hb.2.2.1
  refine tX12_labelOfLid_5  (r := ?_)
  refine tX12_labelOfLid_6  (r := ?_)
  refine tX12_labelOfLid_7 (hd := (by omega)) (ha := (by first | assumption | (repeat (first | assumption | exact At.set_eq2 (by first | omega | (simp only [hset, hnew]; omega) | rfl | decide) | exact At.new_eq2 _ _ (by first | omega | (simp only [hset, hnew]; omega) | rfl | decide) | refine At.set_ne ?_ (by first | omega | (simp only [hset, hnew]; omega) | rfl | decide) | refine At.new_ne ?_)))) (call := s_isLid_ok (d := 1) (by decide) c2 hb q0) (k := ?_)
  rintro v0 h_ ⟨rfl, e0⟩
  rw [e0]
  refine tX12_labelOfLid_10  (kt := fun c_ => by exfalso; exact absurd c_ (by decide)) (kf := fun _ => ?_)
  refine tX12_labelOfLid_13  (r := ?_)
  refine tX12_labelOfLid_14 (ha := (by first | assumption | (repeat (first | assumption | exact At.set_eq2 (by first | omega | (simp only [hset, hnew]; omega) | rfl | decide) | exact At.new_eq2 _ _ (by first | omega | (simp only [hset, hnew]; omega) | rfl | decide) | refine At.set_ne ?_ (by first | omega | (simp only [hset, hnew]; omega) | rfl | decide) | refine At.new_ne ?_)))) (hv := rfl) (r := ?_)
  refine tX12_labelOfLid_17 (ha := (by first | assumption | (repeat (first | assumption | exact At.set_eq2 (by first | omega | (simp only [hset, hnew]; omega) | rfl | decide) | exact At.new_eq2 _ _ (by first | omega | (simp only [hset, hnew]; omega) | rfl | decide) | refine At.set_ne ?_ (by first | omega | (simp only [hset, hnew]; omega) | rfl | decide) | refine At.new_ne ?_)))) (hv := rfl) (r := ?_)
  refine tX12_labelOfLid_20  (r := ?_)
  refine tX12_labelOfLid_21 (ha := (by first | assumption | (repeat (first | assumption | exact At.set_eq2 (by first | omega | (simp only [hset, hnew]; omega) | rfl | decide) | exact At.new_eq2 _ _ (by first | omega | (simp only [hset, hnew]; omega) | rfl | decide) | refine At.set_ne ?_ (by first | omega | (simp only [hset, hnew]; omega) | rfl | decide) | refine At.new_ne ?_)))) (hx := rfl) (hj := (by omega)) (hn := (by decide)) (r := ?_)
  rw [cl _ q0]
  refine tX12_labelOfLid_22 (r := ?_)
  refine tX12_labelOfLid_30  (hP := ?_)
  exact MK.of c2 (ch2.sub (Nat.le_refl _) (Nat.le_refl _) (by decide) (by decide))

set_option maxHeartbeats 4000000 in
set_option maxRecDepth 100000 in
theorem k_labels (c : ClR h 0 bk dr s) (hb : BDok s.2.2.1 s.2.2.2) : RQ G mX10_labels d 0 [some (.ref 0)] [] h (fun o h1 => o = .inl (some (Value.int (nI (bLa s.2.2.1)))) ∧ ClR h1 0 bk dr s ∧ Ch h h1 0 216 0 0) := by
  have c1 := c.poll
  have cb := c.book
  obtain ⟨jf, lj, fo, le, u0, u1, u2, u3, u4, u5, u6, u7, u8, u9⟩ := id c.2.2.2.2.1
  have l1 := hb.1
  have l2 := hb.2.1
  have l3 := hb.2.2.1
  refine tX10_labels_0  (r := ?_)
  refine tX10_labels_1 (ha := (by first | assumption | (repeat (first | assumption | exact At.set_eq2 (by first | omega | (simp only [hset, hnew]; omega) | rfl | decide) | exact At.new_eq2 _ _ (by first | omega | (simp only [hset, hnew]; omega) | rfl | decide) | refine At.set_ne ?_ (by first | omega | (simp only [hset, hnew]; omega) | rfl | decide) | refine At.new_ne ?_)))) (hv := rfl) (r := ?_)
  refine tX10_labels_4 (ha := (by first | assumption | (repeat (first | assumption | exact At.set_eq2 (by first | omega | (simp only [hset, hnew]; omega) | rfl | decide) | exact At.new_eq2 _ _ (by first | omega | (simp only [hset, hnew]; omega) | rfl | decide) | refine At.set_ne ?_ (by first | omega | (simp only [hset, hnew]; omega) | rfl | decide) | refine At.new_ne ?_)))) (hv := rfl) (r := ?_)
  refine tX10_labels_7  (hP := ?_)
  exact ⟨rfl, c, Ch.rf _ _ _ _ _⟩

set_option maxHeartbeats 4000000 in
set_option maxRecDepth 100000 in
theorem m_labels (hd : 4 ≤ d) (m1 : MoR h 216 s) (t1 : ToR h 216 s.2.2.1) (hb : BDok s.2.2.1 s.2.2.2) : RQ G mX12_labels d 0 [some (.ref 216)] [] h (fun o h2 => o = .inl (some (Value.int (nI (bLa s.2.2.1)))) ∧ MoR h2 216 s ∧ ToR h2 216 s.2.2.1 ∧ Ch h h2 216 269 16 100) := by
  obtain ⟨th, c2⟩ := MoT.ofR m1 t1
  obtain ⟨⟨tk, iw, er, et, dp, nm, am⟩, ⟨-, ⟨ft, at1, ct1⟩, -, -, -, -, -, -, -, ⟨ru, ac, no, a9, -⟩, -, -, ⟨fn, a48, n0, nb, nf, nl⟩, -, -, -, -⟩, ⟨⟨gs, as_, cs⟩, ⟨gw, aw, cw⟩, ⟨gl, al, cl⟩, ⟨g0, a0_, c0_⟩, ⟨g1, a1_, c1_⟩⟩⟩ := id c2
  have l1 := hb.1
  have l2 := hb.2.1
  have l3 := hb.2.2.1
  refine tX12_labels_0  (r := ?_)
  refine tX12_labels_1  (r := ?_)
  refine tX12_labels_2 (ha := (by first | assumption | (repeat (first | assumption | exact At.set_eq2 (by first | omega | (simp only [hset, hnew]; omega) | rfl | decide) | exact At.new_eq2 _ _ (by first | omega | (simp only [hset, hnew]; omega) | rfl | decide) | refine At.set_ne ?_ (by first | omega | (simp only [hset, hnew]; omega) | rfl | decide) | refine At.new_ne ?_)))) (hv := rfl) (r := ?_)
  refine tX12_labels_5 (ha := (by first | assumption | (repeat (first | assumption | exact At.set_eq2 (by first | omega | (simp only [hset, hnew]; omega) | rfl | decide) | exact At.new_eq2 _ _ (by first | omega | (simp only [hset, hnew]; omega) | rfl | decide) | refine At.set_ne ?_ (by first | omega | (simp only [hset, hnew]; omega) | rfl | decide) | refine At.new_ne ?_)))) (hv := rfl) (r := ?_)
  refine tX12_labels_8 (hd := (by omega)) (ha := (by first | assumption | (repeat (first | assumption | exact At.set_eq2 (by first | omega | (simp only [hset, hnew]; omega) | rfl | decide) | exact At.new_eq2 _ _ (by first | omega | (simp only [hset, hnew]; omega) | rfl | decide) | refine At.set_ne ?_ (by first | omega | (simp only [hset, hnew]; omega) | rfl | decide) | refine At.new_ne ?_)))) (call := s_ok (d := 0) c2) (k := ?_)
  rintro v h3 ⟨rfl, c3, ch3⟩
  refine tX12_labels_11  (hP := ?_)
  exact ⟨rfl, c3.2.1, c3.2.2, ch3.sub (Nat.le_refl _) (Nat.le_refl _) (by decide) (by decide)⟩

set_option maxHeartbeats 4000000 in
set_option maxRecDepth 100000 in
theorem k_jars (c : ClR h 0 bk dr s) (hb : BDok s.2.2.1 s.2.2.2) : RQ G mX10_jars d 0 [some (.ref 0)] [] h (fun o h1 => o = .inl (some (Value.int (nI (bJa s.2.2.1)))) ∧ ClR h1 0 bk dr s ∧ Ch h h1 0 216 0 0) := by
  have c1 := c.poll
  have cb := c.book
  obtain ⟨jf, lj, fo, le, u0, u1, u2, u3, u4, u5, u6, u7, u8, u9⟩ := id c.2.2.2.2.1
  have l1 := hb.1
  have l2 := hb.2.1
  have l3 := hb.2.2.1
  refine tX10_jars_0  (r := ?_)
  refine tX10_jars_1 (ha := (by first | assumption | (repeat (first | assumption | exact At.set_eq2 (by first | omega | (simp only [hset, hnew]; omega) | rfl | decide) | exact At.new_eq2 _ _ (by first | omega | (simp only [hset, hnew]; omega) | rfl | decide) | refine At.set_ne ?_ (by first | omega | (simp only [hset, hnew]; omega) | rfl | decide) | refine At.new_ne ?_)))) (hv := rfl) (r := ?_)
  refine tX10_jars_4 (ha := (by first | assumption | (repeat (first | assumption | exact At.set_eq2 (by first | omega | (simp only [hset, hnew]; omega) | rfl | decide) | exact At.new_eq2 _ _ (by first | omega | (simp only [hset, hnew]; omega) | rfl | decide) | refine At.set_ne ?_ (by first | omega | (simp only [hset, hnew]; omega) | rfl | decide) | refine At.new_ne ?_)))) (hv := rfl) (r := ?_)
  refine tX10_jars_7  (hP := ?_)
  exact ⟨rfl, c, Ch.rf _ _ _ _ _⟩

set_option maxHeartbeats 4000000 in
set_option maxRecDepth 100000 in
theorem m_jars (hd : 4 ≤ d) (m1 : MoR h 216 s) (t1 : ToR h 216 s.2.2.1) (hb : BDok s.2.2.1 s.2.2.2) : RQ G mX12_jars d 0 [some (.ref 216)] [] h (fun o h2 => o = .inl (some (Value.int (nI (bJa s.2.2.1)))) ∧ MoR h2 216 s ∧ ToR h2 216 s.2.2.1 ∧ Ch h h2 216 269 16 100) := by
  obtain ⟨th, c2⟩ := MoT.ofR m1 t1
  obtain ⟨⟨tk, iw, er, et, dp, nm, am⟩, ⟨-, ⟨ft, at1, ct1⟩, -, -, -, -, -, -, -, ⟨ru, ac, no, a9, -⟩, -, -, ⟨fn, a48, n0, nb, nf, nl⟩, -, -, -, -⟩, ⟨⟨gs, as_, cs⟩, ⟨gw, aw, cw⟩, ⟨gl, al, cl⟩, ⟨g0, a0_, c0_⟩, ⟨g1, a1_, c1_⟩⟩⟩ := id c2
  have l1 := hb.1
  have l2 := hb.2.1
  have l3 := hb.2.2.1
  refine tX12_jars_0  (r := ?_)
  refine tX12_jars_1  (r := ?_)
  refine tX12_jars_2 (ha := (by first | assumption | (repeat (first | assumption | exact At.set_eq2 (by first | omega | (simp only [hset, hnew]; omega) | rfl | decide) | exact At.new_eq2 _ _ (by first | omega | (simp only [hset, hnew]; omega) | rfl | decide) | refine At.set_ne ?_ (by first | omega | (simp only [hset, hnew]; omega) | rfl | decide) | refine At.new_ne ?_)))) (hv := rfl) (r := ?_)
  refine tX12_jars_5 (ha := (by first | assumption | (repeat (first | assumption | exact At.set_eq2 (by first | omega | (simp only [hset, hnew]; omega) | rfl | decide) | exact At.new_eq2 _ _ (by first | omega | (simp only [hset, hnew]; omega) | rfl | decide) | refine At.set_ne ?_ (by first | omega | (simp only [hset, hnew]; omega) | rfl | decide) | refine At.new_ne ?_)))) (hv := rfl) (r := ?_)
  refine tX12_jars_8 (hd := (by omega)) (ha := (by first | assumption | (repeat (first | assumption | exact At.set_eq2 (by first | omega | (simp only [hset, hnew]; omega) | rfl | decide) | exact At.new_eq2 _ _ (by first | omega | (simp only [hset, hnew]; omega) | rfl | decide) | refine At.set_ne ?_ (by first | omega | (simp only [hset, hnew]; omega) | rfl | decide) | refine At.new_ne ?_)))) (call := s_ok (d := 0) c2) (k := ?_)
  rintro v h3 ⟨rfl, c3, ch3⟩
  refine tX12_jars_11  (hP := ?_)
  exact ⟨rfl, c3.2.1, c3.2.2, ch3.sub (Nat.le_refl _) (Nat.le_refl _) (by decide) (by decide)⟩

set_option maxHeartbeats 4000000 in
set_option maxRecDepth 100000 in
theorem k_lids (c : ClR h 0 bk dr s) (hb : BDok s.2.2.1 s.2.2.2) : RQ G mX10_lids d 0 [some (.ref 0)] [] h (fun o h1 => o = .inl (some (Value.int (nI (bLi s.2.2.1)))) ∧ ClR h1 0 bk dr s ∧ Ch h h1 0 216 0 0) := by
  have c1 := c.poll
  have cb := c.book
  obtain ⟨jf, lj, fo, le, u0, u1, u2, u3, u4, u5, u6, u7, u8, u9⟩ := id c.2.2.2.2.1
  have l1 := hb.1
  have l2 := hb.2.1
  have l3 := hb.2.2.1
  refine tX10_lids_0  (r := ?_)
  refine tX10_lids_1 (ha := (by first | assumption | (repeat (first | assumption | exact At.set_eq2 (by first | omega | (simp only [hset, hnew]; omega) | rfl | decide) | exact At.new_eq2 _ _ (by first | omega | (simp only [hset, hnew]; omega) | rfl | decide) | refine At.set_ne ?_ (by first | omega | (simp only [hset, hnew]; omega) | rfl | decide) | refine At.new_ne ?_)))) (hv := rfl) (r := ?_)
  refine tX10_lids_4 (ha := (by first | assumption | (repeat (first | assumption | exact At.set_eq2 (by first | omega | (simp only [hset, hnew]; omega) | rfl | decide) | exact At.new_eq2 _ _ (by first | omega | (simp only [hset, hnew]; omega) | rfl | decide) | refine At.set_ne ?_ (by first | omega | (simp only [hset, hnew]; omega) | rfl | decide) | refine At.new_ne ?_)))) (hv := rfl) (r := ?_)
  refine tX10_lids_7  (hP := ?_)
  exact ⟨rfl, c, Ch.rf _ _ _ _ _⟩

set_option maxHeartbeats 4000000 in
set_option maxRecDepth 100000 in
theorem m_lids (hd : 4 ≤ d) (m1 : MoR h 216 s) (t1 : ToR h 216 s.2.2.1) (hb : BDok s.2.2.1 s.2.2.2) : RQ G mX12_lids d 0 [some (.ref 216)] [] h (fun o h2 => o = .inl (some (Value.int (nI (bLi s.2.2.1)))) ∧ MoR h2 216 s ∧ ToR h2 216 s.2.2.1 ∧ Ch h h2 216 269 16 100) := by
  obtain ⟨th, c2⟩ := MoT.ofR m1 t1
  obtain ⟨⟨tk, iw, er, et, dp, nm, am⟩, ⟨-, ⟨ft, at1, ct1⟩, -, -, -, -, -, -, -, ⟨ru, ac, no, a9, -⟩, -, -, ⟨fn, a48, n0, nb, nf, nl⟩, -, -, -, -⟩, ⟨⟨gs, as_, cs⟩, ⟨gw, aw, cw⟩, ⟨gl, al, cl⟩, ⟨g0, a0_, c0_⟩, ⟨g1, a1_, c1_⟩⟩⟩ := id c2
  have l1 := hb.1
  have l2 := hb.2.1
  have l3 := hb.2.2.1
  refine tX12_lids_0  (r := ?_)
  refine tX12_lids_1  (r := ?_)
  refine tX12_lids_2 (ha := (by first | assumption | (repeat (first | assumption | exact At.set_eq2 (by first | omega | (simp only [hset, hnew]; omega) | rfl | decide) | exact At.new_eq2 _ _ (by first | omega | (simp only [hset, hnew]; omega) | rfl | decide) | refine At.set_ne ?_ (by first | omega | (simp only [hset, hnew]; omega) | rfl | decide) | refine At.new_ne ?_)))) (hv := rfl) (r := ?_)
  refine tX12_lids_5 (ha := (by first | assumption | (repeat (first | assumption | exact At.set_eq2 (by first | omega | (simp only [hset, hnew]; omega) | rfl | decide) | exact At.new_eq2 _ _ (by first | omega | (simp only [hset, hnew]; omega) | rfl | decide) | refine At.set_ne ?_ (by first | omega | (simp only [hset, hnew]; omega) | rfl | decide) | refine At.new_ne ?_)))) (hv := rfl) (r := ?_)
  refine tX12_lids_8 (hd := (by omega)) (ha := (by first | assumption | (repeat (first | assumption | exact At.set_eq2 (by first | omega | (simp only [hset, hnew]; omega) | rfl | decide) | exact At.new_eq2 _ _ (by first | omega | (simp only [hset, hnew]; omega) | rfl | decide) | refine At.set_ne ?_ (by first | omega | (simp only [hset, hnew]; omega) | rfl | decide) | refine At.new_ne ?_)))) (call := s_ok (d := 0) c2) (k := ?_)
  rintro v h3 ⟨rfl, c3, ch3⟩
  refine tX12_lids_11  (hP := ?_)
  exact ⟨rfl, c3.2.1, c3.2.2, ch3.sub (Nat.le_refl _) (Nat.le_refl _) (by decide) (by decide)⟩

set_option maxHeartbeats 4000000 in
set_option maxRecDepth 100000 in
theorem k_errorAt (c : ClR h 0 bk dr s) (hb : BDok s.2.2.1 s.2.2.2) : RQ G mX10_errorAt d 0 [some (.ref 0)] [] h (fun o h1 => o = .inl (some (Value.int (s.2.1))) ∧ ClR h1 0 bk dr s ∧ Ch h h1 0 216 0 0) := by
  have c1 := c.poll
  have cb := c.book
  obtain ⟨jf, lj, fo, le, u0, u1, u2, u3, u4, u5, u6, u7, u8, u9⟩ := id c.2.2.2.2.1
  have l1 := hb.1
  have l2 := hb.2.1
  have l3 := hb.2.2.1
  refine tX10_errorAt_0  (r := ?_)
  refine tX10_errorAt_1 (ha := (by first | assumption | (repeat (first | assumption | exact At.set_eq2 (by first | omega | (simp only [hset, hnew]; omega) | rfl | decide) | exact At.new_eq2 _ _ (by first | omega | (simp only [hset, hnew]; omega) | rfl | decide) | refine At.set_ne ?_ (by first | omega | (simp only [hset, hnew]; omega) | rfl | decide) | refine At.new_ne ?_)))) (hv := rfl) (r := ?_)
  refine tX10_errorAt_4  (hP := ?_)
  exact ⟨rfl, c, Ch.rf _ _ _ _ _⟩

set_option maxHeartbeats 4000000 in
set_option maxRecDepth 100000 in
theorem m_errorAt (hd : 4 ≤ d) (m1 : MoR h 216 s) (t1 : ToR h 216 s.2.2.1) (hb : BDok s.2.2.1 s.2.2.2) : RQ G mX12_errorAt d 0 [some (.ref 216)] [] h (fun o h2 => o = .inl (some (Value.int (s.2.1))) ∧ MoR h2 216 s ∧ ToR h2 216 s.2.2.1 ∧ Ch h h2 216 269 16 100) := by
  obtain ⟨th, c2⟩ := MoT.ofR m1 t1
  obtain ⟨⟨tk, iw, er, et, dp, nm, am⟩, ⟨-, ⟨ft, at1, ct1⟩, -, -, -, -, -, -, -, ⟨ru, ac, no, a9, -⟩, -, -, ⟨fn, a48, n0, nb, nf, nl⟩, -, -, -, -⟩, ⟨⟨gs, as_, cs⟩, ⟨gw, aw, cw⟩, ⟨gl, al, cl⟩, ⟨g0, a0_, c0_⟩, ⟨g1, a1_, c1_⟩⟩⟩ := id c2
  have l1 := hb.1
  have l2 := hb.2.1
  have l3 := hb.2.2.1
  refine tX12_errorAt_0  (r := ?_)
  refine tX12_errorAt_1  (r := ?_)
  refine tX12_errorAt_2 (ha := (by first | assumption | (repeat (first | assumption | exact At.set_eq2 (by first | omega | (simp only [hset, hnew]; omega) | rfl | decide) | exact At.new_eq2 _ _ (by first | omega | (simp only [hset, hnew]; omega) | rfl | decide) | refine At.set_ne ?_ (by first | omega | (simp only [hset, hnew]; omega) | rfl | decide) | refine At.new_ne ?_)))) (hv := rfl) (r := ?_)
  refine tX12_errorAt_5 (hd := (by omega)) (ha := (by first | assumption | (repeat (first | assumption | exact At.set_eq2 (by first | omega | (simp only [hset, hnew]; omega) | rfl | decide) | exact At.new_eq2 _ _ (by first | omega | (simp only [hset, hnew]; omega) | rfl | decide) | refine At.set_ne ?_ (by first | omega | (simp only [hset, hnew]; omega) | rfl | decide) | refine At.new_ne ?_)))) (call := s_ok (d := 0) c2) (k := ?_)
  rintro v h3 ⟨rfl, c3, ch3⟩
  refine tX12_errorAt_8  (hP := ?_)
  exact ⟨rfl, c3.2.1, c3.2.2, ch3.sub (Nat.le_refl _) (Nat.le_refl _) (by decide) (by decide)⟩

set_option maxHeartbeats 4000000 in
set_option maxRecDepth 100000 in
theorem k_days (c : ClR h 0 bk dr s) (hb : BDok s.2.2.1 s.2.2.2) : RQ G mX10_days d 0 [some (.ref 0)] [] h (fun o h1 => o = .inl (some (Value.int (dDay s.2.2.2))) ∧ ClR h1 0 bk dr s ∧ Ch h h1 0 216 0 0) := by
  have c1 := c.poll
  have cb := c.book
  obtain ⟨jf, lj, fo, le, u0, u1, u2, u3, u4, u5, u6, u7, u8, u9⟩ := id c.2.2.2.2.1
  have l1 := hb.1
  have l2 := hb.2.1
  have l3 := hb.2.2.1
  refine tX10_days_0  (r := ?_)
  refine tX10_days_1 (ha := (by first | assumption | (repeat (first | assumption | exact At.set_eq2 (by first | omega | (simp only [hset, hnew]; omega) | rfl | decide) | exact At.new_eq2 _ _ (by first | omega | (simp only [hset, hnew]; omega) | rfl | decide) | refine At.set_ne ?_ (by first | omega | (simp only [hset, hnew]; omega) | rfl | decide) | refine At.new_ne ?_)))) (hv := rfl) (r := ?_)
  refine tX10_days_4 (ha := (by first | assumption | (repeat (first | assumption | exact At.set_eq2 (by first | omega | (simp only [hset, hnew]; omega) | rfl | decide) | exact At.new_eq2 _ _ (by first | omega | (simp only [hset, hnew]; omega) | rfl | decide) | refine At.set_ne ?_ (by first | omega | (simp only [hset, hnew]; omega) | rfl | decide) | refine At.new_ne ?_)))) (hv := rfl) (r := ?_)
  refine tX10_days_7  (hP := ?_)
  exact ⟨rfl, c, Ch.rf _ _ _ _ _⟩

set_option maxHeartbeats 4000000 in
set_option maxRecDepth 100000 in
theorem m_days (hd : 4 ≤ d) (m1 : MoR h 216 s) (t1 : ToR h 216 s.2.2.1) (hb : BDok s.2.2.1 s.2.2.2) : RQ G mX12_days d 0 [some (.ref 216)] [] h (fun o h2 => o = .inl (some (Value.int (dDay s.2.2.2))) ∧ MoR h2 216 s ∧ ToR h2 216 s.2.2.1 ∧ Ch h h2 216 269 16 100) := by
  obtain ⟨th, c2⟩ := MoT.ofR m1 t1
  obtain ⟨⟨tk, iw, er, et, dp, nm, am⟩, ⟨-, ⟨ft, at1, ct1⟩, -, -, -, -, -, -, -, ⟨ru, ac, no, a9, -⟩, -, -, ⟨fn, a48, n0, nb, nf, nl⟩, -, -, -, -⟩, ⟨⟨gs, as_, cs⟩, ⟨gw, aw, cw⟩, ⟨gl, al, cl⟩, ⟨g0, a0_, c0_⟩, ⟨g1, a1_, c1_⟩⟩⟩ := id c2
  have l1 := hb.1
  have l2 := hb.2.1
  have l3 := hb.2.2.1
  refine tX12_days_0  (r := ?_)
  refine tX12_days_1  (r := ?_)
  refine tX12_days_2 (ha := (by first | assumption | (repeat (first | assumption | exact At.set_eq2 (by first | omega | (simp only [hset, hnew]; omega) | rfl | decide) | exact At.new_eq2 _ _ (by first | omega | (simp only [hset, hnew]; omega) | rfl | decide) | refine At.set_ne ?_ (by first | omega | (simp only [hset, hnew]; omega) | rfl | decide) | refine At.new_ne ?_)))) (hv := rfl) (r := ?_)
  refine tX12_days_5  (r := ?_)
  refine tX12_days_6 (ha := (by first | assumption | (repeat (first | assumption | exact At.set_eq2 (by first | omega | (simp only [hset, hnew]; omega) | rfl | decide) | exact At.new_eq2 _ _ (by first | omega | (simp only [hset, hnew]; omega) | rfl | decide) | refine At.set_ne ?_ (by first | omega | (simp only [hset, hnew]; omega) | rfl | decide) | refine At.new_ne ?_)))) (hx := (show nI 0 = nI 0 from rfl)) (hj := (by decide)) (hn := (by decide)) (r := ?_)
  rw [n0]
  refine tX12_days_7 (hd := (by omega)) (ha := (by first | assumption | (repeat (first | assumption | exact At.set_eq2 (by first | omega | (simp only [hset, hnew]; omega) | rfl | decide) | exact At.new_eq2 _ _ (by first | omega | (simp only [hset, hnew]; omega) | rfl | decide) | refine At.set_ne ?_ (by first | omega | (simp only [hset, hnew]; omega) | rfl | decide) | refine At.new_ne ?_)))) (call := s_ok (d := 0) c2) (k := ?_)
  rintro v h3 ⟨rfl, c3, ch3⟩
  refine tX12_days_10  (hP := ?_)
  exact ⟨rfl, c3.2.1, c3.2.2, ch3.sub (Nat.le_refl _) (Nat.le_refl _) (by decide) (by decide)⟩

end SI
theorem O_beansIn {G : GT} {h : AH} {s : ST} {bk dr : Nat} {a0 a1 : Int32} (j : Jd h s bk dr) : OpC G mX10_beansIn mX12_beansIn 2046 2047 [some (.ref 0), some (.int a0), some (.int a1)] [some (.ref 216), some (.int a0), some (.int a1)] "java/lang/IndexOutOfBoundsException" "" (fun _ => True) h s := by
  have hb := j.1
  have hh := j.room
  have l1 := hb.1
  have l2 := hb.2.1
  have l3 := hb.2.2.1
  rcases ix_cases a0 (n := bJa s.2.2.1) (by omega) with ⟨j0, q0, rfl⟩ | bad
  rotate_left
  · exact ⟨1, nI 0, s, bk, dr, hb, trivial, k_beansIn_no1 (by decide) j.2.1 hb hh bad, fun h1 m1 t1 => m_beansIn_no1 (by decide) m1 t1 hb bad⟩
  rcases ix_cases a1 (n := bLa s.2.2.1) (by omega) with ⟨j1, q1, rfl⟩ | bad
  rotate_left
  · exact ⟨1, nI 0, s, bk, dr, hb, trivial, k_beansIn_no2 (by decide) j.2.1 hb hh q0 bad, fun h1 m1 t1 => m_beansIn_no2 (by decide) m1 t1 hb q0 bad⟩
  exact ⟨0, _, s, bk, dr, hb, trivial, k_beansIn_ok (by decide) j.2.1 hb hh q0 q1 , fun h1 m1 t1 => m_beansIn_ok (by decide) m1 t1 hb q0 q1 ⟩

theorem O_seatsOf {G : GT} {h : AH} {s : ST} {bk dr : Nat} {a0 : Int32} (j : Jd h s bk dr) : OpC G mX10_seatsOf mX12_seatsOf 2046 2047 [some (.ref 0), some (.int a0)] [some (.ref 216), some (.int a0)] "java/lang/IndexOutOfBoundsException" "" (fun _ => True) h s := by
  have hb := j.1
  have hh := j.room
  have l1 := hb.1
  have l2 := hb.2.1
  have l3 := hb.2.2.1
  rcases ix_cases a0 (n := bJa s.2.2.1) (by omega) with ⟨j0, q0, rfl⟩ | bad
  rotate_left
  · exact ⟨1, nI 0, s, bk, dr, hb, trivial, k_seatsOf_no1 (by decide) j.2.1 hb hh bad, fun h1 m1 t1 => m_seatsOf_no1 (by decide) m1 t1 hb bad⟩
  exact ⟨0, _, s, bk, dr, hb, trivial, k_seatsOf_ok (by decide) j.2.1 hb hh q0 , fun h1 m1 t1 => m_seatsOf_ok (by decide) m1 t1 hb q0 ⟩

theorem O_leaderOf {G : GT} {h : AH} {s : ST} {bk dr : Nat} {a0 : Int32} (j : Jd h s bk dr) : OpC G mX10_leaderOf mX12_leaderOf 2046 2047 [some (.ref 0), some (.int a0)] [some (.ref 216), some (.int a0)] "java/lang/IndexOutOfBoundsException" "" (fun _ => True) h s := by
  have hb := j.1
  have hh := j.room
  have l1 := hb.1
  have l2 := hb.2.1
  have l3 := hb.2.2.1
  rcases ix_cases a0 (n := bLa s.2.2.1) (by omega) with ⟨j0, q0, rfl⟩ | bad
  rotate_left
  · exact ⟨1, nI 0, s, bk, dr, hb, trivial, k_leaderOf_no1 (by decide) j.2.1 hb hh bad, fun h1 m1 t1 => m_leaderOf_no1 (by decide) m1 t1 hb bad⟩
  exact ⟨0, _, s, bk, dr, hb, trivial, k_leaderOf_ok (by decide) j.2.1 hb hh q0 , fun h1 m1 t1 => m_leaderOf_ok (by decide) m1 t1 hb q0 ⟩

theorem O_jarOfLid {G : GT} {h : AH} {s : ST} {bk dr : Nat} {a0 : Int32} (j : Jd h s bk dr) : OpC G mX10_jarOfLid mX12_jarOfLid 2046 2047 [some (.ref 0), some (.int a0)] [some (.ref 216), some (.int a0)] "java/lang/IndexOutOfBoundsException" "" (fun _ => True) h s := by
  have hb := j.1
  have hh := j.room
  have l1 := hb.1
  have l2 := hb.2.1
  have l3 := hb.2.2.1
  rcases ix_cases a0 (n := bLi s.2.2.1) (by omega) with ⟨j0, q0, rfl⟩ | bad
  rotate_left
  · exact ⟨1, nI 0, s, bk, dr, hb, trivial, k_jarOfLid_no1 (by decide) j.2.1 hb hh bad, fun h1 m1 t1 => m_jarOfLid_no1 (by decide) m1 t1 hb bad⟩
  exact ⟨0, _, s, bk, dr, hb, trivial, k_jarOfLid_ok (by decide) j.2.1 hb hh q0 , fun h1 m1 t1 => m_jarOfLid_ok (by decide) m1 t1 hb q0 ⟩

theorem O_labelOfLid {G : GT} {h : AH} {s : ST} {bk dr : Nat} {a0 : Int32} (j : Jd h s bk dr) : OpC G mX10_labelOfLid mX12_labelOfLid 2046 2047 [some (.ref 0), some (.int a0)] [some (.ref 216), some (.int a0)] "java/lang/IndexOutOfBoundsException" "" (fun _ => True) h s := by
  have hb := j.1
  have hh := j.room
  have l1 := hb.1
  have l2 := hb.2.1
  have l3 := hb.2.2.1
  rcases ix_cases a0 (n := bLi s.2.2.1) (by omega) with ⟨j0, q0, rfl⟩ | bad
  rotate_left
  · exact ⟨1, nI 0, s, bk, dr, hb, trivial, k_labelOfLid_no1 (by decide) j.2.1 hb hh bad, fun h1 m1 t1 => m_labelOfLid_no1 (by decide) m1 t1 hb bad⟩
  exact ⟨0, _, s, bk, dr, hb, trivial, k_labelOfLid_ok (by decide) j.2.1 hb hh q0 , fun h1 m1 t1 => m_labelOfLid_ok (by decide) m1 t1 hb q0 ⟩

theorem D_labels {G : GT} {h : AH} {s : ST} {bk dr : Nat} (j : Jd h s bk dr) : OpD Value.int G mX10_labels mX12_labels 2047 [some (.ref 0)] [some (.ref 216)] h s := ⟨_, s, bk, dr, j.1, k_labels j.2.1 j.1, fun h1 m1 t1 => m_labels (by decide) m1 t1 j.1⟩
theorem D_jars {G : GT} {h : AH} {s : ST} {bk dr : Nat} (j : Jd h s bk dr) : OpD Value.int G mX10_jars mX12_jars 2047 [some (.ref 0)] [some (.ref 216)] h s := ⟨_, s, bk, dr, j.1, k_jars j.2.1 j.1, fun h1 m1 t1 => m_jars (by decide) m1 t1 j.1⟩
theorem D_lids {G : GT} {h : AH} {s : ST} {bk dr : Nat} (j : Jd h s bk dr) : OpD Value.int G mX10_lids mX12_lids 2047 [some (.ref 0)] [some (.ref 216)] h s := ⟨_, s, bk, dr, j.1, k_lids j.2.1 j.1, fun h1 m1 t1 => m_lids (by decide) m1 t1 j.1⟩
theorem D_errorAt {G : GT} {h : AH} {s : ST} {bk dr : Nat} (j : Jd h s bk dr) : OpD Value.int G mX10_errorAt mX12_errorAt 2047 [some (.ref 0)] [some (.ref 216)] h s := ⟨_, s, bk, dr, j.1, k_errorAt j.2.1 j.1, fun h1 m1 t1 => m_errorAt (by decide) m1 t1 j.1⟩
theorem D_days {G : GT} {h : AH} {s : ST} {bk dr : Nat} (j : Jd h s bk dr) : OpD Value.int G mX10_days mX12_days 2047 [some (.ref 0)] [some (.ref 216)] h s := ⟨_, s, bk, dr, j.1, k_days j.2.1 j.1, fun h1 m1 t1 => m_days (by decide) m1 t1 j.1⟩
