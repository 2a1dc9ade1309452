/-! seatsWon -/
section RQZ
variable {G : GT} {d : Nat} {h : AH} {bk dr : Nat} {s : ST}

set_option maxHeartbeats 4000000 in
set_option maxRecDepth 100000 in
theorem s_seatsWonBy (hd : 5 ≤ d) {th : Int32} (c2 : MoT h 216 th s) (hb : BDok s.2.2.1 s.2.2.2) {j0 j1 : Nat} (q0 : j0 < bJa s.2.2.1) (q1 : j1 < bLa s.2.2.1) : RQ G mX12_seatsWonBy d 0 [some (.ref 216), some (.int (nI j0)), some (.int (nI j1))] [] h (Ri fun v h1 => v = nI (wo (po (rt (dF s.2.2.2)) (dB s.2.2.2 j0)) (su (dB s.2.2.2 j0) 6) (bSe s.2.2.1 j0) (bWy s.2.2.1 j0) (rt (dF s.2.2.2) j1)) ∧ MoT h1 216 th s ∧ Sm h h1 (216 + 50) (216 + 52)) := by
  have l1 := hb.1
  have r6 := rt_lt6 hb j1 (by omega)
  obtain ⟨⟨tk, iw, er, et, dp, nm, am⟩, -⟩ := id c2
  refine tX12_seatsWonBy_0  (r := ?_)
  refine tX12_seatsWonBy_1  (r := ?_)
  refine tX12_seatsWonBy_2 (hd := (by omega)) (ha := (by first | assumption | (repeat (first | assumption | exact At.set_eq2 (by first | omega | (simp only [hset, hnew]; omega) | rfl | decide) | exact At.new_eq2 _ _ (by first | omega | (simp only [hset, hnew]; omega) | rfl | decide) | refine At.set_ne ?_ (by first | omega | (simp only [hset, hnew]; omega) | rfl | decide) | refine At.new_ne ?_)))) (call := s_refcount (d := 4) (by decide) c2 hb q0) (k := ?_)
  rintro v h1 ⟨rfl, c3, ⟨g, aw, hg⟩, sm⟩
  obtain ⟨⟨tk3, iw3, er3, et3, dp3, nm3, am3⟩, -⟩ := id c3
  refine tX12_seatsWonBy_5  (r := ?_)
  refine tX12_seatsWonBy_6  (r := ?_)
  refine tX12_seatsWonBy_7 (ha := (by first | assumption | (repeat (first | assumption | exact At.set_eq2 (by first | omega | (simp only [hset, hnew]; omega) | rfl | decide) | exact At.new_eq2 _ _ (by first | omega | (simp only [hset, hnew]; omega) | rfl | decide) | refine At.set_ne ?_ (by first | omega | (simp only [hset, hnew]; omega) | rfl | decide) | refine At.new_ne ?_)))) (hv := rfl) (r := ?_)
  refine tX12_seatsWonBy_10  (r := ?_)
  refine tX12_seatsWonBy_11  (r := ?_)
  refine tX12_seatsWonBy_12 (hd := (by omega)) (ha := (by first | assumption | (repeat (first | assumption | exact At.set_eq2 (by first | omega | (simp only [hset, hnew]; omega) | rfl | decide) | exact At.new_eq2 _ _ (by first | omega | (simp only [hset, hnew]; omega) | rfl | decide) | refine At.set_ne ?_ (by first | omega | (simp only [hset, hnew]; omega) | rfl | decide) | refine At.new_ne ?_)))) (call := s_leader (d := 3) c3 hb q1) (k := ?_)
  rintro v2 h_ ⟨rfl, e9⟩
  rw [e9]
  refine tX12_seatsWonBy_15 (ha := (by first | assumption | (repeat (first | assumption | exact At.set_eq2 (by first | omega | (simp only [hset, hnew]; omega) | rfl | decide) | exact At.new_eq2 _ _ (by first | omega | (simp only [hset, hnew]; omega) | rfl | decide) | refine At.set_ne ?_ (by first | omega | (simp only [hset, hnew]; omega) | rfl | decide) | refine At.new_ne ?_)))) (hx := rfl) (hj := r6) (hn := (by decide)) (r := ?_)
  rw [hg _ r6]
  refine tX12_seatsWonBy_16  (hP := ?_)
  exact ⟨_, rfl, rfl, c3, sm⟩

set_option maxHeartbeats 4000000 in
set_option maxRecDepth 100000 in
theorem m_seatsWon_ok (hd : 6 ≤ d) (m1 : MoR h 216 s) (t1 : ToR h 216 s.2.2.1) (hb : BDok s.2.2.1 s.2.2.2) {j0 : Nat} (q0 : j0 < bJa s.2.2.1) {j1 : Nat} (q1 : j1 < bLa s.2.2.1) : RQ G mX12_seatsWon d 0 [some (.ref 216), some (.int (nI j0)), some (.int (nI j1))] [] h (MK h s 0 (nI (wo (po (rt (dF s.2.2.2)) (dB s.2.2.2 j0)) (su (dB s.2.2.2 j0) 6) (bSe s.2.2.1 j0) (bWy s.2.2.1 j0) (rt (dF s.2.2.2) j1)))) := by
  obtain ⟨th, c⟩ := MoT.ofR m1 t1
  refine b_seatsWon c (fun h2 c2 ch2 => ?_)
  obtain ⟨⟨tk, iw, er, et, dp, nm, am⟩, ⟨-, ⟨ft, at1, ct1⟩, -, -, -, -, -, -, -, ⟨ru, ac, no, a9, -⟩, -, -, ⟨fn, a48, n0, nb, nf, nl⟩, -, -, -, -⟩, ⟨⟨gs, as_, cs⟩, ⟨gw, aw, cw⟩, ⟨gl, al, cl⟩, ⟨g0, a0_, c0_⟩, ⟨g1, a1_, c1_⟩⟩⟩ := id c2
  have l1 := hb.1
  have l2 := hb.2.1
  have l3 := hb.2.2.1
  refine tX12_seatsWon_5  (r := ?_)
  refine tX12_seatsWon_6  (r := ?_)
  refine tX12_seatsWon_7 (hd := (by omega)) (ha := (by first | assumption | (repeat (first | assumption | exact At.set_eq2 (by first | omega | (simp only [hset, hnew]; omega) | rfl | decide) | exact At.new_eq2 _ _ (by first | omega | (simp only [hset, hnew]; omega) | rfl | decide) | refine At.set_ne ?_ (by first | omega | (simp only [hset, hnew]; omega) | rfl | decide) | refine At.new_ne ?_)))) (call := s_isJar_ok (d := 1) (by decide) c2 hb q0) (k := ?_)
  rintro v0 h_ ⟨rfl, e0⟩
  rw [e0]
  refine tX12_seatsWon_10  (kt := fun c_ => by exfalso; exact absurd c_ (by decide)) (kf := fun _ => ?_)
  refine tX12_seatsWon_13  (r := ?_)
  refine tX12_seatsWon_14  (r := ?_)
  refine tX12_seatsWon_15 (hd := (by omega)) (ha := (by first | assumption | (repeat (first | assumption | exact At.set_eq2 (by first | omega | (simp only [hset, hnew]; omega) | rfl | decide) | exact At.new_eq2 _ _ (by first | omega | (simp only [hset, hnew]; omega) | rfl | decide) | refine At.set_ne ?_ (by first | omega | (simp only [hset, hnew]; omega) | rfl | decide) | refine At.new_ne ?_)))) (call := s_isLabel_ok (d := 1) (by decide) c2 hb q1) (k := ?_)
  rintro v1 h_ ⟨rfl, e1⟩
  rw [e1]
  refine tX12_seatsWon_18  (kt := fun c_ => by exfalso; exact absurd c_ (by decide)) (kf := fun _ => ?_)
  refine tX12_seatsWon_21  (r := ?_)
  refine tX12_seatsWon_22  (r := ?_)
  refine tX12_seatsWon_23  (r := ?_)
  refine tX12_seatsWon_24 (hd := (by omega)) (ha := (by first | assumption | (repeat (first | assumption | exact At.set_eq2 (by first | omega | (simp only [hset, hnew]; omega) | rfl | decide) | exact At.new_eq2 _ _ (by first | omega | (simp only [hset, hnew]; omega) | rfl | decide) | refine At.set_ne ?_ (by first | omega | (simp only [hset, hnew]; omega) | rfl | decide) | refine At.new_ne ?_)))) (call := s_seatsWonBy (d := 5) (by decide) c2 hb q0 q1) (k := ?_)
  rintro v h3 ⟨rfl, c3, sm3⟩
  refine tX12_seatsWon_27 (r := ?_)
  refine tX12_seatsWon_35  (hP := ?_)
  exact MK.of c3 ((ch2.trans (sm3.ch (lo2 := 216) (hi2 := 269) (ck := 0) (sk := 0) (by omega) (by omega))).sub (Nat.le_refl _) (Nat.le_refl _) (by decide) (by decide))

end RQZ
theorem O_seatsWon {G : GT} {h : AH} {s : ST} {bk dr : Nat} {a0 a1 : Int32} (j : Jd h s bk dr) : OpC G mX10_seatsWon mX12_seatsWon 2046 2047 [some (.ref 0), some (.int a0), some (.int a1)] [some (.ref 216), some (.int a0), some (.int a1)] "java/lang/IndexOutOfBoundsException" "" (fun _ => True) h s := by
  have hb := j.1
  have hh := j.room
  have l1 := hb.1
  have l2 := hb.2.1
  have l3 := hb.2.2.1
  rcases ix_cases a0 (n := bJa s.2.2.1) (by omega) with ⟨j0, q0, rfl⟩ | bad
  rotate_left
  · exact ⟨1, nI 0, s, bk, dr, hb, trivial, k_seatsWon_no1 (by decide) j.2.1 hb hh bad, fun h1 m1 t1 => m_seatsWon_no1 (by decide) m1 t1 hb bad⟩
  rcases ix_cases a1 (n := bLa s.2.2.1) (by omega) with ⟨j1, q1, rfl⟩ | bad
  rotate_left
  · exact ⟨1, nI 0, s, bk, dr, hb, trivial, k_seatsWon_no2 (by decide) j.2.1 hb hh q0 bad, fun h1 m1 t1 => m_seatsWon_no2 (by decide) m1 t1 hb q0 bad⟩
  exact ⟨0, _, s, bk, dr, hb, trivial, k_seatsWon_ok (by decide) j.2.1 hb hh q0 q1 , fun h1 m1 t1 => m_seatsWon_ok (by decide) m1 t1 hb q0 q1 ⟩

