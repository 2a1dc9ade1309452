/-! the digest of the reference, in all -/
section DZ
variable {G : GT} {d : Nat} {h : AH} {s : ST}

set_option maxHeartbeats 4000000 in
set_option maxRecDepth 100000 in
theorem m_digest (hd : 11 ≤ d) (m1 : MoR h 216 s) (t1 : ToR h 216 s.2.2.1) (hb : BDok s.2.2.1 s.2.2.2) : RQ G mX12_digest d 0 [some (.ref 216), none, none, none, none, none, none, none, none, none] [] h (fun o h2 => o = .inl (some (Value.long (dgA s))) ∧ MoR h2 216 s ∧ ToR h2 216 s.2.2.1 ∧ Ch h h2 216 269 16 100) := by
  obtain ⟨th, c⟩ := MoT.ofR m1 t1
  have e0 := c.room
  obtain ⟨⟨tk0, iw0, er0, et0, dp0, nm0, am0⟩, -⟩ := id c
  have l1 := hb.1
  have l2 := hb.2.1
  have l3 := hb.2.2.1
  refine tX12_digest_0 (r := ?_)
  refine tX12_digest_1 (r := ?_)
  refine tX12_digest_2 (ha := am0) (hlen := rfl) (r := ?_)
  refine (fun (h2 : AH) (c2 : MoT h2 216 (nI 0) s) (ch2 : Ch h h2 216 269 0 0) => ?_ : ∀ h2, MoT h2 216 (nI 0) s → Ch h h2 216 269 0 0 → RQ G mX12_digest d 5 [some (.ref 216), none, none, none, none, none, none, none, none, none] [] h2 (fun o h2 => o = .inl (some (Value.long (dgA s))) ∧ MoR h2 216 s ∧ ToR h2 216 s.2.2.1 ∧ Ch h h2 216 269 16 100)) _ (c.thr am0) ((Ch.rf _ _ _ _ _).set (by decide) (by decide))
  obtain ⟨⟨tk, iw, er, et, dp, nm, am⟩, ⟨-, ⟨ft, at1, ct1⟩, -, -, -, -, -, -, -, ⟨ru, ac, no, a9, -⟩, -, -, ⟨fn, a48, n0, nb, nf, nl⟩, -, -, -, -⟩, ⟨⟨gs, as_, cs⟩, ⟨gw, aw, cw⟩, ⟨gl, al, cl⟩, ⟨g0, a0_, c0_⟩, ⟨g1, a1_, c1_⟩⟩⟩ := id c2
  refine tX12_digest_5  (r := ?_)
  refine tX12_digest_7 (hx := (show nI 6 = nI 6 from rfl)) (hn := (by decide)) (r := ?_)
  obtain ⟨g1, e1, r1⟩ := Rw.mk c2 ch2 e0 6
  rw [← e1]
  have q1 := r1.2.1
  obtain ⟨⟨tk1, iw1, er1, et1, dp1, nm1, am1⟩, -⟩ := id r1.1
  obtain ⟨⟨tk, iw, er, et, dp, nm, am⟩, ⟨-, ⟨ft, at1, ct1⟩, -, -, -, -, -, -, -, ⟨ru, ac, no, a9, -⟩, -, -, ⟨fn, a48, n0, nb, nf, nl⟩, -, -, -, -⟩, ⟨⟨gs, as_, cs⟩, ⟨gw, aw, cw⟩, ⟨gl, al, cl⟩, ⟨g0, a0_, c0_⟩, ⟨g1, a1_, c1_⟩⟩⟩ := id r1.1
  refine tX12_digest_9  (r := ?_)
  refine tX12_digest_10  (r := ?_)
  refine tX12_digest_11  (r := ?_)
  refine tX12_digest_12 (ha := (by first | assumption | (repeat (first | assumption | exact At.set_eq2 (by first | omega | (simp only [hset, hnew]; omega) | rfl | decide) | exact At.new_eq2 _ _ (by first | omega | (simp only [hset, hnew]; omega) | rfl | decide) | refine At.set_ne ?_ (by first | omega | (simp only [hset, hnew]; omega) | rfl | decide) | refine At.new_ne ?_)))) (hv := rfl) (r := ?_)
  refine tX12_digest_15 (ha := (by first | assumption | (repeat (first | assumption | exact At.set_eq2 (by first | omega | (simp only [hset, hnew]; omega) | rfl | decide) | exact At.new_eq2 _ _ (by first | omega | (simp only [hset, hnew]; omega) | rfl | decide) | refine At.set_ne ?_ (by first | omega | (simp only [hset, hnew]; omega) | rfl | decide) | refine At.new_ne ?_)))) (hv := rfl) (r := ?_)
  refine tX12_digest_18 (ha := (by first | assumption | (repeat (first | assumption | exact At.set_eq2 (by first | omega | (simp only [hset, hnew]; omega) | rfl | decide) | exact At.new_eq2 _ _ (by first | omega | (simp only [hset, hnew]; omega) | rfl | decide) | refine At.set_ne ?_ (by first | omega | (simp only [hset, hnew]; omega) | rfl | decide) | refine At.new_ne ?_)))) (hx := (show nI 0 = nI 0 from rfl)) (hj := (by decide)) (hn := (by decide)) (r := ?_)
  obtain ⟨g2, e2, r2⟩ := r1.put 0 (nI (bLa s.2.2.1))
  rw [← e2]
  have q2 := r2.2.1
  obtain ⟨⟨tk2, iw2, er2, et2, dp2, nm2, am2⟩, -⟩ := id r2.1
  obtain ⟨⟨tk, iw, er, et, dp, nm, am⟩, ⟨-, ⟨ft, at1, ct1⟩, -, -, -, -, -, -, -, ⟨ru, ac, no, a9, -⟩, -, -, ⟨fn, a48, n0, nb, nf, nl⟩, -, -, -, -⟩, ⟨⟨gs, as_, cs⟩, ⟨gw, aw, cw⟩, ⟨gl, al, cl⟩, ⟨g0, a0_, c0_⟩, ⟨g1, a1_, c1_⟩⟩⟩ := id r2.1
  refine tX12_digest_19  (r := ?_)
  refine tX12_digest_20  (r := ?_)
  refine tX12_digest_21  (r := ?_)
  refine tX12_digest_22 (ha := (by first | assumption | (repeat (first | assumption | exact At.set_eq2 (by first | omega | (simp only [hset, hnew]; omega) | rfl | decide) | exact At.new_eq2 _ _ (by first | omega | (simp only [hset, hnew]; omega) | rfl | decide) | refine At.set_ne ?_ (by first | omega | (simp only [hset, hnew]; omega) | rfl | decide) | refine At.new_ne ?_)))) (hv := rfl) (r := ?_)
  refine tX12_digest_25 (ha := (by first | assumption | (repeat (first | assumption | exact At.set_eq2 (by first | omega | (simp only [hset, hnew]; omega) | rfl | decide) | exact At.new_eq2 _ _ (by first | omega | (simp only [hset, hnew]; omega) | rfl | decide) | refine At.set_ne ?_ (by first | omega | (simp only [hset, hnew]; omega) | rfl | decide) | refine At.new_ne ?_)))) (hv := rfl) (r := ?_)
  refine tX12_digest_28 (ha := (by first | assumption | (repeat (first | assumption | exact At.set_eq2 (by first | omega | (simp only [hset, hnew]; omega) | rfl | decide) | exact At.new_eq2 _ _ (by first | omega | (simp only [hset, hnew]; omega) | rfl | decide) | refine At.set_ne ?_ (by first | omega | (simp only [hset, hnew]; omega) | rfl | decide) | refine At.new_ne ?_)))) (hx := (show nI 1 = nI 1 from rfl)) (hj := (by decide)) (hn := (by decide)) (r := ?_)
  obtain ⟨g3, e3, r3⟩ := r2.put 1 (nI (bJa s.2.2.1))
  rw [← e3]
  have q3 := r3.2.1
  obtain ⟨⟨tk3, iw3, er3, et3, dp3, nm3, am3⟩, -⟩ := id r3.1
  obtain ⟨⟨tk, iw, er, et, dp, nm, am⟩, ⟨-, ⟨ft, at1, ct1⟩, -, -, -, -, -, -, -, ⟨ru, ac, no, a9, -⟩, -, -, ⟨fn, a48, n0, nb, nf, nl⟩, -, -, -, -⟩, ⟨⟨gs, as_, cs⟩, ⟨gw, aw, cw⟩, ⟨gl, al, cl⟩, ⟨g0, a0_, c0_⟩, ⟨g1, a1_, c1_⟩⟩⟩ := id r3.1
  refine tX12_digest_29  (r := ?_)
  refine tX12_digest_30  (r := ?_)
  refine tX12_digest_31  (r := ?_)
  refine tX12_digest_32 (ha := (by first | assumption | (repeat (first | assumption | exact At.set_eq2 (by first | omega | (simp only [hset, hnew]; omega) | rfl | decide) | exact At.new_eq2 _ _ (by first | omega | (simp only [hset, hnew]; omega) | rfl | decide) | refine At.set_ne ?_ (by first | omega | (simp only [hset, hnew]; omega) | rfl | decide) | refine At.new_ne ?_)))) (hv := rfl) (r := ?_)
  refine tX12_digest_35 (ha := (by first | assumption | (repeat (first | assumption | exact At.set_eq2 (by first | omega | (simp only [hset, hnew]; omega) | rfl | decide) | exact At.new_eq2 _ _ (by first | omega | (simp only [hset, hnew]; omega) | rfl | decide) | refine At.set_ne ?_ (by first | omega | (simp only [hset, hnew]; omega) | rfl | decide) | refine At.new_ne ?_)))) (hv := rfl) (r := ?_)
  refine tX12_digest_38 (ha := (by first | assumption | (repeat (first | assumption | exact At.set_eq2 (by first | omega | (simp only [hset, hnew]; omega) | rfl | decide) | exact At.new_eq2 _ _ (by first | omega | (simp only [hset, hnew]; omega) | rfl | decide) | refine At.set_ne ?_ (by first | omega | (simp only [hset, hnew]; omega) | rfl | decide) | refine At.new_ne ?_)))) (hx := (show nI 2 = nI 2 from rfl)) (hj := (by decide)) (hn := (by decide)) (r := ?_)
  obtain ⟨g4, e4, r4⟩ := r3.put 2 (nI (bLi s.2.2.1))
  rw [← e4]
  have q4 := r4.2.1
  obtain ⟨⟨tk4, iw4, er4, et4, dp4, nm4, am4⟩, -⟩ := id r4.1
  obtain ⟨⟨tk, iw, er, et, dp, nm, am⟩, ⟨-, ⟨ft, at1, ct1⟩, -, -, -, -, -, -, -, ⟨ru, ac, no, a9, -⟩, -, -, ⟨fn, a48, n0, nb, nf, nl⟩, -, -, -, -⟩, ⟨⟨gs, as_, cs⟩, ⟨gw, aw, cw⟩, ⟨gl, al, cl⟩, ⟨g0, a0_, c0_⟩, ⟨g1, a1_, c1_⟩⟩⟩ := id r4.1
  refine tX12_digest_39  (r := ?_)
  refine tX12_digest_40  (r := ?_)
  refine tX12_digest_41  (r := ?_)
  refine tX12_digest_42 (ha := (by first | assumption | (repeat (first | assumption | exact At.set_eq2 (by first | omega | (simp only [hset, hnew]; omega) | rfl | decide) | exact At.new_eq2 _ _ (by first | omega | (simp only [hset, hnew]; omega) | rfl | decide) | refine At.set_ne ?_ (by first | omega | (simp only [hset, hnew]; omega) | rfl | decide) | refine At.new_ne ?_)))) (hv := rfl) (r := ?_)
  refine tX12_digest_45  (r := ?_)
  refine tX12_digest_46 (ha := (by first | assumption | (repeat (first | assumption | exact At.set_eq2 (by first | omega | (simp only [hset, hnew]; omega) | rfl | decide) | exact At.new_eq2 _ _ (by first | omega | (simp only [hset, hnew]; omega) | rfl | decide) | refine At.set_ne ?_ (by first | omega | (simp only [hset, hnew]; omega) | rfl | decide) | refine At.new_ne ?_)))) (hx := (show nI 0 = nI 0 from rfl)) (hj := (by decide)) (hn := (by decide)) (r := ?_)
  rw [n0]
  refine tX12_digest_47 (ha := (by first | assumption | (repeat (first | assumption | exact At.set_eq2 (by first | omega | (simp only [hset, hnew]; omega) | rfl | decide) | exact At.new_eq2 _ _ (by first | omega | (simp only [hset, hnew]; omega) | rfl | decide) | refine At.set_ne ?_ (by first | omega | (simp only [hset, hnew]; omega) | rfl | decide) | refine At.new_ne ?_)))) (hx := (show nI 3 = nI 3 from rfl)) (hj := (by decide)) (hn := (by decide)) (r := ?_)
  obtain ⟨g5, e5, r5⟩ := r4.put 3 (dDay s.2.2.2)
  rw [← e5]
  have q5 := r5.2.1
  obtain ⟨⟨tk5, iw5, er5, et5, dp5, nm5, am5⟩, -⟩ := id r5.1
  obtain ⟨⟨tk, iw, er, et, dp, nm, am⟩, ⟨-, ⟨ft, at1, ct1⟩, -, -, -, -, -, -, -, ⟨ru, ac, no, a9, -⟩, -, -, ⟨fn, a48, n0, nb, nf, nl⟩, -, -, -, -⟩, ⟨⟨gs, as_, cs⟩, ⟨gw, aw, cw⟩, ⟨gl, al, cl⟩, ⟨g0, a0_, c0_⟩, ⟨g1, a1_, c1_⟩⟩⟩ := id r5.1
  refine tX12_digest_48  (r := ?_)
  refine tX12_digest_49  (r := ?_)
  refine tX12_digest_50  (r := ?_)
  refine tX12_digest_51 (hd := (by omega)) (ha := (by first | assumption | (repeat (first | assumption | exact At.set_eq2 (by first | omega | (simp only [hset, hnew]; omega) | rfl | decide) | exact At.new_eq2 _ _ (by first | omega | (simp only [hset, hnew]; omega) | rfl | decide) | refine At.set_ne ?_ (by first | omega | (simp only [hset, hnew]; omega) | rfl | decide) | refine At.new_ne ?_)))) (call := s_leaders (d := 10) r5.1 hb) (k := ?_)
  rintro v_ h_ ⟨rfl, e_⟩
  rw [e_, ← all_same hb]
  refine tX12_digest_54 (ha := (by first | assumption | (repeat (first | assumption | exact At.set_eq2 (by first | omega | (simp only [hset, hnew]; omega) | rfl | decide) | exact At.new_eq2 _ _ (by first | omega | (simp only [hset, hnew]; omega) | rfl | decide) | refine At.set_ne ?_ (by first | omega | (simp only [hset, hnew]; omega) | rfl | decide) | refine At.new_ne ?_)))) (hx := (show nI 4 = nI 4 from rfl)) (hj := (by decide)) (hn := (by decide)) (r := ?_)
  obtain ⟨g6, e6, r6⟩ := r5.put 4 (nI (su (fun k => if rt (dF s.2.2.2) k = k then 1 else 0) (bLa s.2.2.1)))
  rw [← e6]
  have q6 := r6.2.1
  obtain ⟨⟨tk6, iw6, er6, et6, dp6, nm6, am6⟩, -⟩ := id r6.1
  obtain ⟨⟨tk, iw, er, et, dp, nm, am⟩, ⟨-, ⟨ft, at1, ct1⟩, -, -, -, -, -, -, -, ⟨ru, ac, no, a9, -⟩, -, -, ⟨fn, a48, n0, nb, nf, nl⟩, -, -, -, -⟩, ⟨⟨gs, as_, cs⟩, ⟨gw, aw, cw⟩, ⟨gl, al, cl⟩, ⟨g0, a0_, c0_⟩, ⟨g1, a1_, c1_⟩⟩⟩ := id r6.1
  refine tX12_digest_55  (r := ?_)
  refine tX12_digest_56  (r := ?_)
  refine tX12_digest_57  (r := ?_)
  refine tX12_digest_58 (hd := (by omega)) (ha := (by first | assumption | (repeat (first | assumption | exact At.set_eq2 (by first | omega | (simp only [hset, hnew]; omega) | rfl | decide) | exact At.new_eq2 _ _ (by first | omega | (simp only [hset, hnew]; omega) | rfl | decide) | refine At.set_ne ?_ (by first | omega | (simp only [hset, hnew]; omega) | rfl | decide) | refine At.new_ne ?_)))) (call := s_leading (d := 10) (by decide) r6.1 hb) (k := ?_)
  rintro v7 g7 ⟨rfl, c7, sm7⟩
  have r7 := r6.go c7 sm7 (by omega) (by omega)
  have q7 := r7.2.1
  obtain ⟨⟨tk7, iw7, er7, et7, dp7, nm7, am7⟩, -⟩ := id c7
  refine tX12_digest_61 (ha := (by first | assumption | (repeat (first | assumption | exact At.set_eq2 (by first | omega | (simp only [hset, hnew]; omega) | rfl | decide) | exact At.new_eq2 _ _ (by first | omega | (simp only [hset, hnew]; omega) | rfl | decide) | refine At.set_ne ?_ (by first | omega | (simp only [hset, hnew]; omega) | rfl | decide) | refine At.new_ne ?_)))) (hx := (show nI 5 = nI 5 from rfl)) (hj := (by decide)) (hn := (by decide)) (r := ?_)
  obtain ⟨g8, e8, r8⟩ := r7.put 5 (oI (ldN (sT s.2.2.1 s.2.2.2) (rt (dF s.2.2.2)) (bLa s.2.2.1)))
  rw [← e8]
  have q8 := r8.2.1
  obtain ⟨⟨tk8, iw8, er8, et8, dp8, nm8, am8⟩, -⟩ := id r8.1
  obtain ⟨⟨tk, iw, er, et, dp, nm, am⟩, ⟨-, ⟨ft, at1, ct1⟩, -, -, -, -, -, -, -, ⟨ru, ac, no, a9, -⟩, -, -, ⟨fn, a48, n0, nb, nf, nl⟩, -, -, -, -⟩, ⟨⟨gs, as_, cs⟩, ⟨gw, aw, cw⟩, ⟨gl, al, cl⟩, ⟨g0, a0_, c0_⟩, ⟨g1, a1_, c1_⟩⟩⟩ := id r8.1
  refine tX12_digest_62  (r := ?_)
  refine tX12_digest_63  (r := ?_)
  refine tX12_digest_66  (r := ?_)
  refine tX12_digest_67  (r := ?_)
  refine tX12_digest_68  (r := ?_)
  refine tX12_digest_70  (r := ?_)
  refine tX12_digest_72 (ha := (by first | assumption | (repeat (first | assumption | exact At.set_eq2 (by first | omega | (simp only [hset, hnew]; omega) | rfl | decide) | exact At.new_eq2 _ _ (by first | omega | (simp only [hset, hnew]; omega) | rfl | decide) | refine At.set_ne ?_ (by first | omega | (simp only [hset, hnew]; omega) | rfl | decide) | refine At.new_ne ?_)))) (r := ?_)
  refine tX12_digest_73  (r := ?_)
  refine tX12_digest_75  (r := ?_)
  refine tX12_digest_76  (r := ?_)
  refine s_dg1 q8 rfl rfl (fun y oy => ?_) 6 0 _ (by omega) (by omega) rfl
  refine tX12_digest_108 (r := ?_)
  refine tX12_digest_109 (r := ?_)
  refine s_mgl (c0 := 1) (z0 := 6) hd hb e0 rfl (fun h9 y5 y6 y7 y8 y9 o9 c9 ch9 => ?_) (bLa s.2.2.1) 0 g8 _ _ _ _ _ (by omega) (by omega) r8.1 r8.2.2.1 rfl
  refine tX12_digest_229 (r := ?_)
  refine tX12_digest_230 (r := ?_)
  refine s_mgj (c0 := 1 + bLa s.2.2.1) (z0 := 6 + 5 * bLa s.2.2.1) hd hb e0 rfl (fun h10 z5 z6 z7 z8 z9 c10 ch10 => ?_) (bJa s.2.2.1) 0 h9 _ _ _ _ _ (by omega) (by omega) c9 ch9 o9
  refine tX12_digest_421 (r := ?_)
  refine tX12_digest_422 (r := ?_)
  refine s_mgd hd hb rfl (fun h11 c11 ch11 => ?_) (bLi s.2.2.1) 0 h10 (by omega) (by omega) c10 (Ch.rf _ _ _ _ _)
  refine tX12_digest_488 (r := ?_)
  refine tX12_digest_489 (hP := ?_)
  exact ⟨rfl, c11.2.1, c11.2.2, (ch10.trans ch11).sub (Nat.le_refl _) (Nat.le_refl _) (by omega) (by omega)⟩

end DZ
theorem D_digest {G : GT} {h : AH} {s : ST} {bk dr : Nat} (j : Jd h s bk dr) : OpD Value.long G mX10_digest mX12_digest 2047 [some (.ref 0), none, none, none] [some (.ref 216), none, none, none, none, none, none, none, none, none] h s := ⟨_, s, bk, dr, j.1, (k_digest (by decide) j.2.1 j.1 j.room).imp (fun o h1 q => by obtain ⟨v, e, e2, c, ch⟩ := q; exact ⟨e2 ▸ e, c, ch⟩), fun h1 m1 t1 => m_digest (by decide) m1 t1 j.1⟩
