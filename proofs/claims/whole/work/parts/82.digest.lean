/-! the digest of the reference: labels -/
/-- a row made anew since h0 -/
def Rw (h0 h : AH) (a n : Nat) (f : Nat → Int32) (th : Int32) (s : ST) (ck sk : Nat) : Prop := MoT h 216 th s ∧ At h a (.inl (0, n, .inl f)) ∧ Ch h0 h 216 269 ck sk ∧ 269 ≤ h0.1 ∧ h0.1 ≤ a
section DN
variable {G : GT} {d : Nat} {h0 h : AH} {s : ST} {P : OC → AH → Prop} {x1 : Option Value} {th : Int32} {a n ck sk : Nat} {f : Nat → Int32}
theorem Rw.mk (c : MoT h 216 th s) (ch : Ch h0 h 216 269 ck sk) (e0 : 269 ≤ h0.1) (n : Nat) : ∃ h1, h1 = hnew h n (.inl (0, n, .inl fun _ => 0)) ∧ Rw h0 h1 h.1 n (fun _ => 0) th s (ck + 1) (sk + n) := ⟨_, rfl, c.keep (Nat.le_succ _) (Un.new (Un.rf _ _ _) (by have := c.room; omega)), At.new_eq2 _ _ rfl, ch.new (by omega), e0, ch.1⟩
theorem Rw.put (r : Rw h0 h a n f th s ck sk) (j : Nat) (v : Int32) : ∃ h1, h1 = hset h a (.inl (0, n, .inl (upd f j v))) ∧ Rw h0 h1 a n (upd f j v) th s ck sk := by
  obtain ⟨c, a0, ch, e0, e1⟩ := r
  exact ⟨_, rfl, c.keep (Nat.le_refl _) (Un.set (Un.rf _ _ _) (by omega)), At.set_eq2 a0.1, ⟨ch.1, ch.2.1, ch.2.2.1, Un.set ch.2.2.2.1 (by omega), Un.set ch.2.2.2.2 (by omega)⟩, e0, e1⟩
theorem Rw.go {h1 : AH} {lo hi : Nat} (r : Rw h0 h a n f th s ck sk) (c : MoT h1 216 th s) (sm : Sm h h1 lo hi) (e2 : 216 ≤ lo) (e3 : hi ≤ 269) : Rw h0 h1 a n f th s ck sk := by
  obtain ⟨-, a0, ch, e0, e1⟩ := r
  exact ⟨c, sm.at a0 (by omega), ch.trans (sm.ch (lo2 := 216) (hi2 := 269) (ck := 0) (sk := 0) e2 e3), e0, e1⟩

set_option maxHeartbeats 4000000 in
set_option maxRecDepth 100000 in
theorem s_mgl (hd : 11 ≤ d) (hb : BDok s.2.2.1 s.2.2.2) (e0 : 269 ≤ h0.1) (o1 : ok1 x1 = true) {d0 : Int64} {c0 z0 : Nat} (kk : ∀ (h : AH) (y5 y6 y7 y8 y9 : Option Value), ok1 y9 = true → MoT h 216 th s → Ch h0 h 216 269 (c0 + bLa s.2.2.1) (z0 + 5 * bLa s.2.2.1) → RQ G mX12_digest d 229 [some (.ref 216), x1, some (.long (dgLs s d0 (bLa s.2.2.1))), none, some (.int (nI (bLa s.2.2.1))), y5, y6, y7, y8, y9] [] h P) : ∀ (n i : Nat) (h : AH) (y5 y6 y7 y8 y9 : Option Value), bLa s.2.2.1 ≤ i + n → i ≤ bLa s.2.2.1 → MoT h 216 th s → Ch h0 h 216 269 (c0 + i) (z0 + 5 * i) → ok1 y9 = true → RQ G mX12_digest d 111 [some (.ref 216), x1, some (.long (dgLs s d0 i)), none, some (.int (nI i)), y5, y6, y7, y8, y9] [] h (P) := by
  have ex : ∀ (i : Nat) (h : AH) (y5 y6 y7 y8 y9 : Option Value), i = bLa s.2.2.1 → MoT h 216 th s → Ch h0 h 216 269 (c0 + i) (z0 + 5 * i) → ok1 y9 = true → RQ G mX12_digest d 111 [some (.ref 216), x1, some (.long (dgLs s d0 i)), none, some (.int (nI i)), y5, y6, y7, y8, y9] [] h (P) := by
    intro i h y5 y6 y7 y8 y9 hi c2 ch2 o9
    subst hi
    obtain ⟨⟨tk, iw, er, et, dp, nm, am⟩, ⟨-, ⟨ft, at1, ct1⟩, -, -, -, -, -, -, -, ⟨ru, ac, no, a9, -⟩, -, -, ⟨fn, a48, n0, nb, nf, nl⟩, -, -, -, -⟩, ⟨⟨gs, as_, cs⟩, ⟨gw, aw, cw⟩, ⟨gl, al, cl⟩, ⟨g0, a0_, c0_⟩, ⟨g1, a1_, c1_⟩⟩⟩ := id c2
    have l1 := hb.1
    have l2 := hb.2.1
    have l3 := hb.2.2.1
    refine tX12_digest_111  (r := ?_)
    refine tX12_digest_113  (r := ?_)
    refine tX12_digest_114 (ha := (by first | assumption | (repeat (first | assumption | exact At.set_eq2 (by first | omega | (simp only [hset, hnew]; omega) | rfl | decide) | exact At.new_eq2 _ _ (by first | omega | (simp only [hset, hnew]; omega) | rfl | decide) | refine At.set_ne ?_ (by first | omega | (simp only [hset, hnew]; omega) | rfl | decide) | refine At.new_ne ?_)))) (hv := rfl) (r := ?_)
    refine tX12_digest_117 (ha := (by first | assumption | (repeat (first | assumption | exact At.set_eq2 (by first | omega | (simp only [hset, hnew]; omega) | rfl | decide) | exact At.new_eq2 _ _ (by first | omega | (simp only [hset, hnew]; omega) | rfl | decide) | refine At.set_ne ?_ (by first | omega | (simp only [hset, hnew]; omega) | rfl | decide) | refine At.new_ne ?_)))) (hv := rfl) (r := ?_)
    refine tX12_digest_120  (kf := fun c_ => by exfalso; exact c_ ((nI_leI (by omega) (by omega)).mpr (Nat.le_refl _))) (kt := fun _ => ?_)
    exact kk h y5 y6 y7 y8 y9 o9 c2 ch2
  intro n
  induction n with
  | zero => exact fun i h y5 y6 y7 y8 y9 h1_ h2_ => ex i h y5 y6 y7 y8 y9 (by omega)
  | succ n ih =>
    intro i h y5 y6 y7 y8 y9 h1_ h2_ c2 ch2 o9
    by_cases hi : i = bLa s.2.2.1
    · exact ex i h y5 y6 y7 y8 y9 hi c2 ch2 o9
    have hi2 : i < bLa s.2.2.1 := by omega
    obtain ⟨⟨tk, iw, er, et, dp, nm, am⟩, ⟨-, ⟨ft, at1, ct1⟩, -, -, -, -, -, -, -, ⟨ru, ac, no, a9, -⟩, -, -, ⟨fn, a48, n0, nb, nf, nl⟩, -, -, -, -⟩, ⟨⟨gs, as_, cs⟩, ⟨gw, aw, cw⟩, ⟨gl, al, cl⟩, ⟨g0, a0_, c0_⟩, ⟨g1, a1_, c1_⟩⟩⟩ := id c2
    have l1 := hb.1
    have l2 := hb.2.1
    have l3 := hb.2.2.1
    refine tX12_digest_111  (r := ?_)
    refine tX12_digest_113  (r := ?_)
    refine tX12_digest_114 (ha := (by first | assumption | (repeat (first | assumption | exact At.set_eq2 (by first | omega | (simp only [hset, hnew]; omega) | rfl | decide) | exact At.new_eq2 _ _ (by first | omega | (simp only [hset, hnew]; omega) | rfl | decide) | refine At.set_ne ?_ (by first | omega | (simp only [hset, hnew]; omega) | rfl | decide) | refine At.new_ne ?_)))) (hv := rfl) (r := ?_)
    refine tX12_digest_117 (ha := (by first | assumption | (repeat (first | assumption | exact At.set_eq2 (by first | omega | (simp only [hset, hnew]; omega) | rfl | decide) | exact At.new_eq2 _ _ (by first | omega | (simp only [hset, hnew]; omega) | rfl | decide) | refine At.set_ne ?_ (by first | omega | (simp only [hset, hnew]; omega) | rfl | decide) | refine At.new_ne ?_)))) (hv := rfl) (r := ?_)
    refine tX12_digest_120  (kt := fun c_ => by exfalso; exact absurd ((nI_leI (by omega) (by omega)).mp c_) (by omega)) (kf := fun _ => ?_)
    refine tX12_digest_123  (r := ?_)
    refine tX12_digest_124 (hx := (show nI 5 = nI 5 from rfl)) (hn := (by decide)) (r := ?_)
    obtain ⟨g1, e1, r1⟩ := Rw.mk c2 ch2 e0 5
    rw [← e1]
    have q1 := r1.2.1
    obtain ⟨⟨tk1, iw1, er1, et1, dp1, nm1, am1⟩, -⟩ := id r1.1
    refine tX12_digest_126  (r := ?_)
    refine tX12_digest_127  (r := ?_)
    refine tX12_digest_128  (r := ?_)
    refine tX12_digest_129  (r := ?_)
    refine tX12_digest_131 (hd := (by omega)) (ha := (by first | assumption | (repeat (first | assumption | exact At.set_eq2 (by first | omega | (simp only [hset, hnew]; omega) | rfl | decide) | exact At.new_eq2 _ _ (by first | omega | (simp only [hset, hnew]; omega) | rfl | decide) | refine At.set_ne ?_ (by first | omega | (simp only [hset, hnew]; omega) | rfl | decide) | refine At.new_ne ?_)))) (call := s_leader (d := 10) r1.1 hb hi2) (k := ?_)
    rintro v_ h_ ⟨rfl, e_⟩
    rw [e_]
    refine tX12_digest_134 (ha := (by first | assumption | (repeat (first | assumption | exact At.set_eq2 (by first | omega | (simp only [hset, hnew]; omega) | rfl | decide) | exact At.new_eq2 _ _ (by first | omega | (simp only [hset, hnew]; omega) | rfl | decide) | refine At.set_ne ?_ (by first | omega | (simp only [hset, hnew]; omega) | rfl | decide) | refine At.new_ne ?_)))) (hx := (show nI 0 = nI 0 from rfl)) (hj := (by decide)) (hn := (by decide)) (r := ?_)
    obtain ⟨g2, e2, r2⟩ := r1.put 0 (nI (rt (dF s.2.2.2) i))
    rw [← e2]
    have q2 := r2.2.1
    obtain ⟨⟨tk2, iw2, er2, et2, dp2, nm2, am2⟩, -⟩ := id r2.1
    refine tX12_digest_135  (r := ?_)
    refine tX12_digest_136  (r := ?_)
    refine tX12_digest_137  (r := ?_)
    refine tX12_digest_138  (r := ?_)
    refine tX12_digest_140 (hd := (by omega)) (ha := (by first | assumption | (repeat (first | assumption | exact At.set_eq2 (by first | omega | (simp only [hset, hnew]; omega) | rfl | decide) | exact At.new_eq2 _ _ (by first | omega | (simp only [hset, hnew]; omega) | rfl | decide) | refine At.set_ne ?_ (by first | omega | (simp only [hset, hnew]; omega) | rfl | decide) | refine At.new_ne ?_)))) (call := s_beansInAll (d := 10) (by decide) r2.1 hb hi2) (k := ?_)
    rintro v_ h_ ⟨rfl, e_⟩
    rw [e_]
    refine tX12_digest_143 (ha := (by first | assumption | (repeat (first | assumption | exact At.set_eq2 (by first | omega | (simp only [hset, hnew]; omega) | rfl | decide) | exact At.new_eq2 _ _ (by first | omega | (simp only [hset, hnew]; omega) | rfl | decide) | refine At.set_ne ?_ (by first | omega | (simp only [hset, hnew]; omega) | rfl | decide) | refine At.new_ne ?_)))) (hx := (show nI 1 = nI 1 from rfl)) (hj := (by decide)) (hn := (by decide)) (r := ?_)
    obtain ⟨g3, e3, r3⟩ := r2.put 1 (nI (su (fun j => dB s.2.2.2 j i) (bJa s.2.2.1)))
    rw [← e3]
    have q3 := r3.2.1
    obtain ⟨⟨tk3, iw3, er3, et3, dp3, nm3, am3⟩, -⟩ := id r3.1
    refine tX12_digest_144  (r := ?_)
    refine tX12_digest_145  (r := ?_)
    refine tX12_digest_146  (r := ?_)
    refine tX12_digest_147  (r := ?_)
    refine tX12_digest_149 (hd := (by omega)) (ha := (by first | assumption | (repeat (first | assumption | exact At.set_eq2 (by first | omega | (simp only [hset, hnew]; omega) | rfl | decide) | exact At.new_eq2 _ _ (by first | omega | (simp only [hset, hnew]; omega) | rfl | decide) | refine At.set_ne ?_ (by first | omega | (simp only [hset, hnew]; omega) | rfl | decide) | refine At.new_ne ?_)))) (call := s_refinall (d := 10) (by decide) r3.1 hb hi2) (k := ?_)
    rintro v4 g4 ⟨rfl, c4, sm4⟩
    have r4 := r3.go c4 sm4 (by omega) (by omega)
    have q4 := r4.2.1
    obtain ⟨⟨tk4, iw4, er4, et4, dp4, nm4, am4⟩, -⟩ := id c4
    refine tX12_digest_152 (ha := (by first | assumption | (repeat (first | assumption | exact At.set_eq2 (by first | omega | (simp only [hset, hnew]; omega) | rfl | decide) | exact At.new_eq2 _ _ (by first | omega | (simp only [hset, hnew]; omega) | rfl | decide) | refine At.set_ne ?_ (by first | omega | (simp only [hset, hnew]; omega) | rfl | decide) | refine At.new_ne ?_)))) (hx := (show nI 2 = nI 2 from rfl)) (hj := (by decide)) (hn := (by decide)) (r := ?_)
    obtain ⟨g5, e5, r5⟩ := r4.put 2 (nI (su (sw s.2.2.1 s.2.2.2 i) 8))
    rw [← e5]
    have q5 := r5.2.1
    obtain ⟨⟨tk5, iw5, er5, et5, dp5, nm5, am5⟩, -⟩ := id r5.1
    refine tX12_digest_153  (r := ?_)
    refine tX12_digest_154  (r := ?_)
    refine tX12_digest_155  (r := ?_)
    refine tX12_digest_156  (r := ?_)
    refine tX12_digest_158 (hd := (by omega)) (ha := (by first | assumption | (repeat (first | assumption | exact At.set_eq2 (by first | omega | (simp only [hset, hnew]; omega) | rfl | decide) | exact At.new_eq2 _ _ (by first | omega | (simp only [hset, hnew]; omega) | rfl | decide) | refine At.set_ne ?_ (by first | omega | (simp only [hset, hnew]; omega) | rfl | decide) | refine At.new_ne ?_)))) (call := s_refmaj (d := 10) (by decide) r5.1 hb hi2) (k := ?_)
    rintro v6 g6 ⟨rfl, c6, sm6⟩
    have r6 := r5.go c6 sm6 (by omega) (by omega)
    have q6 := r6.2.1
    obtain ⟨⟨tk6, iw6, er6, et6, dp6, nm6, am6⟩, -⟩ := id c6
    refine tX12_digest_161  (kt := fun c_161 => ?_) (kf := fun c_161 => ?_)
    · have eg : (if gov s.2.2.1 s.2.2.2 i = 0 then nI 0 else nI 1) = nI 0 := if_pos c_161
      refine tX12_digest_168  (r := ?_)
      refine tX12_digest_169 (ha := (by first | assumption | (repeat (first | assumption | exact At.set_eq2 (by first | omega | (simp only [hset, hnew]; omega) | rfl | decide) | exact At.new_eq2 _ _ (by first | omega | (simp only [hset, hnew]; omega) | rfl | decide) | refine At.set_ne ?_ (by first | omega | (simp only [hset, hnew]; omega) | rfl | decide) | refine At.new_ne ?_)))) (hx := (show nI 3 = nI 3 from rfl)) (hj := (by decide)) (hn := (by decide)) (r := ?_)
      obtain ⟨g7, e7, r7⟩ := r6.put 3 (nI 0)
      rw [← e7]
      have q7 := r7.2.1
      obtain ⟨⟨tk7, iw7, er7, et7, dp7, nm7, am7⟩, -⟩ := id r7.1
      refine tX12_digest_170  (r := ?_)
      refine tX12_digest_171  (r := ?_)
      refine tX12_digest_172  (r := ?_)
      refine tX12_digest_173  (r := ?_)
      refine tX12_digest_175 (hd := (by omega)) (ha := (by first | assumption | (repeat (first | assumption | exact At.set_eq2 (by first | omega | (simp only [hset, hnew]; omega) | rfl | decide) | exact At.new_eq2 _ _ (by first | omega | (simp only [hset, hnew]; omega) | rfl | decide) | refine At.set_ne ?_ (by first | omega | (simp only [hset, hnew]; omega) | rfl | decide) | refine At.new_ne ?_)))) (call := s_bestJar (d := 10) (by decide) r7.1 hb hi2) (k := ?_)
      rintro v8 g8 ⟨rfl, c8, sm8⟩
      have r8 := r7.go c8 sm8 (by omega) (by omega)
      have q8 := r8.2.1
      obtain ⟨⟨tk8, iw8, er8, et8, dp8, nm8, am8⟩, -⟩ := id c8
      refine tX12_digest_178 (ha := (by first | assumption | (repeat (first | assumption | exact At.set_eq2 (by first | omega | (simp only [hset, hnew]; omega) | rfl | decide) | exact At.new_eq2 _ _ (by first | omega | (simp only [hset, hnew]; omega) | rfl | decide) | refine At.set_ne ?_ (by first | omega | (simp only [hset, hnew]; omega) | rfl | decide) | refine At.new_ne ?_)))) (hx := (show nI 4 = nI 4 from rfl)) (hj := (by decide)) (hn := (by decide)) (r := ?_)
      obtain ⟨g9, e9, r9⟩ := r8.put 4 (oI (bjN (vB s.2.2.2 (rt (dF s.2.2.2) i)) (bJa s.2.2.1)))
      rw [← e9]
      have q9 := r9.2.1
      obtain ⟨⟨tk9, iw9, er9, et9, dp9, nm9, am9⟩, -⟩ := id r9.1
      refine tX12_digest_179  (r := ?_)
      refine tX12_digest_181  (r := ?_)
      refine tX12_digest_183  (r := ?_)
      refine tX12_digest_185  (r := ?_)
      refine tX12_digest_187 (ha := (by first | assumption | (repeat (first | assumption | exact At.set_eq2 (by first | omega | (simp only [hset, hnew]; omega) | rfl | decide) | exact At.new_eq2 _ _ (by first | omega | (simp only [hset, hnew]; omega) | rfl | decide) | refine At.set_ne ?_ (by first | omega | (simp only [hset, hnew]; omega) | rfl | decide) | refine At.new_ne ?_)))) (r := ?_)
      refine tX12_digest_188  (r := ?_)
      refine tX12_digest_190  (r := ?_)
      refine tX12_digest_191  (r := ?_)
      refine s_dg2 q9 o1 rfl (fun y oy => ?_) 5 0 _ (by omega) (by omega) o9
      have ev : dgR (upd (upd (upd (upd (upd (fun _ => 0) 0 (nI (rt (dF s.2.2.2) i))) 1 (nI (su (fun j => dB s.2.2.2 j i) (bJa s.2.2.1)))) 2 (nI (su (sw s.2.2.1 s.2.2.2 i) 8))) 3 (nI 0)) 4 (oI (bjN (vB s.2.2.2 (rt (dF s.2.2.2) i)) (bJa s.2.2.1)))) (dgLs s d0 i) 5 = dgLs s d0 (i + 1) := by
        show _ = dgLa s (dgLs s d0 i) i
        unfold dgLa
        rw [eg]
        rfl
      refine tX12_digest_223 (r := ?_)
      rw [nI_add]
      refine tX12_digest_226 (r := ?_)
      rw [ev]
      exact ih (i + 1) g9 _ _ _ _ _ (by omega) (by omega) r9.1 (r9.2.2.1.sub (Nat.le_refl _) (Nat.le_refl _) (by omega) (by omega)) oy
    · have eg : (if gov s.2.2.1 s.2.2.2 i = 0 then nI 0 else nI 1) = nI 1 := if_neg c_161
      refine tX12_digest_164  (r := ?_)
      refine tX12_digest_165 (r := ?_)
      refine tX12_digest_169 (ha := (by first | assumption | (repeat (first | assumption | exact At.set_eq2 (by first | omega | (simp only [hset, hnew]; omega) | rfl | decide) | exact At.new_eq2 _ _ (by first | omega | (simp only [hset, hnew]; omega) | rfl | decide) | refine At.set_ne ?_ (by first | omega | (simp only [hset, hnew]; omega) | rfl | decide) | refine At.new_ne ?_)))) (hx := (show nI 3 = nI 3 from rfl)) (hj := (by decide)) (hn := (by decide)) (r := ?_)
      obtain ⟨g7, e7, r7⟩ := r6.put 3 (nI 1)
      rw [← e7]
      have q7 := r7.2.1
      obtain ⟨⟨tk7, iw7, er7, et7, dp7, nm7, am7⟩, -⟩ := id r7.1
      refine tX12_digest_170  (r := ?_)
      refine tX12_digest_171  (r := ?_)
      refine tX12_digest_172  (r := ?_)
      refine tX12_digest_173  (r := ?_)
      refine tX12_digest_175 (hd := (by omega)) (ha := (by first | assumption | (repeat (first | assumption | exact At.set_eq2 (by first | omega | (simp only [hset, hnew]; omega) | rfl | decide) | exact At.new_eq2 _ _ (by first | omega | (simp only [hset, hnew]; omega) | rfl | decide) | refine At.set_ne ?_ (by first | omega | (simp only [hset, hnew]; omega) | rfl | decide) | refine At.new_ne ?_)))) (call := s_bestJar (d := 10) (by decide) r7.1 hb hi2) (k := ?_)
      rintro v8 g8 ⟨rfl, c8, sm8⟩
      have r8 := r7.go c8 sm8 (by omega) (by omega)
      have q8 := r8.2.1
      obtain ⟨⟨tk8, iw8, er8, et8, dp8, nm8, am8⟩, -⟩ := id c8
      refine tX12_digest_178 (ha := (by first | assumption | (repeat (first | assumption | exact At.set_eq2 (by first | omega | (simp only [hset, hnew]; omega) | rfl | decide) | exact At.new_eq2 _ _ (by first | omega | (simp only [hset, hnew]; omega) | rfl | decide) | refine At.set_ne ?_ (by first | omega | (simp only [hset, hnew]; omega) | rfl | decide) | refine At.new_ne ?_)))) (hx := (show nI 4 = nI 4 from rfl)) (hj := (by decide)) (hn := (by decide)) (r := ?_)
      obtain ⟨g9, e9, r9⟩ := r8.put 4 (oI (bjN (vB s.2.2.2 (rt (dF s.2.2.2) i)) (bJa s.2.2.1)))
      rw [← e9]
      have q9 := r9.2.1
      obtain ⟨⟨tk9, iw9, er9, et9, dp9, nm9, am9⟩, -⟩ := id r9.1
      refine tX12_digest_179  (r := ?_)
      refine tX12_digest_181  (r := ?_)
      refine tX12_digest_183  (r := ?_)
      refine tX12_digest_185  (r := ?_)
      refine tX12_digest_187 (ha := (by first | assumption | (repeat (first | assumption | exact At.set_eq2 (by first | omega | (simp only [hset, hnew]; omega) | rfl | decide) | exact At.new_eq2 _ _ (by first | omega | (simp only [hset, hnew]; omega) | rfl | decide) | refine At.set_ne ?_ (by first | omega | (simp only [hset, hnew]; omega) | rfl | decide) | refine At.new_ne ?_)))) (r := ?_)
      refine tX12_digest_188  (r := ?_)
      refine tX12_digest_190  (r := ?_)
      refine tX12_digest_191  (r := ?_)
      refine s_dg2 q9 o1 rfl (fun y oy => ?_) 5 0 _ (by omega) (by omega) o9
      have ev : dgR (upd (upd (upd (upd (upd (fun _ => 0) 0 (nI (rt (dF s.2.2.2) i))) 1 (nI (su (fun j => dB s.2.2.2 j i) (bJa s.2.2.1)))) 2 (nI (su (sw s.2.2.1 s.2.2.2 i) 8))) 3 (nI 1)) 4 (oI (bjN (vB s.2.2.2 (rt (dF s.2.2.2) i)) (bJa s.2.2.1)))) (dgLs s d0 i) 5 = dgLs s d0 (i + 1) := by
        show _ = dgLa s (dgLs s d0 i) i
        unfold dgLa
        rw [eg]
        rfl
      refine tX12_digest_223 (r := ?_)
      rw [nI_add]
      refine tX12_digest_226 (r := ?_)
      rw [ev]
      exact ih (i + 1) g9 _ _ _ _ _ (by omega) (by omega) r9.1 (r9.2.2.1.sub (Nat.le_refl _) (Nat.le_refl _) (by omega) (by omega)) oy

end DN
