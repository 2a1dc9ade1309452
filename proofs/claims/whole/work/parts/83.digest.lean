/-! the digest of the reference: jars -/
section DJ
variable {G : GT} {d : Nat} {h0 h : AH} {s : ST} {P : OC → AH → Prop} {x1 : Option Value} {th : Int32}

set_option maxHeartbeats 4000000 in
set_option maxRecDepth 100000 in
theorem s_mgj (hd : 11 ≤ d) (hb : BDok s.2.2.1 s.2.2.2) (e0 : 269 ≤ h0.1) (o1 : ok1 x1 = true) {d0 : Int64} {c0 z0 : Nat} (kk : ∀ (h : AH) (y5 y6 y7 y8 y9 : Option Value), MoT h 216 th s → Ch h0 h 216 269 (c0 + bJa s.2.2.1) (z0 + 6 * bJa s.2.2.1) → RQ G mX12_digest d 421 [some (.ref 216), x1, some (.long (dgJs s d0 (bJa s.2.2.1))), none, some (.int (nI (bJa s.2.2.1))), y5, y6, y7, y8, y9] [] h P) : ∀ (n i : Nat) (h : AH) (y5 y6 y7 y8 y9 : Option Value), bJa s.2.2.1 ≤ i + n → i ≤ bJa s.2.2.1 → MoT h 216 th s → Ch h0 h 216 269 (c0 + i) (z0 + 6 * i) → ok1 y9 = true → RQ G mX12_digest d 232 [some (.ref 216), x1, some (.long (dgJs s d0 i)), none, some (.int (nI i)), y5, y6, y7, y8, y9] [] h (P) := by
  have ex : ∀ (i : Nat) (h : AH) (y5 y6 y7 y8 y9 : Option Value), i = bJa s.2.2.1 → MoT h 216 th s → Ch h0 h 216 269 (c0 + i) (z0 + 6 * i) → ok1 y9 = true → RQ G mX12_digest d 232 [some (.ref 216), x1, some (.long (dgJs s d0 i)), none, some (.int (nI i)), y5, y6, y7, y8, y9] [] h (P) := by
    intro i h y5 y6 y7 y8 y9 hi c2 ch2 o9
    subst hi
    obtain ⟨⟨tk, iw, er, et, dp, nm, am⟩, ⟨-, ⟨ft, at1, ct1⟩, -, -, -, -, -, -, -, ⟨ru, ac, no, a9, -⟩, -, -, ⟨fn, a48, n0, nb, nf, nl⟩, -, -, -, -⟩, ⟨⟨gs, as_, cs⟩, ⟨gw, aw, cw⟩, ⟨gl, al, cl⟩, ⟨g0, a0_, c0_⟩, ⟨g1, a1_, c1_⟩⟩⟩ := id c2
    have l1 := hb.1
    have l2 := hb.2.1
    have l3 := hb.2.2.1
    refine tX12_digest_232  (r := ?_)
    refine tX12_digest_234  (r := ?_)
    refine tX12_digest_235 (ha := (by first | assumption | (repeat (first | assumption | exact At.set_eq2 (by first | omega | (simp only [hset, hnew]; omega) | rfl | decide) | exact At.new_eq2 _ _ (by first | omega | (simp only [hset, hnew]; omega) | rfl | decide) | refine At.set_ne ?_ (by first | omega | (simp only [hset, hnew]; omega) | rfl | decide) | refine At.new_ne ?_)))) (hv := rfl) (r := ?_)
    refine tX12_digest_238 (ha := (by first | assumption | (repeat (first | assumption | exact At.set_eq2 (by first | omega | (simp only [hset, hnew]; omega) | rfl | decide) | exact At.new_eq2 _ _ (by first | omega | (simp only [hset, hnew]; omega) | rfl | decide) | refine At.set_ne ?_ (by first | omega | (simp only [hset, hnew]; omega) | rfl | decide) | refine At.new_ne ?_)))) (hv := rfl) (r := ?_)
    refine tX12_digest_241  (kf := fun c_ => by exfalso; exact c_ ((nI_leI (by omega) (by omega)).mpr (Nat.le_refl _))) (kt := fun _ => ?_)
    exact kk h y5 y6 y7 y8 y9 c2 ch2
  intro n
  induction n with
  | zero => exact fun i h y5 y6 y7 y8 y9 h1_ h2_ => ex i h y5 y6 y7 y8 y9 (by omega)
  | succ n ih =>
    intro i h y5 y6 y7 y8 y9 h1_ h2_ c2 ch2 o9
    by_cases hi : i = bJa s.2.2.1
    · exact ex i h y5 y6 y7 y8 y9 hi c2 ch2 o9
    have hi2 : i < bJa s.2.2.1 := by omega
    obtain ⟨⟨tk, iw, er, et, dp, nm, am⟩, ⟨-, ⟨ft, at1, ct1⟩, -, -, -, -, -, -, -, ⟨ru, ac, no, a9, -⟩, -, -, ⟨fn, a48, n0, nb, nf, nl⟩, -, -, -, -⟩, ⟨⟨gs, as_, cs⟩, ⟨gw, aw, cw⟩, ⟨gl, al, cl⟩, ⟨g0, a0_, c0_⟩, ⟨g1, a1_, c1_⟩⟩⟩ := id c2
    have l1 := hb.1
    have l2 := hb.2.1
    have l3 := hb.2.2.1
    refine tX12_digest_232  (r := ?_)
    refine tX12_digest_234  (r := ?_)
    refine tX12_digest_235 (ha := (by first | assumption | (repeat (first | assumption | exact At.set_eq2 (by first | omega | (simp only [hset, hnew]; omega) | rfl | decide) | exact At.new_eq2 _ _ (by first | omega | (simp only [hset, hnew]; omega) | rfl | decide) | refine At.set_ne ?_ (by first | omega | (simp only [hset, hnew]; omega) | rfl | decide) | refine At.new_ne ?_)))) (hv := rfl) (r := ?_)
    refine tX12_digest_238 (ha := (by first | assumption | (repeat (first | assumption | exact At.set_eq2 (by first | omega | (simp only [hset, hnew]; omega) | rfl | decide) | exact At.new_eq2 _ _ (by first | omega | (simp only [hset, hnew]; omega) | rfl | decide) | refine At.set_ne ?_ (by first | omega | (simp only [hset, hnew]; omega) | rfl | decide) | refine At.new_ne ?_)))) (hv := rfl) (r := ?_)
    refine tX12_digest_241  (kt := fun c_ => by exfalso; exact absurd ((nI_leI (by omega) (by omega)).mp c_) (by omega)) (kf := fun _ => ?_)
    refine tX12_digest_244  (r := ?_)
    refine tX12_digest_246 (hx := (show nI 6 = nI 6 from rfl)) (hn := (by decide)) (r := ?_)
    obtain ⟨g1, e1, r1⟩ := Rw.mk c2 ch2 e0 6
    rw [← e1]
    have q1 := r1.2.1
    obtain ⟨⟨tk1, iw1, er1, et1, dp1, nm1, am1⟩, -⟩ := id r1.1
    refine tX12_digest_248  (r := ?_)
    refine tX12_digest_249  (r := ?_)
    refine tX12_digest_250  (r := ?_)
    refine tX12_digest_251  (r := ?_)
    refine tX12_digest_253 (hd := (by omega)) (ha := (by first | assumption | (repeat (first | assumption | exact At.set_eq2 (by first | omega | (simp only [hset, hnew]; omega) | rfl | decide) | exact At.new_eq2 _ _ (by first | omega | (simp only [hset, hnew]; omega) | rfl | decide) | refine At.set_ne ?_ (by first | omega | (simp only [hset, hnew]; omega) | rfl | decide) | refine At.new_ne ?_)))) (call := s_all (d := 10) (by decide) r1.1 hb hi2) (k := ?_)
    rintro v_ h_ ⟨rfl, e_⟩
    rw [e_]
    refine tX12_digest_256 (ha := (by first | assumption | (repeat (first | assumption | exact At.set_eq2 (by first | omega | (simp only [hset, hnew]; omega) | rfl | decide) | exact At.new_eq2 _ _ (by first | omega | (simp only [hset, hnew]; omega) | rfl | decide) | refine At.set_ne ?_ (by first | omega | (simp only [hset, hnew]; omega) | rfl | decide) | refine At.new_ne ?_)))) (hx := (show nI 0 = nI 0 from rfl)) (hj := (by decide)) (hn := (by decide)) (r := ?_)
    obtain ⟨g2, e2, r2⟩ := r1.put 0 (nI (su (dB s.2.2.2 i) 6))
    rw [← e2]
    have q2 := r2.2.1
    obtain ⟨⟨tk2, iw2, er2, et2, dp2, nm2, am2⟩, -⟩ := id r2.1
    obtain ⟨⟨tk, iw, er, et, dp, nm, am⟩, ⟨-, ⟨ft, at1, ct1⟩, -, -, -, -, -, -, -, ⟨ru, ac, no, a9, -⟩, -, -, ⟨fn, a48, n0, nb, nf, nl⟩, -, -, -, -⟩, ⟨⟨gs, as_, cs⟩, ⟨gw, aw, cw⟩, ⟨gl, al, cl⟩, ⟨g0, a0_, c0_⟩, ⟨g1, a1_, c1_⟩⟩⟩ := id r2.1
    refine tX12_digest_257  (r := ?_)
    refine tX12_digest_258  (r := ?_)
    refine tX12_digest_259  (r := ?_)
    refine tX12_digest_260 (ha := (by first | assumption | (repeat (first | assumption | exact At.set_eq2 (by first | omega | (simp only [hset, hnew]; omega) | rfl | decide) | exact At.new_eq2 _ _ (by first | omega | (simp only [hset, hnew]; omega) | rfl | decide) | refine At.set_ne ?_ (by first | omega | (simp only [hset, hnew]; omega) | rfl | decide) | refine At.new_ne ?_)))) (hv := rfl) (r := ?_)
    refine tX12_digest_263 (ha := (by first | assumption | (repeat (first | assumption | exact At.set_eq2 (by first | omega | (simp only [hset, hnew]; omega) | rfl | decide) | exact At.new_eq2 _ _ (by first | omega | (simp only [hset, hnew]; omega) | rfl | decide) | refine At.set_ne ?_ (by first | omega | (simp only [hset, hnew]; omega) | rfl | decide) | refine At.new_ne ?_)))) (hv := rfl) (r := ?_)
    refine tX12_digest_266  (r := ?_)
    refine tX12_digest_268 (ha := (by first | assumption | (repeat (first | assumption | exact At.set_eq2 (by first | omega | (simp only [hset, hnew]; omega) | rfl | decide) | exact At.new_eq2 _ _ (by first | omega | (simp only [hset, hnew]; omega) | rfl | decide) | refine At.set_ne ?_ (by first | omega | (simp only [hset, hnew]; omega) | rfl | decide) | refine At.new_ne ?_)))) (hx := rfl) (hj := (by omega)) (hn := (by decide)) (r := ?_)
    rw [cs _ hi2]
    refine tX12_digest_269 (ha := (by first | assumption | (repeat (first | assumption | exact At.set_eq2 (by first | omega | (simp only [hset, hnew]; omega) | rfl | decide) | exact At.new_eq2 _ _ (by first | omega | (simp only [hset, hnew]; omega) | rfl | decide) | refine At.set_ne ?_ (by first | omega | (simp only [hset, hnew]; omega) | rfl | decide) | refine At.new_ne ?_)))) (hx := (show nI 1 = nI 1 from rfl)) (hj := (by decide)) (hn := (by decide)) (r := ?_)
    obtain ⟨g3, e3, r3⟩ := r2.put 1 (nI (bSe s.2.2.1 i))
    rw [← e3]
    have q3 := r3.2.1
    obtain ⟨⟨tk3, iw3, er3, et3, dp3, nm3, am3⟩, -⟩ := id r3.1
    refine tX12_digest_270  (r := ?_)
    refine tX12_digest_271  (r := ?_)
    refine tX12_digest_272  (r := ?_)
    refine tX12_digest_273  (r := ?_)
    refine tX12_digest_275 (hd := (by omega)) (ha := (by first | assumption | (repeat (first | assumption | exact At.set_eq2 (by first | omega | (simp only [hset, hnew]; omega) | rfl | decide) | exact At.new_eq2 _ _ (by first | omega | (simp only [hset, hnew]; omega) | rfl | decide) | refine At.set_ne ?_ (by first | omega | (simp only [hset, hnew]; omega) | rfl | decide) | refine At.new_ne ?_)))) (call := s_firstHere (d := 10) (by decide) r3.1 hb hi2) (k := ?_)
    rintro v4 g4 ⟨rfl, c4, -, sm4⟩
    have r4 := r3.go c4 sm4 (by omega) (by omega)
    have q4 := r4.2.1
    obtain ⟨⟨tk4, iw4, er4, et4, dp4, nm4, am4⟩, -⟩ := id c4
    refine tX12_digest_278 (ha := (by first | assumption | (repeat (first | assumption | exact At.set_eq2 (by first | omega | (simp only [hset, hnew]; omega) | rfl | decide) | exact At.new_eq2 _ _ (by first | omega | (simp only [hset, hnew]; omega) | rfl | decide) | refine At.set_ne ?_ (by first | omega | (simp only [hset, hnew]; omega) | rfl | decide) | refine At.new_ne ?_)))) (hx := (show nI 2 = nI 2 from rfl)) (hj := (by decide)) (hn := (by decide)) (r := ?_)
    obtain ⟨g5, e5, r5⟩ := r4.put 2 (oI (fiN (po (rt (dF s.2.2.2)) (dB s.2.2.2 i)) 6))
    rw [← e5]
    have q5 := r5.2.1
    obtain ⟨⟨tk5, iw5, er5, et5, dp5, nm5, am5⟩, -⟩ := id r5.1
    refine tX12_digest_279  (r := ?_)
    refine tX12_digest_280  (r := ?_)
    refine tX12_digest_281  (r := ?_)
    refine tX12_digest_282  (r := ?_)
    refine tX12_digest_284 (hd := (by omega)) (ha := (by first | assumption | (repeat (first | assumption | exact At.set_eq2 (by first | omega | (simp only [hset, hnew]; omega) | rfl | decide) | exact At.new_eq2 _ _ (by first | omega | (simp only [hset, hnew]; omega) | rfl | decide) | refine At.set_ne ?_ (by first | omega | (simp only [hset, hnew]; omega) | rfl | decide) | refine At.new_ne ?_)))) (call := s_margin (d := 10) (by decide) r5.1 hb hi2) (k := ?_)
    rintro v6 g6 ⟨rfl, c6, sm6⟩
    have r6 := r5.go c6 sm6 (by omega) (by omega)
    have q6 := r6.2.1
    obtain ⟨⟨tk6, iw6, er6, et6, dp6, nm6, am6⟩, -⟩ := id c6
    refine tX12_digest_287 (ha := (by first | assumption | (repeat (first | assumption | exact At.set_eq2 (by first | omega | (simp only [hset, hnew]; omega) | rfl | decide) | exact At.new_eq2 _ _ (by first | omega | (simp only [hset, hnew]; omega) | rfl | decide) | refine At.set_ne ?_ (by first | omega | (simp only [hset, hnew]; omega) | rfl | decide) | refine At.new_ne ?_)))) (hx := (show nI 3 = nI 3 from rfl)) (hj := (by decide)) (hn := (by decide)) (r := ?_)
    obtain ⟨g7, e7, r7⟩ := r6.put 3 (nI (mar (po (rt (dF s.2.2.2)) (dB s.2.2.2 i))))
    rw [← e7]
    have q7 := r7.2.1
    obtain ⟨⟨tk7, iw7, er7, et7, dp7, nm7, am7⟩, -⟩ := id r7.1
    refine tX12_digest_288  (r := ?_)
    refine tX12_digest_289  (r := ?_)
    refine tX12_digest_290  (r := ?_)
    refine tX12_digest_291  (r := ?_)
    refine tX12_digest_293 (hd := (by omega)) (ha := (by first | assumption | (repeat (first | assumption | exact At.set_eq2 (by first | omega | (simp only [hset, hnew]; omega) | rfl | decide) | exact At.new_eq2 _ _ (by first | omega | (simp only [hset, hnew]; omega) | rfl | decide) | refine At.set_ne ?_ (by first | omega | (simp only [hset, hnew]; omega) | rfl | decide) | refine At.new_ne ?_)))) (call := s_refcount (d := 10) (by decide) r7.1 hb hi2) (k := ?_)
    rintro v8 g8 ⟨rfl, c8, -, sm8⟩
    have r8 := r7.go c8 sm8 (by omega) (by omega)
    have q8 := r8.2.1
    obtain ⟨⟨tk8, iw8, er8, et8, dp8, nm8, am8⟩, -⟩ := id c8
    refine tX12_digest_296 (ha := (by first | assumption | (repeat (first | assumption | exact At.set_eq2 (by first | omega | (simp only [hset, hnew]; omega) | rfl | decide) | exact At.new_eq2 _ _ (by first | omega | (simp only [hset, hnew]; omega) | rfl | decide) | refine At.set_ne ?_ (by first | omega | (simp only [hset, hnew]; omega) | rfl | decide) | refine At.new_ne ?_)))) (hx := (show nI 4 = nI 4 from rfl)) (hj := (by decide)) (hn := (by decide)) (r := ?_)
    obtain ⟨g9, e9, r9⟩ := r8.put 4 (nI (emp (po (rt (dF s.2.2.2)) (dB s.2.2.2 i)) (su (dB s.2.2.2 i) 6) (bSe s.2.2.1 i) (bWy s.2.2.1 i)))
    rw [← e9]
    have q9 := r9.2.1
    obtain ⟨⟨tk9, iw9, er9, et9, dp9, nm9, am9⟩, -⟩ := id r9.1
    refine tX12_digest_297  (r := ?_)
    refine tX12_digest_298  (r := ?_)
    refine tX12_digest_299  (r := ?_)
    refine tX12_digest_300  (r := ?_)
    refine tX12_digest_302 (hd := (by omega)) (ha := (by first | assumption | (repeat (first | assumption | exact At.set_eq2 (by first | omega | (simp only [hset, hnew]; omega) | rfl | decide) | exact At.new_eq2 _ _ (by first | omega | (simp only [hset, hnew]; omega) | rfl | decide) | refine At.set_ne ?_ (by first | omega | (simp only [hset, hnew]; omega) | rfl | decide) | refine At.new_ne ?_)))) (call := s_ifShaken (d := 10) (by decide) r9.1 hb hi2) (k := ?_)
    rintro v10 g10 ⟨rfl, c10, sm10⟩
    have r10 := r9.go c10 sm10 (by omega) (by omega)
    have q10 := r10.2.1
    obtain ⟨⟨tk10, iw10, er10, et10, dp10, nm10, am10⟩, -⟩ := id c10
    refine tX12_digest_305 (ha := (by first | assumption | (repeat (first | assumption | exact At.set_eq2 (by first | omega | (simp only [hset, hnew]; omega) | rfl | decide) | exact At.new_eq2 _ _ (by first | omega | (simp only [hset, hnew]; omega) | rfl | decide) | refine At.set_ne ?_ (by first | omega | (simp only [hset, hnew]; omega) | rfl | decide) | refine At.new_ne ?_)))) (hx := (show nI 5 = nI 5 from rfl)) (hj := (by decide)) (hn := (by decide)) (r := ?_)
    obtain ⟨g11, e11, r11⟩ := r10.put 5 (oI (fiN (po (rt (dF (jrB s.2.2.2 i (stB (dB s.2.2.2 i) (bLa s.2.2.1))))) (dB (jrB s.2.2.2 i (stB (dB s.2.2.2 i) (bLa s.2.2.1))) i)) 6))
    rw [← e11]
    have q11 := r11.2.1
    obtain ⟨⟨tk11, iw11, er11, et11, dp11, nm11, am11⟩, -⟩ := id r11.1
    refine tX12_digest_306  (r := ?_)
    refine tX12_digest_308  (r := ?_)
    refine tX12_digest_310  (r := ?_)
    refine tX12_digest_312  (r := ?_)
    refine tX12_digest_314 (ha := (by first | assumption | (repeat (first | assumption | exact At.set_eq2 (by first | omega | (simp only [hset, hnew]; omega) | rfl | decide) | exact At.new_eq2 _ _ (by first | omega | (simp only [hset, hnew]; omega) | rfl | decide) | refine At.set_ne ?_ (by first | omega | (simp only [hset, hnew]; omega) | rfl | decide) | refine At.new_ne ?_)))) (r := ?_)
    refine tX12_digest_315  (r := ?_)
    refine tX12_digest_317  (r := ?_)
    refine tX12_digest_318  (r := ?_)
    refine s_dg3 q11 o1 rfl (fun y oy => ?_) 6 0 _ (by omega) (by omega) o9
    have ev : dgR (upd (upd (upd (upd (upd (upd (fun _ => 0) 0 (nI (su (dB s.2.2.2 i) 6))) 1 (nI (bSe s.2.2.1 i))) 2 (oI (fiN (po (rt (dF s.2.2.2)) (dB s.2.2.2 i)) 6))) 3 (nI (mar (po (rt (dF s.2.2.2)) (dB s.2.2.2 i))))) 4 (nI (emp (po (rt (dF s.2.2.2)) (dB s.2.2.2 i)) (su (dB s.2.2.2 i) 6) (bSe s.2.2.1 i) (bWy s.2.2.1 i)))) 5 (oI (fiN (po (rt (dF (jrB s.2.2.2 i (stB (dB s.2.2.2 i) (bLa s.2.2.1))))) (dB (jrB s.2.2.2 i (stB (dB s.2.2.2 i) (bLa s.2.2.1))) i)) 6))) (dgJs s d0 i) 6 = dgJa s (dgJs s d0 i) i 0 := rfl
    refine tX12_digest_350 (r := ?_)
    refine tX12_digest_351 (r := ?_)
    rw [ev]
    refine s_mgk hd hb o1 rfl hi2 (fun h12 c12 ch12 => ?_) (bLa s.2.2.1) 0 g11 (by omega) (by omega) r11.1 (Ch.rf _ _ _ _ _)
    refine tX12_digest_415 (r := ?_)
    rw [nI_add]
    refine tX12_digest_418 (r := ?_)
    exact ih (i + 1) h12 _ _ _ _ _ (by omega) (by omega) c12 ((r11.2.2.1.trans ch12).sub (Nat.le_refl _) (Nat.le_refl _) (by omega) (by omega)) oy

end DJ
