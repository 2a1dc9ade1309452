/-! the digest of the reference: lids -/
section DM
variable {G : GT} {d : Nat} {h0 h : AH} {s : ST} {P : OC → AH → Prop} {x1 x5 x6 x7 x8 x9 : Option Value}

set_option maxHeartbeats 4000000 in
set_option maxRecDepth 100000 in
theorem s_mgd (hd : 11 ≤ d) (hb : BDok s.2.2.1 s.2.2.2) {th : Int32} (o1 : ok1 x1 = true) {d0 : Int64} (kk : ∀ h, MoT h 216 th s → Ch h0 h 216 269 0 0 → RQ G mX12_digest d 488 [some (.ref 216), x1, some (.long (dgDs s d0 (bLi s.2.2.1))), none, some (.int (nI (bLi s.2.2.1))), x5, x6, x7, x8, x9] [] h P) : ∀ (n i : Nat) (h : AH), bLi s.2.2.1 ≤ i + n → i ≤ bLi s.2.2.1 → MoT h 216 th s → Ch h0 h 216 269 0 0 → RQ G mX12_digest d 424 [some (.ref 216), x1, some (.long (dgDs s d0 i)), none, some (.int (nI i)), x5, x6, x7, x8, x9] [] h (P) := by
  have ex : ∀ (i : Nat) (h : AH), i = bLi s.2.2.1 → MoT h 216 th s → Ch h0 h 216 269 0 0 → RQ G mX12_digest d 424 [some (.ref 216), x1, some (.long (dgDs s d0 i)), none, some (.int (nI i)), x5, x6, x7, x8, x9] [] h (P) := by
    intro i h hi c2 ch2
    subst hi
    obtain ⟨⟨tk, iw, er, et, dp, nm, am⟩, ⟨-, ⟨ft, at1, ct1⟩, -, -, -, -, -, -, -, ⟨ru, ac, no, a9, -⟩, -, -, ⟨fn, a48, n0, nb, nf, nl⟩, -, -, -, -⟩, ⟨⟨gs, as_, cs⟩, ⟨gw, aw, cw⟩, ⟨gl, al, cl⟩, ⟨g0, a0_, c0_⟩, ⟨g1, a1_, c1_⟩⟩⟩ := id c2
    have l1 := hb.1
    have l2 := hb.2.1
    have l3 := hb.2.2.1
    refine tX12_digest_424  (r := ?_)
    refine tX12_digest_426  (r := ?_)
    refine tX12_digest_427 (ha := (by first | assumption | (repeat (first | assumption | exact At.set_eq2 (by first | omega | (simp only [hset, hnew]; omega) | rfl | decide) | exact At.new_eq2 _ _ (by first | omega | (simp only [hset, hnew]; omega) | rfl | decide) | refine At.set_ne ?_ (by first | omega | (simp only [hset, hnew]; omega) | rfl | decide) | refine At.new_ne ?_)))) (hv := rfl) (r := ?_)
    refine tX12_digest_430 (ha := (by first | assumption | (repeat (first | assumption | exact At.set_eq2 (by first | omega | (simp only [hset, hnew]; omega) | rfl | decide) | exact At.new_eq2 _ _ (by first | omega | (simp only [hset, hnew]; omega) | rfl | decide) | refine At.set_ne ?_ (by first | omega | (simp only [hset, hnew]; omega) | rfl | decide) | refine At.new_ne ?_)))) (hv := rfl) (r := ?_)
    refine tX12_digest_433  (kf := fun c_ => by exfalso; exact c_ ((nI_leI (by omega) (by omega)).mpr (Nat.le_refl _))) (kt := fun _ => ?_)
    exact kk h c2 ch2
  intro n
  induction n with
  | zero => exact fun i h h1_ h2_ => ex i h (by omega)
  | succ n ih =>
    intro i h h1_ h2_ c2 ch2
    by_cases hi : i = bLi s.2.2.1
    · exact ex i h hi c2 ch2
    have hi2 : i < bLi s.2.2.1 := by omega
    obtain ⟨⟨tk, iw, er, et, dp, nm, am⟩, ⟨-, ⟨ft, at1, ct1⟩, -, -, -, -, -, -, -, ⟨ru, ac, no, a9, -⟩, -, -, ⟨fn, a48, n0, nb, nf, nl⟩, -, -, -, -⟩, ⟨⟨gs, as_, cs⟩, ⟨gw, aw, cw⟩, ⟨gl, al, cl⟩, ⟨g0, a0_, c0_⟩, ⟨g1, a1_, c1_⟩⟩⟩ := id c2
    have l1 := hb.1
    have l2 := hb.2.1
    have l3 := hb.2.2.1
    refine tX12_digest_424  (r := ?_)
    refine tX12_digest_426  (r := ?_)
    refine tX12_digest_427 (ha := (by first | assumption | (repeat (first | assumption | exact At.set_eq2 (by first | omega | (simp only [hset, hnew]; omega) | rfl | decide) | exact At.new_eq2 _ _ (by first | omega | (simp only [hset, hnew]; omega) | rfl | decide) | refine At.set_ne ?_ (by first | omega | (simp only [hset, hnew]; omega) | rfl | decide) | refine At.new_ne ?_)))) (hv := rfl) (r := ?_)
    refine tX12_digest_430 (ha := (by first | assumption | (repeat (first | assumption | exact At.set_eq2 (by first | omega | (simp only [hset, hnew]; omega) | rfl | decide) | exact At.new_eq2 _ _ (by first | omega | (simp only [hset, hnew]; omega) | rfl | decide) | refine At.set_ne ?_ (by first | omega | (simp only [hset, hnew]; omega) | rfl | decide) | refine At.new_ne ?_)))) (hv := rfl) (r := ?_)
    refine tX12_digest_433  (kt := fun c_ => by exfalso; exact absurd ((nI_leI (by omega) (by omega)).mp c_) (by omega)) (kf := fun _ => ?_)
    refine tX12_digest_436  (r := ?_)
    refine tX12_digest_437  (r := ?_)
    refine tX12_digest_440  (r := ?_)
    refine tX12_digest_441  (r := ?_)
    refine tX12_digest_442 (ha := (by first | assumption | (repeat (first | assumption | exact At.set_eq2 (by first | omega | (simp only [hset, hnew]; omega) | rfl | decide) | exact At.new_eq2 _ _ (by first | omega | (simp only [hset, hnew]; omega) | rfl | decide) | refine At.set_ne ?_ (by first | omega | (simp only [hset, hnew]; omega) | rfl | decide) | refine At.new_ne ?_)))) (hv := rfl) (r := ?_)
    refine tX12_digest_445  (r := ?_)
    refine tX12_digest_447  (r := ?_)
    refine tX12_digest_449  (r := ?_)
    rw [nI_add]
    refine tX12_digest_450 (ha := (by first | assumption | (repeat (first | assumption | exact At.set_eq2 (by first | omega | (simp only [hset, hnew]; omega) | rfl | decide) | exact At.new_eq2 _ _ (by first | omega | (simp only [hset, hnew]; omega) | rfl | decide) | refine At.set_ne ?_ (by first | omega | (simp only [hset, hnew]; omega) | rfl | decide) | refine At.new_ne ?_)))) (hx := rfl) (hj := (by omega)) (hn := (by decide)) (r := ?_)
    rw [nl _ hi2]
    refine tX12_digest_451  (r := ?_)
    refine tX12_digest_452  (r := ?_)
    refine tX12_digest_453  (r := ?_)
    refine tX12_digest_456  (r := ?_)
    refine tX12_digest_457  (r := ?_)
    refine tX12_digest_458 (ha := (by first | assumption | (repeat (first | assumption | exact At.set_eq2 (by first | omega | (simp only [hset, hnew]; omega) | rfl | decide) | exact At.new_eq2 _ _ (by first | omega | (simp only [hset, hnew]; omega) | rfl | decide) | refine At.set_ne ?_ (by first | omega | (simp only [hset, hnew]; omega) | rfl | decide) | refine At.new_ne ?_)))) (hv := rfl) (r := ?_)
    refine tX12_digest_461 (ha := (by first | assumption | (repeat (first | assumption | exact At.set_eq2 (by first | omega | (simp only [hset, hnew]; omega) | rfl | decide) | exact At.new_eq2 _ _ (by first | omega | (simp only [hset, hnew]; omega) | rfl | decide) | refine At.set_ne ?_ (by first | omega | (simp only [hset, hnew]; omega) | rfl | decide) | refine At.new_ne ?_)))) (hv := rfl) (r := ?_)
    refine tX12_digest_464  (r := ?_)
    refine tX12_digest_466 (ha := (by first | assumption | (repeat (first | assumption | exact At.set_eq2 (by first | omega | (simp only [hset, hnew]; omega) | rfl | decide) | exact At.new_eq2 _ _ (by first | omega | (simp only [hset, hnew]; omega) | rfl | decide) | refine At.set_ne ?_ (by first | omega | (simp only [hset, hnew]; omega) | rfl | decide) | refine At.new_ne ?_)))) (hx := rfl) (hj := (by omega)) (hn := (by decide)) (r := ?_)
    rw [cl _ hi2]
    refine tX12_digest_467  (r := ?_)
    refine tX12_digest_468  (r := ?_)
    refine tX12_digest_469  (r := ?_)
    refine tX12_digest_472  (r := ?_)
    refine tX12_digest_473  (r := ?_)
    refine tX12_digest_474  (r := ?_)
    refine tX12_digest_476 (hd := (by omega)) (ha := (by first | assumption | (repeat (first | assumption | exact At.set_eq2 (by first | omega | (simp only [hset, hnew]; omega) | rfl | decide) | exact At.new_eq2 _ _ (by first | omega | (simp only [hset, hnew]; omega) | rfl | decide) | refine At.set_ne ?_ (by first | omega | (simp only [hset, hnew]; omega) | rfl | decide) | refine At.new_ne ?_)))) (call := s_ownRule (d := 9) (by decide) c2 hb hi2) (k := ?_)
    rintro v h1 ⟨rfl, c3, sv3⟩
    refine tX12_digest_479  (r := ?_)
    refine tX12_digest_480  (r := ?_)
    refine tX12_digest_481 (ho := o1) (r := ?_)
    refine tX12_digest_482  (r := ?_)
    rw [nI_add]
    refine tX12_digest_485 (r := ?_)
    exact ih (i + 1) h1 (by omega) (by omega) c3 (ch2.trans sv3.ch)

set_option maxHeartbeats 4000000 in
set_option maxRecDepth 100000 in
theorem s_mgk (hd : 11 ≤ d) (hb : BDok s.2.2.1 s.2.2.2) {th : Int32} (o1 : ok1 x1 = true) (o5 : ok1 x5 = true) {j : Nat} (hj : j < bJa s.2.2.1) {d0 : Int64} (kk : ∀ h, MoT h 216 th s → Ch h0 h 216 269 0 0 → RQ G mX12_digest d 415 [some (.ref 216), x1, some (.long (dgJa s d0 j (bLa s.2.2.1))), none, some (.int (nI j)), x5, some (.int (nI (bLa s.2.2.1))), x7, x8, x9] [] h P) : ∀ (n i : Nat) (h : AH), bLa s.2.2.1 ≤ i + n → i ≤ bLa s.2.2.1 → MoT h 216 th s → Ch h0 h 216 269 0 0 → RQ G mX12_digest d 353 [some (.ref 216), x1, some (.long (dgJa s d0 j i)), none, some (.int (nI j)), x5, some (.int (nI i)), x7, x8, x9] [] h (P) := by
  have ex : ∀ (i : Nat) (h : AH), i = bLa s.2.2.1 → MoT h 216 th s → Ch h0 h 216 269 0 0 → RQ G mX12_digest d 353 [some (.ref 216), x1, some (.long (dgJa s d0 j i)), none, some (.int (nI j)), x5, some (.int (nI i)), x7, x8, x9] [] h (P) := by
    intro i h hi c2 ch2
    subst hi
    obtain ⟨⟨tk, iw, er, et, dp, nm, am⟩, ⟨-, ⟨ft, at1, ct1⟩, -, -, -, -, -, -, -, ⟨ru, ac, no, a9, -⟩, -, -, ⟨fn, a48, n0, nb, nf, nl⟩, -, -, -, -⟩, ⟨⟨gs, as_, cs⟩, ⟨gw, aw, cw⟩, ⟨gl, al, cl⟩, ⟨g0, a0_, c0_⟩, ⟨g1, a1_, c1_⟩⟩⟩ := id c2
    have l1 := hb.1
    have l2 := hb.2.1
    have l3 := hb.2.2.1
    refine tX12_digest_353  (r := ?_)
    refine tX12_digest_355  (r := ?_)
    refine tX12_digest_356 (ha := (by first | assumption | (repeat (first | assumption | exact At.set_eq2 (by first | omega | (simp only [hset, hnew]; omega) | rfl | decide) | exact At.new_eq2 _ _ (by first | omega | (simp only [hset, hnew]; omega) | rfl | decide) | refine At.set_ne ?_ (by first | omega | (simp only [hset, hnew]; omega) | rfl | decide) | refine At.new_ne ?_)))) (hv := rfl) (r := ?_)
    refine tX12_digest_359 (ha := (by first | assumption | (repeat (first | assumption | exact At.set_eq2 (by first | omega | (simp only [hset, hnew]; omega) | rfl | decide) | exact At.new_eq2 _ _ (by first | omega | (simp only [hset, hnew]; omega) | rfl | decide) | refine At.set_ne ?_ (by first | omega | (simp only [hset, hnew]; omega) | rfl | decide) | refine At.new_ne ?_)))) (hv := rfl) (r := ?_)
    refine tX12_digest_362  (kf := fun c_ => by exfalso; exact c_ ((nI_leI (by omega) (by omega)).mpr (Nat.le_refl _))) (kt := fun _ => ?_)
    exact kk h c2 ch2
  intro n
  induction n with
  | zero => exact fun i h h1_ h2_ => ex i h (by omega)
  | succ n ih =>
    intro i h h1_ h2_ c2 ch2
    by_cases hi : i = bLa s.2.2.1
    · exact ex i h hi c2 ch2
    have hi2 : i < bLa s.2.2.1 := by omega
    obtain ⟨⟨tk, iw, er, et, dp, nm, am⟩, ⟨-, ⟨ft, at1, ct1⟩, -, -, -, -, -, -, -, ⟨ru, ac, no, a9, -⟩, -, -, ⟨fn, a48, n0, nb, nf, nl⟩, -, -, -, -⟩, ⟨⟨gs, as_, cs⟩, ⟨gw, aw, cw⟩, ⟨gl, al, cl⟩, ⟨g0, a0_, c0_⟩, ⟨g1, a1_, c1_⟩⟩⟩ := id c2
    have l1 := hb.1
    have l2 := hb.2.1
    have l3 := hb.2.2.1
    refine tX12_digest_353  (r := ?_)
    refine tX12_digest_355  (r := ?_)
    refine tX12_digest_356 (ha := (by first | assumption | (repeat (first | assumption | exact At.set_eq2 (by first | omega | (simp only [hset, hnew]; omega) | rfl | decide) | exact At.new_eq2 _ _ (by first | omega | (simp only [hset, hnew]; omega) | rfl | decide) | refine At.set_ne ?_ (by first | omega | (simp only [hset, hnew]; omega) | rfl | decide) | refine At.new_ne ?_)))) (hv := rfl) (r := ?_)
    refine tX12_digest_359 (ha := (by first | assumption | (repeat (first | assumption | exact At.set_eq2 (by first | omega | (simp only [hset, hnew]; omega) | rfl | decide) | exact At.new_eq2 _ _ (by first | omega | (simp only [hset, hnew]; omega) | rfl | decide) | refine At.set_ne ?_ (by first | omega | (simp only [hset, hnew]; omega) | rfl | decide) | refine At.new_ne ?_)))) (hv := rfl) (r := ?_)
    refine tX12_digest_362  (kt := fun c_ => by exfalso; exact absurd ((nI_leI (by omega) (by omega)).mp c_) (by omega)) (kf := fun _ => ?_)
    refine tX12_digest_365  (r := ?_)
    refine tX12_digest_366  (r := ?_)
    refine tX12_digest_369  (r := ?_)
    refine tX12_digest_370  (r := ?_)
    refine tX12_digest_371  (r := ?_)
    refine tX12_digest_373  (r := ?_)
    refine tX12_digest_375 (hd := (by omega)) (ha := (by first | assumption | (repeat (first | assumption | exact At.set_eq2 (by first | omega | (simp only [hset, hnew]; omega) | rfl | decide) | exact At.new_eq2 _ _ (by first | omega | (simp only [hset, hnew]; omega) | rfl | decide) | refine At.set_ne ?_ (by first | omega | (simp only [hset, hnew]; omega) | rfl | decide) | refine At.new_ne ?_)))) (call := s_held (d := 10) c2 hb hj hi2) (k := ?_)
    rintro v h_ ⟨rfl, e_⟩
    rw [e_]
    refine tX12_digest_378  (r := ?_)
    refine tX12_digest_379  (r := ?_)
    refine tX12_digest_380  (r := ?_)
    refine tX12_digest_383  (r := ?_)
    refine tX12_digest_384  (r := ?_)
    refine tX12_digest_385  (r := ?_)
    refine tX12_digest_387  (r := ?_)
    refine tX12_digest_389 (hd := (by omega)) (ha := (by first | assumption | (repeat (first | assumption | exact At.set_eq2 (by first | omega | (simp only [hset, hnew]; omega) | rfl | decide) | exact At.new_eq2 _ _ (by first | omega | (simp only [hset, hnew]; omega) | rfl | decide) | refine At.set_ne ?_ (by first | omega | (simp only [hset, hnew]; omega) | rfl | decide) | refine At.new_ne ?_)))) (call := s_seatsWonBy (d := 10) (by decide) c2 hb hj hi2) (k := ?_)
    rintro v3 h3 ⟨rfl, c3, sm3⟩
    have ch3 := ch2.trans (sm3.ch (lo2 := 216) (hi2 := 269) (ck := 0) (sk := 0) (by omega) (by omega))
    obtain ⟨⟨tk3, iw3, er3, et3, dp3, nm3, am3⟩, -⟩ := id c3
    refine tX12_digest_392  (r := ?_)
    refine tX12_digest_393  (r := ?_)
    refine tX12_digest_394  (r := ?_)
    refine tX12_digest_397  (r := ?_)
    refine tX12_digest_398  (r := ?_)
    refine tX12_digest_399  (r := ?_)
    refine tX12_digest_401  (r := ?_)
    refine tX12_digest_403 (hd := (by omega)) (ha := (by first | assumption | (repeat (first | assumption | exact At.set_eq2 (by first | omega | (simp only [hset, hnew]; omega) | rfl | decide) | exact At.new_eq2 _ _ (by first | omega | (simp only [hset, hnew]; omega) | rfl | decide) | refine At.set_ne ?_ (by first | omega | (simp only [hset, hnew]; omega) | rfl | decide) | refine At.new_ne ?_)))) (call := s_toWin (d := 10) (by decide) c3 hb hj hi2) (k := ?_)
    rintro v4 h4 ⟨rfl, c4, sm4⟩
    have ch4 := ch3.trans (sm4.ch (lo2 := 216) (hi2 := 269) (ck := 0) (sk := 0) (by omega) (by omega))
    obtain ⟨⟨tk4, iw4, er4, et4, dp4, nm4, am4⟩, -⟩ := id c4
    refine tX12_digest_406  (r := ?_)
    refine tX12_digest_407  (r := ?_)
    refine tX12_digest_408 (ho := o1) (r := ?_)
    refine tX12_digest_409 (ho := o5) (r := ?_)
    rw [nI_add]
    refine tX12_digest_412 (r := ?_)
    exact ih (i + 1) h4 (by omega) (by omega) c4 ch4

end DM
