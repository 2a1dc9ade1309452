/-! the reference acts, and lets days go by -/
section DOI
variable {G : GT} {d : Nat} {s : ST} {h0 h : AH}

set_option maxHeartbeats 4000000 in
set_option maxRecDepth 100000 in
theorem s_di9 (hd : 8 ≤ d) {th : Int32} (c2 : MoT h 216 th s) (hb : BDok s.2.2.1 s.2.2.2) {i : Nat} (hi : i < bLi s.2.2.1) {k : Nat} (hk : k < nAn s.2.2.1) {v : Nat → Int32} (av : At h (216 + 47) (.inl (0, 800, .inl v))) (ha : aDo s.2.2.1 k = 9) (hn : aWh s.2.2.1 k < bLa s.2.2.1) (hft : aSf s.2.2.1 k ≤ aSu s.2.2.1 k) (ht : aSu s.2.2.1 k < nNo s.2.2.1) : RQ G mX12_doIt d 0 [some (.ref 216), some (.int (nI i)), some (.int (nI k)), none, none] [] h (Rv fun h1 => MoT h1 216 th (s.1, s.2.1, s.2.2.1, doV s.2.2.1 i 9 (aWh s.2.2.1 k) ((evN s.2.2.1 s.2.2.2 i (aSf s.2.2.1 k) (aSu s.2.2.1 k + 1 - aSf s.2.2.1 k) v) (aSu s.2.2.1 k)) s.2.2.2) ∧ At h1 (216 + 47) (.inl (0, 800, .inl (evN s.2.2.1 s.2.2.2 i (aSf s.2.2.1 k) (aSu s.2.2.1 k + 1 - aSf s.2.2.1 k) v))) ∧ Sv h h1) := by
  obtain ⟨⟨tk, iw, er, et, dp, nm, am⟩, ⟨-, ⟨ft, at1, ct1⟩, -, -, -, -, -, -, -, ⟨ru, ac, no, a9, -, nor⟩, -, -, ⟨fn, a48, n0, nb, nf, nl⟩, -, -, -, -⟩, ⟨⟨gs, as_, cs⟩, ⟨gw, aw, cw⟩, ⟨gl, al, cl⟩, ⟨g0, a0_, c0_⟩, ⟨g1, a1_, c1_⟩⟩⟩ := id c2
  have l1 := hb.1
  have l2 := hb.2.1
  have l3 := hb.2.2.1
  obtain ⟨b1_, b2_⟩ := hb.2.2.2.2.2.2.2.1 i hi
  obtain ⟨-, -, -, -, ⟨o1, o2, o3⟩, ⟨m1_, m2_, m3_⟩, ⟨p1, p2, p3⟩, ⟨q1, q2, q3⟩, -⟩ := nor
  have h60 := hb.bs.1.2.2.2.1
  have rm := c2.room
  refine tX12_doIt_0  (r := ?_)
  refine tX12_doIt_1 (ha := (by first | assumption | (repeat (first | assumption | exact At.set_eq2 (by first | omega | (simp only [hset, hnew]; omega) | rfl | decide) | exact At.new_eq2 _ _ (by first | omega | (simp only [hset, hnew]; omega) | rfl | decide) | refine At.set_ne ?_ (by first | omega | (simp only [hset, hnew]; omega) | rfl | decide) | refine At.new_ne ?_)))) (hv := rfl) (r := ?_)
  refine tX12_doIt_4 (ha := (by first | assumption | (repeat (first | assumption | exact At.set_eq2 (by first | omega | (simp only [hset, hnew]; omega) | rfl | decide) | exact At.new_eq2 _ _ (by first | omega | (simp only [hset, hnew]; omega) | rfl | decide) | refine At.set_ne ?_ (by first | omega | (simp only [hset, hnew]; omega) | rfl | decide) | refine At.new_ne ?_)))) (hv := rfl) (r := ?_)
  refine tX12_doIt_7  (r := ?_)
  refine tX12_doIt_8 (ha := (by first | assumption | (repeat (first | assumption | exact At.set_eq2 (by first | omega | (simp only [hset, hnew]; omega) | rfl | decide) | exact At.new_eq2 _ _ (by first | omega | (simp only [hset, hnew]; omega) | rfl | decide) | refine At.set_ne ?_ (by first | omega | (simp only [hset, hnew]; omega) | rfl | decide) | refine At.new_ne ?_)))) (hx := rfl) (hj := (by omega)) (hn := (by decide)) (r := ?_)
  rw [cl _ hi]
  refine tX12_doIt_9  (r := ?_)
  refine tX12_doIt_10  (r := ?_)
  refine tX12_doIt_11 (ha := (by first | assumption | (repeat (first | assumption | exact At.set_eq2 (by first | omega | (simp only [hset, hnew]; omega) | rfl | decide) | exact At.new_eq2 _ _ (by first | omega | (simp only [hset, hnew]; omega) | rfl | decide) | refine At.set_ne ?_ (by first | omega | (simp only [hset, hnew]; omega) | rfl | decide) | refine At.new_ne ?_)))) (hv := rfl) (r := ?_)
  refine tX12_doIt_14 (ha := (by first | assumption | (repeat (first | assumption | exact At.set_eq2 (by first | omega | (simp only [hset, hnew]; omega) | rfl | decide) | exact At.new_eq2 _ _ (by first | omega | (simp only [hset, hnew]; omega) | rfl | decide) | refine At.set_ne ?_ (by first | omega | (simp only [hset, hnew]; omega) | rfl | decide) | refine At.new_ne ?_)))) (hv := rfl) (r := ?_)
  refine tX12_doIt_17  (r := ?_)
  refine tX12_doIt_18 (ha := (by first | assumption | (repeat (first | assumption | exact At.set_eq2 (by first | omega | (simp only [hset, hnew]; omega) | rfl | decide) | exact At.new_eq2 _ _ (by first | omega | (simp only [hset, hnew]; omega) | rfl | decide) | refine At.set_ne ?_ (by first | omega | (simp only [hset, hnew]; omega) | rfl | decide) | refine At.new_ne ?_)))) (hx := rfl) (hj := (by omega)) (hn := (by decide)) (r := ?_)
  rw [m3_ _ hk (by omega)]
  refine tX12_doIt_19  (r := ?_)
  refine tX12_doIt_21  (r := ?_)
  refine tX12_doIt_22 (ha := (by first | assumption | (repeat (first | assumption | exact At.set_eq2 (by first | omega | (simp only [hset, hnew]; omega) | rfl | decide) | exact At.new_eq2 _ _ (by first | omega | (simp only [hset, hnew]; omega) | rfl | decide) | refine At.set_ne ?_ (by first | omega | (simp only [hset, hnew]; omega) | rfl | decide) | refine At.new_ne ?_)))) (hv := rfl) (r := ?_)
  refine tX12_doIt_25 (ha := (by first | assumption | (repeat (first | assumption | exact At.set_eq2 (by first | omega | (simp only [hset, hnew]; omega) | rfl | decide) | exact At.new_eq2 _ _ (by first | omega | (simp only [hset, hnew]; omega) | rfl | decide) | refine At.set_ne ?_ (by first | omega | (simp only [hset, hnew]; omega) | rfl | decide) | refine At.new_ne ?_)))) (hv := rfl) (r := ?_)
  refine tX12_doIt_28  (r := ?_)
  refine tX12_doIt_29 (ha := (by first | assumption | (repeat (first | assumption | exact At.set_eq2 (by first | omega | (simp only [hset, hnew]; omega) | rfl | decide) | exact At.new_eq2 _ _ (by first | omega | (simp only [hset, hnew]; omega) | rfl | decide) | refine At.set_ne ?_ (by first | omega | (simp only [hset, hnew]; omega) | rfl | decide) | refine At.new_ne ?_)))) (hx := rfl) (hj := (by omega)) (hn := (by decide)) (r := ?_)
  rw [o3 _ hk, ha]
  refine tX12_doIt_30 (n := 9) (hn := (by decide)) (r := ?_)
  show RQ _ _ _ 64 _ _ _ _
  refine tX12_doIt_64  (r := ?_)
  refine tX12_doIt_65  (r := ?_)
  refine tX12_doIt_66 (ha := (by first | assumption | (repeat (first | assumption | exact At.set_eq2 (by first | omega | (simp only [hset, hnew]; omega) | rfl | decide) | exact At.new_eq2 _ _ (by first | omega | (simp only [hset, hnew]; omega) | rfl | decide) | refine At.set_ne ?_ (by first | omega | (simp only [hset, hnew]; omega) | rfl | decide) | refine At.new_ne ?_)))) (hv := rfl) (r := ?_)
  refine tX12_doIt_69  (r := ?_)
  refine tX12_doIt_71  (r := ?_)
  refine tX12_doIt_72  (r := ?_)
  rw [nI_add]
  refine tX12_doIt_73 (ha := (by first | assumption | (repeat (first | assumption | exact At.set_eq2 (by first | omega | (simp only [hset, hnew]; omega) | rfl | decide) | exact At.new_eq2 _ _ (by first | omega | (simp only [hset, hnew]; omega) | rfl | decide) | refine At.set_ne ?_ (by first | omega | (simp only [hset, hnew]; omega) | rfl | decide) | refine At.new_ne ?_)))) (hx := rfl) (hj := (by omega)) (hn := (by decide)) (r := ?_)
  rw [nl _ hi]
  refine tX12_doIt_74  (r := ?_)
  refine tX12_doIt_76  (r := ?_)
  refine tX12_doIt_77  (r := ?_)
  refine tX12_doIt_78  (r := ?_)
  refine tX12_doIt_79  (r := ?_)
  refine tX12_doIt_80 (ha := (by first | assumption | (repeat (first | assumption | exact At.set_eq2 (by first | omega | (simp only [hset, hnew]; omega) | rfl | decide) | exact At.new_eq2 _ _ (by first | omega | (simp only [hset, hnew]; omega) | rfl | decide) | refine At.set_ne ?_ (by first | omega | (simp only [hset, hnew]; omega) | rfl | decide) | refine At.new_ne ?_)))) (hv := rfl) (r := ?_)
  refine tX12_doIt_83 (ha := (by first | assumption | (repeat (first | assumption | exact At.set_eq2 (by first | omega | (simp only [hset, hnew]; omega) | rfl | decide) | exact At.new_eq2 _ _ (by first | omega | (simp only [hset, hnew]; omega) | rfl | decide) | refine At.set_ne ?_ (by first | omega | (simp only [hset, hnew]; omega) | rfl | decide) | refine At.new_ne ?_)))) (hv := rfl) (r := ?_)
  refine tX12_doIt_86  (r := ?_)
  refine tX12_doIt_87 (ha := (by first | assumption | (repeat (first | assumption | exact At.set_eq2 (by first | omega | (simp only [hset, hnew]; omega) | rfl | decide) | exact At.new_eq2 _ _ (by first | omega | (simp only [hset, hnew]; omega) | rfl | decide) | refine At.set_ne ?_ (by first | omega | (simp only [hset, hnew]; omega) | rfl | decide) | refine At.new_ne ?_)))) (hx := rfl) (hj := (by omega)) (hn := (by decide)) (r := ?_)
  rw [p3 _ hk ha]
  refine tX12_doIt_88  (r := ?_)
  refine tX12_doIt_89 (ha := (by first | assumption | (repeat (first | assumption | exact At.set_eq2 (by first | omega | (simp only [hset, hnew]; omega) | rfl | decide) | exact At.new_eq2 _ _ (by first | omega | (simp only [hset, hnew]; omega) | rfl | decide) | refine At.set_ne ?_ (by first | omega | (simp only [hset, hnew]; omega) | rfl | decide) | refine At.new_ne ?_)))) (hv := rfl) (r := ?_)
  refine tX12_doIt_92 (ha := (by first | assumption | (repeat (first | assumption | exact At.set_eq2 (by first | omega | (simp only [hset, hnew]; omega) | rfl | decide) | exact At.new_eq2 _ _ (by first | omega | (simp only [hset, hnew]; omega) | rfl | decide) | refine At.set_ne ?_ (by first | omega | (simp only [hset, hnew]; omega) | rfl | decide) | refine At.new_ne ?_)))) (hv := rfl) (r := ?_)
  refine tX12_doIt_95  (r := ?_)
  refine tX12_doIt_96 (ha := (by first | assumption | (repeat (first | assumption | exact At.set_eq2 (by first | omega | (simp only [hset, hnew]; omega) | rfl | decide) | exact At.new_eq2 _ _ (by first | omega | (simp only [hset, hnew]; omega) | rfl | decide) | refine At.set_ne ?_ (by first | omega | (simp only [hset, hnew]; omega) | rfl | decide) | refine At.new_ne ?_)))) (hx := rfl) (hj := (by omega)) (hn := (by decide)) (r := ?_)
  rw [q3 _ hk ha]
  refine tX12_doIt_97 (hd := (by omega)) (ha := (by first | assumption | (repeat (first | assumption | exact At.set_eq2 (by first | omega | (simp only [hset, hnew]; omega) | rfl | decide) | exact At.new_eq2 _ _ (by first | omega | (simp only [hset, hnew]; omega) | rfl | decide) | refine At.set_ne ?_ (by first | omega | (simp only [hset, hnew]; omega) | rfl | decide) | refine At.new_ne ?_)))) (call := s_rkAll (d := 7) (by decide) hb hi hft ht c2 av) (k := ?_)
  rintro x h1 ⟨rfl, c3, av3, sv3⟩
  obtain ⟨⟨tk3, iw3, er3, et3, dp3, nm3, am3⟩, -⟩ := id c3
  refine tX12_doIt_100 (hd := (by omega)) (ha := (by first | assumption | (repeat (first | assumption | exact At.set_eq2 (by first | omega | (simp only [hset, hnew]; omega) | rfl | decide) | exact At.new_eq2 _ _ (by first | omega | (simp only [hset, hnew]; omega) | rfl | decide) | refine At.set_ne ?_ (by first | omega | (simp only [hset, hnew]; omega) | rfl | decide) | refine At.new_ne ?_)))) (call := s_pourIt (d := 7) (by decide) c3 hb b2_ hn b1_) (k := ?_)
  rintro x h2 ⟨rfl, c4, sm4⟩
  refine tX12_doIt_103  (r := ?_)
  refine tX12_doIt_104 (r := ?_)
  refine tX12_doIt_171  (hP := ?_)
  exact ⟨rfl, c4, sm4.at av3 (by omega), sv3.trans ⟨sm4.sub (by omega) (by omega), sm4.un (by omega) (by have := c3.room; omega)⟩⟩

set_option maxHeartbeats 4000000 in
set_option maxRecDepth 100000 in
theorem s_di11 (hd : 8 ≤ d) {th : Int32} (c2 : MoT h 216 th s) (hb : BDok s.2.2.1 s.2.2.2) {i : Nat} (hi : i < bLi s.2.2.1) {k : Nat} (hk : k < nAn s.2.2.1) {v : Nat → Int32} (av : At h (216 + 47) (.inl (0, 800, .inl v))) (ha : aDo s.2.2.1 k = 11) (hn : aWh s.2.2.1 k < bJa s.2.2.1) : RQ G mX12_doIt d 0 [some (.ref 216), some (.int (nI i)), some (.int (nI k)), none, none] [] h (Rv fun h1 => MoT h1 216 th (s.1, s.2.1, s.2.2.1, doV s.2.2.1 i 11 (aWh s.2.2.1 k) 0 s.2.2.2) ∧ At h1 (216 + 47) (.inl (0, 800, .inl v)) ∧ Sv h h1) := by
  obtain ⟨⟨tk, iw, er, et, dp, nm, am⟩, ⟨-, ⟨ft, at1, ct1⟩, -, -, -, -, -, -, -, ⟨ru, ac, no, a9, -, nor⟩, -, -, ⟨fn, a48, n0, nb, nf, nl⟩, -, -, -, -⟩, ⟨⟨gs, as_, cs⟩, ⟨gw, aw, cw⟩, ⟨gl, al, cl⟩, ⟨g0, a0_, c0_⟩, ⟨g1, a1_, c1_⟩⟩⟩ := id c2
  have l1 := hb.1
  have l2 := hb.2.1
  have l3 := hb.2.2.1
  obtain ⟨b1_, b2_⟩ := hb.2.2.2.2.2.2.2.1 i hi
  obtain ⟨-, -, -, -, ⟨o1, o2, o3⟩, ⟨m1_, m2_, m3_⟩, ⟨p1, p2, p3⟩, ⟨q1, q2, q3⟩, -⟩ := nor
  have h60 := hb.bs.1.2.2.2.1
  have rm := c2.room
  refine tX12_doIt_0  (r := ?_)
  refine tX12_doIt_1 (ha := (by first | assumption | (repeat (first | assumption | exact At.set_eq2 (by first | omega | (simp only [hset, hnew]; omega) | rfl | decide) | exact At.new_eq2 _ _ (by first | omega | (simp only [hset, hnew]; omega) | rfl | decide) | refine At.set_ne ?_ (by first | omega | (simp only [hset, hnew]; omega) | rfl | decide) | refine At.new_ne ?_)))) (hv := rfl) (r := ?_)
  refine tX12_doIt_4 (ha := (by first | assumption | (repeat (first | assumption | exact At.set_eq2 (by first | omega | (simp only [hset, hnew]; omega) | rfl | decide) | exact At.new_eq2 _ _ (by first | omega | (simp only [hset, hnew]; omega) | rfl | decide) | refine At.set_ne ?_ (by first | omega | (simp only [hset, hnew]; omega) | rfl | decide) | refine At.new_ne ?_)))) (hv := rfl) (r := ?_)
  refine tX12_doIt_7  (r := ?_)
  refine tX12_doIt_8 (ha := (by first | assumption | (repeat (first | assumption | exact At.set_eq2 (by first | omega | (simp only [hset, hnew]; omega) | rfl | decide) | exact At.new_eq2 _ _ (by first | omega | (simp only [hset, hnew]; omega) | rfl | decide) | refine At.set_ne ?_ (by first | omega | (simp only [hset, hnew]; omega) | rfl | decide) | refine At.new_ne ?_)))) (hx := rfl) (hj := (by omega)) (hn := (by decide)) (r := ?_)
  rw [cl _ hi]
  refine tX12_doIt_9  (r := ?_)
  refine tX12_doIt_10  (r := ?_)
  refine tX12_doIt_11 (ha := (by first | assumption | (repeat (first | assumption | exact At.set_eq2 (by first | omega | (simp only [hset, hnew]; omega) | rfl | decide) | exact At.new_eq2 _ _ (by first | omega | (simp only [hset, hnew]; omega) | rfl | decide) | refine At.set_ne ?_ (by first | omega | (simp only [hset, hnew]; omega) | rfl | decide) | refine At.new_ne ?_)))) (hv := rfl) (r := ?_)
  refine tX12_doIt_14 (ha := (by first | assumption | (repeat (first | assumption | exact At.set_eq2 (by first | omega | (simp only [hset, hnew]; omega) | rfl | decide) | exact At.new_eq2 _ _ (by first | omega | (simp only [hset, hnew]; omega) | rfl | decide) | refine At.set_ne ?_ (by first | omega | (simp only [hset, hnew]; omega) | rfl | decide) | refine At.new_ne ?_)))) (hv := rfl) (r := ?_)
  refine tX12_doIt_17  (r := ?_)
  refine tX12_doIt_18 (ha := (by first | assumption | (repeat (first | assumption | exact At.set_eq2 (by first | omega | (simp only [hset, hnew]; omega) | rfl | decide) | exact At.new_eq2 _ _ (by first | omega | (simp only [hset, hnew]; omega) | rfl | decide) | refine At.set_ne ?_ (by first | omega | (simp only [hset, hnew]; omega) | rfl | decide) | refine At.new_ne ?_)))) (hx := rfl) (hj := (by omega)) (hn := (by decide)) (r := ?_)
  rw [m3_ _ hk (by omega)]
  refine tX12_doIt_19  (r := ?_)
  refine tX12_doIt_21  (r := ?_)
  refine tX12_doIt_22 (ha := (by first | assumption | (repeat (first | assumption | exact At.set_eq2 (by first | omega | (simp only [hset, hnew]; omega) | rfl | decide) | exact At.new_eq2 _ _ (by first | omega | (simp only [hset, hnew]; omega) | rfl | decide) | refine At.set_ne ?_ (by first | omega | (simp only [hset, hnew]; omega) | rfl | decide) | refine At.new_ne ?_)))) (hv := rfl) (r := ?_)
  refine tX12_doIt_25 (ha := (by first | assumption | (repeat (first | assumption | exact At.set_eq2 (by first | omega | (simp only [hset, hnew]; omega) | rfl | decide) | exact At.new_eq2 _ _ (by first | omega | (simp only [hset, hnew]; omega) | rfl | decide) | refine At.set_ne ?_ (by first | omega | (simp only [hset, hnew]; omega) | rfl | decide) | refine At.new_ne ?_)))) (hv := rfl) (r := ?_)
  refine tX12_doIt_28  (r := ?_)
  refine tX12_doIt_29 (ha := (by first | assumption | (repeat (first | assumption | exact At.set_eq2 (by first | omega | (simp only [hset, hnew]; omega) | rfl | decide) | exact At.new_eq2 _ _ (by first | omega | (simp only [hset, hnew]; omega) | rfl | decide) | refine At.set_ne ?_ (by first | omega | (simp only [hset, hnew]; omega) | rfl | decide) | refine At.new_ne ?_)))) (hx := rfl) (hj := (by omega)) (hn := (by decide)) (r := ?_)
  rw [o3 _ hk, ha]
  refine tX12_doIt_30 (n := 11) (hn := (by decide)) (r := ?_)
  show RQ _ _ _ 107 _ _ _ _
  refine tX12_doIt_107  (r := ?_)
  refine tX12_doIt_108 (ha := (by first | assumption | (repeat (first | assumption | exact At.set_eq2 (by first | omega | (simp only [hset, hnew]; omega) | rfl | decide) | exact At.new_eq2 _ _ (by first | omega | (simp only [hset, hnew]; omega) | rfl | decide) | refine At.set_ne ?_ (by first | omega | (simp only [hset, hnew]; omega) | rfl | decide) | refine At.new_ne ?_)))) (hv := rfl) (r := ?_)
  refine tX12_doIt_111  (r := ?_)
  refine tX12_doIt_113  (r := ?_)
  refine tX12_doIt_114  (r := ?_)
  rw [nI_add]
  refine tX12_doIt_115  (r := ?_)
  refine tX12_doIt_117 (ha := (by first | assumption | (repeat (first | assumption | exact At.set_eq2 (by first | omega | (simp only [hset, hnew]; omega) | rfl | decide) | exact At.new_eq2 _ _ (by first | omega | (simp only [hset, hnew]; omega) | rfl | decide) | refine At.set_ne ?_ (by first | omega | (simp only [hset, hnew]; omega) | rfl | decide) | refine At.new_ne ?_)))) (hx := rfl) (hj := (by omega)) (hn := (by decide)) (r := ?_)
  refine tX12_doIt_118 (r := ?_)
  refine tX12_doIt_171  (hP := ?_)
  have key := c2.now (f := upd fn (55 + i) (nI (aWh s.2.2.1 k))) (hoD s.2.2.2 i (aWh s.2.2.1 k)) ((if_neg (by omega)).trans n0) (fun j z hj hz => (if_neg (by omega)).trans (nb j z hj hz)) (fun z hz => (if_neg (by omega)).trans (nf z hz)) (fun z hz => by
    show (if 55 + z = 55 + i then nI (aWh s.2.2.1 k) else fn (55 + z)) = nI (if z = i then aWh s.2.2.1 k else dL s.2.2.2 z)
    by_cases e : z = i
    · rw [if_pos (by omega), if_pos e]
    · rw [if_neg (by omega), if_neg e, nl z hz])
  exact ⟨rfl, key, At.set_ne av (by omega), ⟨(Sm.rf _ _ _).set (by omega) (by omega), Un.set (Un.rf _ _ _) (by omega)⟩⟩

set_option maxHeartbeats 4000000 in
set_option maxRecDepth 100000 in
theorem s_di12 (hd : 8 ≤ d) {th : Int32} (c2 : MoT h 216 th s) (hb : BDok s.2.2.1 s.2.2.2) {i : Nat} (hi : i < bLi s.2.2.1) {k : Nat} (hk : k < nAn s.2.2.1) {v : Nat → Int32} (av : At h (216 + 47) (.inl (0, 800, .inl v))) (ha : aDo s.2.2.1 k = 12) : RQ G mX12_doIt d 0 [some (.ref 216), some (.int (nI i)), some (.int (nI k)), none, none] [] h (Rv fun h1 => MoT h1 216 th (s.1, s.2.1, s.2.2.1, doV s.2.2.1 i 12 (aWh s.2.2.1 k) 0 s.2.2.2) ∧ At h1 (216 + 47) (.inl (0, 800, .inl v)) ∧ Sv h h1) := by
  obtain ⟨⟨tk, iw, er, et, dp, nm, am⟩, ⟨-, ⟨ft, at1, ct1⟩, -, -, -, -, -, -, -, ⟨ru, ac, no, a9, -, nor⟩, -, -, ⟨fn, a48, n0, nb, nf, nl⟩, -, -, -, -⟩, ⟨⟨gs, as_, cs⟩, ⟨gw, aw, cw⟩, ⟨gl, al, cl⟩, ⟨g0, a0_, c0_⟩, ⟨g1, a1_, c1_⟩⟩⟩ := id c2
  have l1 := hb.1
  have l2 := hb.2.1
  have l3 := hb.2.2.1
  obtain ⟨b1_, b2_⟩ := hb.2.2.2.2.2.2.2.1 i hi
  obtain ⟨-, -, -, -, ⟨o1, o2, o3⟩, ⟨m1_, m2_, m3_⟩, ⟨p1, p2, p3⟩, ⟨q1, q2, q3⟩, -⟩ := nor
  have h60 := hb.bs.1.2.2.2.1
  have rm := c2.room
  refine tX12_doIt_0  (r := ?_)
  refine tX12_doIt_1 (ha := (by first | assumption | (repeat (first | assumption | exact At.set_eq2 (by first | omega | (simp only [hset, hnew]; omega) | rfl | decide) | exact At.new_eq2 _ _ (by first | omega | (simp only [hset, hnew]; omega) | rfl | decide) | refine At.set_ne ?_ (by first | omega | (simp only [hset, hnew]; omega) | rfl | decide) | refine At.new_ne ?_)))) (hv := rfl) (r := ?_)
  refine tX12_doIt_4 (ha := (by first | assumption | (repeat (first | assumption | exact At.set_eq2 (by first | omega | (simp only [hset, hnew]; omega) | rfl | decide) | exact At.new_eq2 _ _ (by first | omega | (simp only [hset, hnew]; omega) | rfl | decide) | refine At.set_ne ?_ (by first | omega | (simp only [hset, hnew]; omega) | rfl | decide) | refine At.new_ne ?_)))) (hv := rfl) (r := ?_)
  refine tX12_doIt_7  (r := ?_)
  refine tX12_doIt_8 (ha := (by first | assumption | (repeat (first | assumption | exact At.set_eq2 (by first | omega | (simp only [hset, hnew]; omega) | rfl | decide) | exact At.new_eq2 _ _ (by first | omega | (simp only [hset, hnew]; omega) | rfl | decide) | refine At.set_ne ?_ (by first | omega | (simp only [hset, hnew]; omega) | rfl | decide) | refine At.new_ne ?_)))) (hx := rfl) (hj := (by omega)) (hn := (by decide)) (r := ?_)
  rw [cl _ hi]
  refine tX12_doIt_9  (r := ?_)
  refine tX12_doIt_10  (r := ?_)
  refine tX12_doIt_11 (ha := (by first | assumption | (repeat (first | assumption | exact At.set_eq2 (by first | omega | (simp only [hset, hnew]; omega) | rfl | decide) | exact At.new_eq2 _ _ (by first | omega | (simp only [hset, hnew]; omega) | rfl | decide) | refine At.set_ne ?_ (by first | omega | (simp only [hset, hnew]; omega) | rfl | decide) | refine At.new_ne ?_)))) (hv := rfl) (r := ?_)
  refine tX12_doIt_14 (ha := (by first | assumption | (repeat (first | assumption | exact At.set_eq2 (by first | omega | (simp only [hset, hnew]; omega) | rfl | decide) | exact At.new_eq2 _ _ (by first | omega | (simp only [hset, hnew]; omega) | rfl | decide) | refine At.set_ne ?_ (by first | omega | (simp only [hset, hnew]; omega) | rfl | decide) | refine At.new_ne ?_)))) (hv := rfl) (r := ?_)
  refine tX12_doIt_17  (r := ?_)
  refine tX12_doIt_18 (ha := (by first | assumption | (repeat (first | assumption | exact At.set_eq2 (by first | omega | (simp only [hset, hnew]; omega) | rfl | decide) | exact At.new_eq2 _ _ (by first | omega | (simp only [hset, hnew]; omega) | rfl | decide) | refine At.set_ne ?_ (by first | omega | (simp only [hset, hnew]; omega) | rfl | decide) | refine At.new_ne ?_)))) (hx := rfl) (hj := (by omega)) (hn := (by decide)) (r := ?_)
  refine tX12_doIt_19  (r := ?_)
  refine tX12_doIt_21  (r := ?_)
  refine tX12_doIt_22 (ha := (by first | assumption | (repeat (first | assumption | exact At.set_eq2 (by first | omega | (simp only [hset, hnew]; omega) | rfl | decide) | exact At.new_eq2 _ _ (by first | omega | (simp only [hset, hnew]; omega) | rfl | decide) | refine At.set_ne ?_ (by first | omega | (simp only [hset, hnew]; omega) | rfl | decide) | refine At.new_ne ?_)))) (hv := rfl) (r := ?_)
  refine tX12_doIt_25 (ha := (by first | assumption | (repeat (first | assumption | exact At.set_eq2 (by first | omega | (simp only [hset, hnew]; omega) | rfl | decide) | exact At.new_eq2 _ _ (by first | omega | (simp only [hset, hnew]; omega) | rfl | decide) | refine At.set_ne ?_ (by first | omega | (simp only [hset, hnew]; omega) | rfl | decide) | refine At.new_ne ?_)))) (hv := rfl) (r := ?_)
  refine tX12_doIt_28  (r := ?_)
  refine tX12_doIt_29 (ha := (by first | assumption | (repeat (first | assumption | exact At.set_eq2 (by first | omega | (simp only [hset, hnew]; omega) | rfl | decide) | exact At.new_eq2 _ _ (by first | omega | (simp only [hset, hnew]; omega) | rfl | decide) | refine At.set_ne ?_ (by first | omega | (simp only [hset, hnew]; omega) | rfl | decide) | refine At.new_ne ?_)))) (hx := rfl) (hj := (by omega)) (hn := (by decide)) (r := ?_)
  rw [o3 _ hk, ha]
  refine tX12_doIt_30 (n := 12) (hn := (by decide)) (r := ?_)
  show RQ _ _ _ 121 _ _ _ _
  refine tX12_doIt_121  (r := ?_)
  refine tX12_doIt_122  (r := ?_)
  refine tX12_doIt_123 (ha := (by first | assumption | (repeat (first | assumption | exact At.set_eq2 (by first | omega | (simp only [hset, hnew]; omega) | rfl | decide) | exact At.new_eq2 _ _ (by first | omega | (simp only [hset, hnew]; omega) | rfl | decide) | refine At.set_ne ?_ (by first | omega | (simp only [hset, hnew]; omega) | rfl | decide) | refine At.new_ne ?_)))) (hv := rfl) (r := ?_)
  refine tX12_doIt_126  (r := ?_)
  refine tX12_doIt_128  (r := ?_)
  refine tX12_doIt_129  (r := ?_)
  rw [nI_add]
  refine tX12_doIt_130 (ha := (by first | assumption | (repeat (first | assumption | exact At.set_eq2 (by first | omega | (simp only [hset, hnew]; omega) | rfl | decide) | exact At.new_eq2 _ _ (by first | omega | (simp only [hset, hnew]; omega) | rfl | decide) | refine At.set_ne ?_ (by first | omega | (simp only [hset, hnew]; omega) | rfl | decide) | refine At.new_ne ?_)))) (hx := rfl) (hj := (by omega)) (hn := (by decide)) (r := ?_)
  rw [nl _ hi]
  refine tX12_doIt_131 (hd := (by omega)) (ha := (by first | assumption | (repeat (first | assumption | exact At.set_eq2 (by first | omega | (simp only [hset, hnew]; omega) | rfl | decide) | exact At.new_eq2 _ _ (by first | omega | (simp only [hset, hnew]; omega) | rfl | decide) | refine At.set_ne ?_ (by first | omega | (simp only [hset, hnew]; omega) | rfl | decide) | refine At.new_ne ?_)))) (call := s_shakeIt (d := 7) c2 hb b2_) (k := ?_)
  intro h1 hq
  obtain ⟨c3, sm3, uk⟩ := hq
  refine tX12_doIt_134 (r := ?_)
  refine tX12_doIt_171  (hP := ?_)
  exact ⟨rfl, c3, sm3.at av (by omega), ⟨sm3.sub (by omega) (by omega), uk⟩⟩

set_option maxHeartbeats 4000000 in
set_option maxRecDepth 100000 in
theorem s_di13 (hd : 8 ≤ d) {th : Int32} (c2 : MoT h 216 th s) (hb : BDok s.2.2.1 s.2.2.2) {i : Nat} (hi : i < bLi s.2.2.1) {k : Nat} (hk : k < nAn s.2.2.1) {v : Nat → Int32} (av : At h (216 + 47) (.inl (0, 800, .inl v))) (ha : aDo s.2.2.1 k = 13) (hn : aWh s.2.2.1 k < bLa s.2.2.1) : RQ G mX12_doIt d 0 [some (.ref 216), some (.int (nI i)), some (.int (nI k)), none, none] [] h (Rv fun h1 => MoT h1 216 th (s.1, s.2.1, s.2.2.1, doV s.2.2.1 i 13 (aWh s.2.2.1 k) 0 s.2.2.2) ∧ At h1 (216 + 47) (.inl (0, 800, .inl v)) ∧ Sv h h1) := by
  obtain ⟨⟨tk, iw, er, et, dp, nm, am⟩, ⟨-, ⟨ft, at1, ct1⟩, -, -, -, -, -, -, -, ⟨ru, ac, no, a9, -, nor⟩, -, -, ⟨fn, a48, n0, nb, nf, nl⟩, -, -, -, -⟩, ⟨⟨gs, as_, cs⟩, ⟨gw, aw, cw⟩, ⟨gl, al, cl⟩, ⟨g0, a0_, c0_⟩, ⟨g1, a1_, c1_⟩⟩⟩ := id c2
  have l1 := hb.1
  have l2 := hb.2.1
  have l3 := hb.2.2.1
  obtain ⟨b1_, b2_⟩ := hb.2.2.2.2.2.2.2.1 i hi
  obtain ⟨-, -, -, -, ⟨o1, o2, o3⟩, ⟨m1_, m2_, m3_⟩, ⟨p1, p2, p3⟩, ⟨q1, q2, q3⟩, -⟩ := nor
  have h60 := hb.bs.1.2.2.2.1
  have rm := c2.room
  refine tX12_doIt_0  (r := ?_)
  refine tX12_doIt_1 (ha := (by first | assumption | (repeat (first | assumption | exact At.set_eq2 (by first | omega | (simp only [hset, hnew]; omega) | rfl | decide) | exact At.new_eq2 _ _ (by first | omega | (simp only [hset, hnew]; omega) | rfl | decide) | refine At.set_ne ?_ (by first | omega | (simp only [hset, hnew]; omega) | rfl | decide) | refine At.new_ne ?_)))) (hv := rfl) (r := ?_)
  refine tX12_doIt_4 (ha := (by first | assumption | (repeat (first | assumption | exact At.set_eq2 (by first | omega | (simp only [hset, hnew]; omega) | rfl | decide) | exact At.new_eq2 _ _ (by first | omega | (simp only [hset, hnew]; omega) | rfl | decide) | refine At.set_ne ?_ (by first | omega | (simp only [hset, hnew]; omega) | rfl | decide) | refine At.new_ne ?_)))) (hv := rfl) (r := ?_)
  refine tX12_doIt_7  (r := ?_)
  refine tX12_doIt_8 (ha := (by first | assumption | (repeat (first | assumption | exact At.set_eq2 (by first | omega | (simp only [hset, hnew]; omega) | rfl | decide) | exact At.new_eq2 _ _ (by first | omega | (simp only [hset, hnew]; omega) | rfl | decide) | refine At.set_ne ?_ (by first | omega | (simp only [hset, hnew]; omega) | rfl | decide) | refine At.new_ne ?_)))) (hx := rfl) (hj := (by omega)) (hn := (by decide)) (r := ?_)
  rw [cl _ hi]
  refine tX12_doIt_9  (r := ?_)
  refine tX12_doIt_10  (r := ?_)
  refine tX12_doIt_11 (ha := (by first | assumption | (repeat (first | assumption | exact At.set_eq2 (by first | omega | (simp only [hset, hnew]; omega) | rfl | decide) | exact At.new_eq2 _ _ (by first | omega | (simp only [hset, hnew]; omega) | rfl | decide) | refine At.set_ne ?_ (by first | omega | (simp only [hset, hnew]; omega) | rfl | decide) | refine At.new_ne ?_)))) (hv := rfl) (r := ?_)
  refine tX12_doIt_14 (ha := (by first | assumption | (repeat (first | assumption | exact At.set_eq2 (by first | omega | (simp only [hset, hnew]; omega) | rfl | decide) | exact At.new_eq2 _ _ (by first | omega | (simp only [hset, hnew]; omega) | rfl | decide) | refine At.set_ne ?_ (by first | omega | (simp only [hset, hnew]; omega) | rfl | decide) | refine At.new_ne ?_)))) (hv := rfl) (r := ?_)
  refine tX12_doIt_17  (r := ?_)
  refine tX12_doIt_18 (ha := (by first | assumption | (repeat (first | assumption | exact At.set_eq2 (by first | omega | (simp only [hset, hnew]; omega) | rfl | decide) | exact At.new_eq2 _ _ (by first | omega | (simp only [hset, hnew]; omega) | rfl | decide) | refine At.set_ne ?_ (by first | omega | (simp only [hset, hnew]; omega) | rfl | decide) | refine At.new_ne ?_)))) (hx := rfl) (hj := (by omega)) (hn := (by decide)) (r := ?_)
  rw [m3_ _ hk (by omega)]
  refine tX12_doIt_19  (r := ?_)
  refine tX12_doIt_21  (r := ?_)
  refine tX12_doIt_22 (ha := (by first | assumption | (repeat (first | assumption | exact At.set_eq2 (by first | omega | (simp only [hset, hnew]; omega) | rfl | decide) | exact At.new_eq2 _ _ (by first | omega | (simp only [hset, hnew]; omega) | rfl | decide) | refine At.set_ne ?_ (by first | omega | (simp only [hset, hnew]; omega) | rfl | decide) | refine At.new_ne ?_)))) (hv := rfl) (r := ?_)
  refine tX12_doIt_25 (ha := (by first | assumption | (repeat (first | assumption | exact At.set_eq2 (by first | omega | (simp only [hset, hnew]; omega) | rfl | decide) | exact At.new_eq2 _ _ (by first | omega | (simp only [hset, hnew]; omega) | rfl | decide) | refine At.set_ne ?_ (by first | omega | (simp only [hset, hnew]; omega) | rfl | decide) | refine At.new_ne ?_)))) (hv := rfl) (r := ?_)
  refine tX12_doIt_28  (r := ?_)
  refine tX12_doIt_29 (ha := (by first | assumption | (repeat (first | assumption | exact At.set_eq2 (by first | omega | (simp only [hset, hnew]; omega) | rfl | decide) | exact At.new_eq2 _ _ (by first | omega | (simp only [hset, hnew]; omega) | rfl | decide) | refine At.set_ne ?_ (by first | omega | (simp only [hset, hnew]; omega) | rfl | decide) | refine At.new_ne ?_)))) (hx := rfl) (hj := (by omega)) (hn := (by decide)) (r := ?_)
  rw [o3 _ hk, ha]
  refine tX12_doIt_30 (n := 13) (hn := (by decide)) (r := ?_)
  show RQ _ _ _ 137 _ _ _ _
  refine tX12_doIt_137  (r := ?_)
  refine tX12_doIt_138  (r := ?_)
  refine tX12_doIt_139  (r := ?_)
  refine tX12_doIt_141 (hd := (by omega)) (ha := (by first | assumption | (repeat (first | assumption | exact At.set_eq2 (by first | omega | (simp only [hset, hnew]; omega) | rfl | decide) | exact At.new_eq2 _ _ (by first | omega | (simp only [hset, hnew]; omega) | rfl | decide) | refine At.set_ne ?_ (by first | omega | (simp only [hset, hnew]; omega) | rfl | decide) | refine At.new_ne ?_)))) (call := s_canJoin (d := 7) c2 hb b1_ hn) (k := ?_)
  rintro v_ h_ ⟨my, e9⟩
  rw [e9]
  have tI := thB_iff (F := dF s.2.2.2) (l := bLl s.2.2.1 i) (k := aWh s.2.2.1 k) (hb.end6 (by omega))
  refine tX12_doIt_144  (kt := fun c_144 => ?_) (kf := fun c_144 => ?_)
  · have th_ : thB (dF s.2.2.2) (bLl s.2.2.1 i) (aWh s.2.2.1 k) = true := tI.mpr (Or.elim my (fun z => by rw [z.1] at c_144; exact absurd c_144 (by decide)) (fun z => z.2))
    have e : doV s.2.2.1 i 13 (aWh s.2.2.1 k) 0 s.2.2.2 = s.2.2.2 := if_pos th_
    refine tX12_doIt_171  (hP := ?_)
    exact ⟨rfl, by rw [e]; exact c2, av, Sv.rf _⟩
  · have nt_ : ¬ thr (dF s.2.2.2) (bLl s.2.2.1 i) (aWh s.2.2.1 k) := Or.elim my (fun z => z.2) (fun z => absurd (by rw [z.1]; decide) c_144)
    have e : doV s.2.2.1 i 13 (aWh s.2.2.1 k) 0 s.2.2.2 = fwD s.2.2.2 (bLl s.2.2.1 i) (some (aWh s.2.2.1 k)) := if_neg (fun z => nt_ (tI.mp z))
    refine tX12_doIt_147  (r := ?_)
    refine tX12_doIt_148 (ha := (by first | assumption | (repeat (first | assumption | exact At.set_eq2 (by first | omega | (simp only [hset, hnew]; omega) | rfl | decide) | exact At.new_eq2 _ _ (by first | omega | (simp only [hset, hnew]; omega) | rfl | decide) | refine At.set_ne ?_ (by first | omega | (simp only [hset, hnew]; omega) | rfl | decide) | refine At.new_ne ?_)))) (hv := rfl) (r := ?_)
    refine tX12_doIt_151  (r := ?_)
    refine tX12_doIt_153  (r := ?_)
    refine tX12_doIt_154  (r := ?_)
    rw [nI_add]
    refine tX12_doIt_155  (r := ?_)
    refine tX12_doIt_157 (ha := (by first | assumption | (repeat (first | assumption | exact At.set_eq2 (by first | omega | (simp only [hset, hnew]; omega) | rfl | decide) | exact At.new_eq2 _ _ (by first | omega | (simp only [hset, hnew]; omega) | rfl | decide) | refine At.set_ne ?_ (by first | omega | (simp only [hset, hnew]; omega) | rfl | decide) | refine At.new_ne ?_)))) (hx := rfl) (hj := (by omega)) (hn := (by decide)) (r := ?_)
    refine tX12_doIt_158 (r := ?_)
    refine tX12_doIt_171  (hP := ?_)
    have key := c2.now (f := upd fn (49 + bLl s.2.2.1 i) (oI (some (aWh s.2.2.1 k)))) (fwD s.2.2.2 (bLl s.2.2.1 i) (some (aWh s.2.2.1 k))) ((if_neg (by omega)).trans n0) (fun j z hj hz => (if_neg (by omega)).trans (nb j z hj hz)) (fun z hz => by
      show (if 49 + z = 49 + bLl s.2.2.1 i then oI (some (aWh s.2.2.1 k)) else fn (49 + z)) = oI (if z = bLl s.2.2.1 i then (some (aWh s.2.2.1 k)) else dF s.2.2.2 z)
      by_cases e : z = bLl s.2.2.1 i
      · rw [if_pos (by omega), if_pos e]
      · rw [if_neg (by omega), if_neg e, nf z hz]) (fun z hz => (if_neg (by omega)).trans (nl z hz))
    exact ⟨rfl, by rw [e]; exact key, At.set_ne av (by omega), ⟨(Sm.rf _ _ _).set (by omega) (by omega), Un.set (Un.rf _ _ _) (by omega)⟩⟩

set_option maxHeartbeats 4000000 in
set_option maxRecDepth 100000 in
theorem s_di14 (hd : 8 ≤ d) {th : Int32} (c2 : MoT h 216 th s) (hb : BDok s.2.2.1 s.2.2.2) {i : Nat} (hi : i < bLi s.2.2.1) {k : Nat} (hk : k < nAn s.2.2.1) {v : Nat → Int32} (av : At h (216 + 47) (.inl (0, 800, .inl v))) (ha : aDo s.2.2.1 k = 14) : RQ G mX12_doIt d 0 [some (.ref 216), some (.int (nI i)), some (.int (nI k)), none, none] [] h (Rv fun h1 => MoT h1 216 th (s.1, s.2.1, s.2.2.1, doV s.2.2.1 i 14 (aWh s.2.2.1 k) 0 s.2.2.2) ∧ At h1 (216 + 47) (.inl (0, 800, .inl v)) ∧ Sv h h1) := by
  obtain ⟨⟨tk, iw, er, et, dp, nm, am⟩, ⟨-, ⟨ft, at1, ct1⟩, -, -, -, -, -, -, -, ⟨ru, ac, no, a9, -, nor⟩, -, -, ⟨fn, a48, n0, nb, nf, nl⟩, -, -, -, -⟩, ⟨⟨gs, as_, cs⟩, ⟨gw, aw, cw⟩, ⟨gl, al, cl⟩, ⟨g0, a0_, c0_⟩, ⟨g1, a1_, c1_⟩⟩⟩ := id c2
  have l1 := hb.1
  have l2 := hb.2.1
  have l3 := hb.2.2.1
  obtain ⟨b1_, b2_⟩ := hb.2.2.2.2.2.2.2.1 i hi
  obtain ⟨-, -, -, -, ⟨o1, o2, o3⟩, ⟨m1_, m2_, m3_⟩, ⟨p1, p2, p3⟩, ⟨q1, q2, q3⟩, -⟩ := nor
  have h60 := hb.bs.1.2.2.2.1
  have rm := c2.room
  refine tX12_doIt_0  (r := ?_)
  refine tX12_doIt_1 (ha := (by first | assumption | (repeat (first | assumption | exact At.set_eq2 (by first | omega | (simp only [hset, hnew]; omega) | rfl | decide) | exact At.new_eq2 _ _ (by first | omega | (simp only [hset, hnew]; omega) | rfl | decide) | refine At.set_ne ?_ (by first | omega | (simp only [hset, hnew]; omega) | rfl | decide) | refine At.new_ne ?_)))) (hv := rfl) (r := ?_)
  refine tX12_doIt_4 (ha := (by first | assumption | (repeat (first | assumption | exact At.set_eq2 (by first | omega | (simp only [hset, hnew]; omega) | rfl | decide) | exact At.new_eq2 _ _ (by first | omega | (simp only [hset, hnew]; omega) | rfl | decide) | refine At.set_ne ?_ (by first | omega | (simp only [hset, hnew]; omega) | rfl | decide) | refine At.new_ne ?_)))) (hv := rfl) (r := ?_)
  refine tX12_doIt_7  (r := ?_)
  refine tX12_doIt_8 (ha := (by first | assumption | (repeat (first | assumption | exact At.set_eq2 (by first | omega | (simp only [hset, hnew]; omega) | rfl | decide) | exact At.new_eq2 _ _ (by first | omega | (simp only [hset, hnew]; omega) | rfl | decide) | refine At.set_ne ?_ (by first | omega | (simp only [hset, hnew]; omega) | rfl | decide) | refine At.new_ne ?_)))) (hx := rfl) (hj := (by omega)) (hn := (by decide)) (r := ?_)
  rw [cl _ hi]
  refine tX12_doIt_9  (r := ?_)
  refine tX12_doIt_10  (r := ?_)
  refine tX12_doIt_11 (ha := (by first | assumption | (repeat (first | assumption | exact At.set_eq2 (by first | omega | (simp only [hset, hnew]; omega) | rfl | decide) | exact At.new_eq2 _ _ (by first | omega | (simp only [hset, hnew]; omega) | rfl | decide) | refine At.set_ne ?_ (by first | omega | (simp only [hset, hnew]; omega) | rfl | decide) | refine At.new_ne ?_)))) (hv := rfl) (r := ?_)
  refine tX12_doIt_14 (ha := (by first | assumption | (repeat (first | assumption | exact At.set_eq2 (by first | omega | (simp only [hset, hnew]; omega) | rfl | decide) | exact At.new_eq2 _ _ (by first | omega | (simp only [hset, hnew]; omega) | rfl | decide) | refine At.set_ne ?_ (by first | omega | (simp only [hset, hnew]; omega) | rfl | decide) | refine At.new_ne ?_)))) (hv := rfl) (r := ?_)
  refine tX12_doIt_17  (r := ?_)
  refine tX12_doIt_18 (ha := (by first | assumption | (repeat (first | assumption | exact At.set_eq2 (by first | omega | (simp only [hset, hnew]; omega) | rfl | decide) | exact At.new_eq2 _ _ (by first | omega | (simp only [hset, hnew]; omega) | rfl | decide) | refine At.set_ne ?_ (by first | omega | (simp only [hset, hnew]; omega) | rfl | decide) | refine At.new_ne ?_)))) (hx := rfl) (hj := (by omega)) (hn := (by decide)) (r := ?_)
  refine tX12_doIt_19  (r := ?_)
  refine tX12_doIt_21  (r := ?_)
  refine tX12_doIt_22 (ha := (by first | assumption | (repeat (first | assumption | exact At.set_eq2 (by first | omega | (simp only [hset, hnew]; omega) | rfl | decide) | exact At.new_eq2 _ _ (by first | omega | (simp only [hset, hnew]; omega) | rfl | decide) | refine At.set_ne ?_ (by first | omega | (simp only [hset, hnew]; omega) | rfl | decide) | refine At.new_ne ?_)))) (hv := rfl) (r := ?_)
  refine tX12_doIt_25 (ha := (by first | assumption | (repeat (first | assumption | exact At.set_eq2 (by first | omega | (simp only [hset, hnew]; omega) | rfl | decide) | exact At.new_eq2 _ _ (by first | omega | (simp only [hset, hnew]; omega) | rfl | decide) | refine At.set_ne ?_ (by first | omega | (simp only [hset, hnew]; omega) | rfl | decide) | refine At.new_ne ?_)))) (hv := rfl) (r := ?_)
  refine tX12_doIt_28  (r := ?_)
  refine tX12_doIt_29 (ha := (by first | assumption | (repeat (first | assumption | exact At.set_eq2 (by first | omega | (simp only [hset, hnew]; omega) | rfl | decide) | exact At.new_eq2 _ _ (by first | omega | (simp only [hset, hnew]; omega) | rfl | decide) | refine At.set_ne ?_ (by first | omega | (simp only [hset, hnew]; omega) | rfl | decide) | refine At.new_ne ?_)))) (hx := rfl) (hj := (by omega)) (hn := (by decide)) (r := ?_)
  rw [o3 _ hk, ha]
  refine tX12_doIt_30 (n := 14) (hn := (by decide)) (r := ?_)
  show RQ _ _ _ 161 _ _ _ _
  refine tX12_doIt_161  (r := ?_)
  refine tX12_doIt_162 (ha := (by first | assumption | (repeat (first | assumption | exact At.set_eq2 (by first | omega | (simp only [hset, hnew]; omega) | rfl | decide) | exact At.new_eq2 _ _ (by first | omega | (simp only [hset, hnew]; omega) | rfl | decide) | refine At.set_ne ?_ (by first | omega | (simp only [hset, hnew]; omega) | rfl | decide) | refine At.new_ne ?_)))) (hv := rfl) (r := ?_)
  refine tX12_doIt_165  (r := ?_)
  refine tX12_doIt_167  (r := ?_)
  refine tX12_doIt_168  (r := ?_)
  rw [nI_add]
  refine tX12_doIt_169  (r := ?_)
  refine tX12_doIt_170 (ha := (by first | assumption | (repeat (first | assumption | exact At.set_eq2 (by first | omega | (simp only [hset, hnew]; omega) | rfl | decide) | exact At.new_eq2 _ _ (by first | omega | (simp only [hset, hnew]; omega) | rfl | decide) | refine At.set_ne ?_ (by first | omega | (simp only [hset, hnew]; omega) | rfl | decide) | refine At.new_ne ?_)))) (hx := rfl) (hj := (by omega)) (hn := (by decide)) (r := ?_)
  refine tX12_doIt_171  (hP := ?_)
  have key := c2.now (f := upd fn (49 + bLl s.2.2.1 i) (oI none)) (fwD s.2.2.2 (bLl s.2.2.1 i) none) ((if_neg (by omega)).trans n0) (fun j z hj hz => (if_neg (by omega)).trans (nb j z hj hz)) (fun z hz => by
    show (if 49 + z = 49 + bLl s.2.2.1 i then oI none else fn (49 + z)) = oI (if z = bLl s.2.2.1 i then none else dF s.2.2.2 z)
    by_cases e : z = bLl s.2.2.1 i
    · rw [if_pos (by omega), if_pos e]
    · rw [if_neg (by omega), if_neg e, nf z hz]) (fun z hz => (if_neg (by omega)).trans (nl z hz))
  exact ⟨rfl, key, At.set_ne av (by omega), ⟨(Sm.rf _ _ _).set (by omega) (by omega), Un.set (Un.rf _ _ _) (by omega)⟩⟩

theorem s_doIt (hd : 8 ≤ d) {th : Int32} (c2 : MoT h 216 th s) (hb : BDok s.2.2.1 s.2.2.2) {i : Nat} (hi : i < bLi s.2.2.1) {k : Nat} (hk : k < nAn s.2.2.1) {v : Nat → Int32} (av : At h (216 + 47) (.inl (0, 800, .inl v))) (ok : okA s.2.2.1 k) : RQ G mX12_doIt d 0 [some (.ref 216), some (.int (nI i)), some (.int (nI k)), none, none] [] h (Rv fun h1 => MoT h1 216 th (s.1, s.2.1, s.2.2.1, (rdA s.2.2.1 i k (s.2.2.2, v)).1) ∧ BDok s.2.2.1 (rdA s.2.2.1 i k (s.2.2.2, v)).1 ∧ At h1 (216 + 47) (.inl (0, 800, .inl (rdA s.2.2.1 i k (s.2.2.2, v)).2)) ∧ Sv h h1) := by
  obtain ⟨a1, a2, a3, a4, a5⟩ := ok
  have okd : okD s.2.2.1 (aDo s.2.2.1 k) (aWh s.2.2.1 k) := ⟨a2, a3⟩
  by_cases h9 : aDo s.2.2.1 k = 9
  · have e : (rdA s.2.2.1 i k (s.2.2.2, v)) = (doV s.2.2.1 i 9 (aWh s.2.2.1 k) ((evN s.2.2.1 s.2.2.2 i (aSf s.2.2.1 k) (aSu s.2.2.1 k + 1 - aSf s.2.2.1 k) v) (aSu s.2.2.1 k)) s.2.2.2, (evN s.2.2.1 s.2.2.2 i (aSf s.2.2.1 k) (aSu s.2.2.1 k + 1 - aSf s.2.2.1 k) v)) := if_pos h9
    rw [e]
    rw [h9] at okd
    exact (s_di9 hd c2 hb hi hk av h9 (a2 (Or.inl h9)) (a5 h9).1 (a5 h9).2).imp (fun o9 h9_ q9 => ⟨q9.1, q9.2.1, doV_ok hb hi okd, q9.2.2.1, q9.2.2.2⟩)
  · have e : (rdA s.2.2.1 i k (s.2.2.2, v)) = (doV s.2.2.1 i (aDo s.2.2.1 k) (aWh s.2.2.1 k) 0 s.2.2.2, v) := if_neg h9
    rw [e]
    have ok2 := doV_ok (x := 0) hb hi okd
    rcases isAc_or a1 with q | q | q | q | q
    · exact absurd q h9
    · rw [q] at ok2 ⊢
      exact (s_di11 hd c2 hb hi hk av q (a3 q)).imp (fun o9 h9_ q9 => ⟨q9.1, q9.2.1, ok2, q9.2.2.1, q9.2.2.2⟩)
    · rw [q] at ok2 ⊢
      exact (s_di12 hd c2 hb hi hk av q).imp (fun o9 h9_ q9 => ⟨q9.1, q9.2.1, ok2, q9.2.2.1, q9.2.2.2⟩)
    · rw [q] at ok2 ⊢
      exact (s_di13 hd c2 hb hi hk av q (a2 (Or.inr q))).imp (fun o9 h9_ q9 => ⟨q9.1, q9.2.1, ok2, q9.2.2.1, q9.2.2.2⟩)
    · rw [q] at ok2 ⊢
      exact (s_di14 hd c2 hb hi hk av q).imp (fun o9 h9_ q9 => ⟨q9.1, q9.2.1, ok2, q9.2.2.1, q9.2.2.2⟩)

set_option maxHeartbeats 4000000 in
set_option maxRecDepth 100000 in
theorem s_acts (hd : 9 ≤ d) {th : Int32} {i : Nat} (hi : i < bLi s.2.2.1) {r sm : Nat} (hr : r < bRs s.2.2.1) (hw : WFs s.2.2.1) {D9 : DY} {v9 : Nat → Int32} {P : OC → AH → Prop} (kk : ∀ (h : AH) (D2 : DY) (v2 : Nat → Int32), MoT h 216 th (s.1, s.2.1, s.2.2.1, D2) → BDok s.2.2.1 D2 → At h (216 + 47) (.inl (0, 800, .inl v2)) → Sv h0 h → (D2, v2) = (D9, v9) → RQ G mX12_dayOn d 67 [some (.ref 216), some (.int (nI sm)), some (.int (nI i)), some (.int (nI r)), some (.int (nI (rBa s.2.2.1 r)))] [] h P) : ∀ (m a : Nat) (h : AH) (D2 : DY) (v2 : Nat → Int32), rFa s.2.2.1 r ≤ a → a + m = rBa s.2.2.1 r → MoT h 216 th (s.1, s.2.1, s.2.2.1, D2) → BDok s.2.2.1 D2 → At h (216 + 47) (.inl (0, 800, .inl v2)) → Sv h0 h → rdV s.2.2.1 i a m (D2, v2) = (D9, v9) → RQ G mX12_dayOn d 40 [some (.ref 216), some (.int (nI sm)), some (.int (nI i)), some (.int (nI r)), some (.int (nI a))] [] h P := by
  have h24 := hw.2.1
  have h60 := hw.2.2.2.1
  obtain ⟨-, -, ⟨w1_, w2_⟩, hok⟩ := hw.2.2.2.2.2.2.2 r hr
  intro m
  induction m with
  | zero =>
    intro a h D2 v2 h1_ h2_ c2 hb av sv e
    obtain ⟨⟨tk, iw, er, et, dp, nm, am⟩, ⟨-, ⟨ft, at1, ct1⟩, -, -, -, -, -, -, -, ⟨ru, ac, no, a9, -, nor⟩, -, -, ⟨fn, a48, n0, nb, nf, nl⟩, -, -, -, -⟩, ⟨⟨gs, as_, cs⟩, ⟨gw, aw, cw⟩, ⟨gl, al, cl⟩, ⟨g0, a0_, c0_⟩, ⟨g1, a1_, c1_⟩⟩⟩ := id c2
    have nor : NoR h (216 + 9) s.2.2.1 := nor
    obtain ⟨-, -, ⟨y1, y2, y3⟩, ⟨z1, z2, z3⟩, -⟩ := nor
    have ha : a = rBa s.2.2.1 r := by omega
    subst ha
    refine tX12_dayOn_40  (r := ?_)
    refine tX12_dayOn_42  (r := ?_)
    refine tX12_dayOn_43 (ha := (by first | assumption | (repeat (first | assumption | exact At.set_eq2 (by first | omega | (simp only [hset, hnew]; omega) | rfl | decide) | exact At.new_eq2 _ _ (by first | omega | (simp only [hset, hnew]; omega) | rfl | decide) | refine At.set_ne ?_ (by first | omega | (simp only [hset, hnew]; omega) | rfl | decide) | refine At.new_ne ?_)))) (hv := rfl) (r := ?_)
    refine tX12_dayOn_46 (ha := (by first | assumption | (repeat (first | assumption | exact At.set_eq2 (by first | omega | (simp only [hset, hnew]; omega) | rfl | decide) | exact At.new_eq2 _ _ (by first | omega | (simp only [hset, hnew]; omega) | rfl | decide) | refine At.set_ne ?_ (by first | omega | (simp only [hset, hnew]; omega) | rfl | decide) | refine At.new_ne ?_)))) (hv := rfl) (r := ?_)
    refine tX12_dayOn_49  (r := ?_)
    refine tX12_dayOn_50 (ha := (by first | assumption | (repeat (first | assumption | exact At.set_eq2 (by first | omega | (simp only [hset, hnew]; omega) | rfl | decide) | exact At.new_eq2 _ _ (by first | omega | (simp only [hset, hnew]; omega) | rfl | decide) | refine At.set_ne ?_ (by first | omega | (simp only [hset, hnew]; omega) | rfl | decide) | refine At.new_ne ?_)))) (hx := rfl) (hj := (by omega)) (hn := (by decide)) (r := ?_)
    rw [z3 _ hr]
    refine tX12_dayOn_51  (kf := fun c_ => by exfalso; exact c_ ((nI_leI (by omega) (by omega)).mpr (by omega))) (kt := fun _ => ?_)
    exact kk h D2 v2 c2 hb av sv e
  | succ m ih =>
    intro a h D2 v2 h1_ h2_ c2 hb av sv e
    obtain ⟨⟨tk, iw, er, et, dp, nm, am⟩, ⟨-, ⟨ft, at1, ct1⟩, -, -, -, -, -, -, -, ⟨ru, ac, no, a9, -, nor⟩, -, -, ⟨fn, a48, n0, nb, nf, nl⟩, -, -, -, -⟩, ⟨⟨gs, as_, cs⟩, ⟨gw, aw, cw⟩, ⟨gl, al, cl⟩, ⟨g0, a0_, c0_⟩, ⟨g1, a1_, c1_⟩⟩⟩ := id c2
    have nor : NoR h (216 + 9) s.2.2.1 := nor
    obtain ⟨-, -, ⟨y1, y2, y3⟩, ⟨z1, z2, z3⟩, -⟩ := nor
    refine tX12_dayOn_40  (r := ?_)
    refine tX12_dayOn_42  (r := ?_)
    refine tX12_dayOn_43 (ha := (by first | assumption | (repeat (first | assumption | exact At.set_eq2 (by first | omega | (simp only [hset, hnew]; omega) | rfl | decide) | exact At.new_eq2 _ _ (by first | omega | (simp only [hset, hnew]; omega) | rfl | decide) | refine At.set_ne ?_ (by first | omega | (simp only [hset, hnew]; omega) | rfl | decide) | refine At.new_ne ?_)))) (hv := rfl) (r := ?_)
    refine tX12_dayOn_46 (ha := (by first | assumption | (repeat (first | assumption | exact At.set_eq2 (by first | omega | (simp only [hset, hnew]; omega) | rfl | decide) | exact At.new_eq2 _ _ (by first | omega | (simp only [hset, hnew]; omega) | rfl | decide) | refine At.set_ne ?_ (by first | omega | (simp only [hset, hnew]; omega) | rfl | decide) | refine At.new_ne ?_)))) (hv := rfl) (r := ?_)
    refine tX12_dayOn_49  (r := ?_)
    refine tX12_dayOn_50 (ha := (by first | assumption | (repeat (first | assumption | exact At.set_eq2 (by first | omega | (simp only [hset, hnew]; omega) | rfl | decide) | exact At.new_eq2 _ _ (by first | omega | (simp only [hset, hnew]; omega) | rfl | decide) | refine At.set_ne ?_ (by first | omega | (simp only [hset, hnew]; omega) | rfl | decide) | refine At.new_ne ?_)))) (hx := rfl) (hj := (by omega)) (hn := (by decide)) (r := ?_)
    rw [z3 _ hr]
    refine tX12_dayOn_51  (kt := fun c_ => by exfalso; exact absurd ((nI_leI (by omega) (by omega)).mp c_) (by omega)) (kf := fun _ => ?_)
    refine tX12_dayOn_54  (r := ?_)
    refine tX12_dayOn_55  (r := ?_)
    refine tX12_dayOn_56  (r := ?_)
    refine tX12_dayOn_58 (hd := (by omega)) (ha := (by first | assumption | (repeat (first | assumption | exact At.set_eq2 (by first | omega | (simp only [hset, hnew]; omega) | rfl | decide) | exact At.new_eq2 _ _ (by first | omega | (simp only [hset, hnew]; omega) | rfl | decide) | refine At.set_ne ?_ (by first | omega | (simp only [hset, hnew]; omega) | rfl | decide) | refine At.new_ne ?_)))) (call := s_doIt (d := 8) (s := (s.1, s.2.1, s.2.2.1, D2)) (by decide) c2 hb hi (k := a) (by show a < nAn s.2.2.1; omega) av (hok a h1_ (by omega))) (k := ?_)
    intro h1 hq
    obtain ⟨c3, hb3, av3, sv3⟩ := hq
    refine tX12_dayOn_61  (r := ?_)
    rw [nI_add]
    refine tX12_dayOn_64 (r := ?_)
    exact ih (a + 1) h1 _ _ (by omega) (by omega) c3 hb3 av3 (sv.trans sv3) e

set_option maxHeartbeats 4000000 in
set_option maxRecDepth 100000 in
theorem s_dayOn_l (hd : 9 ≤ d) {th : Int32} : ∀ (n i : Nat) (h : AH) (x3 x4 : Option Value), bLi s.2.2.1 ≤ i + n → i ≤ bLi s.2.2.1 → MoT h 216 th (s.1, s.2.1, s.2.2.1, (dsN s.2.2.1 s.2.2.2 i).1) → BDok s.2.2.1 (dsN s.2.2.1 s.2.2.2 i).1 → Sv h0 h → RQ G mX12_dayOn d 4 [some (.ref 216), some (.int (nI (dsN s.2.2.1 s.2.2.2 i).2)), some (.int (nI i)), x3, x4] [] h (Ri fun x h1 => x = nI (dsN s.2.2.1 s.2.2.2 (bLi s.2.2.1)).2 ∧ MoT h1 216 th (s.1, s.2.1, s.2.2.1, (dyD (dsN s.2.2.1 s.2.2.2 (bLi s.2.2.1)).1)) ∧ BDok s.2.2.1 (dyD (dsN s.2.2.1 s.2.2.2 (bLi s.2.2.1)).1) ∧ Sv h0 h1) := by
  have ex : ∀ (i : Nat) (h : AH) (x3 x4 : Option Value), i = bLi s.2.2.1 → MoT h 216 th (s.1, s.2.1, s.2.2.1, (dsN s.2.2.1 s.2.2.2 i).1) → BDok s.2.2.1 (dsN s.2.2.1 s.2.2.2 i).1 → Sv h0 h → RQ G mX12_dayOn d 4 [some (.ref 216), some (.int (nI (dsN s.2.2.1 s.2.2.2 i).2)), some (.int (nI i)), x3, x4] [] h (Ri fun x h1 => x = nI (dsN s.2.2.1 s.2.2.2 (bLi s.2.2.1)).2 ∧ MoT h1 216 th (s.1, s.2.1, s.2.2.1, (dyD (dsN s.2.2.1 s.2.2.2 (bLi s.2.2.1)).1)) ∧ BDok s.2.2.1 (dyD (dsN s.2.2.1 s.2.2.2 (bLi s.2.2.1)).1) ∧ Sv h0 h1) := by
    intro i h x3 x4 hi c2 hb sv
    subst hi
    obtain ⟨⟨tk, iw, er, et, dp, nm, am⟩, ⟨-, ⟨ft, at1, ct1⟩, -, -, -, -, -, -, -, ⟨ru, ac, no, a9, -, nor⟩, -, ⟨fv, a47⟩, ⟨fn, a48, n0, nb, nf, nl⟩, -, -, -, -⟩, ⟨⟨gs, as_, cs⟩, ⟨gw, aw, cw⟩, ⟨gl, al, cl⟩, ⟨g0, a0_, c0_⟩, ⟨g1, a1_, c1_⟩⟩⟩ := id c2
    have a9 : At h (216 + 9) (MBoO (216 + 9) (nI (bLa s.2.2.1)) (nI (bJa s.2.2.1)) (nI (bLi s.2.2.1)) ru ac no) := a9
    have nor : NoR h (216 + 9) s.2.2.1 := nor
    have l3 := hb.2.2.1
    have hw := hb.bs.1
    have h24 := hw.2.1
    have h60_ := hw.2.2.2.1
    refine tX12_dayOn_4  (r := ?_)
    refine tX12_dayOn_5  (r := ?_)
    refine tX12_dayOn_6 (ha := (by first | assumption | (repeat (first | assumption | exact At.set_eq2 (by first | omega | (simp only [hset, hnew]; omega) | rfl | decide) | exact At.new_eq2 _ _ (by first | omega | (simp only [hset, hnew]; omega) | rfl | decide) | refine At.set_ne ?_ (by first | omega | (simp only [hset, hnew]; omega) | rfl | decide) | refine At.new_ne ?_)))) (hv := rfl) (r := ?_)
    refine tX12_dayOn_9 (ha := (by first | assumption | (repeat (first | assumption | exact At.set_eq2 (by first | omega | (simp only [hset, hnew]; omega) | rfl | decide) | exact At.new_eq2 _ _ (by first | omega | (simp only [hset, hnew]; omega) | rfl | decide) | refine At.set_ne ?_ (by first | omega | (simp only [hset, hnew]; omega) | rfl | decide) | refine At.new_ne ?_)))) (hv := rfl) (r := ?_)
    refine tX12_dayOn_12  (kf := fun c_ => by exfalso; exact c_ ((nI_leI (by omega) (by omega)).mpr (Nat.le_refl _))) (kt := fun _ => ?_)
    refine tX12_dayOn_95  (r := ?_)
    refine tX12_dayOn_96 (ha := (by first | assumption | (repeat (first | assumption | exact At.set_eq2 (by first | omega | (simp only [hset, hnew]; omega) | rfl | decide) | exact At.new_eq2 _ _ (by first | omega | (simp only [hset, hnew]; omega) | rfl | decide) | refine At.set_ne ?_ (by first | omega | (simp only [hset, hnew]; omega) | rfl | decide) | refine At.new_ne ?_)))) (hv := rfl) (r := ?_)
    refine tX12_dayOn_99  (r := ?_)
    refine tX12_dayOn_100  (r := ?_)
    refine tX12_dayOn_101 (ha := (by first | assumption | (repeat (first | assumption | exact At.set_eq2 (by first | omega | (simp only [hset, hnew]; omega) | rfl | decide) | exact At.new_eq2 _ _ (by first | omega | (simp only [hset, hnew]; omega) | rfl | decide) | refine At.set_ne ?_ (by first | omega | (simp only [hset, hnew]; omega) | rfl | decide) | refine At.new_ne ?_)))) (hx := (show nI 0 = nI 0 from rfl)) (hj := (by decide)) (hn := (by decide)) (r := ?_)
    rw [n0]
    refine tX12_dayOn_102  (r := ?_)
    refine tX12_dayOn_103  (r := ?_)
    refine tX12_dayOn_104 (ha := (by first | assumption | (repeat (first | assumption | exact At.set_eq2 (by first | omega | (simp only [hset, hnew]; omega) | rfl | decide) | exact At.new_eq2 _ _ (by first | omega | (simp only [hset, hnew]; omega) | rfl | decide) | refine At.set_ne ?_ (by first | omega | (simp only [hset, hnew]; omega) | rfl | decide) | refine At.new_ne ?_)))) (hx := (show nI 0 = nI 0 from rfl)) (hj := (by decide)) (hn := (by decide)) (r := ?_)
    refine tX12_dayOn_105  (r := ?_)
    refine tX12_dayOn_106  (hP := ?_)
    have key := c2.now (f := upd fn 0 (dDay (dsN s.2.2.1 s.2.2.2 (bLi s.2.2.1)).1 + nI 1)) (dyD (dsN s.2.2.1 s.2.2.2 (bLi s.2.2.1)).1) (if_pos rfl) (fun j z hj hz => (if_neg (by omega)).trans (nb j z hj hz)) (fun z hz => (if_neg (by omega)).trans (nf z hz)) (fun z hz => (if_neg (by omega)).trans (nl z hz))
    exact ⟨_, rfl, rfl, key, hb.dy, sv.trans ⟨(Sm.rf _ _ _).set (by omega) (by omega), Un.set (Un.rf _ _ _) (by omega)⟩⟩
  intro n
  induction n with
  | zero => exact fun i h x3 x4 h1_ h2_ => ex i h x3 x4 (by omega)
  | succ n ih =>
    intro i h x3 x4 h1_ h2_ c2 hb sv
    by_cases hi : i = bLi s.2.2.1
    · exact ex i h x3 x4 hi c2 hb sv
    have hi2 : i < bLi s.2.2.1 := by omega
    obtain ⟨⟨tk, iw, er, et, dp, nm, am⟩, ⟨-, ⟨ft, at1, ct1⟩, -, -, -, -, -, -, -, ⟨ru, ac, no, a9, -, nor⟩, -, ⟨fv, a47⟩, ⟨fn, a48, n0, nb, nf, nl⟩, -, -, -, -⟩, ⟨⟨gs, as_, cs⟩, ⟨gw, aw, cw⟩, ⟨gl, al, cl⟩, ⟨g0, a0_, c0_⟩, ⟨g1, a1_, c1_⟩⟩⟩ := id c2
    have a9 : At h (216 + 9) (MBoO (216 + 9) (nI (bLa s.2.2.1)) (nI (bJa s.2.2.1)) (nI (bLi s.2.2.1)) ru ac no) := a9
    have nor : NoR h (216 + 9) s.2.2.1 := nor
    have l3 := hb.2.2.1
    have hw := hb.bs.1
    have h24 := hw.2.1
    have h60_ := hw.2.2.2.1
    refine tX12_dayOn_4  (r := ?_)
    refine tX12_dayOn_5  (r := ?_)
    refine tX12_dayOn_6 (ha := (by first | assumption | (repeat (first | assumption | exact At.set_eq2 (by first | omega | (simp only [hset, hnew]; omega) | rfl | decide) | exact At.new_eq2 _ _ (by first | omega | (simp only [hset, hnew]; omega) | rfl | decide) | refine At.set_ne ?_ (by first | omega | (simp only [hset, hnew]; omega) | rfl | decide) | refine At.new_ne ?_)))) (hv := rfl) (r := ?_)
    refine tX12_dayOn_9 (ha := (by first | assumption | (repeat (first | assumption | exact At.set_eq2 (by first | omega | (simp only [hset, hnew]; omega) | rfl | decide) | exact At.new_eq2 _ _ (by first | omega | (simp only [hset, hnew]; omega) | rfl | decide) | refine At.set_ne ?_ (by first | omega | (simp only [hset, hnew]; omega) | rfl | decide) | refine At.new_ne ?_)))) (hv := rfl) (r := ?_)
    refine tX12_dayOn_12  (kt := fun c_ => by exfalso; exact absurd ((nI_leI (by omega) (by omega)).mp c_) (by omega)) (kf := fun _ => ?_)
    refine tX12_dayOn_15  (r := ?_)
    refine tX12_dayOn_16  (r := ?_)
    refine tX12_dayOn_17 (hd := (by omega)) (ha := (by first | assumption | (repeat (first | assumption | exact At.set_eq2 (by first | omega | (simp only [hset, hnew]; omega) | rfl | decide) | exact At.new_eq2 _ _ (by first | omega | (simp only [hset, hnew]; omega) | rfl | decide) | refine At.set_ne ?_ (by first | omega | (simp only [hset, hnew]; omega) | rfl | decide) | refine At.new_ne ?_)))) (call := s_ruleOf (d := 8) (s := (s.1, s.2.1, s.2.2.1, (dsN s.2.2.1 s.2.2.2 i).1)) (by decide) hb hi2 c2) (k := ?_)
    rintro x h1 ⟨rfl, c3, sv1⟩
    have hl := hw.2.2.2.2.2.2.1 i hi2
    have hs := hb.bs.2
    obtain ⟨⟨tk3, iw3, er3, et3, dp3, nm3, am3⟩, ⟨-, -, -, -, -, -, -, -, -, ⟨ru3, ac3, no3, a93, -, nor3⟩, -, ⟨fv3, a473⟩, -⟩, -⟩ := id c3
    have a93 : At h1 (216 + 9) (MBoO (216 + 9) (nI (bLa s.2.2.1)) (nI (bJa s.2.2.1)) (nI (bLi s.2.2.1)) ru3 ac3 no3) := a93
    have nor3 : NoR h1 (216 + 9) s.2.2.1 := nor3
    obtain ⟨-, -, ⟨y1, y2, y3⟩, ⟨z1, z2, z3⟩, -⟩ := id nor3
    refine tX12_dayOn_20  (r := ?_)
    refine tX12_dayOn_21  (r := ?_)
    refine tX12_dayOn_22  (r := ?_)
    refine tX12_dayOn_23  (kt := fun c_23 => ?_) (kf := fun c_23 => ?_)
    · obtain ⟨r, en⟩ : ∃ r, rfD s.2.2.1 (dsN s.2.2.1 s.2.2.2 i).1 i = some r := by
        cases z : rfD s.2.2.1 (dsN s.2.2.1 s.2.2.2 i).1 i with
        | none =>
          rw [z] at c_23
          exact absurd rfl c_23
        | some r => exact ⟨r, rfl⟩
      obtain ⟨r1, r2⟩ := rfN_lt _ _ _ en
      have hr : r < bRs s.2.2.1 := by omega
      obtain ⟨-, -, ⟨w1_, w2_⟩, -⟩ := hw.2.2.2.2.2.2.2 r hr
      obtain ⟨-, ⟨D', hra, hac, hrd⟩⟩ := hs i (dsN s.2.2.1 s.2.2.2 i).1 hi2 hb.nine r r1 (by omega)
      have ed : (dsN s.2.2.1 s.2.2.2 (i + 1)) = (D', (dsN s.2.2.1 s.2.2.2 i).2 + acC s.2.2.1 (cTn s.2.2.1 r) (cAe s.2.2.1 r - cTn s.2.2.1 r)) := by
        show ((ldV s.2.2.1 i (dsN s.2.2.1 s.2.2.2 i).1).1, (dsN s.2.2.1 s.2.2.2 i).2 + (ldV s.2.2.1 i (dsN s.2.2.1 s.2.2.2 i).1).2) = _
        rw [ldV_some en hra]
      rw [show oI (rfD (s.1, s.2.1, s.2.2.1, (dsN s.2.2.1 s.2.2.2 i).1).2.2.1 (s.1, s.2.1, s.2.2.1, (dsN s.2.2.1 s.2.2.2 i).1).2.2.2 i) = nI r from by show oI (rfD s.2.2.1 (dsN s.2.2.1 s.2.2.2 i).1 i) = nI r; rw [en]; rfl]
      refine tX12_dayOn_29  (r := ?_)
      refine tX12_dayOn_30 (ha := (by first | assumption | (repeat (first | assumption | exact At.set_eq2 (by first | omega | (simp only [hset, hnew]; omega) | rfl | decide) | exact At.new_eq2 _ _ (by first | omega | (simp only [hset, hnew]; omega) | rfl | decide) | refine At.set_ne ?_ (by first | omega | (simp only [hset, hnew]; omega) | rfl | decide) | refine At.new_ne ?_)))) (hv := rfl) (r := ?_)
      refine tX12_dayOn_33 (ha := (by first | assumption | (repeat (first | assumption | exact At.set_eq2 (by first | omega | (simp only [hset, hnew]; omega) | rfl | decide) | exact At.new_eq2 _ _ (by first | omega | (simp only [hset, hnew]; omega) | rfl | decide) | refine At.set_ne ?_ (by first | omega | (simp only [hset, hnew]; omega) | rfl | decide) | refine At.new_ne ?_)))) (hv := rfl) (r := ?_)
      refine tX12_dayOn_36  (r := ?_)
      refine tX12_dayOn_37 (ha := (by first | assumption | (repeat (first | assumption | exact At.set_eq2 (by first | omega | (simp only [hset, hnew]; omega) | rfl | decide) | exact At.new_eq2 _ _ (by first | omega | (simp only [hset, hnew]; omega) | rfl | decide) | refine At.set_ne ?_ (by first | omega | (simp only [hset, hnew]; omega) | rfl | decide) | refine At.new_ne ?_)))) (hx := rfl) (hj := (by omega)) (hn := (by decide)) (r := ?_)
      rw [y3 _ hr]
      refine tX12_dayOn_38  (r := ?_)
      refine s_acts (h0 := h0) hd hi2 hr hw (D9 := D') (v9 := (rdV s.2.2.1 i (rFa s.2.2.1 r) (rBa s.2.2.1 r - rFa s.2.2.1 r) ((dsN s.2.2.1 s.2.2.2 i).1, fv3)).2) (fun h2 D2 v2 c4 hb4 av4 sv4 e4 => ?_) (rBa s.2.2.1 r - rFa s.2.2.1 r) (rFa s.2.2.1 r) h1 (dsN s.2.2.1 s.2.2.2 i).1 fv3 (Nat.le_refl _) (by omega) c3 hb a473 (sv.trans sv1) (by rw [← hrd fv3])
      cases e4
      clear n0 nb nf nl
      obtain ⟨⟨tk4, iw4, er4, et4, dp4, nm4, am4⟩, ⟨-, -, -, -, -, -, -, -, -, ⟨ru4, ac4, no4, a94, -, nor4⟩, -⟩, -⟩ := id c4
      have a94 : At h2 (216 + 9) (MBoO (216 + 9) (nI (bLa s.2.2.1)) (nI (bJa s.2.2.1)) (nI (bLi s.2.2.1)) ru4 ac4 no4) := a94
      have nor4 : NoR h2 (216 + 9) s.2.2.1 := nor4
      obtain ⟨-, -, ⟨y1_, y2_, y3_⟩, ⟨z1_, z2_, z3_⟩, -⟩ := id nor4
      refine tX12_dayOn_67  (r := ?_)
      refine tX12_dayOn_68  (r := ?_)
      refine tX12_dayOn_69 (ha := (by first | assumption | (repeat (first | assumption | exact At.set_eq2 (by first | omega | (simp only [hset, hnew]; omega) | rfl | decide) | exact At.new_eq2 _ _ (by first | omega | (simp only [hset, hnew]; omega) | rfl | decide) | refine At.set_ne ?_ (by first | omega | (simp only [hset, hnew]; omega) | rfl | decide) | refine At.new_ne ?_)))) (hv := rfl) (r := ?_)
      refine tX12_dayOn_72 (ha := (by first | assumption | (repeat (first | assumption | exact At.set_eq2 (by first | omega | (simp only [hset, hnew]; omega) | rfl | decide) | exact At.new_eq2 _ _ (by first | omega | (simp only [hset, hnew]; omega) | rfl | decide) | refine At.set_ne ?_ (by first | omega | (simp only [hset, hnew]; omega) | rfl | decide) | refine At.new_ne ?_)))) (hv := rfl) (r := ?_)
      refine tX12_dayOn_75  (r := ?_)
      refine tX12_dayOn_76 (ha := (by first | assumption | (repeat (first | assumption | exact At.set_eq2 (by first | omega | (simp only [hset, hnew]; omega) | rfl | decide) | exact At.new_eq2 _ _ (by first | omega | (simp only [hset, hnew]; omega) | rfl | decide) | refine At.set_ne ?_ (by first | omega | (simp only [hset, hnew]; omega) | rfl | decide) | refine At.new_ne ?_)))) (hx := rfl) (hj := (by omega)) (hn := (by decide)) (r := ?_)
      rw [z3_ _ hr]
      refine tX12_dayOn_77  (r := ?_)
      refine tX12_dayOn_78 (ha := (by first | assumption | (repeat (first | assumption | exact At.set_eq2 (by first | omega | (simp only [hset, hnew]; omega) | rfl | decide) | exact At.new_eq2 _ _ (by first | omega | (simp only [hset, hnew]; omega) | rfl | decide) | refine At.set_ne ?_ (by first | omega | (simp only [hset, hnew]; omega) | rfl | decide) | refine At.new_ne ?_)))) (hv := rfl) (r := ?_)
      refine tX12_dayOn_81 (ha := (by first | assumption | (repeat (first | assumption | exact At.set_eq2 (by first | omega | (simp only [hset, hnew]; omega) | rfl | decide) | exact At.new_eq2 _ _ (by first | omega | (simp only [hset, hnew]; omega) | rfl | decide) | refine At.set_ne ?_ (by first | omega | (simp only [hset, hnew]; omega) | rfl | decide) | refine At.new_ne ?_)))) (hv := rfl) (r := ?_)
      refine tX12_dayOn_84  (r := ?_)
      refine tX12_dayOn_85 (ha := (by first | assumption | (repeat (first | assumption | exact At.set_eq2 (by first | omega | (simp only [hset, hnew]; omega) | rfl | decide) | exact At.new_eq2 _ _ (by first | omega | (simp only [hset, hnew]; omega) | rfl | decide) | refine At.set_ne ?_ (by first | omega | (simp only [hset, hnew]; omega) | rfl | decide) | refine At.new_ne ?_)))) (hx := rfl) (hj := (by omega)) (hn := (by decide)) (r := ?_)
      rw [y3_ _ hr]
      refine tX12_dayOn_86  (r := ?_)
      have h61_ : nAn s.2.2.1 ≤ 60 := h60_
      rw [nI_subN (by omega) (by omega)]
      refine tX12_dayOn_87  (r := ?_)
      rw [nI_add, ← hac]
      refine tX12_dayOn_88  (r := ?_)
      refine tX12_dayOn_89  (r := ?_)
      rw [nI_add]
      refine tX12_dayOn_92 (r := ?_)
      have key := fun x_ y_ => ih (i + 1) h2 x_ y_ (by omega) (by omega)
      rw [ed] at key
      exact key _ _ c4 hb4 sv4
    · have en : rfD s.2.2.1 (dsN s.2.2.1 s.2.2.2 i).1 i = none := (oI_m1 (fun k z => by have := rfN_lt _ _ _ z; omega)).mp c_23
      have ed : (dsN s.2.2.1 s.2.2.2 (i + 1)) = (dsN s.2.2.1 s.2.2.2 i) := by
        show ((ldV s.2.2.1 i (dsN s.2.2.1 s.2.2.2 i).1).1, (dsN s.2.2.1 s.2.2.2 i).2 + (ldV s.2.2.1 i (dsN s.2.2.1 s.2.2.2 i).1).2) = _
        rw [ldV_none en]
        rfl
      refine tX12_dayOn_26 (r := ?_)
      refine tX12_dayOn_89  (r := ?_)
      rw [nI_add]
      refine tX12_dayOn_92 (r := ?_)
      have key := fun x_ y_ => ih (i + 1) h1 x_ y_ (by omega) (by omega)
      rw [ed] at key
      exact key _ _ c3 hb (sv.trans sv1)

set_option maxHeartbeats 4000000 in
set_option maxRecDepth 100000 in
theorem s_dayOn (hd : 9 ≤ d) {th : Int32} (c2 : MoT h0 216 th s) (hb : BDok s.2.2.1 s.2.2.2) : RQ G mX12_dayOn d 0 [some (.ref 216), none, none, none, none] [] h0 (Ri fun x h1 => x = nI (dsN s.2.2.1 s.2.2.2 (bLi s.2.2.1)).2 ∧ MoT h1 216 th (s.1, s.2.1, s.2.2.1, (dyD (dsN s.2.2.1 s.2.2.2 (bLi s.2.2.1)).1)) ∧ BDok s.2.2.1 (dyD (dsN s.2.2.1 s.2.2.2 (bLi s.2.2.1)).1) ∧ Sv h0 h1) := by
  refine tX12_dayOn_0  (r := ?_)
  refine tX12_dayOn_1  (r := ?_)
  refine tX12_dayOn_2  (r := ?_)
  refine tX12_dayOn_3  (r := ?_)
  exact s_dayOn_l (s := s) hd (bLi s.2.2.1) 0 h0 none none (by omega) (by omega) c2 hb (Sv.rf _)

end DOI
