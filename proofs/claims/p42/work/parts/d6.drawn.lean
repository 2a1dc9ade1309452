/-! drawing a cupboard, from its first step to its last -/
section D6
variable {G : GT} {d di b ck sk c : Nat} {h0 h : AH}

set_option maxHeartbeats 4000000 in
theorem s_drB (hd : 19 ≤ d) {la lt f0 j0 l0 : Nat} (l1 : 0 < la) (l6 : la ≤ 6) (l2 : lt ≤ la) (gc : h0.1 ≤ c) (a0 : At h c (.inr (10, [.ref f0, .ref j0, .ref l0, .int 0]))) (w : Dw h0 h di b [] ck sk) : RQ G mL_drawn d 38 [some (.ref di), some (.ref b), some (.ref c), some (.int (nI la)), some (.int (nI lt)), none, none, none, none, none, none, none] [] h (Rr fun r h1 => ∃ (la e : Nat) (js : List EJa) (ls : List ELi), okB e la js ls ∧ 0 < la ∧ (∀ x ∈ ls, x.2.2.length ≤ 2) ∧ (∀ B D, MtB la js ls B D → HaR h1 r B D (rsA ls)) ∧ Dw h0 h1 di b (bkX e la js ls) (ck + 6000) (sk + 800000)) := by
  refine tL_drawn_38  (r := ?_)
  refine tL_drawn_39  (r := ?_)
  refine tL_drawn_40  (r := ?_)
  refine tL_drawn_41 (hd := (by omega)) (ha := w.dc.choose_spec) (call := s_dNext (d := d - 1) (by omega) w (n := 4) (by omega) (by omega)) (k := ?_)
  rintro r_ H1 ⟨⟨z1, hz1, e_⟩, W1, K1, g1⟩
  rw [e_]
  clear e_
  refine tL_drawn_44  (r := ?_)
  rw [nI_add]
  refine tL_drawn_45  (r := ?_)
  refine tL_drawn_47  (r := ?_)
  refine tL_drawn_48  (r := ?_)
  refine tL_drawn_49 (hx := rfl) (hn := (by omega)) (r := ?_)
  refine tL_drawn_51 (ha := (At.new_ne (K1.at a0 (nd_r ⟨by decide, by decide⟩)))) (hlen := rfl) (r := ?_)
  have a1 := K1.at a0 (nd_r ⟨by decide, by decide⟩)
  have gA : h0.1 ≤ H1.1 := W1.ge
  have wA : Dw h0 (hset (hnew H1 la (.inl (0, la, .inl (fun _ => 0)))) c (.inr (10, [.ref H1.1, .ref j0, .ref l0, .int 0]))) di b [] (ck + 1) (sk + la) := (W1.new (n := la) (c := .inl (0, la, .inl (fun _ => 0)))).set (At.new_ne a1) (nd_r ⟨by decide, by decide⟩) gc
  have cA : At (hset (hnew H1 la (.inl (0, la, .inl (fun _ => 0)))) c (.inr (10, [.ref H1.1, .ref j0, .ref l0, .int 0]))) c (.inr (10, [.ref H1.1, .ref j0, .ref l0, .int 0])) := At.set_eq2 (At.new_ne a1).1
  have fA : At (hset (hnew H1 la (.inl (0, la, .inl (fun _ => 0)))) c (.inr (10, [.ref H1.1, .ref j0, .ref l0, .int 0]))) H1.1 (.inl (0, la, .inl (fun _ => 0))) := At.set_ne (At.new_eq H1 la _) (Nat.ne_of_gt a1.1)
  show RQ G mL_drawn d 54 _ _ (hset (hnew H1 la (.inl (0, la, .inl (fun _ => 0)))) c (.inr (10, [.ref H1.1, .ref j0, .ref l0, .int 0]))) _
  revert wA cA fA
  generalize hset (hnew H1 la (.inl (0, la, .inl (fun _ => 0)))) c (.inr (10, [.ref H1.1, .ref j0, .ref l0, .int 0])) = hA
  intro wA cA fA
  refine tL_drawn_54  (r := ?_)
  refine tL_drawn_55  (r := ?_)
  refine s_dr1 l6 gA rfl (fun hB ff cB fB ffB wB => ?_) la 0 hA _ (by omega) (Nat.zero_le _) cA fA (fun k hk => absurd hk (Nat.not_lt_zero k)) wA
  refine tL_drawn_77  (r := ?_)
  refine tL_drawn_78  (r := ?_)
  refine s_dr2 (h := hB) (ck := ck + 1) (sk := sk + la) (by omega) l6 (e := la - lt) (by omega) (pk_sub l2) rfl (fun hC kC wC => ?_) (la - lt) 0 hB (by omega) (Nat.zero_le _) (KpD.rf hB) (wB.sub (by omega) (by omega))
  have cC := kC.at cB (nd_r ⟨by decide, by decide⟩)
  have fC := kC.at fB (nd_a (by decide))
  have gC : h0.1 ≤ hC.1 := wC.ge
  refine tL_drawn_127  (r := ?_)
  refine tL_drawn_128  (r := ?_)
  refine tL_drawn_130 (hx := rfl) (hn := (by omega)) (r := ?_)
  refine tL_drawn_133 (ha := (At.new_ne cC)) (hlen := rfl) (r := ?_)
  have wD : Dw h0 (hset (hnew hC (1 + z1) (.inl (5, 1 + z1, .inr (.inr (.inr (.inr (fun _ => none))))))) c (.inr (10, [.ref H1.1, .ref hC.1, .ref l0, .int 0]))) di b (lbsX true 0 (la - lt)) (ck + 1 + 10 * (la - lt) + 1) (sk + la + 8006 * (la - lt) + (1 + z1)) := (wC.new (n := 1 + z1) (c := .inl (5, 1 + z1, .inr (.inr (.inr (.inr (fun _ => none))))))).set (At.new_ne cC) (nd_r ⟨by decide, by decide⟩) gc
  have cD : At (hset (hnew hC (1 + z1) (.inl (5, 1 + z1, .inr (.inr (.inr (.inr (fun _ => none))))))) c (.inr (10, [.ref H1.1, .ref hC.1, .ref l0, .int 0]))) c (.inr (10, [.ref H1.1, .ref hC.1, .ref l0, .int 0])) := At.set_eq2 (At.new_ne cC).1
  have fD : At (hset (hnew hC (1 + z1) (.inl (5, 1 + z1, .inr (.inr (.inr (.inr (fun _ => none))))))) c (.inr (10, [.ref H1.1, .ref hC.1, .ref l0, .int 0]))) H1.1 (.inl (0, la, .inl ff)) := At.set_ne (At.new_ne fC) (fC.ne cC (by simp))
  have jD : At (hset (hnew hC (1 + z1) (.inl (5, 1 + z1, .inr (.inr (.inr (.inr (fun _ => none))))))) c (.inr (10, [.ref H1.1, .ref hC.1, .ref l0, .int 0]))) hC.1 (.inl (5, 1 + z1, .inr (.inr (.inr (.inr (fun _ => none)))))) := At.set_ne (At.new_eq hC _ _) (Nat.ne_of_gt cC.1)
  show RQ G mL_drawn d 136 _ _ (hset (hnew hC (1 + z1) (.inl (5, 1 + z1, .inr (.inr (.inr (.inr (fun _ => none))))))) c (.inr (10, [.ref H1.1, .ref hC.1, .ref l0, .int 0]))) _
  revert wD cD fD jD
  generalize hset (hnew hC (1 + z1) (.inl (5, 1 + z1, .inr (.inr (.inr (.inr (fun _ => none))))))) c (.inr (10, [.ref H1.1, .ref hC.1, .ref l0, .int 0])) = hD
  intro wD cD fD jD
  refine tL_drawn_136  (r := ?_)
  refine tL_drawn_137 (hx := rfl) (hn := (by decide)) (r := ?_)
  refine tL_drawn_140  (r := ?_)
  refine tL_drawn_141  (r := ?_)
  refine tL_drawn_142  (r := ?_)
  refine tL_drawn_144o (i := 44) (hi := (by decide)) (ha := (At.new_eq hD 3 _)) (hx := rfl) (hj := (by decide)) (hn := (by decide)) (r := ?_)
  refine tL_drawn_145  (r := ?_)
  refine tL_drawn_146  (r := ?_)
  refine tL_drawn_147  (r := ?_)
  refine tL_drawn_149o (i := 45) (hi := (by decide)) (ha := (At.set_eq2 (Nat.lt_succ_self hD.1))) (hx := rfl) (hj := (by decide)) (hn := (by decide)) (r := ?_)
  refine tL_drawn_150  (r := ?_)
  refine tL_drawn_151  (r := ?_)
  refine tL_drawn_152  (r := ?_)
  refine tL_drawn_154o (i := 46) (hi := (by decide)) (ha := (At.set_eq2 (Nat.lt_succ_self hD.1))) (hx := rfl) (hj := (by decide)) (hn := (by decide)) (r := ?_)
  rw [hset_hset, hset_hset]
  have nD := At.new_eq hD 3 (.inl (9, 3, .inr (.inr (.inr (.inr (fun _ => none))))))
  have wE : Dw h0 (hset (hnew hD 3 (.inl (9, 3, .inr (.inr (.inr (.inr (fun _ => none))))))) hD.1 (.inl (9, 3, .inr (.inr (.inr (.inr (va_up (va_up (va_up (fun _ => none) 0 (some (OLD + (100 + 44)))) 1 (some (OLD + (100 + 45)))) 2 (some (OLD + (100 + 46)))))))))) di b (lbsX true 0 (la - lt)) (ck + 1 + 10 * (la - lt) + 1 + 1) (sk + la + 8006 * (la - lt) + (1 + z1) + 3) := (wD.new (n := 3) (c := .inl (9, 3, .inr (.inr (.inr (.inr (fun _ => none))))))).set nD (nd_a (by decide)) wD.ge
  have cE : At (hset (hnew hD 3 (.inl (9, 3, .inr (.inr (.inr (.inr (fun _ => none))))))) hD.1 (.inl (9, 3, .inr (.inr (.inr (.inr (va_up (va_up (va_up (fun _ => none) 0 (some (OLD + (100 + 44)))) 1 (some (OLD + (100 + 45)))) 2 (some (OLD + (100 + 46)))))))))) c (.inr (10, [.ref H1.1, .ref hC.1, .ref l0, .int 0])) := At.set_ne (At.new_ne cD) (Nat.ne_of_lt cD.1)
  have fE : At (hset (hnew hD 3 (.inl (9, 3, .inr (.inr (.inr (.inr (fun _ => none))))))) hD.1 (.inl (9, 3, .inr (.inr (.inr (.inr (va_up (va_up (va_up (fun _ => none) 0 (some (OLD + (100 + 44)))) 1 (some (OLD + (100 + 45)))) 2 (some (OLD + (100 + 46)))))))))) H1.1 (.inl (0, la, .inl ff)) := At.set_ne (At.new_ne fD) (Nat.ne_of_lt fD.1)
  have jE : At (hset (hnew hD 3 (.inl (9, 3, .inr (.inr (.inr (.inr (fun _ => none))))))) hD.1 (.inl (9, 3, .inr (.inr (.inr (.inr (va_up (va_up (va_up (fun _ => none) 0 (some (OLD + (100 + 44)))) 1 (some (OLD + (100 + 45)))) 2 (some (OLD + (100 + 46)))))))))) hC.1 (.inl (5, 1 + z1, .inr (.inr (.inr (.inr (fun _ => none)))))) := At.set_ne (At.new_ne jD) (Nat.ne_of_lt jD.1)
  have qE : WaR (hset (hnew hD 3 (.inl (9, 3, .inr (.inr (.inr (.inr (fun _ => none))))))) hD.1 (.inl (9, 3, .inr (.inr (.inr (.inr (va_up (va_up (va_up (fun _ => none) 0 (some (OLD + (100 + 44)))) 1 (some (OLD + (100 + 45)))) 2 (some (OLD + (100 + 46)))))))))) hD.1 := ⟨_, At.set_eq2 nD.1, fun q hq => by
    rcases (by omega : q = 0 ∨ q = 1 ∨ q = 2) with rfl | rfl | rfl <;> rfl⟩
  show RQ G mL_drawn d 155 _ _ (hset (hnew hD 3 (.inl (9, 3, .inr (.inr (.inr (.inr (fun _ => none))))))) hD.1 (.inl (9, 3, .inr (.inr (.inr (.inr (va_up (va_up (va_up (fun _ => none) 0 (some (OLD + (100 + 44)))) 1 (some (OLD + (100 + 45)))) 2 (some (OLD + (100 + 46)))))))))) _
  revert wE cE fE jE qE
  generalize hset (hnew hD 3 (.inl (9, 3, .inr (.inr (.inr (.inr (fun _ => none))))))) hD.1 (.inl (9, 3, .inr (.inr (.inr (.inr (va_up (va_up (va_up (fun _ => none) 0 (some (OLD + (100 + 44)))) 1 (some (OLD + (100 + 45)))) 2 (some (OLD + (100 + 46))))))))) = hE
  intro wE cE fE jE qE
  refine tL_drawn_155  (r := ?_)
  refine tL_drawn_157  (r := ?_)
  refine tL_drawn_158  (r := ?_)
  have jE0 : JsA hE c H1.1 hC.1 la (1 + z1) [] := ⟨_, ff, _, fun _ => 0, fun _ => 0, ⟨by have := w.2.2.2; omega, by have := w.2.2.2; omega, by have := w.2.2.2; omega⟩, cE, ⟨fE, ffB⟩, jE, fun j hj => absurd hj (Nat.not_lt_zero j), fun i j hi _ _ => absurd hi (Nat.not_lt_zero i)⟩
  obtain ⟨cq, ecq⟩ : ∃ cq, cq = ck + 1 + 10 * (la - lt) + 1 + 1 := ⟨_, rfl⟩
  obtain ⟨sq, esq⟩ : ∃ sq, sq = sk + la + 8006 * (la - lt) + (1 + z1) + 3 := ⟨_, rfl⟩
  refine s_drJ (ck := cq) (sk := sq) (by omega) l1 l6 (by omega) gC (fun hF lt js x8 x9 x10 x11 p1 p2 p3 p4 p5 p6 p7 => ?_) (1 + z1) 0 hE lt [] none none none none (by omega) (Nat.zero_le _) rfl jE0 qE ?_ l2 (fun _ => rfl) (fun y hy => nomatch hy)
  rotate_left
  · have e0 : lbsX true 0 (la - lt) ++ jsX 0 [] = lbsX true 0 (la - lt) := List.append_nil _
    rw [e0]
    exact wE.sub (by omega) (by omega)
  have ltl : lt < la := Nat.lt_of_le_of_ne p5 (fun z => by
    rw [p6 z] at p1
    have p1 : 0 = 1 + z1 := p1
    omega)
  have jl := (jsK_le (by omega) js 0 p7).2
  have ll := (lbK_le true (la - lt) 0).2
  refine tL_drawn_406  (r := ?_)
  refine tL_drawn_407  (r := ?_)
  refine tL_drawn_409  (r := ?_)
  rw [pk_sub p5]
  refine tL_drawn_410  (r := ?_)
  refine s_drL (h0 := h0) (hb := hF) (ck := cq + 100 * (1 + z1)) (sk := sq + 90000 * (1 + z1)) (by omega) l6 (e := la - lt) (lt := lt) (by omega) (T := lbsX true 0 (la - lt) ++ jsX 0 js) (by rw [List.length_append]; omega) rfl (fun hG kG wG => ?_) lt 0 hF (by omega) (Nat.zero_le _) (KpD.rf hF) ?_
  rotate_left
  · have e0 : lbsX true 0 (la - lt) ++ jsX 0 js ++ lbsX false (la - lt) 0 = lbsX true 0 (la - lt) ++ jsX 0 js := List.append_nil _
    rw [e0]
    exact p4
  have jG := p2.kd kG
  have l9 := (lbK_le false lt (la - lt)).2
  obtain ⟨v3, cG⟩ := jG.cc
  refine tL_drawn_444  (r := ?_)
  refine tL_drawn_445  (r := ?_)
  refine tL_drawn_446  (r := ?_)
  refine tL_drawn_447 (hd := (by omega)) (ha := wG.dc.choose_spec) (call := s_dNext (d := d - 1) (by omega) wG (n := 4) (by omega) (by omega)) (k := ?_)
  rintro r_ H9 ⟨⟨z2, hz9, e_⟩, W9, K9, g9⟩
  rw [e_]
  clear e_
  refine tL_drawn_450 (hx := rfl) (hn := (by omega)) (r := ?_)
  refine tL_drawn_453 (ha := (At.new_ne (K9.at cG (nd_r ⟨by decide, by decide⟩)))) (hlen := rfl) (r := ?_)
  have cG2 := K9.at cG (nd_r ⟨by decide, by decide⟩)
  have jG2 := jG.kd K9
  have gG := W9.ge
  have gG6 := W9.g216
  have wH : Dw h0 (hset (hnew H9 z2 (.inl (6, z2, .inr (.inr (.inr (.inr (fun _ => none))))))) c (.inr (10, [.ref H1.1, .ref hC.1, .ref H9.1, .int 0]))) di b (lbsX true 0 (la - lt) ++ jsX 0 js ++ lbsX false (la - lt) lt) (cq + 100 * (1 + z1) + 10 * lt + 1) (sq + 90000 * (1 + z1) + 8006 * lt + z2) := (W9.new (n := z2) (c := .inl (6, z2, .inr (.inr (.inr (.inr (fun _ => none))))))).set (At.new_ne cG2) (nd_r ⟨by decide, by decide⟩) gc
  have cH : At (hset (hnew H9 z2 (.inl (6, z2, .inr (.inr (.inr (.inr (fun _ => none))))))) c (.inr (10, [.ref H1.1, .ref hC.1, .ref H9.1, .int 0]))) c (.inr (10, [.ref H1.1, .ref hC.1, .ref H9.1, .int 0])) := At.set_eq2 (At.new_ne cG2).1
  have jH : JsA (hset (hnew H9 z2 (.inl (6, z2, .inr (.inr (.inr (.inr (fun _ => none))))))) c (.inr (10, [.ref H1.1, .ref hC.1, .ref H9.1, .int 0]))) c H1.1 hC.1 la (1 + z1) js := (jG2.kd KpD.new).setc (At.new_ne cG2)
  have lH : LsA (hset (hnew H9 z2 (.inl (6, z2, .inr (.inr (.inr (.inr (fun _ => none))))))) c (.inr (10, [.ref H1.1, .ref hC.1, .ref H9.1, .int 0]))) H9.1 z2 [] := ⟨_, fun _ => 0, fun _ => 0, gG6, At.set_ne (At.new_eq H9 z2 _) (Nat.ne_of_gt cG2.1), fun j hj => absurd hj (Nat.not_lt_zero j), fun i j hi _ _ => absurd hi (Nat.not_lt_zero i)⟩
  show RQ G mL_drawn d 456 _ _ (hset (hnew H9 z2 (.inl (6, z2, .inr (.inr (.inr (.inr (fun _ => none))))))) c (.inr (10, [.ref H1.1, .ref hC.1, .ref H9.1, .int 0]))) _
  revert wH cH jH lH
  generalize hset (hnew H9 z2 (.inl (6, z2, .inr (.inr (.inr (.inr (fun _ => none))))))) c (.inr (10, [.ref H1.1, .ref hC.1, .ref H9.1, .int 0])) = hH
  intro wH cH jH lH
  refine tL_drawn_456  (r := ?_)
  refine tL_drawn_457  (r := ?_)
  refine s_drI (ck := cq + 100 * (1 + z1) + 10 * lt + 1) (sk := sq + 90000 * (1 + z1) + 8006 * lt + z2) (by omega) l1 l6 (by omega) (by omega) (by omega) (T := lbsX true 0 (la - lt) ++ jsX 0 js ++ lbsX false (la - lt) lt) (by simp only [List.length_append]; omega) gG rfl (fun hI ls x8 x9 q1 q2 q3 q4 q5 q6 q7 q8 => ?_) z2 0 hH [] _ _ (by omega) (Nat.zero_le _) rfl jH cH lH (fun x hx => nomatch hx) (Nat.zero_le _) (fun _ => rfl) ?_
  rotate_left
  · have e0 : lbsX true 0 (la - lt) ++ jsX 0 js ++ lbsX false (la - lt) lt ++ lsX 0 [] = lbsX true 0 (la - lt) ++ jsX 0 js ++ lbsX false (la - lt) lt := List.append_nil _
    rw [e0]
    exact wH.sub (by omega) (by omega)
  refine tL_drawn_645  (r := ?_)
  refine tL_drawn_646  (hP := ?_)
  refine ⟨_, rfl, la, la - lt, js, ls, ⟨⟨by omega, l6⟩, ⟨by omega, by omega⟩, by omega, by omega, p7, fun x hx => by rw [p1]; exact (q5 x hx).1⟩, l1, fun x hx => (q5 x hx).2, fun B D m => ?_, ?_⟩
  · rw [← p1] at q2
    rw [← q1] at q4
    exact q2.hand q3 q4 m
  · have et : bkX (la - lt) la js ls = lbsX true 0 (la - lt) ++ jsX 0 js ++ lbsX false (la - lt) lt ++ lsX 0 ls := by
      unfold bkX
      rw [show la - (la - lt) = lt by omega]
      simp only [List.append_assoc]
    rw [et]
    exact q8.sub (by omega) (by omega)
set_option maxHeartbeats 4000000 in
theorem s_drawn (hd : 19 ≤ d) (w : Dw h0 h di b [] ck sk) : RQ G mL_drawn d 0 [some (.ref di), some (.ref b), none, none, none, none, none, none, none, none, none, none] [] h (Rr fun r h1 => ∃ (la e : Nat) (js : List EJa) (ls : List ELi), okB e la js ls ∧ 0 < la ∧ (∀ x ∈ ls, x.2.2.length ≤ 2) ∧ (∀ B D, MtB la js ls B D → HaR h1 r B D (rsA ls)) ∧ Dw h0 h1 di b (bkX e la js ls) (ck + 6004) (sk + 800004)) := by
  refine tL_drawn_0  (r := ?_)
  have w0 := w.new (n := 4) (c := .inr (10, [.null, .null, .null, .int 0]))
  have b0 := At.new_eq h 4 (.inr (10, [.null, .null, .null, .int 0]))
  have gc : h0.1 ≤ h.1 := w.ge
  revert w0 b0
  generalize hnew h 4 (.inr (10, [.null, .null, .null, .int 0])) = hA
  intro w0 b0
  refine tL_drawn_3  (r := ?_)
  refine tL_drawn_4 (hd := (by omega)) (call := s_cuInit (d := d - 1) (by omega) b0) (k := ?_)
  rintro hB ⟨⟨f0, j0, l0, cB⟩, fB⟩
  have wB := w0.fc b0 (nd_r ⟨by decide, by decide⟩) gc fB
  refine tL_drawn_7  (r := ?_)
  refine tL_drawn_8  (r := ?_)
  refine tL_drawn_9  (r := ?_)
  refine tL_drawn_10  (r := ?_)
  refine tL_drawn_12 (hd := (by omega)) (ha := wB.dc.choose_spec) (call := s_dNext (d := d - 1) (by omega) wB (n := 6) (by omega) (by omega)) (k := ?_)
  rintro r_ H1 ⟨⟨z1, hz1, e_⟩, W1, K1, g1⟩
  rw [e_]
  clear e_
  refine tL_drawn_15  (r := ?_)
  rw [nI_add]
  refine tL_drawn_16  (r := ?_)
  refine tL_drawn_17  (r := ?_)
  refine tL_drawn_18  (r := ?_)
  refine tL_drawn_19 (hd := (by omega)) (ha := W1.dc.choose_spec) (call := s_dNext (d := d - 1) (by omega) W1 (n := 3) (by omega) (by omega)) (k := ?_)
  rintro r_ H2 ⟨⟨z2, hz2, e_⟩, W2, K2, g2⟩
  rw [e_]
  clear e_
  refine tL_drawn_22  (kt := fun c_22 => ?_) (kf := fun c_22 => ?_)
  · refine tL_drawn_35  (r := ?_)
    refine tL_drawn_36  (r := ?_)
    refine RQ.imp (s_drB (c := h.1) (la := 1 + z1) (lt := 0) hd (by omega) (by omega) (by omega) gc ((K1.trans K2).at cB (nd_r ⟨by decide, by decide⟩)) W2) ?_
    rintro o9 h9 ⟨r, e, la, e2, js, ls, k1, k2, k2b, k3, k4⟩
    exact ⟨r, e, la, e2, js, ls, k1, k2, k2b, k3, k4.sub (by omega) (by omega)⟩
  · refine tL_drawn_25  (r := ?_)
    refine tL_drawn_26  (r := ?_)
    refine tL_drawn_27  (r := ?_)
    refine tL_drawn_28  (r := ?_)
    rw [nI_add]
    refine tL_drawn_29 (hd := (by omega)) (ha := W2.dc.choose_spec) (call := s_dNext (d := d - 1) (by omega) W2 (n := 1 + z1 + 1) (by omega) (by omega)) (k := ?_)
    rintro r_ H3 ⟨⟨z3, hz3, e_⟩, W3, K3, g3⟩
    rw [e_]
    clear e_
    refine tL_drawn_32 (r := ?_)
    refine tL_drawn_36  (r := ?_)
    refine RQ.imp (s_drB (c := h.1) (la := 1 + z1) (lt := z3) hd (by omega) (by omega) (by omega) gc (((K1.trans K2).trans K3).at cB (nd_r ⟨by decide, by decide⟩)) W3) ?_
    rintro o9 h9 ⟨r, e, la, e2, js, ls, k1, k2, k2b, k3, k4⟩
    exact ⟨r, e, la, e2, js, ls, k1, k2, k2b, k3, k4.sub (by omega) (by omega)⟩
end D6
