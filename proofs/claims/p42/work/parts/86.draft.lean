/-! the class's draft, in cells -/
abbrev nL (v : Nat) : Int64 := Int64.ofNat v
def NaX (h : AH) (a n c : Nat) (f : Nat → Nat) : Prop := ∃ g : Nat → Int64, At h a (.inl (2, n, .inr (.inl g))) ∧ ∀ k, k < c → g k = nL (f k) ∧ f k < 1099511627776
def NiX (h : AH) (a n c : Nat) (f : Nat → Nat) : Prop := ∃ g : Nat → Int32, At h a (.inl (0, n, .inl g)) ∧ ∀ k, k < c → g k = nI (f k)
def NkX (h : AH) (a n c : Nat) (f : Nat → Nat) : Prop := ∃ g : Nat → Option Nat, At h a (.inl (4, n, .inr (.inr (.inr (.inr g))))) ∧ ∀ k, k < c → g k = some (OLD + f k)
def ScO (b : Nat) (st ru ac : Int32) : AC := .inr (5, [.ref (b + 1), .ref (b + 2), .ref (b + 3), .ref (b + 4), .ref (b + 5), .int st, .int ru, .int ac])
/-- its script -/
def ScX (h : AH) (b : Nat) (B : BK) : Prop := At h b (ScO b (nI (cSt B)) (nI (bRs B)) (nI (nAn B))) ∧ NkX h (b + 1) 400 (cSt B) (cKd B) ∧ NiX h (b + 2) 400 (cSt B) (cNu B) ∧ NiX h (b + 3) 24 24 (cTe B) ∧ NiX h (b + 4) 24 24 (cTn B) ∧ NiX h (b + 5) 24 24 (cAe B) ∧ cSt B ≤ 400 ∧ bRs B ≤ 24 ∧ nAn B ≤ 60
def JaN (h : AH) (j : Nat) (b : Nat → Nat) (se wy : Nat) : Prop := ∃ bf p w l tu fi ma, JarC h j bf p w l (nI se) (24 + wy) tu fi ma (nI 0) ∧ ∀ k, k < 6 → bf k = nI (b k)
/-- its start -/
def CuN (h : AH) (c : Nat) (se wy : Nat → Nat) (E : Nat → Nat → Nat) (O : Nat → Nat) : Prop := ∃ (jf : Nat → Option Nat) (lj fo le : Nat → Int32), At h c (CupO c 0) ∧ At h (c + 1) (.inl (3, 8, .inr (.inr (.inr (.inr jf))))) ∧ At h (c + 2) (.inl (0, 6, .inl lj)) ∧ At h (c + 3) (.inl (0, 6, .inl fo)) ∧ At h (c + 4) (.inl (0, 6, .inl le)) ∧ (∀ i, i < 8 → jf i = some (c + 5 + 5 * i)) ∧ (∀ i, i < 6 → lj i = nI (O i) ∧ O i < 8) ∧ (∀ i, i < 6 → fo i = -1 ∧ le i = nI i) ∧ ∀ i, i < 8 → JaN h (c + 5 + 5 * i) (E i) (se i) (wy i) ∧ wy i < 3
def BoX (h : AH) (b : Nat) (d : DRF) : Prop := At h b (BooO b (nI (bLa d.1)) (nI (bJa d.1)) (nI (bLi d.1))) ∧ NaX h (b + 1) 6 (bLa d.1) (dfL d) ∧ NaX h (b + 2) 8 (bJa d.1) (dfJ d) ∧ NaX h (b + 3) 6 (bLi d.1) (dfI d) ∧ NiX h (b + 4) 6 (bLi d.1) (bLl d.1) ∧ NiX h (b + 5) 6 (bLi d.1) (fun i => (bRu d.1 i).1) ∧ NiX h (b + 6) 6 (bLi d.1) (fun i => (bRu d.1 i).2) ∧ CuN h (b + 7) (bSe d.1) (bWy d.1) (dfE d) (dfO d) ∧ ScX h (b + 52) d.1 ∧ bLa d.1 ≤ 6 ∧ bJa d.1 ≤ 8 ∧ bLi d.1 ≤ 6
theorem NaX.sm {h h1 : AH} {a n c lo hi : Nat} {f : Nat → Nat} (q : NaX h a n c f) (sm : Sm h h1 lo hi) (e : a < lo ∨ hi ≤ a) : NaX h1 a n c f := ⟨q.choose, sm.at q.choose_spec.1 e, q.choose_spec.2⟩
theorem NiX.sm {h h1 : AH} {a n c lo hi : Nat} {f : Nat → Nat} (q : NiX h a n c f) (sm : Sm h h1 lo hi) (e : a < lo ∨ hi ≤ a) : NiX h1 a n c f := ⟨q.choose, sm.at q.choose_spec.1 e, q.choose_spec.2⟩
theorem NkX.sm {h h1 : AH} {a n c lo hi : Nat} {f : Nat → Nat} (q : NkX h a n c f) (sm : Sm h h1 lo hi) (e : a < lo ∨ hi ≤ a) : NkX h1 a n c f := ⟨q.choose, sm.at q.choose_spec.1 e, q.choose_spec.2⟩
theorem ScX.sm {h h1 : AH} {b lo hi : Nat} {B : BK} (q : ScX h b B) (sm : Sm h h1 lo hi) (e : b + 6 ≤ lo ∨ hi ≤ b) : ScX h1 b B := by
  obtain ⟨a0, a1, a2, a3, a4, a5, a6⟩ := q
  exact ⟨sm.at a0 (by omega), a1.sm sm (by omega), a2.sm sm (by omega), a3.sm sm (by omega), a4.sm sm (by omega), a5.sm sm (by omega), a6⟩
theorem JaN.sm {h h1 : AH} {j lo hi : Nat} {b : Nat → Nat} {se wy : Nat} (q : JaN h j b se wy) (sm : Sm h h1 lo hi) (e : j + 5 ≤ lo ∨ hi ≤ j) : JaN h1 j b se wy := by
  obtain ⟨bf, p, w, l, tu, fi, ma, ⟨a0, a1, a2, a3, a4⟩, c⟩ := q
  exact ⟨bf, p, w, l, tu, fi, ma, ⟨sm.at a0 (by omega), sm.at a1 (by omega), sm.at a2 (by omega), sm.at a3 (by omega), sm.at a4 (by omega)⟩, c⟩
theorem CuN.sm {h h1 : AH} {c lo hi : Nat} {se wy : Nat → Nat} {E : Nat → Nat → Nat} {O : Nat → Nat} (q : CuN h c se wy E O) (sm : Sm h h1 lo hi) (e : c + 45 ≤ lo ∨ hi ≤ c) : CuN h1 c se wy E O := by
  obtain ⟨jf, lj, fo, le, a0, a1, a2, a3, a4, b1, b2, b3, b4⟩ := q
  exact ⟨jf, lj, fo, le, sm.at a0 (by omega), sm.at a1 (by omega), sm.at a2 (by omega), sm.at a3 (by omega), sm.at a4 (by omega), b1, b2, b3, fun i hi => ⟨(b4 i hi).1.sm sm (by omega), (b4 i hi).2⟩⟩
theorem BoX.sm {h h1 : AH} {b lo hi : Nat} {d : DRF} (q : BoX h b d) (sm : Sm h h1 lo hi) (e : b + 58 ≤ lo ∨ hi ≤ b) : BoX h1 b d := by
  obtain ⟨a0, a1, a2, a3, a4, a5, a6, a7, a8, a9⟩ := q
  exact ⟨sm.at a0 (by omega), a1.sm sm (by omega), a2.sm sm (by omega), a3.sm sm (by omega), a4.sm sm (by omega), a5.sm sm (by omega), a6.sm sm (by omega), a7.sm sm (by omega), a8.sm sm (by omega), a9⟩
/-- the script alone has changed -/
theorem BoX.sc {h h1 : AH} {b : Nat} {d : DRF} (q : BoX h b d) (sm : Sm h h1 (b + 52) (b + 58)) {f : SCR} {g : NOD} (s : ScX h1 (b + 52) (ndB g (scB f d.1))) : BoX h1 b (ndB g (scB f d.1), d.2) := by
  obtain ⟨a0, a1, a2, a3, a4, a5, a6, a7, a8, a9⟩ := q
  exact ⟨sm.at a0 (by omega), a1.sm sm (by omega), a2.sm sm (by omega), a3.sm sm (by omega), a4.sm sm (by omega), a5.sm sm (by omega), a6.sm sm (by omega), a7.sm sm (by omega), s, a9⟩
theorem BoX.room {h : AH} {b : Nat} {d : DRF} (q : BoX h b d) : b + 58 ≤ h.1 := by
  have := q.2.2.2.2.2.2.2.2.1.2.2.2.2.2.1.choose_spec.1.1
  omega
/-- nodes are not the class's -/
theorem BoX.no {h : AH} {b so l r : Nat} {d : DRF} (q : BoX h b d) : BoX h b (noD so l r d) := q
theorem BoX.ar {h : AH} {b k : Nat} {x : Nat × Nat × Nat × Nat} {d : DRF} (q : BoX h b d) : BoX h b (arD k x d) := q
theorem BoX.rr {h : AH} {b k : Nat} {x : Nat × Nat × Nat × Nat} {d : DRF} (q : BoX h b d) : BoX h b (rrD k x d) := q
theorem RvS {h H : AH} {lo hi : Nat} {Q : AH → Prop} (sm : Sm h H lo hi) (k : Sm h H lo hi → Q H) : Rv Q (.inl none) H := ⟨rfl, k sm⟩
section DRA
variable {G : GT} {d : Nat} {h : AH} {b : Nat} {D : DRF}

set_option maxHeartbeats 4000000 in
set_option maxRecDepth 100000 in
theorem s_xadd (bx : BoX h b D) {kd n : Nat} (hk : kd < 43) : RQ G mX7_add d 0 [some (.ref (b + 52)), some (.ref (OLD + kd)), some (.int (nI n))] [] h (Rv fun h1 => BoX h1 b (stD kd n D) ∧ Sm h h1 b (b + 58)) := by
  obtain ⟨s0, ⟨k1, s1, t1⟩, ⟨k2, s2, t2⟩, ⟨k3, s3, t3⟩, ⟨k4, s4, t4⟩, ⟨k5, s5, t5⟩, l1, l2, l3⟩ := id bx.2.2.2.2.2.2.2.2.1
  have z0 := s0.1
  have z1 := s1.1
  have z2 := s2.1
  have z3 := s3.1
  have z4 := s4.1
  have z5 := s5.1
  refine tX7_add_0  (r := ?_)
  refine tX7_add_1 (ha := (by first | assumption | (repeat (first | assumption | exact At.set_eq2 (by first | omega | (simp only [hset, hnew]; omega) | rfl | decide) | exact At.new_eq2 _ _ (by first | omega | (simp only [hset, hnew]; omega) | rfl | decide) | refine At.set_ne ?_ (by first | omega | (simp only [hset, hnew]; omega) | rfl | decide) | refine At.new_ne ?_)))) (hv := rfl) (r := ?_)
  refine tX7_add_4  (r := ?_)
  refine tX7_add_7  (kt := fun c_7 => ?_) (kf := fun c_7 => ?_)
  · have e : stD kd n D = D := if_neg (fun z => by have := (nI_leI (by decide) (by omega)).mp c_7; omega)
    rw [e]
    refine tX7_add_40  (hP := ?_)
    exact ⟨rfl, bx, Sm.rf _ _ _⟩
  · have lt : cSt D.1 < 400 := Nat.lt_of_not_le (fun z => c_7 ((nI_leI (by decide) (by omega)).mpr z))
    have e : stD kd n D = (scB (cSt D.1 + 1, upN (cKd D.1) (cSt D.1) kd, upN (cNu D.1) (cSt D.1) n, cTe D.1, cTn D.1, cAe D.1) D.1, D.2) := if_pos lt
    rw [e]
    refine tX7_add_10  (r := ?_)
    refine tX7_add_11 (ha := (by first | assumption | (repeat (first | assumption | exact At.set_eq2 (by first | omega | (simp only [hset, hnew]; omega) | rfl | decide) | exact At.new_eq2 _ _ (by first | omega | (simp only [hset, hnew]; omega) | rfl | decide) | refine At.set_ne ?_ (by first | omega | (simp only [hset, hnew]; omega) | rfl | decide) | refine At.new_ne ?_)))) (hv := rfl) (r := ?_)
    refine tX7_add_14  (r := ?_)
    refine tX7_add_15 (ha := (by first | assumption | (repeat (first | assumption | exact At.set_eq2 (by first | omega | (simp only [hset, hnew]; omega) | rfl | decide) | exact At.new_eq2 _ _ (by first | omega | (simp only [hset, hnew]; omega) | rfl | decide) | refine At.set_ne ?_ (by first | omega | (simp only [hset, hnew]; omega) | rfl | decide) | refine At.new_ne ?_)))) (hv := rfl) (r := ?_)
    refine tX7_add_18  (r := ?_)
    refine tX7_add_19 (ha := (by first | assumption | (repeat (first | assumption | exact At.set_eq2 (by first | omega | (simp only [hset, hnew]; omega) | rfl | decide) | exact At.new_eq2 _ _ (by first | omega | (simp only [hset, hnew]; omega) | rfl | decide) | refine At.set_ne ?_ (by first | omega | (simp only [hset, hnew]; omega) | rfl | decide) | refine At.new_ne ?_)))) (hb := hk) (hx := rfl) (hj := lt) (hn := (by decide)) (r := ?_)
    refine tX7_add_20  (r := ?_)
    refine tX7_add_21 (ha := (by first | assumption | (repeat (first | assumption | exact At.set_eq2 (by first | omega | (simp only [hset, hnew]; omega) | rfl | decide) | exact At.new_eq2 _ _ (by first | omega | (simp only [hset, hnew]; omega) | rfl | decide) | refine At.set_ne ?_ (by first | omega | (simp only [hset, hnew]; omega) | rfl | decide) | refine At.new_ne ?_)))) (hv := rfl) (r := ?_)
    refine tX7_add_24  (r := ?_)
    refine tX7_add_25 (ha := (by first | assumption | (repeat (first | assumption | exact At.set_eq2 (by first | omega | (simp only [hset, hnew]; omega) | rfl | decide) | exact At.new_eq2 _ _ (by first | omega | (simp only [hset, hnew]; omega) | rfl | decide) | refine At.set_ne ?_ (by first | omega | (simp only [hset, hnew]; omega) | rfl | decide) | refine At.new_ne ?_)))) (hv := rfl) (r := ?_)
    refine tX7_add_28  (r := ?_)
    refine tX7_add_29 (ha := (by first | assumption | (repeat (first | assumption | exact At.set_eq2 (by first | omega | (simp only [hset, hnew]; omega) | rfl | decide) | exact At.new_eq2 _ _ (by first | omega | (simp only [hset, hnew]; omega) | rfl | decide) | refine At.set_ne ?_ (by first | omega | (simp only [hset, hnew]; omega) | rfl | decide) | refine At.new_ne ?_)))) (hx := rfl) (hj := lt) (hn := (by decide)) (r := ?_)
    refine tX7_add_30  (r := ?_)
    refine tX7_add_31  (r := ?_)
    refine tX7_add_32 (ha := (by first | assumption | (repeat (first | assumption | exact At.set_eq2 (by first | omega | (simp only [hset, hnew]; omega) | rfl | decide) | exact At.new_eq2 _ _ (by first | omega | (simp only [hset, hnew]; omega) | rfl | decide) | refine At.set_ne ?_ (by first | omega | (simp only [hset, hnew]; omega) | rfl | decide) | refine At.new_ne ?_)))) (hv := rfl) (r := ?_)
    refine tX7_add_35  (r := ?_)
    refine tX7_add_36  (r := ?_)
    rw [nI_add]
    refine tX7_add_37 (ha := (by first | assumption | (repeat (first | assumption | exact At.set_eq2 (by first | omega | (simp only [hset, hnew]; omega) | rfl | decide) | exact At.new_eq2 _ _ (by first | omega | (simp only [hset, hnew]; omega) | rfl | decide) | refine At.set_ne ?_ (by first | omega | (simp only [hset, hnew]; omega) | rfl | decide) | refine At.new_ne ?_)))) (hlen := rfl) (r := ?_)
    refine tX7_add_40  (hP := ?_)
    refine RvS (h := h) (lo := b + 52) (hi := b + 58) ((((Sm.rf h (b + 52) (b + 58)).set (by omega) (by omega)).set (by omega) (by omega)).set (by omega) (by omega)) (fun sm => ?_)
    refine ⟨bx.sc (f := (cSt D.1 + 1, upN (cKd D.1) (cSt D.1) kd, upN (cNu D.1) (cSt D.1) n, cTe D.1, cTn D.1, cAe D.1)) (g := bNd D.1) sm ⟨At.set_eq2 z0, ⟨_, At.set_ne (At.set_ne (At.set_eq2 z1) (by omega)) (by omega), fun k hk => ?_⟩, ⟨_, At.set_ne (At.set_eq2 z2) (by omega), fun k hk => ?_⟩, ⟨_, (by first | assumption | (repeat (first | assumption | exact At.set_eq2 (by first | omega | (simp only [hset, hnew]; omega) | rfl | decide) | exact At.new_eq2 _ _ (by first | omega | (simp only [hset, hnew]; omega) | rfl | decide) | refine At.set_ne ?_ (by first | omega | (simp only [hset, hnew]; omega) | rfl | decide) | refine At.new_ne ?_))), t3⟩, ⟨_, (by first | assumption | (repeat (first | assumption | exact At.set_eq2 (by first | omega | (simp only [hset, hnew]; omega) | rfl | decide) | exact At.new_eq2 _ _ (by first | omega | (simp only [hset, hnew]; omega) | rfl | decide) | refine At.set_ne ?_ (by first | omega | (simp only [hset, hnew]; omega) | rfl | decide) | refine At.new_ne ?_))), t4⟩, ⟨_, (by first | assumption | (repeat (first | assumption | exact At.set_eq2 (by first | omega | (simp only [hset, hnew]; omega) | rfl | decide) | exact At.new_eq2 _ _ (by first | omega | (simp only [hset, hnew]; omega) | rfl | decide) | refine At.set_ne ?_ (by first | omega | (simp only [hset, hnew]; omega) | rfl | decide) | refine At.new_ne ?_))), t5⟩, lt, l2, l3⟩, sm.sub (by omega) (by omega)⟩
    · have hk : k < cSt D.1 + 1 := hk
      show (if k = cSt D.1 then _ else k1 k) = some (OLD + if k = cSt D.1 then kd else cKd D.1 k)
      split
      · rfl
      · exact t1 k (by omega)
    · have hk : k < cSt D.1 + 1 := hk
      show (if k = cSt D.1 then _ else k2 k) = nI (if k = cSt D.1 then n else cNu D.1 k)
      split
      · rfl
      · exact t2 k (by omega)

end DRA
