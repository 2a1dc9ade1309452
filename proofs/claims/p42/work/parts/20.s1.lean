/-! the class's objects, what they hold; how a world grows -/
theorem RQ.refId {G : GT} {M : MI} {d pc k k' : Nat} {L : List (Option Value)} {S : List Value} {h : AH} {P : OC → AH → Prop} (e : k = k') (r : RQ G M d pc L (.ref k' :: S) h P) : RQ G M d pc L (.ref k :: S) h P := e ▸ r
theorem At.keep {h h' : AH} {i : Nat} {c : AC} (a : At h i c) (e1 : h.1 ≤ h'.1) (e2 : h'.2.2 i = h.2.2 i) : At h' i c := ⟨Nat.lt_of_lt_of_le a.1 e1, e2.trans a.2⟩
/-- the cells from lo to hi are as they were -/
def Un (h h' : AH) (lo hi : Nat) : Prop := ∀ i, lo ≤ i → i < hi → h'.2.2 i = h.2.2 i
theorem Un.rf (h : AH) (lo hi : Nat) : Un h h lo hi := fun _ _ _ => rfl
theorem Un.trans {h h1 h2 : AH} {lo hi : Nat} (a : Un h h1 lo hi) (b : Un h1 h2 lo hi) : Un h h2 lo hi := fun i h3 h4 => (b i h3 h4).trans (a i h3 h4)
theorem Un.sub {h h1 : AH} {lo hi lo2 hi2 : Nat} (a : Un h h1 lo hi) (h3 : lo ≤ lo2) (h4 : hi2 ≤ hi) : Un h h1 lo2 hi2 := fun i h5 h6 => a i (by omega) (by omega)
theorem Un.set {h h1 : AH} {lo hi i : Nat} {c : AC} (a : Un h h1 lo hi) (e : i < lo ∨ hi ≤ i) : Un h (hset h1 i c) lo hi := fun k h3 h4 => by
  show (if k = i then c else h1.2.2 k) = _
  rw [if_neg (by omega)]
  exact a k h3 h4
theorem Un.new {h h1 : AH} {lo hi n : Nat} {c : AC} (a : Un h h1 lo hi) (e : hi ≤ h1.1) : Un h (hnew h1 n c) lo hi := fun k h3 h4 => by
  show (if k = h1.1 then c else h1.2.2 k) = _
  rw [if_neg (by omega)]
  exact a k h3 h4
def Gw (h h' : AH) (j k s : Nat) : Prop := h'.1 = h.1 + k ∧ h'.2.1 = h.2.1 + s ∧ Un h h' 0 j
def JarC (h : AH) (j : Nat) (b p w l : Nat → Int32) (se : Int32) (wy : Nat) (tu fi ma co : Int32) : Prop := At h j (.inr (3, [.ref (j + 1), .ref (j + 2), .ref (j + 3), .ref (j + 4), .int se, .ref (OLD + wy), .int tu, .int fi, .int ma, .int co])) ∧ At h (j + 1) (.inl (0, 6, .inl b)) ∧ At h (j + 2) (.inl (0, 6, .inl p)) ∧ At h (j + 3) (.inl (0, 6, .inl w)) ∧ At h (j + 4) (.inl (0, 6, .inl l))
def JarE (h : AH) (j : Nat) : Prop := ∃ b p w l se wy tu fi ma co, (24 ≤ wy ∧ wy < 27) ∧ JarC h j b p w l se wy tu fi ma co
/-- a new jar -/
def JarZ (h : AH) (j : Nat) : Prop := JarC h j (fun _ => 0) (fun _ => 0) (fun _ => 0) (fun _ => 0) 0 24 0 (-1) 0 0
theorem JarZ.E {h : AH} {j : Nat} (a : JarZ h j) : JarE h j := ⟨_, _, _, _, _, 24, _, _, _, _, by decide, a⟩
theorem JarC.keep {h h' : AH} {j : Nat} {b p w l : Nat → Int32} {se : Int32} {wy : Nat} {tu fi ma co : Int32} (a : JarC h j b p w l se wy tu fi ma co) (e : h.1 ≤ h'.1) (u : Un h h' j (j + 5)) : JarC h' j b p w l se wy tu fi ma co := by
  obtain ⟨a1, a2, a3, a4, a5⟩ := a
  exact ⟨a1.keep e (u _ (by omega) (by omega)), a2.keep e (u _ (by omega) (by omega)), a3.keep e (u _ (by omega) (by omega)), a4.keep e (u _ (by omega) (by omega)), a5.keep e (u _ (by omega) (by omega))⟩
theorem JarE.keep {h h' : AH} {j : Nat} (a : JarE h j) (e : h.1 ≤ h'.1) (u : Un h h' j (j + 5)) : JarE h' j := by
  obtain ⟨b, p, w, l, se, wy, tu, fi, ma, co, q, a⟩ := a
  exact ⟨b, p, w, l, se, wy, tu, fi, ma, co, q, a.keep e u⟩
def CupE (h : AH) (c : Nat) (day : Int32) : Prop := ∃ (jf : Nat → Option Nat) (lj fo le : Nat → Int32), At h c (.inr (2, [.ref (c + 1), .ref (c + 2), .ref (c + 3), .ref (c + 4), .int day])) ∧ At h (c + 1) (.inl (3, 8, .inr (.inr (.inr (.inr jf))))) ∧ At h (c + 2) (.inl (0, 6, .inl lj)) ∧ At h (c + 3) (.inl (0, 6, .inl fo)) ∧ At h (c + 4) (.inl (0, 6, .inl le)) ∧ (∀ i, i < 8 → jf i = some (c + 5 + 5 * i)) ∧ ∀ i, i < 8 → JarE h (c + 5 + 5 * i)
theorem CupE.keep {h h' : AH} {c : Nat} {day : Int32} (a : CupE h c day) (e : h.1 ≤ h'.1) (u : Un h h' c (c + 45)) : CupE h' c day := by
  obtain ⟨jf, lj, fo, le, a1, a2, a3, a4, a5, a6, a7⟩ := a
  exact ⟨jf, lj, fo, le, a1.keep e (u _ (by omega) (by omega)), a2.keep e (u _ (by omega) (by omega)), a3.keep e (u _ (by omega) (by omega)), a4.keep e (u _ (by omega) (by omega)), a5.keep e (u _ (by omega) (by omega)), a6, fun i hi => (a7 i hi).keep e (u.sub (by omega) (by omega))⟩
section S1
variable {G : GT} {d : Nat} {h : AH}

set_option maxHeartbeats 4000000 in
set_option maxRecDepth 100000 in
theorem s_Jar_init (hd : 1 ≤ d) {j : Nat} (a0 : At h j (.inr (3, [.null, .null, .null, .null, .int 0, .null, .int 0, .int 0, .int 0, .int 0]))) (hj : h.1 = j + 1) : RQ G mX4_init d 0 [some (.ref j)] [] h (Rv fun h2 => JarZ h2 j ∧ Gw h h2 j 4 24) := by
  refine tX4_init_0  (r := ?_)
  refine tX4_init_1 (hd := (by omega)) (r := ?_)
  refine tX4_init_4  (r := ?_)
  refine tX4_init_5  (r := ?_)
  refine tX4_init_7 (hx := (by first | rfl | assumption | exact nI_add _ _)) (hn := (by decide)) (r := ?_)
  refine RQ.refId (k' := j + 1) (by (first | omega | (simp only [hset, hnew]; omega) | rfl | decide)) ?_
  refine tX4_init_9 (ha := (by first | assumption | (repeat (first | assumption | exact At.set_eq2 (by first | omega | (simp only [hset, hnew]; omega) | rfl | decide) | exact At.new_eq2 _ _ (by first | omega | (simp only [hset, hnew]; omega) | rfl | decide) | refine At.set_ne ?_ (by first | omega | (simp only [hset, hnew]; omega) | rfl | decide) | refine At.new_ne ?_)))) (hlen := rfl) (r := ?_)
  refine tX4_init_12  (r := ?_)
  refine tX4_init_13  (r := ?_)
  refine tX4_init_15 (hx := (by first | rfl | assumption | exact nI_add _ _)) (hn := (by decide)) (r := ?_)
  refine RQ.refId (k' := j + 2) (by (first | omega | (simp only [hset, hnew]; omega) | rfl | decide)) ?_
  refine tX4_init_17 (ha := (by first | assumption | (repeat (first | assumption | exact At.set_eq2 (by first | omega | (simp only [hset, hnew]; omega) | rfl | decide) | exact At.new_eq2 _ _ (by first | omega | (simp only [hset, hnew]; omega) | rfl | decide) | refine At.set_ne ?_ (by first | omega | (simp only [hset, hnew]; omega) | rfl | decide) | refine At.new_ne ?_)))) (hlen := rfl) (r := ?_)
  refine tX4_init_20  (r := ?_)
  refine tX4_init_21  (r := ?_)
  refine tX4_init_23 (hx := (by first | rfl | assumption | exact nI_add _ _)) (hn := (by decide)) (r := ?_)
  refine RQ.refId (k' := j + 3) (by (first | omega | (simp only [hset, hnew]; omega) | rfl | decide)) ?_
  refine tX4_init_25 (ha := (by first | assumption | (repeat (first | assumption | exact At.set_eq2 (by first | omega | (simp only [hset, hnew]; omega) | rfl | decide) | exact At.new_eq2 _ _ (by first | omega | (simp only [hset, hnew]; omega) | rfl | decide) | refine At.set_ne ?_ (by first | omega | (simp only [hset, hnew]; omega) | rfl | decide) | refine At.new_ne ?_)))) (hlen := rfl) (r := ?_)
  refine tX4_init_28  (r := ?_)
  refine tX4_init_29  (r := ?_)
  refine tX4_init_31 (hx := (by first | rfl | assumption | exact nI_add _ _)) (hn := (by decide)) (r := ?_)
  refine RQ.refId (k' := j + 4) (by (first | omega | (simp only [hset, hnew]; omega) | rfl | decide)) ?_
  refine tX4_init_33 (ha := (by first | assumption | (repeat (first | assumption | exact At.set_eq2 (by first | omega | (simp only [hset, hnew]; omega) | rfl | decide) | exact At.new_eq2 _ _ (by first | omega | (simp only [hset, hnew]; omega) | rfl | decide) | refine At.set_ne ?_ (by first | omega | (simp only [hset, hnew]; omega) | rfl | decide) | refine At.new_ne ?_)))) (hlen := rfl) (r := ?_)
  refine tX4_init_36  (r := ?_)
  refine tX4_init_37  (r := ?_)
  refine tX4_init_40 (ha := (by first | assumption | (repeat (first | assumption | exact At.set_eq2 (by first | omega | (simp only [hset, hnew]; omega) | rfl | decide) | exact At.new_eq2 _ _ (by first | omega | (simp only [hset, hnew]; omega) | rfl | decide) | refine At.set_ne ?_ (by first | omega | (simp only [hset, hnew]; omega) | rfl | decide) | refine At.new_ne ?_)))) (hlen := rfl) (r := ?_)
  refine tX4_init_43  (r := ?_)
  refine tX4_init_44  (r := ?_)
  refine tX4_init_45 (ha := (by first | assumption | (repeat (first | assumption | exact At.set_eq2 (by first | omega | (simp only [hset, hnew]; omega) | rfl | decide) | exact At.new_eq2 _ _ (by first | omega | (simp only [hset, hnew]; omega) | rfl | decide) | refine At.set_ne ?_ (by first | omega | (simp only [hset, hnew]; omega) | rfl | decide) | refine At.new_ne ?_)))) (hlen := rfl) (r := ?_)
  refine tX4_init_48  (hP := ?_)
  refine ⟨rfl, ⟨?_, ?_, ?_, ?_, ?_⟩, rfl, rfl, ?_⟩
  · exact At.set_eq2 (by (first | omega | (simp only [hset, hnew]; omega) | rfl | decide))
  · (first | assumption | (repeat (first | assumption | exact At.set_eq2 (by (first | omega | (simp only [hset, hnew]; omega) | rfl | decide)) | exact At.new_eq2 _ _ (by (first | omega | (simp only [hset, hnew]; omega) | rfl | decide)) | refine At.set_ne ?_ (by (first | omega | (simp only [hset, hnew]; omega) | rfl | decide)) | refine At.new_ne ?_)))
  · (first | assumption | (repeat (first | assumption | exact At.set_eq2 (by (first | omega | (simp only [hset, hnew]; omega) | rfl | decide)) | exact At.new_eq2 _ _ (by (first | omega | (simp only [hset, hnew]; omega) | rfl | decide)) | refine At.set_ne ?_ (by (first | omega | (simp only [hset, hnew]; omega) | rfl | decide)) | refine At.new_ne ?_)))
  · (first | assumption | (repeat (first | assumption | exact At.set_eq2 (by (first | omega | (simp only [hset, hnew]; omega) | rfl | decide)) | exact At.new_eq2 _ _ (by (first | omega | (simp only [hset, hnew]; omega) | rfl | decide)) | refine At.set_ne ?_ (by (first | omega | (simp only [hset, hnew]; omega) | rfl | decide)) | refine At.new_ne ?_)))
  · (first | assumption | (repeat (first | assumption | exact At.set_eq2 (by (first | omega | (simp only [hset, hnew]; omega) | rfl | decide)) | exact At.new_eq2 _ _ (by (first | omega | (simp only [hset, hnew]; omega) | rfl | decide)) | refine At.set_ne ?_ (by (first | omega | (simp only [hset, hnew]; omega) | rfl | decide)) | refine At.new_ne ?_)))
  · (repeat (first | assumption | exact Un.rf _ _ _ | refine Un.set ?_ (by (first | omega | (simp only [hset, hnew]; omega) | rfl | decide)) | refine Un.new ?_ (by (first | omega | (simp only [hset, hnew]; omega) | rfl | decide))))

end S1
