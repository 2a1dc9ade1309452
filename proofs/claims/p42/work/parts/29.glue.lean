/-! HOW A CALL OF THE CLASS AND ONE OF THE REFERENCE MAKE A CASE OF THE LAW -/
/-- what has changed lies from lo to hi or is new, and there is not much of that -/
def Ch (h h1 : AH) (lo hi ck sk : Nat) : Prop := h.1 ≤ h1.1 ∧ h1.1 ≤ h.1 + ck ∧ h1.2.1 ≤ h.2.1 + sk ∧ Un h h1 0 lo ∧ Un h h1 hi h.1
theorem Ch.rf (h : AH) (lo hi ck sk : Nat) : Ch h h lo hi ck sk := ⟨Nat.le_refl _, Nat.le_add_right _ _, Nat.le_add_right _ _, Un.rf _ _ _, Un.rf _ _ _⟩
theorem Ch.trans {h h1 h2 : AH} {lo hi ck sk ck2 sk2 : Nat} (a : Ch h h1 lo hi ck sk) (b : Ch h1 h2 lo hi ck2 sk2) : Ch h h2 lo hi (ck + ck2) (sk + sk2) := by
  obtain ⟨a1, a2, a3, a4, a5⟩ := a
  obtain ⟨b1, b2, b3, b4, b5⟩ := b
  exact ⟨by omega, by omega, by omega, a4.trans b4, a5.trans (b5.sub (Nat.le_refl _) a1)⟩
theorem Ch.sub {h h1 : AH} {lo hi ck sk lo2 hi2 ck2 sk2 : Nat} (a : Ch h h1 lo hi ck sk) (p1 : lo2 ≤ lo) (p2 : hi ≤ hi2) (p3 : ck ≤ ck2) (p4 : sk ≤ sk2) : Ch h h1 lo2 hi2 ck2 sk2 := by
  obtain ⟨a1, a2, a3, a4, a5⟩ := a
  exact ⟨a1, by omega, by omega, a4.sub (Nat.le_refl _) p1, a5.sub p2 (Nat.le_refl _)⟩
theorem Ch.set {h h1 : AH} {lo hi ck sk i : Nat} {c : AC} (a : Ch h h1 lo hi ck sk) (e1 : lo ≤ i) (e2 : i < hi) : Ch h (hset h1 i c) lo hi ck sk := by
  obtain ⟨a1, a2, a3, a4, a5⟩ := a
  exact ⟨a1, a2, a3, Un.set a4 (Or.inr e1), Un.set a5 (Or.inl e2)⟩
theorem Ch.set9 {h h1 : AH} {lo hi ck sk i : Nat} {c : AC} (a : Ch h h1 lo hi ck sk) (e : h.1 ≤ i) (e1 : lo ≤ i) : Ch h (hset h1 i c) lo hi ck sk := by
  obtain ⟨a1, a2, a3, a4, a5⟩ := a
  exact ⟨a1, a2, a3, Un.set a4 (Or.inr e1), Un.set a5 (Or.inr e)⟩
theorem Ch.new {h h1 : AH} {lo hi ck sk n : Nat} {c : AC} (a : Ch h h1 lo hi ck sk) (e : lo ≤ h.1) : Ch h (hnew h1 n c) lo hi (ck + 1) (sk + n) := by
  obtain ⟨a1, a2, a3, a4, a5⟩ := a
  refine ⟨?_, ?_, ?_, Un.new a4 (by omega), Un.new a5 a1⟩
  · show h.1 ≤ h1.1 + 1
    omega
  · show h1.1 + 1 ≤ h.1 + (ck + 1)
    omega
  · show h1.2.1 + n ≤ h.2.1 + (sk + n)
    omega
theorem ClR.keep {h h' : AH} {x bk dr : Nat} {s : ST} (q : ClR h x bk dr s) (e : h.1 ≤ h'.1) (u : Un h h' x (x + 216)) : ClR h' x bk dr s := by
  obtain ⟨a1, a2, a3, ⟨a, b, c, a4⟩, a5, ⟨dy, a6⟩, a7, a8, a9⟩ := q
  have hb : x + 8 ≤ bk ∧ bk ≤ x + 158 ∧ x + 8 ≤ dr ∧ dr ≤ x + 158 := by omega
  refine ⟨a1.keep e (u _ (by omega) (by omega)), a2.keep e (u.sub (by omega) (by omega)), a3.keep e (u.sub (by omega) (by omega)), ⟨a, b, c, a4.keep e (u.sub (by omega) (by omega))⟩, a5.keep e (u.sub (by omega) (by omega)), ⟨dy, ?_⟩, a7.keep e (u.sub (by omega) (by omega)), a8.keep e (u.sub (by omega) (by omega)), a9⟩
  exact a6.keep e (u.sub (by omega) (by omega))
theorem MoR.keep {h h' : AH} {m : Nat} {s : ST} (q : MoR h m s) (e : h.1 ≤ h'.1) (u : Un h h' m (m + 53)) : MoR h' m s := by
  obtain ⟨⟨th, tk, iw, er, et, dp, nm, a0⟩, ⟨f1, a1, c1⟩, a2, a3, a4, a5, a6, a7, a8, ⟨ru, ac, no, a9⟩, ⟨b1, b2, b3, b4, b5, b6, a28⟩, a47, ⟨f, a48, hf⟩, a49, a50, a51, a52⟩ := q
  exact ⟨⟨th, tk, iw, er, et, dp, nm, a0.keep e (u _ (by omega) (by omega))⟩, ⟨f1, a1.keep e (u _ (by omega) (by omega)), c1⟩, a2.keep e (u _ (by omega) (by omega)), a3.keep e (u _ (by omega) (by omega)), a4.keep e (u _ (by omega) (by omega)), a5.keep e (u _ (by omega) (by omega)), a6.keep e (u _ (by omega) (by omega)), a7.keep e (u _ (by omega) (by omega)), a8.keep e (u _ (by omega) (by omega)), ⟨ru, ac, no, a9.keep e (u.sub (by omega) (by omega))⟩, ⟨b1, b2, b3, b4, b5, b6, a28.keep e (u.sub (by omega) (by omega))⟩, a47.keep e (u _ (by omega) (by omega)), ⟨f, a48.keep e (u _ (by omega) (by omega)), hf⟩, a49.keep e (u _ (by omega) (by omega)), a50.keep e (u _ (by omega) (by omega)), a51.keep e (u _ (by omega) (by omega)), a52.keep e (u _ (by omega) (by omega))⟩
theorem ToR.keep {h h' : AH} {m : Nat} {B : BK} (q : ToR h m B) (e : h.1 ≤ h'.1) (u : Un h h' m (m + 53)) : ToR h' m B := by
  obtain ⟨⟨f1, a1, c1⟩, ⟨f2, a2, c2⟩, ⟨f3, a3, c3⟩, ⟨f4, a4, c4⟩, ⟨f5, a5, c5⟩⟩ := q
  exact ⟨⟨f1, a1.keep e (u _ (by omega) (by omega)), c1⟩, ⟨f2, a2.keep e (u _ (by omega) (by omega)), c2⟩, ⟨f3, a3.keep e (u _ (by omega) (by omega)), c3⟩, ⟨f4, a4.keep e (u _ (by omega) (by omega)), c4⟩, ⟨f5, a5.keep e (u _ (by omega) (by omega)), c5⟩⟩
/-- the law's world: the class's object at 0, the reference's at 216, the answers' row at 269 -/
def Jd (h : AH) (s : ST) (bk dr : Nat) : Prop := BDok s.2.2.1 s.2.2.2 ∧ ClR h 0 bk dr s ∧ MoR h 216 s ∧ ToR h 216 s.2.2.1 ∧ (∃ f : Nat → Int64, At h 269 (.inl (2, 1, .inr (.inl f))))
def J (n : Nat) (h : AH) : Prop := ∃ (s : ST) (bk dr : Nat), Jd h s bk dr ∧ h.1 ≤ 270 + 20 * n ∧ h.2.1 ≤ 17000 + 200 * n
/-- what the class owes of a call: its answer or its throw, its new state -/
def CK (h : AH) (bk dr : Nat) (s : ST) (E1 E2 : String) (t : Nat) (V : Int32) : OC → AH → Prop := fun o h1 => ((t = 0 ∧ o = .inl (some (.int V))) ∨ (t = 1 ∧ o = .inr E1) ∨ (t = 2 ∧ E2 ≠ "" ∧ o = .inr E2)) ∧ ClR h1 0 bk dr s ∧ Ch h h1 0 216 (min t 1) (6 * min t 1)
/-- what the reference owes -/
def MK (h : AH) (s : ST) (t : Nat) (V : Int32) : OC → AH → Prop := Ri fun b h1 => b = V ∧ (∃ vs, At h1 216 (.inr (10, .int (nI t) :: vs))) ∧ MoR h1 216 s ∧ ToR h1 216 s.2.2.1 ∧ Ch h h1 216 269 16 100
section GL
variable {G : GT} {d2 n : Nat} {h : AH}
theorem glue {Mm : MI} {Lm : List (Option Value)} {s s' : ST} {bk dr bk' dr' t : Nat} {V : Int32} {X : Int32 → Prop} (j : Jd h s bk dr) (hn1 : h.1 ≤ 270 + 20 * n) (hn2 : h.2.1 ≤ 17000 + 200 * n) (ht : t ≤ 2) (hs : BDok s'.2.2.1 s'.2.2.2) (hX : X V)
    (mo : ∀ h1, MoR h1 216 s → ToR h1 216 s.2.2.1 → RQ G Mm d2 0 Lm [] h1 (MK h1 s' t V)) {h1 : AH} (hc : ClR h1 0 bk' dr' s') (e1 : h.1 ≤ h1.1) (e2 : h1.1 ≤ h.1 + 1) (e3 : h1.2.1 ≤ h.2.1 + 6) (u : Un h h1 216 269) (hout : ∃ f : Nat → Int64, At h1 269 (.inl (2, 1, .inr (.inl f))) ∧ (t = 0 → f 0 = V.toInt64)) :
    (∃ vs, At h1 216 (.inr (10, vs))) ∧ RQ G Mm d2 0 Lm [] h1 (Ri fun b h2 => (∃ vs, At h2 216 (.inr (10, .int (nI t) :: vs))) ∧ (nI t = 0 → ∃ f : Nat → Int64, At h2 269 (.inl (2, 1, .inr (.inl f))) ∧ f 0 = b.toInt64) ∧ X b ∧ J (n + 1) h2) := by
  obtain ⟨j1, j2, j3, j4, -⟩ := j
  obtain ⟨f9, af, hf⟩ := hout
  have m1 := j3.keep (h' := h1) e1 u
  have t1 := j4.keep (h' := h1) e1 u
  obtain ⟨th, tk, iw, er, et, dp, nm, am⟩ := m1.1
  obtain ⟨o, h2, r, b, rfl, b1, b2, b3, b4, b5⟩ := mo h1 m1 t1
  have l9 := af.1
  obtain ⟨g1, g2, g3, g4, g5⟩ := b5
  have af2 := af.keep g1 (g5 269 (by omega) l9)
  refine ⟨⟨_, am⟩, _, h2, r, b, rfl, b2, fun e => ⟨f9, af2, ?_⟩, b1 ▸ hX, s', bk', dr', ⟨hs, hc.keep g1 g4, b3, b4, f9, af2⟩, by omega, by omega⟩
  have h0 : t = 0 := by
    rw [← nI_0] at e
    exact (nI_eq (by omega) (by decide)).mp e
  rw [hf h0, b1]
/-- .. after the class has answered -/
theorem glue0 {Mm : MI} {Lm : List (Option Value)} {s s' : ST} {bk dr bk' dr' : Nat} {V : Int32} {X : Int32 → Prop} (j : Jd h s bk dr) (hn1 : h.1 ≤ 270 + 20 * n) (hn2 : h.2.1 ≤ 17000 + 200 * n) (hs : BDok s'.2.2.1 s'.2.2.2) (hX : X V)
    (mo : ∀ h1, MoR h1 216 s → ToR h1 216 s.2.2.1 → RQ G Mm d2 0 Lm [] h1 (MK h1 s' 0 V)) {h1 : AH} {f : Nat → Int64} (hc : ClR h1 0 bk' dr' s') (ch : Ch h h1 0 216 1 6) (af : At h1 269 (.inl (2, 1, .inr (.inl f)))) :
    (∃ vs, At (hset h1 269 (.inl (2, 1, .inr (.inl (vp_updL f 0 V.toInt64))))) 216 (.inr (10, vs))) ∧ RQ G Mm d2 0 Lm [] (hset h1 269 (.inl (2, 1, .inr (.inl (vp_updL f 0 V.toInt64))))) (Ri fun b h2 => (∃ vs, At h2 216 (.inr (10, .int (nI 0) :: vs))) ∧ (nI 0 = 0 → ∃ f : Nat → Int64, At h2 269 (.inl (2, 1, .inr (.inl f))) ∧ f 0 = b.toInt64) ∧ X b ∧ J (n + 1) h2) := by
  obtain ⟨a1, a2, a3, a4, a5⟩ := ch
  obtain ⟨f9, j9⟩ := j.2.2.2.2
  have l9 := j9.1
  exact glue (t := 0) j hn1 hn2 (by decide) hs hX mo (hc.keep (Nat.le_refl _) (Un.set (Un.rf _ _ _) (by omega))) a1 a2 a3 (Un.set (a5.sub (Nat.le_refl _) (by omega)) (by omega)) ⟨_, At.set_eq2 af.1, fun _ => if_pos rfl⟩
/-- .. after it has thrown -/
theorem glue1 {Mm : MI} {Lm : List (Option Value)} {s s' : ST} {bk dr bk' dr' t : Nat} {V : Int32} {X : Int32 → Prop} (j : Jd h s bk dr) (hn1 : h.1 ≤ 270 + 20 * n) (hn2 : h.2.1 ≤ 17000 + 200 * n) (ht : t = 1 ∨ t = 2) (hs : BDok s'.2.2.1 s'.2.2.2) (hX : X V)
    (mo : ∀ h1, MoR h1 216 s → ToR h1 216 s.2.2.1 → RQ G Mm d2 0 Lm [] h1 (MK h1 s' t V)) {h1 : AH} (hc : ClR h1 0 bk' dr' s') (ch : Ch h h1 0 216 1 6) :
    (∃ vs, At h1 216 (.inr (10, vs))) ∧ RQ G Mm d2 0 Lm [] h1 (Ri fun b h2 => (∃ vs, At h2 216 (.inr (10, .int (nI t) :: vs))) ∧ (nI t = 0 → ∃ f : Nat → Int64, At h2 269 (.inl (2, 1, .inr (.inl f))) ∧ f 0 = b.toInt64) ∧ X b ∧ J (n + 1) h2) := by
  obtain ⟨a1, a2, a3, a4, a5⟩ := ch
  obtain ⟨f9, j9⟩ := j.2.2.2.2
  have l9 := j9.1
  exact glue j hn1 hn2 (by omega) hs hX mo hc a1 a2 a3 (a5.sub (Nat.le_refl _) (by omega)) ⟨f9, j9.keep a1 (a5 _ (by omega) (by omega)), fun e => by omega⟩
/-- what a class's call left: the row of answers stands -/
theorem Jd.out {s : ST} {bk dr : Nat} (j : Jd h s bk dr) {h1 : AH} (ch : Ch h h1 0 216 1 6) : ∃ f : Nat → Int64, At h1 269 (.inl (2, 1, .inr (.inl f))) := by
  obtain ⟨f9, j9⟩ := j.2.2.2.2
  obtain ⟨a1, a2, a3, a4, a5⟩ := ch
  have l9 := j9.1
  exact ⟨f9, j9.keep a1 (a5 _ (by omega) (by omega))⟩
end GL
