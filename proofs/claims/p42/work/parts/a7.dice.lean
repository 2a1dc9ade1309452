/-! the law's dice; what it draws: values, tests, acts, rules -/
theorem Fc.trans {h h1 h2 : AH} {b ck sk ck2 sk2 : Nat} (a : Fc h h1 b ck sk) (c : Fc h1 h2 b ck2 sk2) : Fc h h2 b (ck + ck2) (sk + sk2) := by
  obtain ⟨a1, a2, a3, a4⟩ := a
  obtain ⟨c1, c2, c3, c4⟩ := c
  exact ⟨by omega, by omega, by omega, fun j hj n => (c4 j (by omega) n).trans (a4 j hj n)⟩
theorem Fc.newer {h h1 h2 : AH} {b a ck sk ck2 sk2 : Nat} (x : Fc h h1 b ck sk) (c : Fc h1 h2 a ck2 sk2) (e : h.1 ≤ a) : Fc h h2 b (ck + ck2) (sk + sk2) := by
  obtain ⟨a1, a2, a3, a4⟩ := x
  obtain ⟨c1, c2, c3, c4⟩ := c
  exact ⟨by omega, by omega, by omega, fun j hj n => (c4 j (by omega) (by omega)).trans (a4 j hj n)⟩
theorem Fc.sub {h h1 : AH} {b ck sk ck2 sk2 : Nat} (x : Fc h h1 b ck sk) (e1 : ck ≤ ck2) (e2 : sk ≤ sk2) : Fc h h1 b ck2 sk2 := ⟨x.1, by have := x.2.1; omega, by have := x.2.2.1; omega, x.2.2.2⟩
theorem Fc.set {h h1 : AH} {b ck sk i : Nat} {c : AC} (x : Fc h h1 b ck sk) (e : i = b ∨ h.1 ≤ i) : Fc h (hset h1 i c) b ck sk := ⟨x.1, x.2.1, x.2.2.1, fun j hj n => by
  show (if j = i then c else h1.2.2 j) = _
  rw [if_neg (by omega)]
  exact x.2.2.2 j hj n⟩
theorem Fc.new {h h1 : AH} {b ck sk n : Nat} {c : AC} (x : Fc h h1 b ck sk) : Fc h (hnew h1 n c) b (ck + 1) (sk + n) := ⟨by have := x.1; show h.1 ≤ h1.1 + 1; omega, by have := x.2.1; show h1.1 + 1 ≤ _; omega, by have := x.2.2.1; show h1.2.1 + n ≤ _; omega, fun j hj n1 => by
  show (if j = h1.1 then c else h1.2.2 j) = _
  have := x.1
  rw [if_neg (by omega)]
  exact x.2.2.2 j hj n1⟩
/-- what is never changed once it is made: values, tests, acts, rules and their rows -/
def Imm (c : AC) : Prop := (∃ v, c = .inr (14, v)) ∨ (∃ v, c = .inr (9, v)) ∨ (∃ v, c = .inr (15, v)) ∨ (∃ v, c = .inl (7, v)) ∨ (∃ v, c = .inl (8, v))
def KpI (h h1 : AH) : Prop := ∀ j c, 216 ≤ j → At h j c → Imm c → At h1 j c
theorem KpI.rf (h : AH) : KpI h h := fun _ _ _ a _ => a
theorem KpI.trans {h h1 h2 : AH} (a : KpI h h1) (b : KpI h1 h2) : KpI h h2 := fun j c e x i => b j c e (a j c e x i) i
theorem Fc.kp {h h1 : AH} {b ck sk : Nat} {c : AC} (x : Fc h h1 b ck sk) (a : At h b c) (n : ¬ Imm c) : KpI h h1 := fun j c1 _ y i => x.at y (y.ne a (fun e => n (e ▸ i)))
theorem Fc.kp9 {h h1 : AH} {b ck sk : Nat} (x : Fc h h1 b ck sk) (e : h.1 ≤ b) : KpI h h1 := fun j c1 _ y i => x.at y (by have := y.1; omega)
theorem Ch.kp {h h1 : AH} {ck sk : Nat} (x : Ch h h1 0 216 ck sk) : KpI h h1 := fun j c e y _ => y.keep x.1 (x.2.2.2.2 j e y.1)
theorem Ch.kp0 {h h1 : AH} {ck sk : Nat} (x : Ch h h1 0 0 ck sk) : KpI h h1 := fun j c e y _ => y.keep x.1 (x.2.2.2.2 j (Nat.zero_le _) y.1)
theorem imm14 (v : List Value) : Imm (.inr (14, v)) := Or.inl ⟨_, rfl⟩
theorem imm9 (v : List Value) : Imm (.inr (9, v)) := Or.inr (Or.inl ⟨_, rfl⟩)
theorem imm15 (v : List Value) : Imm (.inr (15, v)) := Or.inr (Or.inr (Or.inl ⟨_, rfl⟩))
theorem imm7 (v : vp_A) : Imm (.inl (7, v)) := Or.inr (Or.inr (Or.inr (Or.inl ⟨_, rfl⟩)))
theorem imm8 (v : vp_A) : Imm (.inl (8, v)) := Or.inr (Or.inr (Or.inr (Or.inr ⟨_, rfl⟩)))
theorem imm_ni {k : Nat} {v : List Value} (h14 : k ≠ 14) (h9 : k ≠ 9) (h15 : k ≠ 15) : ¬ Imm (.inr (k, v)) := by
  rintro (⟨w, e⟩ | ⟨w, e⟩ | ⟨w, e⟩ | ⟨w, e⟩ | ⟨w, e⟩)
  · injection e with e; injection e with e; exact h14 e
  · injection e with e; injection e with e; exact h9 e
  · injection e with e; injection e with e; exact h15 e
  · cases e
  · cases e
theorem imm_na {k : Nat} {v : vp_A} (h7 : k ≠ 7) (h8 : k ≠ 8) : ¬ Imm (.inl (k, v)) := by
  rintro (⟨w, e⟩ | ⟨w, e⟩ | ⟨w, e⟩ | ⟨w, e⟩ | ⟨w, e⟩)
  · cases e
  · cases e
  · cases e
  · injection e with e; injection e with e; exact h7 e
  · injection e with e; injection e with e; exact h8 e
/-- a leaf: sort, number; a value: a leaf or a sign with two leaves; a plain test; a test; an act; a rule -/
abbrev ELf : Type := Nat × Nat
abbrev EVa : Type := ELf ⊕ (Nat × ELf × ELf)
abbrev ET0 : Type := (Nat × Nat) ⊕ (Nat × EVa × ELf)
abbrev ET1 : Type := ET0 ⊕ (Nat × ET0 × ET0)
abbrev EAc : Type := Nat × Nat × EVa
abbrev ERu : Type := ET1 × List EAc
def okL (la : Nat) (l : ELf) : Prop := (l.1 = 0 ∧ l.2 < 10000) ∨ (l.1 = 1 ∧ l.2 < 3) ∨ ((l.1 = 2 ∨ l.1 = 3) ∧ l.2 < la)
def okV (la : Nat) : EVa → Prop
  | .inl l => okL la l
  | .inr (s, a, b) => (4 ≤ s ∧ s ≤ 6) ∧ okL la a ∧ okL la b
def ok0 (la : Nat) : ET0 → Prop
  | .inl (k, l) => (k = 10 ∨ k = 11) ∧ l < la
  | .inr (s, a, b) => (7 ≤ s ∧ s ≤ 9) ∧ okV la a ∧ okL la b
def ok1T (la : Nat) : ET1 → Prop
  | .inl t => ok0 la t
  | .inr (s, a, b) => (s = 12 ∨ s = 13 ∨ s = 14) ∧ ok0 la a ∧ ok0 la b
def okAc (la ja : Nat) (a : EAc) : Prop := a.1 ≤ 4 ∧ (a.1 = 1 → a.2.1 < ja) ∧ (a.1 ≠ 1 → a.2.1 < la) ∧ okV la a.2.2
def okRu (la ja : Nat) (r : ERu) : Prop := ok1T la r.1 ∧ r.2.length ≤ 3 ∧ ∀ a ∈ r.2, okAc la ja a
def NdR (h : AH) (a so n : Nat) (x y : Option Nat) : Prop := 216 ≤ a ∧ At h a (.inr (14, [.int (nI so), .int (nI n), va_rf x, va_rf y]))
theorem NdR.kp {h h1 : AH} {a so n : Nat} {x y : Option Nat} (q : NdR h a so n x y) (k : KpI h h1) : NdR h1 a so n x y := ⟨q.1, k _ _ q.1 q.2 (imm14 _)⟩
def LfR (h : AH) (a : Nat) (l : ELf) : Prop := NdR h a l.1 l.2 none none
def VaR (h : AH) (a : Nat) : EVa → Prop
  | .inl l => LfR h a l
  | .inr (s, l, m) => ∃ x y, NdR h a s 0 (some x) (some y) ∧ LfR h x l ∧ LfR h y m
def T0R (h : AH) (a : Nat) : ET0 → Prop
  | .inl (k, l) => NdR h a k l none none
  | .inr (s, e, l) => ∃ x y, NdR h a s 0 (some x) (some y) ∧ VaR h x e ∧ LfR h y l
def T1R (h : AH) (a : Nat) : ET1 → Prop
  | .inl t => T0R h a t
  | .inr (s, t, u) => ∃ x y, NdR h a s 0 (some x) y ∧ T0R h x t ∧ (s ≠ 12 → ∃ z, y = some z ∧ T0R h z u)
theorem LfR.kp {h h1 : AH} {a : Nat} {l : ELf} (q : LfR h a l) (k : KpI h h1) : LfR h1 a l := NdR.kp q k
theorem VaR.kp {h h1 : AH} {a : Nat} {e : EVa} (q : VaR h a e) (k : KpI h h1) : VaR h1 a e := by
  match e, q with
  | .inl l, q => exact NdR.kp q k
  | .inr (s, l, m), ⟨x, y, q1, q2, q3⟩ => exact ⟨x, y, q1.kp k, q2.kp k, q3.kp k⟩
theorem T0R.kp {h h1 : AH} {a : Nat} {e : ET0} (q : T0R h a e) (k : KpI h h1) : T0R h1 a e := by
  match e, q with
  | .inl (s, l), q => exact NdR.kp q k
  | .inr (s, e, l), ⟨x, y, q1, q2, q3⟩ => exact ⟨x, y, q1.kp k, q2.kp k, q3.kp k⟩
theorem T1R.kp {h h1 : AH} {a : Nat} {e : ET1} (q : T1R h a e) (k : KpI h h1) : T1R h1 a e := by
  match e, q with
  | .inl t, q => exact T0R.kp q k
  | .inr (s, t, u), ⟨x, y, q1, q2, q3⟩ => exact ⟨x, y, q1.kp k, q2.kp k, fun n => (q3 n).imp (fun z w => ⟨w.1, w.2.kp k⟩)⟩
/-- an act; its value is there only for win -/
def AcR (h : AH) (a : Nat) (e : EAc) : Prop := 216 ≤ a ∧ ∃ x, At h a (.inr (9, [.int (nI e.1), .int (nI e.2.1), va_rf x])) ∧ (e.1 = 0 → ∃ z, x = some z ∧ VaR h z e.2.2)
theorem AcR.kp {h h1 : AH} {a : Nat} {e : EAc} (q : AcR h a e) (k : KpI h h1) : AcR h1 a e := ⟨q.1, q.2.imp (fun x w => ⟨k _ _ q.1 w.1 (imm9 _), fun n => (w.2 n).imp (fun z v => ⟨v.1, v.2.kp k⟩)⟩)⟩
def RuR (h : AH) (a : Nat) (r : ERu) : Prop := 216 ≤ a ∧ ∃ x y f, At h a (.inr (15, [.ref x, .ref y])) ∧ T1R h x r.1 ∧ 216 ≤ y ∧ At h y (.inl (8, r.2.length, .inr (.inr (.inr (.inr f))))) ∧ ∀ j (hj : j < r.2.length), ∃ z, f j = some z ∧ AcR h z r.2[j]
theorem RuR.kp {h h1 : AH} {a : Nat} {r : ERu} (q : RuR h a r) (k : KpI h h1) : RuR h1 a r := by
  obtain ⟨q1, x, y, f, q2, q3, q4, q5, q6⟩ := q
  exact ⟨q1, x, y, f, k _ _ q1 q2 (imm15 _), q3.kp k, q4, k _ _ q4 q5 (imm8 _), fun j hj => (q6 j hj).imp (fun z w => ⟨w.1, w.2.kp k⟩)⟩
/-- the dice -/
def DiR (h : AH) (a : Nat) : Prop := ∃ x, At h a (.inr (11, [.int x]))
theorem DiR.fc {h h1 : AH} {a b ck sk : Nat} (q : DiR h a) (x : Fc h h1 b ck sk) (n : a ≠ b) : DiR h1 a := q.imp (fun _ w => x.at w n)
theorem DiR.kp {h h1 : AH} {a ck sk : Nat} (q : DiR h a) (x : Fc h h1 a ck sk) : KpI h h1 := by
  obtain ⟨y, w⟩ := q
  exact x.kp w (imm_ni (by decide) (by decide) (by decide))
theorem and_nn (v : Int32) : ∃ m, m < 2147483648 ∧ v &&& (2147483647 : Int32) = nI m := by
  refine ⟨(v &&& (2147483647 : Int32)).toBitVec.toNat, ?_, ?_⟩
  · have : (v &&& (2147483647 : Int32)).toBitVec.toNat = v.toBitVec.toNat &&& 2147483647 := by
      rw [Int32.toBitVec_and, BitVec.toNat_and]
      rfl
    rw [this]
    have := Nat.and_le_right (n := v.toBitVec.toNat) (m := 2147483647)
    omega
  · apply Int32.toBitVec_inj.mp
    apply BitVec.eq_of_toNat_eq
    show _ = (nI _).toBitVec.toNat
    unfold nI
    rw [Int32.toBitVec_ofNat']
    simp
theorem rem_nn {m n : Nat} (hm : m < 2147483648) (hn : 0 < n) (hn2 : n < 2147483648) : nI m - nI m / nI n * nI n = nI (m % n) := by
  have e1 : nI m / nI n = nI (m / n) := by
    apply Int32.toInt_inj.mp
    have h1 := nI_toInt (n := m) (by omega)
    have h2 := nI_toInt (n := n) (by omega)
    have h3 := nI_toInt (n := m / n) (Nat.lt_of_le_of_lt (Nat.div_le_self m n) hm)
    rw [Int32.toInt_div, h1, h2, h3, Int.tdiv_eq_ediv_of_nonneg (by omega)]
    have h4 : ((m : Int) / (n : Int)) = ((m / n : Nat) : Int) := rfl
    rw [h4]
    have h5 : m / n < 2147483648 := Nat.lt_of_le_of_lt (Nat.div_le_self m n) hm
    generalize m / n = k at h5 ⊢
    rw [Int.bmod_eq_of_le (by omega) (by omega)]
  have e2 : nI (m / n) * nI n = nI (m / n * n) := nI_mulN _ _
  rw [e1, e2]
  have h6 : m / n * n ≤ m := Nat.div_mul_le_self m n
  rw [pk_sub h6]
  congr 1
  have := Nat.div_add_mod m n
  have h7 : n * (m / n) = m / n * n := Nat.mul_comm _ _
  omega
section DI
variable {G : GT} {d : Nat} {h : AH}

theorem s_below {n : Nat} {v : Int32} (h1 : 0 < n) (h2 : n < 2147483648) : RQ G mL_below d 0 [some (.int v), some (.int (nI n))] [] h (Ri fun r h1 => (∃ k, k < n ∧ r = nI k) ∧ h1 = h) := by
  obtain ⟨m, hm, em⟩ := and_nn v
  refine tL_below_0  (r := ?_)
  refine tL_below_1  (r := ?_)
  refine tL_below_3  (r := ?_)
  rw [em]
  refine tL_below_4  (r := ?_)
  refine tL_below_5 (hne := (fun z => by have := (nI_eq (by omega) (by decide)).mp (z.trans nI_0.symm); omega)) (r := ?_)
  rw [rem_nn hm h1 h2]
  refine tL_below_6  (hP := ?_)
  exact ⟨_, rfl, ⟨_, Nat.mod_lt _ h1, rfl⟩, rfl⟩
theorem s_next (hd : 1 ≤ d) {a n : Nat} (q : DiR h a) (h1 : 0 < n) (h2 : n < 2147483648) : RQ G mX13_next d 0 [some (.ref a), some (.int (nI n))] [] h (Ri fun r h1 => (∃ k, k < n ∧ r = nI k) ∧ DiR h1 a ∧ Fc h h1 a 0 0) := by
  obtain ⟨x, q⟩ := q
  refine tX13_next_0  (r := ?_)
  refine tX13_next_1  (r := ?_)
  refine tX13_next_2 (ha := (by first | assumption | (repeat (first | assumption | exact At.set_eq2 (by first | omega | (simp only [hset, hnew]; omega) | rfl | decide) | exact At.new_eq2 _ _ (by first | omega | (simp only [hset, hnew]; omega) | rfl | decide) | refine At.set_ne ?_ (by first | omega | (simp only [hset, hnew]; omega) | rfl | decide) | refine At.new_ne ?_)))) (hv := rfl) (r := ?_)
  refine tX13_next_5  (r := ?_)
  refine tX13_next_7  (r := ?_)
  refine tX13_next_8  (r := ?_)
  refine tX13_next_11  (r := ?_)
  refine tX13_next_12 (ha := (by first | assumption | (repeat (first | assumption | exact At.set_eq2 (by first | omega | (simp only [hset, hnew]; omega) | rfl | decide) | exact At.new_eq2 _ _ (by first | omega | (simp only [hset, hnew]; omega) | rfl | decide) | refine At.set_ne ?_ (by first | omega | (simp only [hset, hnew]; omega) | rfl | decide) | refine At.new_ne ?_)))) (hlen := rfl) (r := ?_)
  refine tX13_next_15  (r := ?_)
  refine tX13_next_16 (ha := At.set_eq2 q.1) (hv := rfl) (r := ?_)
  refine tX13_next_19  (r := ?_)
  refine tX13_next_21  (r := ?_)
  refine tX13_next_22  (r := ?_)
  refine tX13_next_23 (hd := (by omega)) (call := s_below (d := 0) h1 h2) (k := ?_)
  rintro r_ h_ ⟨⟨k, hk, e_⟩, e2_⟩
  rw [e_, e2_]
  refine tX13_next_26  (hP := ?_)
  exact ⟨_, rfl, ⟨k, hk, rfl⟩, ⟨_, At.set_eq2 q.1⟩, (Fc.rf h a 0 0).set (Or.inl rfl)⟩
theorem s_ndInit (hd : 1 ≤ d) {a : Nat} {so n : Int32} {x y : Option Nat} (q : At h a (.inr (14, [.int 0, .int 0, .null, .null]))) : RQ G mX16_init d 0 [some (.ref a), some (.int so), some (.int n), some (va_rf x), some (va_rf y)] [] h (Rv fun h1 => At h1 a (.inr (14, [.int so, .int n, va_rf x, va_rf y])) ∧ Fc h h1 a 0 0) := by
  refine tX16_init_0  (r := ?_)
  refine tX16_init_1 (hd := (by omega)) (r := ?_)
  refine tX16_init_4  (r := ?_)
  refine tX16_init_5  (r := ?_)
  refine tX16_init_6 (ha := (by first | assumption | (repeat (first | assumption | exact At.set_eq2 (by first | omega | (simp only [hset, hnew]; omega) | rfl | decide) | exact At.new_eq2 _ _ (by first | omega | (simp only [hset, hnew]; omega) | rfl | decide) | refine At.set_ne ?_ (by first | omega | (simp only [hset, hnew]; omega) | rfl | decide) | refine At.new_ne ?_)))) (hlen := rfl) (r := ?_)
  refine tX16_init_9  (r := ?_)
  refine tX16_init_10  (r := ?_)
  refine tX16_init_11 (ha := (At.set_eq2 q.1)) (hlen := rfl) (r := ?_)
  refine tX16_init_14  (r := ?_)
  refine tX16_init_15q  (r := ?_)
  refine tX16_init_16q (ha := (At.set_eq2 q.1)) (hlen := rfl) (r := ?_)
  refine tX16_init_19  (r := ?_)
  refine tX16_init_20q  (r := ?_)
  refine tX16_init_22q (ha := (At.set_eq2 q.1)) (hlen := rfl) (r := ?_)
  refine tX16_init_25  (hP := ?_)
  exact ⟨rfl, At.set_eq2 q.1, ((((Fc.rf h a 0 0).set (Or.inl rfl)).set (Or.inl rfl)).set (Or.inl rfl)).set (Or.inl rfl)⟩
end DI
