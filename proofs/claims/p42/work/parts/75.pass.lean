/-! the rule of a lid, days that pass: the calls -/
/-- n days go by; how many acts -/
def psN (B : BK) (D : DY) : Nat → DY × Nat
  | 0 => (D, 0)
  | n + 1 => (dyD (dsN B (psN B D n).1 (bLi B)).1, (psN B D n).2 + (dsN B (psN B D n).1 (bLi B)).2)
section PS
variable {G : GT} {d : Nat} {h0 h : AH} {bk dr : Nat} {s : ST}

set_option maxHeartbeats 4000000 in
set_option maxRecDepth 100000 in
theorem s_ckDays_ok {x0 : Option Value} {a0 : Int32} (g : ¬ (a0 < nI 1 ∨ nI 60 < a0)) {QX : String → AH → Prop} : RQ G mX10_checkDays d 0 [x0, some (.int a0)] [] h (Rx (Rv fun h1 => h1 = h) QX) := by
  refine tX10_checkDays_0  (r := ?_)
  refine tX10_checkDays_1  (r := ?_)
  refine tX10_checkDays_2  (kt := fun c_ => by exfalso; exact g (Or.inl c_)) (kf := fun _ => ?_)
  refine tX10_checkDays_5  (r := ?_)
  refine tX10_checkDays_6  (r := ?_)
  refine tX10_checkDays_8  (kf := fun c_ => by exfalso; exact c_ (Int32.not_lt.mp (fun z => g (Or.inr z)))) (kt := fun _ => ?_)
  refine tX10_checkDays_19  (hP := ?_)
  exact Or.inl ⟨rfl, rfl⟩

set_option maxHeartbeats 4000000 in
set_option maxRecDepth 100000 in
theorem s_ckDays_no (hd : 6 ≤ d) {x0 : Option Value} {a0 : Int32} (g : a0 < nI 1 ∨ nI 60 < a0) : RQ G mX10_checkDays d 0 [x0, some (.int a0)] [] h (Rx (Rv fun _ => False) (fun E h1 => E = "java/lang/IllegalArgumentException" ∧ h1 = hnew h 6 (.inr (19, [])))) := by
  refine tX10_checkDays_0  (r := ?_)
  refine tX10_checkDays_1  (r := ?_)
  refine tX10_checkDays_2  (kt := fun c_2 => ?_) (kf := fun c_2 => ?_)
  · refine tX10_checkDays_11 (hdd := hd) (hP := ?_)
    exact Or.inr ⟨_, rfl, rfl, rfl⟩
  · refine tX10_checkDays_5  (r := ?_)
    refine tX10_checkDays_6  (r := ?_)
    refine tX10_checkDays_8  (kt := fun c_ => by exfalso; exact g.elim c_2 (fun z => Int32.not_le.mpr z c_)) (kf := fun _ => ?_)
    refine tX10_checkDays_11 (hdd := hd) (hP := ?_)
    exact Or.inr ⟨_, rfl, rfl, rfl⟩

set_option maxHeartbeats 4000000 in
set_option maxRecDepth 100000 in
theorem k_pass_no1 (hd : 7 ≤ d) (c : ClR h 0 bk dr s) (hb : BDok s.2.2.1 s.2.2.2) (hh : 216 ≤ h.1) {a0 : Int32} {V : Int32} (g : a0 < nI 1 ∨ nI 60 < a0) : RQ G mX10_pass d 0 [some (.ref 0), some (.int a0), none, none] [] h (CK h bk dr s "java/lang/IllegalArgumentException" "" 1 V) := by
  have c1 := c.poll
  refine tX10_pass_0  (r := ?_)
  refine tX10_pass_1  (r := ?_)
  refine tX10_pass_2 (hd := (by omega)) (ha := (by first | assumption | (repeat (first | assumption | exact At.set_eq2 (by first | omega | (simp only [hset, hnew]; omega) | rfl | decide) | exact At.new_eq2 _ _ (by first | omega | (simp only [hset, hnew]; omega) | rfl | decide) | refine At.set_ne ?_ (by first | omega | (simp only [hset, hnew]; omega) | rfl | decide) | refine At.new_ne ?_)))) (call := s_ckDays_no (d := 6) (by decide) g) (kx := fun E_ h_ hx_ => by obtain ⟨rfl, rfl⟩ := hx_; exact ck_throw c hh (Or.inl ⟨rfl, rfl⟩)) (k := ?_)
  intro h_ e_
  exact e_.elim

set_option maxHeartbeats 4000000 in
set_option maxRecDepth 100000 in
theorem k_pass_l (hd : 9 ≤ d) (hh : 216 ≤ h0.1) {u : Nat} (hn : u ≤ 60) : ∀ (n i : Nat) (h : AH), u ≤ i + n → i ≤ u → ClR h 0 bk dr (s.1, s.2.1, s.2.2.1, (psN s.2.2.1 s.2.2.2 i).1) → BDok s.2.2.1 (psN s.2.2.1 s.2.2.2 i).1 → Sd h0 h 66 156 → RQ G mX10_pass d 9 [some (.ref 0), some (.int (nI u)), some (.int (nI (psN s.2.2.1 s.2.2.2 i).2)), some (.int (nI i))] [] h (CK h0 bk dr (s.1, s.2.1, s.2.2.1, (psN s.2.2.1 s.2.2.2 u).1) "java/lang/IllegalArgumentException" "" 0 (nI (psN s.2.2.1 s.2.2.2 u).2)) := by
  have ex : ∀ (i : Nat) (h : AH), i = u → ClR h 0 bk dr (s.1, s.2.1, s.2.2.1, (psN s.2.2.1 s.2.2.2 i).1) → BDok s.2.2.1 (psN s.2.2.1 s.2.2.2 i).1 → Sd h0 h 66 156 → RQ G mX10_pass d 9 [some (.ref 0), some (.int (nI u)), some (.int (nI (psN s.2.2.1 s.2.2.2 i).2)), some (.int (nI i))] [] h (CK h0 bk dr (s.1, s.2.1, s.2.2.1, (psN s.2.2.1 s.2.2.2 u).1) "java/lang/IllegalArgumentException" "" 0 (nI (psN s.2.2.1 s.2.2.2 u).2)) := by
    intro i h hi c hb sd
    subst hi
    have c1 := c.poll
    obtain ⟨n0, cw⟩ := c.cam
    obtain ⟨he_, cf_, ca0, ca1⟩ := id cw
    have hh1 : 216 ≤ h.1 := by rw [sd.1]; exact hh
    refine tX10_pass_9  (r := ?_)
    refine tX10_pass_10  (r := ?_)
    refine tX10_pass_11  (kf := fun c_ => by exfalso; exact c_ ((nI_leI (by omega) (by omega)).mpr (Nat.le_refl _))) (kt := fun _ => ?_)
    refine tX10_pass_38  (r := ?_)
    refine tX10_pass_39  (hP := ?_)
    exact ck_val c sd.ch
  intro n
  induction n with
  | zero => exact fun i h h1_ h2_ => ex i h (by omega)
  | succ n ih =>
    intro i h h1_ h2_ c hb sd
    by_cases hi : i = u
    · exact ex i h hi c hb sd
    have hi2 : i < u := by omega
    have c1 := c.poll
    obtain ⟨n0, cw⟩ := c.cam
    obtain ⟨he_, cf_, ca0, ca1⟩ := id cw
    have hh1 : 216 ≤ h.1 := by rw [sd.1]; exact hh
    refine tX10_pass_9  (r := ?_)
    refine tX10_pass_10  (r := ?_)
    refine tX10_pass_11  (kt := fun c_ => by exfalso; exact absurd ((nI_leI (by omega) (by omega)).mp c_) (by omega)) (kf := fun _ => ?_)
    refine tX10_pass_14  (r := ?_)
    refine tX10_pass_15  (r := ?_)
    refine tX10_pass_16 (ha := (by first | assumption | (repeat (first | assumption | exact At.set_eq2 (by first | omega | (simp only [hset, hnew]; omega) | rfl | decide) | exact At.new_eq2 _ _ (by first | omega | (simp only [hset, hnew]; omega) | rfl | decide) | refine At.set_ne ?_ (by first | omega | (simp only [hset, hnew]; omega) | rfl | decide) | refine At.new_ne ?_)))) (hv := rfl) (r := ?_)
    refine tX10_pass_19  (r := ?_)
    refine tX10_pass_20 (ha := (by first | assumption | (repeat (first | assumption | exact At.set_eq2 (by first | omega | (simp only [hset, hnew]; omega) | rfl | decide) | exact At.new_eq2 _ _ (by first | omega | (simp only [hset, hnew]; omega) | rfl | decide) | refine At.set_ne ?_ (by first | omega | (simp only [hset, hnew]; omega) | rfl | decide) | refine At.new_ne ?_)))) (hv := rfl) (r := ?_)
    refine tX10_pass_23  (r := ?_)
    refine tX10_pass_24 (ha := (by first | assumption | (repeat (first | assumption | exact At.set_eq2 (by first | omega | (simp only [hset, hnew]; omega) | rfl | decide) | exact At.new_eq2 _ _ (by first | omega | (simp only [hset, hnew]; omega) | rfl | decide) | refine At.set_ne ?_ (by first | omega | (simp only [hset, hnew]; omega) | rfl | decide) | refine At.new_ne ?_)))) (hv := rfl) (r := ?_)
    refine tX10_pass_27 (hd := (by omega)) (ha := (by first | assumption | (repeat (first | assumption | exact At.set_eq2 (by first | omega | (simp only [hset, hnew]; omega) | rfl | decide) | exact At.new_eq2 _ _ (by first | omega | (simp only [hset, hnew]; omega) | rfl | decide) | refine At.set_ne ?_ (by first | omega | (simp only [hset, hnew]; omega) | rfl | decide) | refine At.new_ne ?_)))) (call := s_day (d := 8) (c := 66) (b := 156) (B := s.2.2.1) (D := (psN s.2.2.1 s.2.2.2 i).1) (by decide) (by decide) c.bkd hb c.2.2.2.2.2.2.2.1 c.2.2.2.2.1 cw) (k := ?_)
    rintro v h1 ⟨rfl, bo1, cu1, hb1, ⟨n1, cw1⟩, sd1⟩
    have c' := c.sd hh1 cu1 cw1 sd1
    refine tX10_pass_30  (r := ?_)
    rw [nI_add]
    refine tX10_pass_31  (r := ?_)
    refine tX10_pass_32  (r := ?_)
    rw [nI_add]
    refine tX10_pass_35 (r := ?_)
    exact ih (i + 1) h1 (by omega) (by omega) c' hb1 (sd.trans sd1)

set_option maxHeartbeats 4000000 in
set_option maxRecDepth 100000 in
theorem k_pass_ok (hd : 9 ≤ d) (c : ClR h 0 bk dr s) (hb : BDok s.2.2.1 s.2.2.2) (hh : 216 ≤ h.1) {n : Nat} (hn : n ≤ 60) (g : ¬ (nI n < nI 1 ∨ nI 60 < nI n)) : RQ G mX10_pass d 0 [some (.ref 0), some (.int (nI n)), none, none] [] h (CK h bk dr (s.1, s.2.1, s.2.2.1, (psN s.2.2.1 s.2.2.2 n).1) "java/lang/IllegalArgumentException" "" 0 (nI (psN s.2.2.1 s.2.2.2 n).2)) := by
  have c1 := c.poll
  refine tX10_pass_0  (r := ?_)
  refine tX10_pass_1  (r := ?_)
  refine tX10_pass_2 (hd := (by omega)) (ha := (by first | assumption | (repeat (first | assumption | exact At.set_eq2 (by first | omega | (simp only [hset, hnew]; omega) | rfl | decide) | exact At.new_eq2 _ _ (by first | omega | (simp only [hset, hnew]; omega) | rfl | decide) | refine At.set_ne ?_ (by first | omega | (simp only [hset, hnew]; omega) | rfl | decide) | refine At.new_ne ?_)))) (call := s_ckDays_ok (d := 6) (QX := fun _ _ => False) g) (kx := fun E_ h_ hx_ => by exact hx_.elim) (k := ?_)
  intro h_ e_
  rw [e_]
  refine tX10_pass_5  (r := ?_)
  refine tX10_pass_6  (r := ?_)
  refine tX10_pass_7  (r := ?_)
  refine tX10_pass_8  (r := ?_)
  exact k_pass_l hd hh hn n 0 h (by omega) (by omega) c hb (Sd.rf _ _ _)

theorem acV_ok {B : BK} {D D' : DY} {S S' : List Int32} {i kd n : Nat} (hb : BDok B D) (hi : i < bLi B) (ok : okD B kd n) (e : acV B i kd n D S = some (D', S')) : BDok B D' := by
  unfold acV at e
  by_cases hk : isAc kd = true
  · rw [if_pos hk] at e
    by_cases h9 : kd = 9
    · rw [if_pos h9] at e
      cases S with
      | nil => exact nomatch e
      | cons x t =>
        have e2 : doV B i kd n x D = D' := congrArg Prod.fst (Option.some.inj e)
        rw [← e2]
        exact doV_ok hb hi ok
    · rw [if_neg h9] at e
      have e2 : doV B i kd n 0 D = D' := congrArg Prod.fst (Option.some.inj e)
      rw [← e2]
      exact doV_ok hb hi ok
  · rw [if_neg hk] at e
    cases z : stV B D i kd n S with
    | none =>
      rw [z] at e
      exact nomatch e
    | some t =>
      rw [z] at e
      have e2 : D = D' := congrArg Prod.fst (Option.some.inj e)
      rw [← e2]
      exact hb
theorem raV_ok {B : BK} {i : Nat} (hw : WFs B) (hi : i < bLi B) : ∀ (m a : Nat) (D D' : DY) (S S' : List Int32), a + m ≤ cSt B → BDok B D → raV B i a m D S = some (D', S') → BDok B D'
  | 0, a, D, D', S, S', _, hb, e => by
    have e2 : D = D' := congrArg Prod.fst (Option.some.inj e)
    rw [← e2]
    exact hb
  | m + 1, a, D, D', S, S', l, hb, e => by
    unfold raV at e
    cases z : acV B i (cKd B a) (cNu B a) D S with
    | none =>
      rw [z] at e
      exact nomatch e
    | some q =>
      rw [z] at e
      have ok := hw.2.2.2.2.1 a (by omega)
      exact raV_ok hw hi m (a + 1) q.1 D' q.2 S' (by omega) (acV_ok hb hi ⟨fun z => ok.2.2.1 (by omega), fun z => ok.2.2.2 z⟩ z) e
theorem ldV_ok {B : BK} {D : DY} {i : Nat} (hb : BDok B D) (hi : i < bLi B) : BDok B (ldV B i D).1 := by
  cases z : rfD B D i with
  | none =>
    rw [ldV_none z]
    exact hb
  | some r =>
    obtain ⟨hw, hs⟩ := hb.bs
    have hl := hw.2.2.2.2.2.2.1 i hi
    obtain ⟨r1, r2⟩ := rfN_lt _ _ _ z
    obtain ⟨-, ⟨D', hra, -, -⟩⟩ := hs i D hi hb.nine r r1 (by omega)
    obtain ⟨⟨w1, w2, w3⟩, -⟩ := hw.2.2.2.2.2.2.2 r (by omega)
    rw [ldV_some z hra]
    exact raV_ok hw hi _ _ _ _ _ _ (by omega) hb hra
theorem psN_ok {B : BK} {D : DY} (hb : BDok B D) : ∀ n, BDok B (psN B D n).1 := by
  have one : ∀ i, i ≤ bLi B → ∀ D, BDok B D → BDok B (dsN B D i).1 := by
    intro i
    induction i with
    | zero => exact fun _ D hb => hb
    | succ i ih =>
      intro hi D hb
      have h1 := ih (by omega) D hb
      show BDok B (ldV B i (dsN B D i).1).1
      exact ldV_ok h1 (by omega)
  intro n
  induction n with
  | zero => exact hb
  | succ n ih => exact (one (bLi B) (Nat.le_refl _) _ ih).dy
theorem days_cases {a0 : Int32} (g : ¬ (a0 < nI 1 ∨ nI 60 < a0)) : ∃ n, n ≤ 60 ∧ nI n = a0 := by
  rcases ix_cases a0 (n := 61) (by omega) with ⟨n, q, e⟩ | bad
  · exact ⟨n, by omega, e.symm⟩
  · exfalso
    have e0 : (0 : Int32).toInt = 0 := by decide
    have e1 : (nI 1).toInt = 1 := by decide
    have e60 : (nI 60).toInt = 60 := by decide
    have e61 : (nI 61).toInt = 61 := by decide
    simp only [Int32.lt_iff_toInt_lt, Int32.le_iff_toInt_le] at g bad
    omega
end PS