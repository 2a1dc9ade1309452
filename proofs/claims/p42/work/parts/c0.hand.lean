/-! the cupboard by hand: what lies where; leaders, turnout, alliances, who is first, margin -/
/-- a jar by hand -/
def JhR (h : AH) (x be n se wy : Nat) (b : Nat → Nat) : Prop := 216 ≤ x ∧ 216 ≤ be ∧ At h x (.inr (12, [.int (nI se), .int (nI wy), .ref be])) ∧ ∃ bf : Nat → Int32, At h be (.inl (0, n, .inl bf)) ∧ ∀ k, k < n → bf k = nI (b k)
/-- whom labels follow -/
def FoR (h : AH) (c n : Nat) (F : Nat → Option Nat) : Prop := ∃ fo v1 v2 v3, ∃ ff : Nat → Int32, At h c (.inr (10, [.ref fo, v1, v2, v3])) ∧ At h fo (.inl (0, n, .inl ff)) ∧ ∀ k, k < n → ff k = oI (F k)
theorem Ch0.at {h h1 : AH} {ck sk i : Nat} {c : AC} (x : Ch h h1 0 0 ck sk) (a : At h i c) : At h1 i c := a.keep x.1 (x.2.2.2.2 i (Nat.zero_le _) a.1)
theorem JhR.ch {h h1 : AH} {x be n se wy ck sk : Nat} {b : Nat → Nat} (q : JhR h x be n se wy b) (c : Ch h h1 0 0 ck sk) : JhR h1 x be n se wy b := by
  obtain ⟨q1, q2, q3, bf, q4, q5⟩ := q
  exact ⟨q1, q2, Ch0.at c q3, bf, Ch0.at c q4, q5⟩
theorem FoR.ch {h h1 : AH} {c n ck sk : Nat} {F : Nat → Option Nat} (q : FoR h c n F) (x : Ch h h1 0 0 ck sk) : FoR h1 c n F := by
  obtain ⟨fo, v1, v2, v3, ff, q1, q2, q3⟩ := q
  exact ⟨fo, v1, v2, v3, ff, Ch0.at x q1, Ch0.at x q2, q3⟩
/-- new cells alone -/
theorem Ch0.new (h : AH) (n : Nat) (c : AC) : Ch h (hnew h n c) 0 0 1 n := (Ch.rf h 0 0 0 0).new (Nat.zero_le _) |>.sub (Nat.le_refl _) (Nat.le_refl _) (by omega) (by omega)
theorem Ch0.set {h h1 : AH} {ck sk i : Nat} {c : AC} (x : Ch h h1 0 0 ck sk) (e : h.1 ≤ i) : Ch h (hset h1 i c) 0 0 ck sk := x.set9 e (Nat.zero_le _)
/-- sums whose tail is nothing; who is first, where the tail is nothing -/
theorem su_ext9 {f : Nat → Nat} {n : Nat} : ∀ m, (∀ k, n ≤ k → k < n + m → f k = 0) → su f (n + m) = su f n
  | 0, _ => rfl
  | m + 1, h => by
    show su f (n + m) + f (n + m) = su f n
    rw [su_ext9 m (fun k h1 h2 => h k h1 (by omega)), h (n + m) (by omega) (by omega)]
    rfl
theorem su_six {f : Nat → Nat} {n : Nat} (hn : n ≤ 6) (h : ∀ k, n ≤ k → k < 6 → f k = 0) : su f n = su f 6 := by
  have := su_ext9 (f := f) (n := n) (6 - n) (fun k h1 h2 => h k h1 (by omega))
  rw [show n + (6 - n) = 6 by omega] at this
  exact this.symm
theorem fi_ext {p : Nat → Nat} {n : Nat} : ∀ m, (∀ k, n ≤ k → k < n + m → p k = 0) → fiN p (n + m) = fiN p n
  | 0, _ => rfl
  | m + 1, h => by
    show fiN p (n + m + 1) = _
    rw [fi_step, fi_ext m (fun k h1 h2 => h k h1 (by omega)), if_neg (by rw [h (n + m) (by omega) (by omega)]; exact Nat.not_lt_zero _)]
theorem fi_six {p : Nat → Nat} {n : Nat} (hn : n ≤ 6) (h : ∀ k, n ≤ k → k < 6 → p k = 0) : fiN p n = fiN p 6 := by
  have := fi_ext (p := p) (n := n) (6 - n) (fun k h1 h2 => h k h1 (by omega))
  rw [show n + (6 - n) = 6 by omega] at this
  exact this.symm
theorem fi_fst {p : Nat → Nat} : ∀ n j, fiN p n = some j → ∀ k, k < j → p k < p j := by
  intro n
  induction n with
  | zero => intro j hj; cases hj
  | succ n ih =>
    intro j hj k hk
    rw [fi_step] at hj
    by_cases z : mo p (fiN p n) < p n
    · rw [if_pos z] at hj
      cases hj
      have := fi_max p n k hk
      omega
    · rw [if_neg z] at hj
      exact ih j hj k hk
theorem fi_nn {p : Nat → Nat} {n : Nat} (h : fiN p n = none) : ∀ k, k < n → p k = 0 := fun k hk => by
  have := fi_max p n k hk
  rw [h] at this
  exact Nat.le_zero.mp this
/-- what is known of numbers from m on -/
def FDn (p : Nat → Nat) (m n : Nat) : Option Nat → Prop
  | none => ∀ k, m ≤ k → k < n → p k = 0
  | some j => m ≤ j ∧ j < n ∧ 0 < p j ∧ (∀ k, m ≤ k → k < n → p k ≤ p j) ∧ ∀ k, m ≤ k → k < j → p k < p j
theorem FDn.fi {p : Nat → Nat} {n : Nat} {b : Option Nat} (h : FDn p 0 n b) : b = fiN p n := by
  cases e : fiN p n with
  | none =>
    have z := fi_nn e
    cases b with
    | none => rfl
    | some j =>
      obtain ⟨-, h2, h3, -⟩ := h
      have := z j h2
      omega
  | some i =>
    have i1 := fi_lt p n i e
    have i2 := fi_pos p n i e
    cases b with
    | none =>
      have := h i (Nat.zero_le _) i1
      omega
    | some j =>
      obtain ⟨-, h2, h3, h4, h5⟩ := h
      have j1 := h4 i (Nat.zero_le _) i1
      have j2 := fi_max p n j h2
      rw [e] at j2
      have j2 : p j ≤ p i := j2
      by_cases c : i < j
      · have := h5 i (Nat.zero_le _) c
        omega
      · by_cases c2 : j < i
        · have := fi_fst n i e j c2
          omega
        · rw [show i = j by omega]
/-- one below a number -/
def pvI : Nat → Int32
  | 0 => -1
  | m + 1 => nI m
theorem pv_dec (m : Nat) (h : m < 1000) : nI m + (-1) = pvI m := by
  cases m with
  | zero => decide
  | succ m => exact nI_dec (by omega)
/-- all but one -/
def zr (p : Nat → Nat) (k : Nat) : Nat → Nat := fun j => if j = k then 0 else p j
theorem sec_zr {p : Nat → Nat} {k : Nat} : ∀ n, sec p (some k) n = mo (zr p k) (fiN (zr p k) n)
  | 0 => rfl
  | n + 1 => by
    rw [fi_step]
    show (if some k = some n then sec p (some k) n else max (sec p (some k) n) (p n)) = _
    rw [sec_zr n]
    by_cases e : k = n
    · subst e
      rw [if_pos rfl, if_neg (by show ¬ _ < (if k = k then 0 else p k); rw [if_pos rfl]; exact Nat.not_lt_zero _)]
    · rw [if_neg (fun z => e (by injection z))]
      have e2 : zr p k n = p n := if_neg (fun z => e z.symm)
      by_cases z : mo (zr p k) (fiN (zr p k) n) < zr p k n
      · rw [if_pos z]
        show max _ (p n) = zr p k n
        rw [e2] at z ⊢
        omega
      · rw [if_neg z]
        rw [e2] at z
        omega
section HA
variable {G : GT} {d : Nat} {h : AH} {c n x be se wy : Nat} {b : Nat → Nat} {F : Nat → Option Nat}

set_option maxHeartbeats 4000000 in
theorem s_lead (n6 : n ≤ 6) (q : FoR h c n F) (hF : ∀ k j, k < n → F k = some j → j < n) : ∀ (m dd k : Nat), m ≤ dd → k < n → F (rtn F m k) = none → RQ G mX12_leader dd 0 [some (.ref c), some (.int (nI k))] [] h (Ri fun r h1 => r = nI (rtn F m k) ∧ h1 = h) := by
  obtain ⟨fo, v1, v2, v3, ff, q1, q2, qf⟩ := q
  have no : ∀ (m dd k : Nat), k < n → F k = none → RQ G mX12_leader dd 0 [some (.ref c), some (.int (nI k))] [] h (Ri fun r h1 => r = nI (rtn F m k) ∧ h1 = h) := by
    intro m dd k hk e
    refine tX12_leader_0  (r := ?_)
    refine tX12_leader_1 (ha := (by first | assumption | (repeat (first | assumption | exact At.set_eq2 (by first | omega | (simp only [hset, hnew]; omega) | rfl | decide) | exact At.new_eq2 _ _ (by first | omega | (simp only [hset, hnew]; omega) | rfl | decide) | refine At.set_ne ?_ (by first | omega | (simp only [hset, hnew]; omega) | rfl | decide) | refine At.new_ne ?_)))) (hv := rfl) (r := ?_)
    refine tX12_leader_4  (r := ?_)
    refine tX12_leader_5 (ha := (by first | assumption | (repeat (first | assumption | exact At.set_eq2 (by first | omega | (simp only [hset, hnew]; omega) | rfl | decide) | exact At.new_eq2 _ _ (by first | omega | (simp only [hset, hnew]; omega) | rfl | decide) | refine At.set_ne ?_ (by first | omega | (simp only [hset, hnew]; omega) | rfl | decide) | refine At.new_ne ?_)))) (hx := rfl) (hj := (by omega)) (hn := (by omega)) (r := ?_)
    rw [qf k hk, e]
    refine tX12_leader_6  (kt := fun c_ => by exfalso; exact absurd c_ (show ¬ (0 : Int32) ≤ -1 by decide)) (kf := fun _ => ?_)
    refine tX12_leader_9  (r := ?_)
    refine tX12_leader_10 (r := ?_)
    refine tX12_leader_23  (hP := ?_)
    exact ⟨_, rfl, congrArg nI (rtn_no e).symm, rfl⟩
  intro m
  induction m with
  | zero => exact fun dd k _ hk hr => no 0 dd k hk hr
  | succ m ih =>
    intro dd k hd hk hr
    cases e : F k with
    | none => exact no (m + 1) dd k hk e
    | some j =>
      have hjn := hF k j hk e
      obtain ⟨dd, rfl⟩ : ∃ d0, dd = d0 + 1 := ⟨dd - 1, by omega⟩
      refine tX12_leader_0  (r := ?_)
      refine tX12_leader_1 (ha := (by first | assumption | (repeat (first | assumption | exact At.set_eq2 (by first | omega | (simp only [hset, hnew]; omega) | rfl | decide) | exact At.new_eq2 _ _ (by first | omega | (simp only [hset, hnew]; omega) | rfl | decide) | refine At.set_ne ?_ (by first | omega | (simp only [hset, hnew]; omega) | rfl | decide) | refine At.new_ne ?_)))) (hv := rfl) (r := ?_)
      refine tX12_leader_4  (r := ?_)
      refine tX12_leader_5 (ha := (by first | assumption | (repeat (first | assumption | exact At.set_eq2 (by first | omega | (simp only [hset, hnew]; omega) | rfl | decide) | exact At.new_eq2 _ _ (by first | omega | (simp only [hset, hnew]; omega) | rfl | decide) | refine At.set_ne ?_ (by first | omega | (simp only [hset, hnew]; omega) | rfl | decide) | refine At.new_ne ?_)))) (hx := rfl) (hj := (by omega)) (hn := (by omega)) (r := ?_)
      rw [qf k hk, e]
      rw [show oI (some j) = nI j from rfl]
      refine tX12_leader_6  (kf := fun c_ => by exfalso; (simp (disch := first | omega | decide) only [ci_lt, ci_le, ci_eq, ci_lt0, ci_ge0, ci_gt0, ci_le0, ci_eq0, ci_m1_lt, ci_m1_le, ci_lt_m1, ci_le_m1, ci_eq_m1, ci_m1_eq, not_true, not_false_iff, Nat.not_lt, Nat.not_le] at c_ <;> omega)) (kt := fun _ => ?_)
      refine tX12_leader_13  (r := ?_)
      refine tX12_leader_14  (r := ?_)
      refine tX12_leader_15 (ha := (by first | assumption | (repeat (first | assumption | exact At.set_eq2 (by first | omega | (simp only [hset, hnew]; omega) | rfl | decide) | exact At.new_eq2 _ _ (by first | omega | (simp only [hset, hnew]; omega) | rfl | decide) | refine At.set_ne ?_ (by first | omega | (simp only [hset, hnew]; omega) | rfl | decide) | refine At.new_ne ?_)))) (hv := rfl) (r := ?_)
      refine tX12_leader_18  (r := ?_)
      refine tX12_leader_19 (ha := (by first | assumption | (repeat (first | assumption | exact At.set_eq2 (by first | omega | (simp only [hset, hnew]; omega) | rfl | decide) | exact At.new_eq2 _ _ (by first | omega | (simp only [hset, hnew]; omega) | rfl | decide) | refine At.set_ne ?_ (by first | omega | (simp only [hset, hnew]; omega) | rfl | decide) | refine At.new_ne ?_)))) (hx := rfl) (hj := (by omega)) (hn := (by omega)) (r := ?_)
      rw [qf k hk, e]
      rw [show oI (some j) = nI j from rfl]
      refine tX12_leader_20 (hd := (by omega)) (ha := (by first | assumption | (repeat (first | assumption | exact At.set_eq2 (by first | omega | (simp only [hset, hnew]; omega) | rfl | decide) | exact At.new_eq2 _ _ (by first | omega | (simp only [hset, hnew]; omega) | rfl | decide) | refine At.set_ne ?_ (by first | omega | (simp only [hset, hnew]; omega) | rfl | decide) | refine At.new_ne ?_)))) (call := ih dd j (by omega) (hF k j hk e) (by rw [← rtn_yes (n := m) e]; exact hr)) (k := ?_)
      rintro v h_ ⟨rfl, e9⟩
      rw [e9]
      refine tX12_leader_23  (hP := ?_)
      exact ⟨_, rfl, congrArg nI (rtn_yes e).symm, rfl⟩
theorem s_leader (hd : 6 ≤ d) (n6 : n ≤ 6) (q : FoR h c n F) (hF : ∀ k j, k < n → F k = some j → j < n) (hR : ∀ k, k < n → F (rt F k) = none) {k : Nat} (hk : k < n) : RQ G mX12_leader d 0 [some (.ref c), some (.int (nI k))] [] h (Ri fun r h1 => r = nI (rt F k) ∧ h1 = h) := s_lead n6 q hF 6 d k hd hk (hR k hk)
set_option maxHeartbeats 4000000 in
theorem s_hturn_l (n6 : n ≤ 6) (jh : JhR h x be n se wy b) {x0 : Option Value} : ∀ (nn i : Nat) (x6 : Option Value), n ≤ i + nn → i ≤ n → True → RQ G mX12_turnout d 14 [x0, some (.ref x), some (.int (nI (su b i))), some (.ref be), some (.int (nI n)), some (.int (nI i)), x6] [] h (Ri fun r h1 => r = nI (su b n) ∧ h1 = h) := by
  have ex : ∀ (i : Nat) (x6 : Option Value), i = n → True → RQ G mX12_turnout d 14 [x0, some (.ref x), some (.int (nI (su b i))), some (.ref be), some (.int (nI n)), some (.int (nI i)), x6] [] h (Ri fun r h1 => r = nI (su b n) ∧ h1 = h) := by
    intro i x6 hi _
    subst hi
    obtain ⟨j1, j2, j3, bf, j4, j5⟩ := id jh
    refine tX12_turnout_14  (r := ?_)
    refine tX12_turnout_16  (r := ?_)
    refine tX12_turnout_18  (kf := fun c_ => by exfalso; (simp (disch := first | omega | decide) only [ci_lt, ci_le, ci_eq, ci_lt0, ci_ge0, ci_gt0, ci_le0, ci_eq0, ci_m1_lt, ci_m1_le, ci_lt_m1, ci_le_m1, ci_eq_m1, ci_m1_eq, not_true, not_false_iff, Nat.not_lt, Nat.not_le] at c_ <;> omega)) (kt := fun _ => ?_)
    refine tX12_turnout_38  (r := ?_)
    refine tX12_turnout_39  (hP := ?_)
    exact ⟨_, rfl, rfl, rfl⟩
  intro nn
  induction nn with
  | zero => exact fun i x6 h1_ h2_ => ex i x6 (by omega)
  | succ nn ih =>
    intro i x6 h1_ h2_ _
    by_cases hi : i = n
    · exact ex i x6 hi trivial
    have hi2 : i < n := by omega
    obtain ⟨j1, j2, j3, bf, j4, j5⟩ := id jh
    refine tX12_turnout_14  (r := ?_)
    refine tX12_turnout_16  (r := ?_)
    refine tX12_turnout_18  (kt := fun c_ => by exfalso; (simp (disch := first | omega | decide) only [ci_lt, ci_le, ci_eq, ci_lt0, ci_ge0, ci_gt0, ci_le0, ci_eq0, ci_m1_lt, ci_m1_le, ci_lt_m1, ci_le_m1, ci_eq_m1, ci_m1_eq, not_true, not_false_iff, Nat.not_lt, Nat.not_le] at c_ <;> omega)) (kf := fun _ => ?_)
    refine tX12_turnout_21  (r := ?_)
    refine tX12_turnout_22  (r := ?_)
    refine tX12_turnout_24 (ha := (by first | assumption | (repeat (first | assumption | exact At.set_eq2 (by first | omega | (simp only [hset, hnew]; omega) | rfl | decide) | exact At.new_eq2 _ _ (by first | omega | (simp only [hset, hnew]; omega) | rfl | decide) | refine At.set_ne ?_ (by first | omega | (simp only [hset, hnew]; omega) | rfl | decide) | refine At.new_ne ?_)))) (hx := rfl) (hj := (by omega)) (hn := (by omega)) (r := ?_)
    rw [j5 _ hi2]
    refine tX12_turnout_25  (r := ?_)
    refine tX12_turnout_27  (r := ?_)
    refine tX12_turnout_28  (r := ?_)
    refine tX12_turnout_30  (r := ?_)
    rw [nI_add]
    refine tX12_turnout_31  (r := ?_)
    refine tX12_turnout_32  (r := ?_)
    rw [nI_add]
    refine tX12_turnout_35 (r := ?_)
    exact ih (i + 1) _ (by omega) (by omega) trivial
set_option maxHeartbeats 4000000 in
theorem s_hturn (n6 : n ≤ 6) (jh : JhR h x be n se wy b) {x0 : Option Value} : RQ G mX12_turnout d 0 [x0, some (.ref x), none, none, none, none, none] [] h (Ri fun r h1 => r = nI (su b n) ∧ h1 = h) := by
  obtain ⟨j1, j2, j3, bf, j4, j5⟩ := id jh
  refine tX12_turnout_0  (r := ?_)
  refine tX12_turnout_1  (r := ?_)
  refine tX12_turnout_2  (r := ?_)
  refine tX12_turnout_3 (ha := (by first | assumption | (repeat (first | assumption | exact At.set_eq2 (by first | omega | (simp only [hset, hnew]; omega) | rfl | decide) | exact At.new_eq2 _ _ (by first | omega | (simp only [hset, hnew]; omega) | rfl | decide) | refine At.set_ne ?_ (by first | omega | (simp only [hset, hnew]; omega) | rfl | decide) | refine At.new_ne ?_)))) (hv := rfl) (r := ?_)
  refine tX12_turnout_6  (r := ?_)
  refine tX12_turnout_7  (r := ?_)
  refine tX12_turnout_8 (t := 0) (ha := (by first | assumption | (repeat (first | assumption | exact At.set_eq2 (by first | omega | (simp only [hset, hnew]; omega) | rfl | decide) | exact At.new_eq2 _ _ (by first | omega | (simp only [hset, hnew]; omega) | rfl | decide) | refine At.set_ne ?_ (by first | omega | (simp only [hset, hnew]; omega) | rfl | decide) | refine At.new_ne ?_)))) (ht := rfl) (r := ?_)
  refine tX12_turnout_9  (r := ?_)
  refine tX12_turnout_11  (r := ?_)
  refine tX12_turnout_12  (r := ?_)
  exact s_hturn_l n6 jh n 0 none (by omega) (by omega) trivial
set_option maxHeartbeats 4000000 in
theorem s_blocs_l (hd : 7 ≤ d) (n6 : n ≤ 6) (q : FoR h c n F) (hF : ∀ k j, k < n → F k = some j → j < n) (hR : ∀ k, k < n → F (rt F k) = none) (hl : ∀ k, k < n → rt F k < n) (jh : JhR h x be n se wy b) (b0 : ∀ k, n ≤ k → k < 6 → b k = 0) : ∀ (nn i : Nat) (h9 : AH) (p : Nat → Int32), n ≤ i + nn → i ≤ n → At h9 h.1 (.inl (0, n, .inl p)) → (∀ k, k < n → p k = nI (su (fun q => if rt F q = k then b q else 0) i)) → Ch h h9 0 0 1 n → RQ G mX12_blocs d 10 [some (.ref c), some (.ref x), some (.ref h.1), some (.int (nI i))] [] h9 (Rr fun r h1 => h.1 ≤ r ∧ (∃ p : Nat → Int32, At h1 r (.inl (0, n, .inl p)) ∧ ∀ k, k < n → p k = nI (po (rt F) b k)) ∧ Ch h h1 0 0 1 n) := by
  have ex : ∀ (i : Nat) (h9 : AH) (p : Nat → Int32), i = n → At h9 h.1 (.inl (0, n, .inl p)) → (∀ k, k < n → p k = nI (su (fun q => if rt F q = k then b q else 0) i)) → Ch h h9 0 0 1 n → RQ G mX12_blocs d 10 [some (.ref c), some (.ref x), some (.ref h.1), some (.int (nI i))] [] h9 (Rr fun r h1 => h.1 ≤ r ∧ (∃ p : Nat → Int32, At h1 r (.inl (0, n, .inl p)) ∧ ∀ k, k < n → p k = nI (po (rt F) b k)) ∧ Ch h h1 0 0 1 n) := by
    intro i h9 p hi a hp ch
    subst hi
    obtain ⟨k1, k2, k3, bf, k4, k5⟩ := jh.ch ch
    obtain ⟨_, _, _, _, _, g4, -, -⟩ := q.ch ch
    refine tX12_blocs_10  (r := ?_)
    refine tX12_blocs_11  (r := ?_)
    refine tX12_blocs_12 (t := 0) (ha := (by first | assumption | (repeat (first | assumption | exact At.set_eq2 (by first | omega | (simp only [hset, hnew]; omega) | rfl | decide) | exact At.new_eq2 _ _ (by first | omega | (simp only [hset, hnew]; omega) | rfl | decide) | refine At.set_ne ?_ (by first | omega | (simp only [hset, hnew]; omega) | rfl | decide) | refine At.new_ne ?_)))) (ht := rfl) (r := ?_)
    refine tX12_blocs_13  (kf := fun c_ => by exfalso; (simp (disch := first | omega | decide) only [ci_lt, ci_le, ci_eq, ci_lt0, ci_ge0, ci_gt0, ci_le0, ci_eq0, ci_m1_lt, ci_m1_le, ci_lt_m1, ci_le_m1, ci_eq_m1, ci_m1_eq, not_true, not_false_iff, Nat.not_lt, Nat.not_le] at c_ <;> omega)) (kt := fun _ => ?_)
    refine tX12_blocs_38  (r := ?_)
    refine tX12_blocs_39  (hP := ?_)
    refine ⟨_, rfl, Nat.le_refl _, ⟨p, a, fun k hk => ?_⟩, ch⟩
    rw [hp k hk]
    exact congrArg nI (su_six n6 (fun q q1 q2 => by
      show (if rt F q = k then b q else 0) = 0
      rw [b0 q q1 q2]
      split <;> rfl))
  intro nn
  induction nn with
  | zero => exact fun i h9 p h1_ h2_ => ex i h9 p (by omega)
  | succ nn ih =>
    intro i h9 p h1_ h2_ a hp ch
    by_cases hi : i = n
    · exact ex i h9 p hi a hp ch
    have hi2 : i < n := by omega
    obtain ⟨k1, k2, k3, bf, k4, k5⟩ := jh.ch ch
    obtain ⟨_, _, _, _, _, g4, -, -⟩ := q.ch ch
    refine tX12_blocs_10  (r := ?_)
    refine tX12_blocs_11  (r := ?_)
    refine tX12_blocs_12 (t := 0) (ha := (by first | assumption | (repeat (first | assumption | exact At.set_eq2 (by first | omega | (simp only [hset, hnew]; omega) | rfl | decide) | exact At.new_eq2 _ _ (by first | omega | (simp only [hset, hnew]; omega) | rfl | decide) | refine At.set_ne ?_ (by first | omega | (simp only [hset, hnew]; omega) | rfl | decide) | refine At.new_ne ?_)))) (ht := rfl) (r := ?_)
    refine tX12_blocs_13  (kt := fun c_ => by exfalso; (simp (disch := first | omega | decide) only [ci_lt, ci_le, ci_eq, ci_lt0, ci_ge0, ci_gt0, ci_le0, ci_eq0, ci_m1_lt, ci_m1_le, ci_lt_m1, ci_le_m1, ci_eq_m1, ci_m1_eq, not_true, not_false_iff, Nat.not_lt, Nat.not_le] at c_ <;> omega)) (kf := fun _ => ?_)
    refine tX12_blocs_16  (r := ?_)
    refine tX12_blocs_17  (r := ?_)
    refine tX12_blocs_18  (r := ?_)
    refine tX12_blocs_19 (hd := (by omega)) (ha := (by first | assumption | (repeat (first | assumption | exact At.set_eq2 (by first | omega | (simp only [hset, hnew]; omega) | rfl | decide) | exact At.new_eq2 _ _ (by first | omega | (simp only [hset, hnew]; omega) | rfl | decide) | refine At.set_ne ?_ (by first | omega | (simp only [hset, hnew]; omega) | rfl | decide) | refine At.new_ne ?_)))) (call := s_leader (d := d - 1) (by omega) n6 (q.ch ch) hF hR hi2) (k := ?_)
    rintro v h_ ⟨rfl, e9⟩
    rw [e9]
    refine tX12_blocs_22  (r := ?_)
    refine tX12_blocs_23 (ha := (by first | assumption | (repeat (first | assumption | exact At.set_eq2 (by first | omega | (simp only [hset, hnew]; omega) | rfl | decide) | exact At.new_eq2 _ _ (by first | omega | (simp only [hset, hnew]; omega) | rfl | decide) | refine At.set_ne ?_ (by first | omega | (simp only [hset, hnew]; omega) | rfl | decide) | refine At.new_ne ?_)))) (hx := rfl) (hj := (hl _ hi2)) (hn := (by omega)) (r := ?_)
    rw [hp _ (hl _ hi2)]
    refine tX12_blocs_24  (r := ?_)
    refine tX12_blocs_25 (ha := k3) (hv := rfl) (r := ?_)
    refine tX12_blocs_28  (r := ?_)
    refine tX12_blocs_29 (ha := k4) (hx := rfl) (hj := (by omega)) (hn := (by omega)) (r := ?_)
    rw [k5 _ hi2]
    refine tX12_blocs_30  (r := ?_)
    rw [nI_add]
    refine tX12_blocs_31 (ha := (by first | assumption | (repeat (first | assumption | exact At.set_eq2 (by first | omega | (simp only [hset, hnew]; omega) | rfl | decide) | exact At.new_eq2 _ _ (by first | omega | (simp only [hset, hnew]; omega) | rfl | decide) | refine At.set_ne ?_ (by first | omega | (simp only [hset, hnew]; omega) | rfl | decide) | refine At.new_ne ?_)))) (hx := rfl) (hj := (hl _ hi2)) (hn := (by omega)) (r := ?_)
    refine tX12_blocs_32  (r := ?_)
    rw [nI_add]
    refine tX12_blocs_35 (r := ?_)
    refine ih (i + 1) _ _ (by omega) (by omega) (At.set_eq2 a.1) (fun k hk => ?_) (Ch0.set ch (Nat.le_refl _))
    by_cases z : k = rt F i
    · subst z
      show (if rt F i = rt F i then _ else _) = _
      rw [if_pos rfl]
      show _ = nI (su _ i + (if rt F i = rt F i then b i else 0))
      rw [if_pos rfl]
    · show (if k = rt F i then _ else p k) = _
      rw [if_neg z, hp k hk]
      show _ = nI (su _ i + (if rt F i = k then b i else 0))
      rw [if_neg (fun y => z y.symm), Nat.add_zero]
set_option maxHeartbeats 4000000 in
theorem s_blocs (hd : 7 ≤ d) (n6 : n ≤ 6) (q : FoR h c n F) (hF : ∀ k j, k < n → F k = some j → j < n) (hR : ∀ k, k < n → F (rt F k) = none) (hl : ∀ k, k < n → rt F k < n) (jh : JhR h x be n se wy b) (b0 : ∀ k, n ≤ k → k < 6 → b k = 0) : RQ G mX12_blocs d 0 [some (.ref c), some (.ref x), none, none] [] h (Rr fun r h1 => h.1 ≤ r ∧ (∃ p : Nat → Int32, At h1 r (.inl (0, n, .inl p)) ∧ ∀ k, k < n → p k = nI (po (rt F) b k)) ∧ Ch h h1 0 0 1 n) := by
  obtain ⟨fo, v1, v2, v3, ff, q1, q2, qf⟩ := id q
  refine tX12_blocs_0  (r := ?_)
  refine tX12_blocs_1 (ha := (by first | assumption | (repeat (first | assumption | exact At.set_eq2 (by first | omega | (simp only [hset, hnew]; omega) | rfl | decide) | exact At.new_eq2 _ _ (by first | omega | (simp only [hset, hnew]; omega) | rfl | decide) | refine At.set_ne ?_ (by first | omega | (simp only [hset, hnew]; omega) | rfl | decide) | refine At.new_ne ?_)))) (hv := rfl) (r := ?_)
  refine tX12_blocs_4 (t := 0) (ha := (by first | assumption | (repeat (first | assumption | exact At.set_eq2 (by first | omega | (simp only [hset, hnew]; omega) | rfl | decide) | exact At.new_eq2 _ _ (by first | omega | (simp only [hset, hnew]; omega) | rfl | decide) | refine At.set_ne ?_ (by first | omega | (simp only [hset, hnew]; omega) | rfl | decide) | refine At.new_ne ?_)))) (ht := rfl) (r := ?_)
  refine tX12_blocs_5 (hx := rfl) (hn := (by omega)) (r := ?_)
  refine tX12_blocs_7  (r := ?_)
  refine tX12_blocs_8  (r := ?_)
  refine tX12_blocs_9  (r := ?_)
  exact s_blocs_l hd n6 q hF hR hl jh b0 n 0 _ (fun _ => 0) (by omega) (by omega) (At.new_eq h n _) (fun _ _ => rfl) (Ch0.new h n _)
set_option maxHeartbeats 4000000 in
theorem s_first_l (n9 : n < 1000) {a : Nat} {pf : Nat → Int32} {p : Nat → Nat} (aa : At h a (.inl (0, n, .inl pf))) (hp : ∀ k, k < n → pf k = nI (p k)) (pl : ∀ k, k < n → p k < 2147483648) : ∀ (m : Nat), m ≤ n → ∀ (best : Option Nat), FDn p m n best → RQ G mX12_first d 7 [some (.ref a), some (.int (oI best)), some (.int (pvI m))] [] h (Ri fun r h1 => r = oI (fiN p n) ∧ h1 = h) := by
  intro m
  induction m with
  | zero =>
    intro hm best fd
    refine tX12_first_7  (r := ?_)
    refine tX12_first_8  (kf := fun c_ => by exfalso; exact c_ (show (-1 : Int32) < 0 by decide)) (kt := fun _ => ?_)
    refine tX12_first_38  (r := ?_)
    refine tX12_first_39  (hP := ?_)
    exact ⟨_, rfl, by rw [fd.fi], rfl⟩
  | succ m ih =>
    intro hm best fd
    cases best with
    | none =>
      have fd : ∀ k, m + 1 ≤ k → k < n → p k = 0 := fd
      refine tX12_first_7  (r := ?_)
      refine tX12_first_8  (kt := fun c_ => by exfalso; exact absurd c_ (nI_pos (n := m) (by omega))) (kf := fun _ => ?_)
      refine tX12_first_11  (r := ?_)
      refine tX12_first_12  (r := ?_)
      refine tX12_first_13 (j := m) (ha := (by first | assumption | (repeat (first | assumption | exact At.set_eq2 (by first | omega | (simp only [hset, hnew]; omega) | rfl | decide) | exact At.new_eq2 _ _ (by first | omega | (simp only [hset, hnew]; omega) | rfl | decide) | refine At.set_ne ?_ (by first | omega | (simp only [hset, hnew]; omega) | rfl | decide) | refine At.new_ne ?_)))) (hx := rfl) (hj := (by omega)) (hn := (by omega)) (r := ?_)
      rw [hp m (by omega)]
      refine tX12_first_14  (kt := fun c_14 => ?_) (kf := fun c_14 => ?_)
      · have z0 : p m = 0 := by
          have := Eq.mp (ci_le0 (pl m (by omega))) c_14
          omega
        refine tX12_first_32  (r := ?_)
        rw [show pvI (m + 1) + (-1) = pvI m from pv_dec m (by omega)]
        refine tX12_first_35 (r := ?_)
        exact ih (by omega) none (fun k k1 k2 => by
            by_cases y : k = m
            · rw [y]; exact z0
            · exact fd k (by omega) k2)
      · have z1 : 0 < p m := Nat.pos_of_ne_zero (fun z => c_14 (by rw [z]; decide))
        refine tX12_first_17  (r := ?_)
        refine tX12_first_18  (kf := fun c_ => by exfalso; exact c_ (show (-1 : Int32) < 0 by decide)) (kt := fun _ => ?_)
        refine tX12_first_30  (r := ?_)
        refine tX12_first_31  (r := ?_)
        refine tX12_first_32  (r := ?_)
        rw [show pvI (m + 1) + (-1) = pvI m from pv_dec m (by omega)]
        refine tX12_first_35 (r := ?_)
        exact ih (by omega) (some m) ⟨Nat.le_refl _, by omega, z1, fun k k1 k2 => by
            by_cases y : k = m
            · rw [y]; exact Nat.le_refl _
            · have := fd k (by omega) k2; omega, fun k k1 k2 => by omega⟩
    | some j =>
      obtain ⟨f1, f2, f3, f4, f5⟩ := fd
      refine tX12_first_7  (r := ?_)
      refine tX12_first_8  (kt := fun c_ => by exfalso; exact absurd c_ (nI_pos (n := m) (by omega))) (kf := fun _ => ?_)
      refine tX12_first_11  (r := ?_)
      refine tX12_first_12  (r := ?_)
      refine tX12_first_13 (j := m) (ha := (by first | assumption | (repeat (first | assumption | exact At.set_eq2 (by first | omega | (simp only [hset, hnew]; omega) | rfl | decide) | exact At.new_eq2 _ _ (by first | omega | (simp only [hset, hnew]; omega) | rfl | decide) | refine At.set_ne ?_ (by first | omega | (simp only [hset, hnew]; omega) | rfl | decide) | refine At.new_ne ?_)))) (hx := rfl) (hj := (by omega)) (hn := (by omega)) (r := ?_)
      rw [hp m (by omega)]
      refine tX12_first_14  (kt := fun c_14 => ?_) (kf := fun c_14 => ?_)
      · have z0 : p m = 0 := by
          have := Eq.mp (ci_le0 (pl m (by omega))) c_14
          omega
        refine tX12_first_32  (r := ?_)
        rw [show pvI (m + 1) + (-1) = pvI m from pv_dec m (by omega)]
        refine tX12_first_35 (r := ?_)
        exact ih (by omega) (some j) ⟨by omega, f2, f3, fun k k1 k2 => by
            by_cases y : k = m
            · rw [y, z0]; exact Nat.zero_le _
            · exact f4 k (by omega) k2, fun k k1 k2 => by
            by_cases y : k = m
            · rw [y, z0]; exact f3
            · exact f5 k (by omega) k2⟩
      · have z1 : 0 < p m := Nat.pos_of_ne_zero (fun z => c_14 (by rw [z]; decide))
        refine tX12_first_17  (r := ?_)
        refine tX12_first_18  (kt := fun c_ => by exfalso; exact absurd c_ (nI_pos (n := j) (by omega))) (kf := fun _ => ?_)
        refine tX12_first_21  (r := ?_)
        refine tX12_first_22  (r := ?_)
        refine tX12_first_23 (j := m) (ha := (by first | assumption | (repeat (first | assumption | exact At.set_eq2 (by first | omega | (simp only [hset, hnew]; omega) | rfl | decide) | exact At.new_eq2 _ _ (by first | omega | (simp only [hset, hnew]; omega) | rfl | decide) | refine At.set_ne ?_ (by first | omega | (simp only [hset, hnew]; omega) | rfl | decide) | refine At.new_ne ?_)))) (hx := rfl) (hj := (by omega)) (hn := (by omega)) (r := ?_)
        rw [hp m (by omega)]
        refine tX12_first_24  (r := ?_)
        refine tX12_first_25  (r := ?_)
        refine tX12_first_26 (j := j) (ha := (by first | assumption | (repeat (first | assumption | exact At.set_eq2 (by first | omega | (simp only [hset, hnew]; omega) | rfl | decide) | exact At.new_eq2 _ _ (by first | omega | (simp only [hset, hnew]; omega) | rfl | decide) | refine At.set_ne ?_ (by first | omega | (simp only [hset, hnew]; omega) | rfl | decide) | refine At.new_ne ?_)))) (hx := rfl) (hj := f2) (hn := (by omega)) (r := ?_)
        rw [hp j f2]
        refine tX12_first_27  (kt := fun c_27 => ?_) (kf := fun c_27 => ?_)
        · have z2 : p m < p j := Eq.mp (ci_lt (pl m (by omega)) (pl j f2)) c_27
          refine tX12_first_32  (r := ?_)
          rw [show pvI (m + 1) + (-1) = pvI m from pv_dec m (by omega)]
          refine tX12_first_35 (r := ?_)
          exact ih (by omega) (some j) ⟨by omega, f2, f3, fun k k1 k2 => by
              by_cases y : k = m
              · rw [y]; omega
              · exact f4 k (by omega) k2, fun k k1 k2 => by
              by_cases y : k = m
              · rw [y]; exact z2
              · exact f5 k (by omega) k2⟩
        · have z2 : p j ≤ p m := Nat.le_of_not_lt (fun z => c_27 (Eq.mpr (ci_lt (pl m (by omega)) (pl j f2)) z))
          refine tX12_first_30  (r := ?_)
          refine tX12_first_31  (r := ?_)
          refine tX12_first_32  (r := ?_)
          rw [show pvI (m + 1) + (-1) = pvI m from pv_dec m (by omega)]
          refine tX12_first_35 (r := ?_)
          exact ih (by omega) (some m) ⟨Nat.le_refl _, by omega, z1, fun k k1 k2 => by
              by_cases y : k = m
              · rw [y]; exact Nat.le_refl _
              · have := f4 k (by omega) k2; omega, fun k k1 k2 => by omega⟩
set_option maxHeartbeats 4000000 in
theorem s_hfirst (n9 : n < 1000) {a : Nat} {pf : Nat → Int32} {p : Nat → Nat} (aa : At h a (.inl (0, n, .inl pf))) (hp : ∀ k, k < n → pf k = nI (p k)) (pl : ∀ k, k < n → p k < 2147483648) : RQ G mX12_first d 0 [some (.ref a), none, none] [] h (Ri fun r h1 => r = oI (fiN p n) ∧ h1 = h) := by
  refine tX12_first_0  (r := ?_)
  refine tX12_first_1  (r := ?_)
  refine tX12_first_2  (r := ?_)
  refine tX12_first_3 (t := 0) (ha := (by first | assumption | (repeat (first | assumption | exact At.set_eq2 (by first | omega | (simp only [hset, hnew]; omega) | rfl | decide) | exact At.new_eq2 _ _ (by first | omega | (simp only [hset, hnew]; omega) | rfl | decide) | refine At.set_ne ?_ (by first | omega | (simp only [hset, hnew]; omega) | rfl | decide) | refine At.new_ne ?_)))) (ht := rfl) (r := ?_)
  refine tX12_first_4  (r := ?_)
  refine tX12_first_5  (r := ?_)
  rw [show nI n - nI 1 = nI n + (-1) by rw [Int32.sub_eq_add_neg]; rfl, pv_dec n n9]
  refine tX12_first_6  (r := ?_)
  exact s_first_l n9 aa hp pl n (Nat.le_refl _) none (fun k k1 k2 => by omega)
theorem po_le9 {r b : Nat → Nat} {k : Nat} : po r b k ≤ su b 6 := su_if 6
theorem po_tail {n : Nat} {r b : Nat → Nat} (hl : ∀ k, k < n → r k < n) (b0 : ∀ k, n ≤ k → k < 6 → b k = 0) (n6 : n ≤ 6) : ∀ k, n ≤ k → po r b k = 0 := fun k hk => by
  have : ∀ m, m ≤ 6 → su (fun i => if r i = k then b i else 0) m = 0 := by
    intro m
    induction m with
    | zero => intro _; rfl
    | succ m ih =>
      intro hm
      show su (fun i => if r i = k then b i else 0) m + (if r m = k then b m else 0) = 0
      rw [ih (by omega)]
      by_cases z : m < n
      · rw [if_neg (by have := hl m z; omega)]
      · rw [b0 m (by omega) (by omega)]
        split <;> rfl
  exact this 6 (Nat.le_refl _)
theorem mar_nn {p : Nat → Nat} (e : fiN p 6 = none) : mar p = 0 := by
  unfold mar
  rw [e]
theorem mar_so {p : Nat → Nat} {j : Nat} (e : fiN p 6 = some j) : mar p = p j - mo (zr p j) (fiN (zr p j) 6) := by
  unfold mar
  rw [e]
  show p j - sec p (some j) 6 = _
  rw [sec_zr]
set_option maxHeartbeats 4000000 in
theorem s_hmargin (hd : 8 ≤ d) (n6 : n ≤ 6) (q : FoR h c n F) (hF : ∀ k j, k < n → F k = some j → j < n) (hR : ∀ k, k < n → F (rt F k) = none) (hl : ∀ k, k < n → rt F k < n) (jh : JhR h x be n se wy b) (b0 : ∀ k, n ≤ k → k < 6 → b k = 0) (bs : su b 6 ≤ 1200) : RQ G mX12_margin d 0 [some (.ref c), some (.ref x), none, none, none, none] [] h (Ri fun r h1 => r = nI (mar (po (rt F) b)) ∧ Ch h h1 0 0 1 n) := by
  have pb : ∀ k, po (rt F) b k ≤ 1200 := fun k => Nat.le_trans po_le9 bs
  have pt := po_tail hl b0 n6
  have f6 : fiN (po (rt F) b) n = fiN (po (rt F) b) 6 := fi_six n6 (fun k k1 _ => pt k k1)
  refine tX12_margin_0  (r := ?_)
  refine tX12_margin_1  (r := ?_)
  refine tX12_margin_2 (hd := (by omega)) (ha := q.choose_spec.choose_spec.choose_spec.choose_spec.choose_spec.1) (call := s_blocs (d := d - 1) (by omega) n6 q hF hR hl jh b0) (k := ?_)
  rintro a h2 ⟨ga, ⟨pf, aa, hp⟩, ch⟩
  refine tX12_margin_5  (r := ?_)
  refine tX12_margin_6  (r := ?_)
  refine tX12_margin_7 (hd := (by omega)) (call := s_hfirst (d := d - 1) (by omega) aa hp (fun k _ => by have := pb k; omega)) (k := ?_)
  rintro v h_ ⟨rfl, e9⟩
  rw [e9, f6]
  cases e : fiN (po (rt F) b) 6 with
  | none =>
    refine tX12_margin_10  (r := ?_)
    refine tX12_margin_11  (r := ?_)
    refine tX12_margin_12  (kt := fun c_ => by exfalso; exact absurd c_ (show ¬ (0 : Int32) ≤ -1 by decide)) (kf := fun _ => ?_)
    refine tX12_margin_15  (r := ?_)
    refine tX12_margin_16  (hP := ?_)
    exact ⟨_, rfl, by rw [mar_nn e], ch⟩
  | some j =>
    have j1 : j < n := fi_lt (po (rt F) b) n j (by rw [f6, e])
    have fz6 : fiN (zr (po (rt F) b) j) n = fiN (zr (po (rt F) b) j) 6 := fi_six n6 (fun k k1 _ => by unfold zr; rw [pt k k1]; split <;> rfl)
    have hz : ∀ k, k < n → upd pf j (nI 0) k = nI (zr (po (rt F) b) j k) := fun k hk => by
      show (if k = j then nI 0 else pf k) = nI (if k = j then 0 else po (rt F) b k)
      split
      · rfl
      · exact hp k hk
    refine tX12_margin_10  (r := ?_)
    refine tX12_margin_11  (r := ?_)
    refine tX12_margin_12  (kf := fun c_ => by exfalso; exact c_ (Eq.mpr (ci_ge0 (a := j) (by omega)) trivial)) (kt := fun _ => ?_)
    refine tX12_margin_17  (r := ?_)
    refine tX12_margin_18  (r := ?_)
    refine tX12_margin_19 (j := j) (ha := (by first | assumption | (repeat (first | assumption | exact At.set_eq2 (by first | omega | (simp only [hset, hnew]; omega) | rfl | decide) | exact At.new_eq2 _ _ (by first | omega | (simp only [hset, hnew]; omega) | rfl | decide) | refine At.set_ne ?_ (by first | omega | (simp only [hset, hnew]; omega) | rfl | decide) | refine At.new_ne ?_)))) (hx := rfl) (hj := j1) (hn := (by omega)) (r := ?_)
    rw [hp j j1]
    refine tX12_margin_20  (r := ?_)
    refine tX12_margin_22  (r := ?_)
    refine tX12_margin_23  (r := ?_)
    refine tX12_margin_24  (r := ?_)
    refine tX12_margin_25 (j := j) (ha := (by first | assumption | (repeat (first | assumption | exact At.set_eq2 (by first | omega | (simp only [hset, hnew]; omega) | rfl | decide) | exact At.new_eq2 _ _ (by first | omega | (simp only [hset, hnew]; omega) | rfl | decide) | refine At.set_ne ?_ (by first | omega | (simp only [hset, hnew]; omega) | rfl | decide) | refine At.new_ne ?_)))) (hx := rfl) (hj := j1) (hn := (by omega)) (r := ?_)
    refine tX12_margin_26  (r := ?_)
    refine tX12_margin_27 (hd := (by omega)) (call := s_hfirst (d := d - 1) (p := zr (po (rt F) b) j) (by omega) (At.set_eq2 aa.1) hz (fun k _ => by have := pb k; unfold zr; split <;> omega)) (k := ?_)
    rintro v h_ ⟨rfl, e9⟩
    rw [e9, fz6]
    cases e2 : fiN (zr (po (rt F) b) j) 6 with
    | none =>
      refine tX12_margin_30  (r := ?_)
      refine tX12_margin_32  (r := ?_)
      refine tX12_margin_34  (kt := fun c_ => by exfalso; exact absurd c_ (show ¬ (0 : Int32) ≤ -1 by decide)) (kf := fun _ => ?_)
      refine tX12_margin_37  (r := ?_)
      refine tX12_margin_39 (r := ?_)
      refine tX12_margin_49  (hP := ?_)
      refine ⟨_, rfl, ?_, Ch0.set ch ga⟩
      rw [mar_so e, e2]
      rfl
    | some i =>
      have i1 : i < n := by
        have := fi_lt (zr (po (rt F) b) j) n i (by rw [fz6, e2])
        exact this
      have zle : zr (po (rt F) b) j i ≤ po (rt F) b j := by
        have m9 := fi_max (po (rt F) b) n i i1
        rw [f6, e] at m9
        have m9 : po (rt F) b i ≤ po (rt F) b j := m9
        unfold zr
        split <;> omega
      refine tX12_margin_30  (r := ?_)
      refine tX12_margin_32  (r := ?_)
      refine tX12_margin_34  (kf := fun c_ => by exfalso; exact c_ (Eq.mpr (ci_ge0 (a := i) (by omega)) trivial)) (kt := fun _ => ?_)
      refine tX12_margin_42  (r := ?_)
      refine tX12_margin_44  (r := ?_)
      refine tX12_margin_45  (r := ?_)
      refine tX12_margin_47 (j := i) (ha := (At.set_eq2 aa.1)) (hx := rfl) (hj := (by omega)) (hn := (by omega)) (r := ?_)
      rw [hz i (by omega)]
      refine tX12_margin_48  (r := ?_)
      rw [nI_subN zle (by have := pb j; omega)]
      refine tX12_margin_49  (hP := ?_)
      refine ⟨_, rfl, ?_, Ch0.set ch ga⟩
      rw [mar_so e, e2]
      rfl
end HA
