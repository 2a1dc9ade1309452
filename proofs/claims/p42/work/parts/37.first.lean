/-! a jar counts: who is first, by how much -/
def mo (p : Nat → Nat) (f : Option Nat) : Nat := match f with
  | none => 0
  | some k => p k
theorem fi_step (p : Nat → Nat) (n : Nat) : fiN p (n + 1) = if mo p (fiN p n) < p n then some n else fiN p n := by
  show (match fiN p n with | none => if 0 < p n then some n else none | some k => if p k < p n then some n else some k) = _
  cases fiN p n <;> rfl
theorem fi_max (p : Nat → Nat) : ∀ n k, k < n → p k ≤ mo p (fiN p n) := by
  intro n
  induction n with
  | zero => intro k hk; omega
  | succ n ih =>
    intro k hk
    rw [fi_step]
    by_cases h : mo p (fiN p n) < p n
    · rw [if_pos h]
      show p k ≤ p n
      by_cases e : k = n
      · rw [e]
        exact Nat.le_refl _
      · have := ih k (by omega)
        omega
    · rw [if_neg h]
      by_cases e : k = n
      · rw [e]
        omega
      · exact ih k (by omega)
theorem fi_lt (p : Nat → Nat) : ∀ n k, fiN p n = some k → k < n := by
  intro n
  induction n with
  | zero => intro k hk; cases hk
  | succ n ih =>
    intro k hk
    rw [fi_step] at hk
    by_cases h : mo p (fiN p n) < p n
    · rw [if_pos h] at hk
      cases hk
      omega
    · rw [if_neg h] at hk
      have := ih k hk
      omega
theorem fi_pos (p : Nat → Nat) : ∀ n k, fiN p n = some k → 0 < p k := by
  intro n
  induction n with
  | zero => intro k hk; cases hk
  | succ n ih =>
    intro k hk
    rw [fi_step] at hk
    by_cases h : mo p (fiN p n) < p n
    · rw [if_pos h] at hk
      cases hk
      omega
    · rw [if_neg h] at hk
      exact ih k hk
theorem sec_le {p : Nat → Nat} {f : Option Nat} {M : Nat} : ∀ n, (∀ k, k < n → p k ≤ M) → sec p f n ≤ M := by
  intro n
  induction n with
  | zero => intro _; exact Nat.zero_le _
  | succ n ih =>
    intro h
    have h1 := ih (fun k hk => h k (by omega))
    have h2 := h n (by omega)
    show (if f = some n then sec p f n else max (sec p f n) (p n)) ≤ M
    split <;> omega
theorem mo_le {p : Nat → Nat} {M n : Nat} (h : ∀ k, k < n → p k ≤ M) : mo p (fiN p n) ≤ M := by
  cases e : fiN p n with
  | none => exact Nat.zero_le _
  | some k => exact h k (fi_lt p n k e)
theorem mar_eq (p : Nat → Nat) : mar p = mo p (fiN p 6) - sec p (fiN p 6) 6 := by
  unfold mar
  cases fiN p 6 with
  | none => exact (Nat.zero_sub _).symm
  | some k => rfl
theorem nI_subN {a b : Nat} (hb : b ≤ a) (ha : a < 2147483648) : nI a - nI b = nI (a - b) := by
  apply Int32.toInt_inj.mp
  rw [Int32.toInt_sub, nI_toInt ha, nI_toInt (by omega), nI_toInt (by omega), Int.bmod_eq_of_le (by omega) (by omega)]
  omega
theorem oI_eq {i : Nat} (hi : i < 2147483648) {f : Option Nat} (hf : ∀ k, f = some k → k < 2147483648) : (nI i = oI f) ↔ f = some i := by
  cases f with
  | none =>
    constructor
    · intro q
      have e : nI i = -1 := q
      rw [ci_eq_m1 hi] at e
      exact e.elim
    · intro q
      cases q
  | some k =>
    show nI i = nI k ↔ _
    rw [nI_eq hi (hf k rfl)]
    constructor
    · intro e
      rw [e]
    · intro e
      cases e
      rfl
section JB
variable {G : GT} {d : Nat} {j : Nat} {h0 : AH}

set_option maxHeartbeats 4000000 in
set_option maxRecDepth 100000 in
theorem s_first_l2 {bf p w l : Nat → Int32} {se : Int32} {wy : Nat} {tu co : Int32} {q : Nat → Nat} (hp : ∀ k, k < 6 → p k = nI (q k)) (hq : ∀ k, k < 6 → q k ≤ 1200) : ∀ (n i : Nat) (h : AH) (ma : Int32), 6 ≤ i + n → i ≤ 6 → JarC h j bf p w l se wy tu (oI (fiN q 6)) ma co → Sm h0 h j (j + 1) → RQ G mX4_findFirst d 47 [some (.ref j), some (.int (nI (mo q (fiN q 6)))), some (.int (nI (sec q (fiN q 6) i))), some (.int (nI i))] [] h (Rv fun h1 => JarC h1 j bf p w l se wy tu (oI (fiN q 6)) (nI (mar q)) co ∧ Sm h0 h1 j (j + 1)) := by
  have ex : ∀ (i : Nat) (h : AH) (ma : Int32), i = 6 → JarC h j bf p w l se wy tu (oI (fiN q 6)) ma co → Sm h0 h j (j + 1) → RQ G mX4_findFirst d 47 [some (.ref j), some (.int (nI (mo q (fiN q 6)))), some (.int (nI (sec q (fiN q 6) i))), some (.int (nI i))] [] h (Rv fun h1 => JarC h1 j bf p w l se wy tu (oI (fiN q 6)) (nI (mar q)) co ∧ Sm h0 h1 j (j + 1)) := by
    intro i h ma hi jc sm
    subst hi
    obtain ⟨a0, a1, a2, a3, a4⟩ := id jc
    have l0 := a0.1
    have l1 := a1.1
    have l2 := a2.1
    have l3 := a3.1
    have l4 := a4.1
    have mle : ∀ n, n ≤ 6 → mo q (fiN q n) ≤ 1200 := fun n hn => mo_le (fun k hk => hq k (by omega))
    have sle : ∀ f n, n ≤ 6 → sec q f n ≤ 1200 := fun f n hn => sec_le n (fun k hk => hq k (by omega))
    have flt : ∀ k, fiN q 6 = some k → k < 2147483648 := fun k hk => by have := fi_lt q 6 k hk; omega
    refine tX4_findFirst_47  (r := ?_)
    refine tX4_findFirst_48  (r := ?_)
    refine tX4_findFirst_50  (kf := fun c_ => by exfalso; exact c_ (by decide)) (kt := fun _ => ?_)
    refine tX4_findFirst_84  (r := ?_)
    refine tX4_findFirst_85  (r := ?_)
    refine tX4_findFirst_86  (r := ?_)
    refine tX4_findFirst_87  (r := ?_)
    rw [nI_subN (sec_le 6 (fi_max q 6)) (by have := mle 6 (by omega); omega), ← mar_eq]
    refine tX4_findFirst_88 (ha := (by first | assumption | (repeat (first | assumption | exact At.set_eq2 (by first | omega | (simp only [hset, hnew]; omega) | rfl | decide) | exact At.new_eq2 _ _ (by first | omega | (simp only [hset, hnew]; omega) | rfl | decide) | refine At.set_ne ?_ (by first | omega | (simp only [hset, hnew]; omega) | rfl | decide) | refine At.new_ne ?_)))) (hlen := rfl) (r := ?_)
    refine tX4_findFirst_91  (hP := ?_)
    exact ⟨rfl, ⟨At.set_eq2 l0, by (first | assumption | (repeat (first | assumption | exact At.set_eq2 (by (first | omega | (simp only [hset, hnew]; omega) | rfl | decide)) | exact At.new_eq2 _ _ (by (first | omega | (simp only [hset, hnew]; omega) | rfl | decide)) | refine At.set_ne ?_ (by (first | omega | (simp only [hset, hnew]; omega) | rfl | decide)) | refine At.new_ne ?_))), by (first | assumption | (repeat (first | assumption | exact At.set_eq2 (by (first | omega | (simp only [hset, hnew]; omega) | rfl | decide)) | exact At.new_eq2 _ _ (by (first | omega | (simp only [hset, hnew]; omega) | rfl | decide)) | refine At.set_ne ?_ (by (first | omega | (simp only [hset, hnew]; omega) | rfl | decide)) | refine At.new_ne ?_))), by (first | assumption | (repeat (first | assumption | exact At.set_eq2 (by (first | omega | (simp only [hset, hnew]; omega) | rfl | decide)) | exact At.new_eq2 _ _ (by (first | omega | (simp only [hset, hnew]; omega) | rfl | decide)) | refine At.set_ne ?_ (by (first | omega | (simp only [hset, hnew]; omega) | rfl | decide)) | refine At.new_ne ?_))), by (first | assumption | (repeat (first | assumption | exact At.set_eq2 (by (first | omega | (simp only [hset, hnew]; omega) | rfl | decide)) | exact At.new_eq2 _ _ (by (first | omega | (simp only [hset, hnew]; omega) | rfl | decide)) | refine At.set_ne ?_ (by (first | omega | (simp only [hset, hnew]; omega) | rfl | decide)) | refine At.new_ne ?_)))⟩, sm.set (by omega) (by omega)⟩
  intro n
  induction n with
  | zero => exact fun i h ma h1_ h2_ => ex i h ma (by omega)
  | succ n ih =>
    intro i h ma h1_ h2_ jc sm
    by_cases hi : i = 6
    · exact ex i h ma hi jc sm
    have hi2 : i < 6 := by omega
    obtain ⟨a0, a1, a2, a3, a4⟩ := id jc
    have l0 := a0.1
    have l1 := a1.1
    have l2 := a2.1
    have l3 := a3.1
    have l4 := a4.1
    have mle : ∀ n, n ≤ 6 → mo q (fiN q n) ≤ 1200 := fun n hn => mo_le (fun k hk => hq k (by omega))
    have sle : ∀ f n, n ≤ 6 → sec q f n ≤ 1200 := fun f n hn => sec_le n (fun k hk => hq k (by omega))
    have flt : ∀ k, fiN q 6 = some k → k < 2147483648 := fun k hk => by have := fi_lt q 6 k hk; omega
    refine tX4_findFirst_47  (r := ?_)
    refine tX4_findFirst_48  (r := ?_)
    refine tX4_findFirst_50  (kt := fun c_ => by exfalso; (simp (disch := first | omega | decide) only [ci_lt, ci_le, ci_eq, ci_lt0, ci_ge0, ci_gt0, ci_le0, ci_eq0, ci_m1_lt, ci_m1_le, ci_lt_m1, ci_le_m1, ci_eq_m1, ci_m1_eq, not_true, not_false_iff, Nat.not_lt, Nat.not_le] at c_ <;> omega)) (kf := fun _ => ?_)
    refine tX4_findFirst_53  (r := ?_)
    refine tX4_findFirst_54  (r := ?_)
    refine tX4_findFirst_55 (ha := (by first | assumption | (repeat (first | assumption | exact At.set_eq2 (by first | omega | (simp only [hset, hnew]; omega) | rfl | decide) | exact At.new_eq2 _ _ (by first | omega | (simp only [hset, hnew]; omega) | rfl | decide) | refine At.set_ne ?_ (by first | omega | (simp only [hset, hnew]; omega) | rfl | decide) | refine At.new_ne ?_)))) (hv := rfl) (r := ?_)
    refine tX4_findFirst_58  (kt := fun c_58 => ?_) (kf := fun c_58 => ?_)
    · have e : sec q (fiN q 6) (i + 1) = sec q (fiN q 6) i := if_pos ((oI_eq (by omega) flt).mp c_58)
      rw [← e]
      refine tX4_findFirst_78  (r := ?_)
      rw [nI_add]
      refine tX4_findFirst_81 (r := ?_)
      exact ih (i + 1) _ _ (by omega) (by omega) jc sm
    · have e0 : sec q (fiN q 6) (i + 1) = max (sec q (fiN q 6) i) (q i) := if_neg (fun z => c_58 ((oI_eq (by omega) flt).mpr z))
      have v1 := sle (fiN q 6) i (by omega)
      have v2 := hq i hi2
      refine tX4_findFirst_61  (r := ?_)
      refine tX4_findFirst_62 (ha := (by first | assumption | (repeat (first | assumption | exact At.set_eq2 (by first | omega | (simp only [hset, hnew]; omega) | rfl | decide) | exact At.new_eq2 _ _ (by first | omega | (simp only [hset, hnew]; omega) | rfl | decide) | refine At.set_ne ?_ (by first | omega | (simp only [hset, hnew]; omega) | rfl | decide) | refine At.new_ne ?_)))) (hv := rfl) (r := ?_)
      refine tX4_findFirst_65  (r := ?_)
      refine tX4_findFirst_66 (ha := (by first | assumption | (repeat (first | assumption | exact At.set_eq2 (by first | omega | (simp only [hset, hnew]; omega) | rfl | decide) | exact At.new_eq2 _ _ (by first | omega | (simp only [hset, hnew]; omega) | rfl | decide) | refine At.set_ne ?_ (by first | omega | (simp only [hset, hnew]; omega) | rfl | decide) | refine At.new_ne ?_)))) (hx := rfl) (hj := (by omega)) (hn := (by decide)) (r := ?_)
      rw [hp _ hi2]
      refine tX4_findFirst_67  (r := ?_)
      refine tX4_findFirst_68  (kt := fun c_68 => ?_) (kf := fun c_68 => ?_)
      · have e : sec q (fiN q 6) (i + 1) = sec q (fiN q 6) i := by
          have := (nI_leI (by omega) (by omega)).mp c_68
          rw [e0]
          omega
        rw [← e]
        refine tX4_findFirst_78  (r := ?_)
        rw [nI_add]
        refine tX4_findFirst_81 (r := ?_)
        exact ih (i + 1) _ _ (by omega) (by omega) jc sm
      · have e : sec q (fiN q 6) (i + 1) = q i := by
          have := Nat.lt_of_not_le (fun z => c_68 ((nI_leI (by omega) (by omega)).mpr z))
          rw [e0]
          omega
        refine tX4_findFirst_71  (r := ?_)
        refine tX4_findFirst_72 (ha := (by first | assumption | (repeat (first | assumption | exact At.set_eq2 (by first | omega | (simp only [hset, hnew]; omega) | rfl | decide) | exact At.new_eq2 _ _ (by first | omega | (simp only [hset, hnew]; omega) | rfl | decide) | refine At.set_ne ?_ (by first | omega | (simp only [hset, hnew]; omega) | rfl | decide) | refine At.new_ne ?_)))) (hv := rfl) (r := ?_)
        refine tX4_findFirst_75  (r := ?_)
        refine tX4_findFirst_76 (ha := (by first | assumption | (repeat (first | assumption | exact At.set_eq2 (by first | omega | (simp only [hset, hnew]; omega) | rfl | decide) | exact At.new_eq2 _ _ (by first | omega | (simp only [hset, hnew]; omega) | rfl | decide) | refine At.set_ne ?_ (by first | omega | (simp only [hset, hnew]; omega) | rfl | decide) | refine At.new_ne ?_)))) (hx := rfl) (hj := (by omega)) (hn := (by decide)) (r := ?_)
        rw [hp _ hi2, ← e]
        refine tX4_findFirst_77  (r := ?_)
        refine tX4_findFirst_78  (r := ?_)
        rw [nI_add]
        refine tX4_findFirst_81 (r := ?_)
        exact ih (i + 1) _ _ (by omega) (by omega) jc sm

set_option maxHeartbeats 4000000 in
set_option maxRecDepth 100000 in
theorem s_first_l1 {bf p w l : Nat → Int32} {se : Int32} {wy : Nat} {tu co : Int32} {q : Nat → Nat} (hp : ∀ k, k < 6 → p k = nI (q k)) (hq : ∀ k, k < 6 → q k ≤ 1200) : ∀ (n i : Nat) (h : AH) (ma : Int32), 6 ≤ i + n → i ≤ 6 → JarC h j bf p w l se wy tu (oI (fiN q i)) ma co → Sm h0 h j (j + 1) → RQ G mX4_findFirst d 9 [some (.ref j), some (.int (nI (mo q (fiN q i)))), some (.int (nI i)), none] [] h (Rv fun h1 => JarC h1 j bf p w l se wy tu (oI (fiN q 6)) (nI (mar q)) co ∧ Sm h0 h1 j (j + 1)) := by
  have ex : ∀ (i : Nat) (h : AH) (ma : Int32), i = 6 → JarC h j bf p w l se wy tu (oI (fiN q i)) ma co → Sm h0 h j (j + 1) → RQ G mX4_findFirst d 9 [some (.ref j), some (.int (nI (mo q (fiN q i)))), some (.int (nI i)), none] [] h (Rv fun h1 => JarC h1 j bf p w l se wy tu (oI (fiN q 6)) (nI (mar q)) co ∧ Sm h0 h1 j (j + 1)) := by
    intro i h ma hi jc sm
    subst hi
    obtain ⟨a0, a1, a2, a3, a4⟩ := id jc
    have l0 := a0.1
    have l1 := a1.1
    have l2 := a2.1
    have l3 := a3.1
    have l4 := a4.1
    have mle : ∀ n, n ≤ 6 → mo q (fiN q n) ≤ 1200 := fun n hn => mo_le (fun k hk => hq k (by omega))
    have sle : ∀ f n, n ≤ 6 → sec q f n ≤ 1200 := fun f n hn => sec_le n (fun k hk => hq k (by omega))
    have flt : ∀ k, fiN q 6 = some k → k < 2147483648 := fun k hk => by have := fi_lt q 6 k hk; omega
    refine tX4_findFirst_9  (r := ?_)
    refine tX4_findFirst_10  (r := ?_)
    refine tX4_findFirst_12  (kf := fun c_ => by exfalso; exact c_ (by decide)) (kt := fun _ => ?_)
    refine tX4_findFirst_43  (r := ?_)
    refine tX4_findFirst_44  (r := ?_)
    refine tX4_findFirst_45  (r := ?_)
    refine tX4_findFirst_46  (r := ?_)
    exact s_first_l2 hp hq 6 0 h ma (by omega) (by omega) jc sm
  intro n
  induction n with
  | zero => exact fun i h ma h1_ h2_ => ex i h ma (by omega)
  | succ n ih =>
    intro i h ma h1_ h2_ jc sm
    by_cases hi : i = 6
    · exact ex i h ma hi jc sm
    have hi2 : i < 6 := by omega
    obtain ⟨a0, a1, a2, a3, a4⟩ := id jc
    have l0 := a0.1
    have l1 := a1.1
    have l2 := a2.1
    have l3 := a3.1
    have l4 := a4.1
    have mle : ∀ n, n ≤ 6 → mo q (fiN q n) ≤ 1200 := fun n hn => mo_le (fun k hk => hq k (by omega))
    have sle : ∀ f n, n ≤ 6 → sec q f n ≤ 1200 := fun f n hn => sec_le n (fun k hk => hq k (by omega))
    have flt : ∀ k, fiN q 6 = some k → k < 2147483648 := fun k hk => by have := fi_lt q 6 k hk; omega
    refine tX4_findFirst_9  (r := ?_)
    refine tX4_findFirst_10  (r := ?_)
    refine tX4_findFirst_12  (kt := fun c_ => by exfalso; (simp (disch := first | omega | decide) only [ci_lt, ci_le, ci_eq, ci_lt0, ci_ge0, ci_gt0, ci_le0, ci_eq0, ci_m1_lt, ci_m1_le, ci_lt_m1, ci_le_m1, ci_eq_m1, ci_m1_eq, not_true, not_false_iff, Nat.not_lt, Nat.not_le] at c_ <;> omega)) (kf := fun _ => ?_)
    refine tX4_findFirst_15  (r := ?_)
    refine tX4_findFirst_16 (ha := (by first | assumption | (repeat (first | assumption | exact At.set_eq2 (by first | omega | (simp only [hset, hnew]; omega) | rfl | decide) | exact At.new_eq2 _ _ (by first | omega | (simp only [hset, hnew]; omega) | rfl | decide) | refine At.set_ne ?_ (by first | omega | (simp only [hset, hnew]; omega) | rfl | decide) | refine At.new_ne ?_)))) (hv := rfl) (r := ?_)
    refine tX4_findFirst_19  (r := ?_)
    refine tX4_findFirst_20 (ha := (by first | assumption | (repeat (first | assumption | exact At.set_eq2 (by first | omega | (simp only [hset, hnew]; omega) | rfl | decide) | exact At.new_eq2 _ _ (by first | omega | (simp only [hset, hnew]; omega) | rfl | decide) | refine At.set_ne ?_ (by first | omega | (simp only [hset, hnew]; omega) | rfl | decide) | refine At.new_ne ?_)))) (hx := rfl) (hj := (by omega)) (hn := (by decide)) (r := ?_)
    rw [hp _ hi2]
    have v1 := mle i (by omega)
    have v2 := hq i hi2
    refine tX4_findFirst_21  (r := ?_)
    refine tX4_findFirst_22  (kt := fun c_22 => ?_) (kf := fun c_22 => ?_)
    · have e : fiN q (i + 1) = fiN q i := by
        have := (nI_leI (by omega) (by omega)).mp c_22
        rw [fi_step, if_neg (by omega)]
      rw [← e]
      refine tX4_findFirst_37  (r := ?_)
      rw [nI_add]
      refine tX4_findFirst_40 (r := ?_)
      exact ih (i + 1) _ _ (by omega) (by omega) (e ▸ jc) sm
    · have e : fiN q (i + 1) = some i := by
        have := Nat.lt_of_not_le (fun z => c_22 ((nI_leI (by omega) (by omega)).mpr z))
        rw [fi_step, if_pos (by omega)]
      refine tX4_findFirst_25  (r := ?_)
      refine tX4_findFirst_26  (r := ?_)
      refine tX4_findFirst_27 (ha := (by first | assumption | (repeat (first | assumption | exact At.set_eq2 (by first | omega | (simp only [hset, hnew]; omega) | rfl | decide) | exact At.new_eq2 _ _ (by first | omega | (simp only [hset, hnew]; omega) | rfl | decide) | refine At.set_ne ?_ (by first | omega | (simp only [hset, hnew]; omega) | rfl | decide) | refine At.new_ne ?_)))) (hlen := rfl) (r := ?_)
      refine tX4_findFirst_30  (r := ?_)
      refine tX4_findFirst_31 (ha := (by first | assumption | (repeat (first | assumption | exact At.set_eq2 (by first | omega | (simp only [hset, hnew]; omega) | rfl | decide) | exact At.new_eq2 _ _ (by first | omega | (simp only [hset, hnew]; omega) | rfl | decide) | refine At.set_ne ?_ (by first | omega | (simp only [hset, hnew]; omega) | rfl | decide) | refine At.new_ne ?_)))) (hv := rfl) (r := ?_)
      refine tX4_findFirst_34  (r := ?_)
      refine tX4_findFirst_35 (ha := (by first | assumption | (repeat (first | assumption | exact At.set_eq2 (by first | omega | (simp only [hset, hnew]; omega) | rfl | decide) | exact At.new_eq2 _ _ (by first | omega | (simp only [hset, hnew]; omega) | rfl | decide) | refine At.set_ne ?_ (by first | omega | (simp only [hset, hnew]; omega) | rfl | decide) | refine At.new_ne ?_)))) (hx := rfl) (hj := (by omega)) (hn := (by decide)) (r := ?_)
      rw [hp _ hi2, show q i = mo q (fiN q (i + 1)) from by rw [e]; rfl]
      refine tX4_findFirst_36  (r := ?_)
      refine tX4_findFirst_37  (r := ?_)
      rw [nI_add]
      refine tX4_findFirst_40 (r := ?_)
      refine ih (i + 1) _ ma (by omega) (by omega) ⟨?_, by (first | assumption | (repeat (first | assumption | exact At.set_eq2 (by (first | omega | (simp only [hset, hnew]; omega) | rfl | decide)) | exact At.new_eq2 _ _ (by (first | omega | (simp only [hset, hnew]; omega) | rfl | decide)) | refine At.set_ne ?_ (by (first | omega | (simp only [hset, hnew]; omega) | rfl | decide)) | refine At.new_ne ?_))), by (first | assumption | (repeat (first | assumption | exact At.set_eq2 (by (first | omega | (simp only [hset, hnew]; omega) | rfl | decide)) | exact At.new_eq2 _ _ (by (first | omega | (simp only [hset, hnew]; omega) | rfl | decide)) | refine At.set_ne ?_ (by (first | omega | (simp only [hset, hnew]; omega) | rfl | decide)) | refine At.new_ne ?_))), by (first | assumption | (repeat (first | assumption | exact At.set_eq2 (by (first | omega | (simp only [hset, hnew]; omega) | rfl | decide)) | exact At.new_eq2 _ _ (by (first | omega | (simp only [hset, hnew]; omega) | rfl | decide)) | refine At.set_ne ?_ (by (first | omega | (simp only [hset, hnew]; omega) | rfl | decide)) | refine At.new_ne ?_))), by (first | assumption | (repeat (first | assumption | exact At.set_eq2 (by (first | omega | (simp only [hset, hnew]; omega) | rfl | decide)) | exact At.new_eq2 _ _ (by (first | omega | (simp only [hset, hnew]; omega) | rfl | decide)) | refine At.set_ne ?_ (by (first | omega | (simp only [hset, hnew]; omega) | rfl | decide)) | refine At.new_ne ?_)))⟩ (sm.set (by omega) (by omega))
      rw [e]
      exact At.set_eq2 l0

set_option maxHeartbeats 4000000 in
set_option maxRecDepth 100000 in
theorem s_first {bf p w l : Nat → Int32} {se : Int32} {wy : Nat} {tu co : Int32} {q : Nat → Nat} (hp : ∀ k, k < 6 → p k = nI (q k)) (hq : ∀ k, k < 6 → q k ≤ 1200) {fi ma : Int32} (jc : JarC h0 j bf p w l se wy tu fi ma co) : RQ G mX4_findFirst d 0 [some (.ref j), none, none, none] [] h0 (Rv fun h1 => JarC h1 j bf p w l se wy tu (oI (fiN q 6)) (nI (mar q)) co ∧ Sm h0 h1 j (j + 1)) := by
  obtain ⟨a0, a1, a2, a3, a4⟩ := id jc
  have l0 := a0.1
  have l1 := a1.1
  have l2 := a2.1
  have l3 := a3.1
  have l4 := a4.1
  refine tX4_findFirst_0  (r := ?_)
  refine tX4_findFirst_1  (r := ?_)
  refine tX4_findFirst_2 (ha := (by first | assumption | (repeat (first | assumption | exact At.set_eq2 (by first | omega | (simp only [hset, hnew]; omega) | rfl | decide) | exact At.new_eq2 _ _ (by first | omega | (simp only [hset, hnew]; omega) | rfl | decide) | refine At.set_ne ?_ (by first | omega | (simp only [hset, hnew]; omega) | rfl | decide) | refine At.new_ne ?_)))) (hlen := rfl) (r := ?_)
  refine tX4_findFirst_5  (r := ?_)
  refine tX4_findFirst_6  (r := ?_)
  refine tX4_findFirst_7  (r := ?_)
  refine tX4_findFirst_8  (r := ?_)
  exact s_first_l1 hp hq 6 0 _ ma (by omega) (by omega) ⟨At.set_eq2 l0, by (first | assumption | (repeat (first | assumption | exact At.set_eq2 (by (first | omega | (simp only [hset, hnew]; omega) | rfl | decide)) | exact At.new_eq2 _ _ (by (first | omega | (simp only [hset, hnew]; omega) | rfl | decide)) | refine At.set_ne ?_ (by (first | omega | (simp only [hset, hnew]; omega) | rfl | decide)) | refine At.new_ne ?_))), by (first | assumption | (repeat (first | assumption | exact At.set_eq2 (by (first | omega | (simp only [hset, hnew]; omega) | rfl | decide)) | exact At.new_eq2 _ _ (by (first | omega | (simp only [hset, hnew]; omega) | rfl | decide)) | refine At.set_ne ?_ (by (first | omega | (simp only [hset, hnew]; omega) | rfl | decide)) | refine At.new_ne ?_))), by (first | assumption | (repeat (first | assumption | exact At.set_eq2 (by (first | omega | (simp only [hset, hnew]; omega) | rfl | decide)) | exact At.new_eq2 _ _ (by (first | omega | (simp only [hset, hnew]; omega) | rfl | decide)) | refine At.set_ne ?_ (by (first | omega | (simp only [hset, hnew]; omega) | rfl | decide)) | refine At.new_ne ?_))), by (first | assumption | (repeat (first | assumption | exact At.set_eq2 (by (first | omega | (simp only [hset, hnew]; omega) | rfl | decide)) | exact At.new_eq2 _ _ (by (first | omega | (simp only [hset, hnew]; omega) | rfl | decide)) | refine At.set_ne ?_ (by (first | omega | (simp only [hset, hnew]; omega) | rfl | decide)) | refine At.new_ne ?_)))⟩ ((Sm.rf _ _ _).set (by omega) (by omega))

end JB
