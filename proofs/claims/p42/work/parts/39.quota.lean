/-! a jar gives its seats by quota -/
theorem nI_dec {s : Nat} (h : s + 1 < 2147483648) : nI (s + 1) + (-1) = nI s := by
  apply Int32.toInt_inj.mp
  rw [Int32.toInt_add, m1_toInt, nI_toInt h, nI_toInt (by omega), Int.bmod_eq_of_le (by omega) (by omega)]
  omega
/-- the place of the most, from the first place on -/
def bM (l : Nat → Nat) : Nat → Nat
  | 0 => 0
  | n + 1 => if l (bM l n) < l n then n else bM l n
theorem bM_lt (l : Nat → Nat) : ∀ n, bM l (n + 1) < n + 1 := by
  intro n
  induction n with
  | zero => exact Nat.lt_of_le_of_lt (show (if l 0 < l 0 then 0 else 0) ≤ 0 by split <;> exact Nat.le_refl _) (Nat.lt_succ_self 0)
  | succ n ih =>
    show (if l (bM l (n + 1)) < l (n + 1) then n + 1 else bM l (n + 1)) < n + 2
    split <;> omega
theorem fi_bM (l : Nat → Nat) : ∀ n, fiN l (n + 1) = if 0 < l (bM l (n + 1)) then some (bM l (n + 1)) else none := by
  intro n
  induction n with
  | zero =>
    have e : bM l 1 = 0 := by
      show (if l 0 < l 0 then 0 else 0) = 0
      split <;> rfl
    rw [e]
    rfl
  | succ n ih =>
    rw [fi_step, ih]
    have e : bM l (n + 2) = if l (bM l (n + 1)) < l (n + 1) then n + 1 else bM l (n + 1) := rfl
    rw [e]
    by_cases h1 : 0 < l (bM l (n + 1))
    · rw [if_pos h1]
      by_cases h2 : l (bM l (n + 1)) < l (n + 1)
      · rw [if_pos h2, if_pos (show 0 < l (n + 1) by omega)]
        exact if_pos h2
      · rw [if_neg h2, if_pos h1]
        exact if_neg h2
    · rw [if_neg h1]
      by_cases h2 : l (bM l (n + 1)) < l (n + 1)
      · rw [if_pos h2, if_pos (show 0 < l (n + 1) by omega)]
        exact if_pos (show 0 < l (n + 1) by omega)
      · rw [if_neg h2, if_neg h1]
        exact if_neg (show ¬ 0 < l (n + 1) by omega)
theorem quN_none {w l : Nat → Nat} (h : fiN l 6 = none) : ∀ s, quN s (w, l) = (w, l)
  | 0 => rfl
  | s + 1 => by
    show (match fiN l 6 with | none => (w, l) | some k => quN s (fun i => if i = k then w i + 1 else w i, fun i => if i = k then 0 else l i)) = (w, l)
    rw [h]
theorem quN_some {w l : Nat → Nat} {k : Nat} (h : fiN l 6 = some k) (s : Nat) : quN (s + 1) (w, l) = quN s (fun i => if i = k then w i + 1 else w i, fun i => if i = k then 0 else l i) := by
  show (match fiN l 6 with | none => (w, l) | some k => quN s (fun i => if i = k then w i + 1 else w i, fun i => if i = k then 0 else l i)) = _
  rw [h]
theorem su_div {p : Nat → Nat} {Q : Nat} (hQ : 0 < Q) : ∀ n, su (fun k => p k / Q) n ≤ su p n / Q
  | 0 => Nat.zero_le _
  | n + 1 => by
    have h1 := su_div (p := p) hQ n
    have h2 := Nat.div_mul_le_self (su p n) Q
    have h3 := Nat.div_mul_le_self (p n) Q
    show su (fun k => p k / Q) n + p n / Q ≤ (su p n + p n) / Q
    rw [Nat.le_div_iff_mul_le hQ, Nat.add_mul]
    have h4 := Nat.mul_le_mul_right Q h1
    omega
theorem quota_le {p : Nat → Nat} {t se : Nat} (h : su p 6 = t) : su (fun k => p k / (t / (se + 1) + 1)) 6 ≤ se := by
  refine Nat.le_trans (su_div (Nat.succ_pos _) 6) ?_
  rw [h]
  refine Nat.lt_succ_iff.mp ((Nat.div_lt_iff_lt_mul (Nat.succ_pos _)).mpr ?_)
  show t < (se + 1) * (t / (se + 1) + 1)
  rw [Nat.mul_add, Nat.mul_one]
  have h1 := Nat.div_add_mod t (se + 1)
  have h2 : t % (se + 1) < se + 1 := Nat.mod_lt t (Nat.succ_pos se)
  show t < (se + 1) * (t / (se + 1)) + (se + 1)
  omega
section JQ
variable {G : GT} {d : Nat} {j : Nat} {h0 : AH}

set_option maxHeartbeats 4000000 in
set_option maxRecDepth 100000 in
theorem s_quo_in {bf p : Nat → Int32} {se tu fi ma co : Int32} {wy : Nat} {w l : Nat → Int32} {ls : Nat → Nat} {h : AH} {x1 x2 : Option Value} (jc : JarC h j bf p w l se wy tu fi ma co) (hl : ∀ k, k < 6 → l k = nI (ls k)) (hls : ∀ k, k < 6 → ls k ≤ 1200) (o2 : ok1 x2 = true) {P : OC → AH → Prop} (kk : RQ G mX4_giveSeatsByQuota d 135 [some (.ref j), x1, x2, some (.int (nI (bM ls 6))), some (.int (nI 6))] [] h P) : ∀ (n i : Nat), 6 ≤ i + n → 1 ≤ i → i ≤ 6 → RQ G mX4_giveSeatsByQuota d 103 [some (.ref j), x1, x2, some (.int (nI (bM ls i))), some (.int (nI i))] [] h P := by
  obtain ⟨a0, a1, a2, a3, a4⟩ := id jc
  intro n
  induction n with
  | zero =>
    intro i h1_ h2_ h3_
    have hi : i = 6 := by omega
    rw [hi]
    refine tX4_giveSeatsByQuota_103  (r := ?_)
    refine tX4_giveSeatsByQuota_105  (r := ?_)
    refine tX4_giveSeatsByQuota_107  (kf := fun c_ => by exfalso; exact c_ (by decide)) (kt := fun _ => ?_)
    exact kk
  | succ n ih =>
    intro i h1_ h2_ h3_
    by_cases hi : i = 6
    · rw [hi]
      refine tX4_giveSeatsByQuota_103  (r := ?_)
      refine tX4_giveSeatsByQuota_105  (r := ?_)
      refine tX4_giveSeatsByQuota_107  (kf := fun c_ => by exfalso; exact c_ (by decide)) (kt := fun _ => ?_)
      exact kk
    have hi2 : i < 6 := by omega
    have b6 : bM ls i < 6 := by
      cases i with
      | zero => omega
      | succ i => have := bM_lt ls i; omega
    have v1 := hls i hi2
    have v2 := hls _ b6
    refine tX4_giveSeatsByQuota_103  (r := ?_)
    refine tX4_giveSeatsByQuota_105  (r := ?_)
    refine tX4_giveSeatsByQuota_107  (kt := fun c_ => by exfalso; (simp (disch := first | omega | decide) only [ci_lt, ci_le, ci_eq, ci_lt0, ci_ge0, ci_gt0, ci_le0, ci_eq0, ci_m1_lt, ci_m1_le, ci_lt_m1, ci_le_m1, ci_eq_m1, ci_m1_eq, not_true, not_false_iff, Nat.not_lt, Nat.not_le] at c_ <;> omega)) (kf := fun _ => ?_)
    refine tX4_giveSeatsByQuota_110  (r := ?_)
    refine tX4_giveSeatsByQuota_111 (ha := (by first | assumption | (repeat (first | assumption | exact At.set_eq2 (by first | omega | (simp only [hset, hnew]; omega) | rfl | decide) | exact At.new_eq2 _ _ (by first | omega | (simp only [hset, hnew]; omega) | rfl | decide) | refine At.set_ne ?_ (by first | omega | (simp only [hset, hnew]; omega) | rfl | decide) | refine At.new_ne ?_)))) (hv := rfl) (r := ?_)
    refine tX4_giveSeatsByQuota_114  (r := ?_)
    refine tX4_giveSeatsByQuota_116 (ha := (by first | assumption | (repeat (first | assumption | exact At.set_eq2 (by first | omega | (simp only [hset, hnew]; omega) | rfl | decide) | exact At.new_eq2 _ _ (by first | omega | (simp only [hset, hnew]; omega) | rfl | decide) | refine At.set_ne ?_ (by first | omega | (simp only [hset, hnew]; omega) | rfl | decide) | refine At.new_ne ?_)))) (hx := rfl) (hj := (by omega)) (hn := (by decide)) (r := ?_)
    rw [hl _ hi2]
    refine tX4_giveSeatsByQuota_117  (r := ?_)
    refine tX4_giveSeatsByQuota_118 (ha := (by first | assumption | (repeat (first | assumption | exact At.set_eq2 (by first | omega | (simp only [hset, hnew]; omega) | rfl | decide) | exact At.new_eq2 _ _ (by first | omega | (simp only [hset, hnew]; omega) | rfl | decide) | refine At.set_ne ?_ (by first | omega | (simp only [hset, hnew]; omega) | rfl | decide) | refine At.new_ne ?_)))) (hv := rfl) (r := ?_)
    refine tX4_giveSeatsByQuota_121  (r := ?_)
    refine tX4_giveSeatsByQuota_122 (ha := (by first | assumption | (repeat (first | assumption | exact At.set_eq2 (by first | omega | (simp only [hset, hnew]; omega) | rfl | decide) | exact At.new_eq2 _ _ (by first | omega | (simp only [hset, hnew]; omega) | rfl | decide) | refine At.set_ne ?_ (by first | omega | (simp only [hset, hnew]; omega) | rfl | decide) | refine At.new_ne ?_)))) (hx := rfl) (hj := b6) (hn := (by decide)) (r := ?_)
    rw [hl _ b6]
    refine tX4_giveSeatsByQuota_123  (kt := fun c_123 => ?_) (kf := fun c_123 => ?_)
    · have e : bM ls (i + 1) = bM ls i := if_neg (by have := (nI_leI (by omega) (by omega)).mp c_123; omega)
      refine tX4_giveSeatsByQuota_129  (r := ?_)
      rw [nI_add]
      refine tX4_giveSeatsByQuota_132 (r := ?_)
      have key := ih (i + 1) (by omega) (by omega) (by omega)
      rw [e] at key
      exact key
    · have e : bM ls (i + 1) = i := if_pos (Nat.lt_of_not_le (fun z => c_123 ((nI_leI (by omega) (by omega)).mpr z)))
      refine tX4_giveSeatsByQuota_126  (r := ?_)
      refine tX4_giveSeatsByQuota_128 (ho := o2) (r := ?_)
      refine tX4_giveSeatsByQuota_129  (r := ?_)
      rw [nI_add]
      refine tX4_giveSeatsByQuota_132 (r := ?_)
      have key := ih (i + 1) (by omega) (by omega) (by omega)
      rw [e] at key
      exact key

theorem s_quo_in0 {bf p : Nat → Int32} {se tu fi ma co : Int32} {wy : Nat} {w l : Nat → Int32} {ls : Nat → Nat} {h : AH} {x1 x2 : Option Value} (jc : JarC h j bf p w l se wy tu fi ma co) (hl : ∀ k, k < 6 → l k = nI (ls k)) (hls : ∀ k, k < 6 → ls k ≤ 1200) (o2 : ok1 x2 = true) {P : OC → AH → Prop} (kk : RQ G mX4_giveSeatsByQuota d 135 [some (.ref j), x1, x2, some (.int (nI (bM ls 6))), some (.int (nI 6))] [] h P) : RQ G mX4_giveSeatsByQuota d 103 [some (.ref j), x1, x2, some (.int (nI 0)), some (.int (nI 1))] [] h P := by
  have key := s_quo_in jc hl hls o2 kk 5 1 (by omega) (by omega) (by omega)
  have e1 : bM ls 1 = 0 := by
    have : bM ls 1 < 1 := bM_lt ls 0
    omega
  rw [e1] at key
  exact key

set_option maxHeartbeats 4000000 in
set_option maxRecDepth 100000 in
theorem s_quo_out {bf p : Nat → Int32} {se tu fi ma co : Int32} {wy : Nat} : ∀ (s : Nat) (h : AH) (w l : Nat → Int32) (ws ls : Nat → Nat) (x1 x3 x4 : Option Value), ok1 x1 = true → ok1 x3 = true → s ≤ 9 → JarC h j bf p w l se wy tu fi ma co → (∀ k, k < 6 → w k = nI (ws k)) → (∀ k, k < 6 → l k = nI (ls k)) → (∀ k, k < 6 → ls k ≤ 1200) → Sm h0 h j (j + 5) → RQ G mX4_giveSeatsByQuota d 94 [some (.ref j), x1, some (.int (nI s)), x3, x4] [] h (Rv fun h1 => ∃ w l, JarC h1 j bf p w l se wy tu fi ma co ∧ (∀ k, k < 6 → w k = nI ((quN s (ws, ls)).1 k)) ∧ Sm h0 h1 j (j + 5)) := by
  intro s
  induction s with
  | zero =>
    intro h w l ws ls x1 x3 x4 o1 o3 hs jc hw hl hls sm
    refine tX4_giveSeatsByQuota_94  (r := ?_)
    refine tX4_giveSeatsByQuota_95  (kf := fun c_ => by exfalso; exact c_ (by decide)) (kt := fun _ => ?_)
    refine tX4_giveSeatsByQuota_167  (hP := ?_)
    exact ⟨rfl, w, l, jc, hw, sm⟩
  | succ s ih =>
    intro h w l ws ls x1 x3 x4 o1 o3 hs jc hw hl hls sm
    obtain ⟨a0, a1, a2, a3, a4⟩ := id jc
    have l0 := a0.1
    have l1 := a1.1
    have l2 := a2.1
    have l3 := a3.1
    have l4 := a4.1
    have b6 : bM ls 6 < 6 := bM_lt ls 5
    have v2 := hls _ b6
    have fb : fiN ls 6 = if 0 < ls (bM ls 6) then some (bM ls 6) else none := fi_bM ls 5
    refine tX4_giveSeatsByQuota_94  (r := ?_)
    refine tX4_giveSeatsByQuota_95  (kt := fun c_ => by exfalso; exact absurd c_ (by rw [← nI_0]; exact nI_ge (Nat.succ_pos s) (by omega))) (kf := fun _ => ?_)
    refine tX4_giveSeatsByQuota_98  (r := ?_)
    refine tX4_giveSeatsByQuota_99 (ho := rfl) (r := ?_)
    refine tX4_giveSeatsByQuota_100  (r := ?_)
    refine tX4_giveSeatsByQuota_101 (ho := rfl) (r := ?_)
    refine s_quo_in0 jc hl hls rfl ?_
    refine tX4_giveSeatsByQuota_135  (r := ?_)
    refine tX4_giveSeatsByQuota_136 (ha := (by first | assumption | (repeat (first | assumption | exact At.set_eq2 (by first | omega | (simp only [hset, hnew]; omega) | rfl | decide) | exact At.new_eq2 _ _ (by first | omega | (simp only [hset, hnew]; omega) | rfl | decide) | refine At.set_ne ?_ (by first | omega | (simp only [hset, hnew]; omega) | rfl | decide) | refine At.new_ne ?_)))) (hv := rfl) (r := ?_)
    refine tX4_giveSeatsByQuota_139  (r := ?_)
    refine tX4_giveSeatsByQuota_140 (ha := (by first | assumption | (repeat (first | assumption | exact At.set_eq2 (by first | omega | (simp only [hset, hnew]; omega) | rfl | decide) | exact At.new_eq2 _ _ (by first | omega | (simp only [hset, hnew]; omega) | rfl | decide) | refine At.set_ne ?_ (by first | omega | (simp only [hset, hnew]; omega) | rfl | decide) | refine At.new_ne ?_)))) (hx := rfl) (hj := b6) (hn := (by decide)) (r := ?_)
    rw [hl _ b6]
    refine tX4_giveSeatsByQuota_141  (kt := fun c_141 => ?_) (kf := fun c_141 => ?_)
    · have e0 : ls (bM ls 6) = 0 := by
        have := (nI_leI (a := ls (bM ls 6)) (b := 0) (by omega) (by decide)).mp (by rw [nI_0]; exact c_141)
        omega
      rw [if_neg (by omega)] at fb
      rw [quN_none fb, ← quN_none (w := ws) fb s]
      refine tX4_giveSeatsByQuota_161 (ho := o1) (r := ?_)
      rw [nI_dec (by omega)]
      refine tX4_giveSeatsByQuota_164 (r := ?_)
      exact ih h w l ws ls _ _ _ o1 rfl (by omega) jc hw hl hls sm
    · have e0 : 0 < ls (bM ls 6) := Nat.lt_of_not_le (fun z => c_141 (by rw [← nI_0]; exact (nI_leI (by omega) (by decide)).mpr z))
      rw [if_pos e0] at fb
      rw [quN_some fb]
      refine tX4_giveSeatsByQuota_144  (r := ?_)
      refine tX4_giveSeatsByQuota_145 (ha := (by first | assumption | (repeat (first | assumption | exact At.set_eq2 (by first | omega | (simp only [hset, hnew]; omega) | rfl | decide) | exact At.new_eq2 _ _ (by first | omega | (simp only [hset, hnew]; omega) | rfl | decide) | refine At.set_ne ?_ (by first | omega | (simp only [hset, hnew]; omega) | rfl | decide) | refine At.new_ne ?_)))) (hv := rfl) (r := ?_)
      refine tX4_giveSeatsByQuota_148  (r := ?_)
      refine tX4_giveSeatsByQuota_149  (r := ?_)
      refine tX4_giveSeatsByQuota_150 (ha := (by first | assumption | (repeat (first | assumption | exact At.set_eq2 (by first | omega | (simp only [hset, hnew]; omega) | rfl | decide) | exact At.new_eq2 _ _ (by first | omega | (simp only [hset, hnew]; omega) | rfl | decide) | refine At.set_ne ?_ (by first | omega | (simp only [hset, hnew]; omega) | rfl | decide) | refine At.new_ne ?_)))) (hx := rfl) (hj := b6) (hn := (by decide)) (r := ?_)
      rw [hw _ b6]
      refine tX4_giveSeatsByQuota_151  (r := ?_)
      refine tX4_giveSeatsByQuota_152  (r := ?_)
      rw [nI_add]
      refine tX4_giveSeatsByQuota_153 (ha := (by first | assumption | (repeat (first | assumption | exact At.set_eq2 (by first | omega | (simp only [hset, hnew]; omega) | rfl | decide) | exact At.new_eq2 _ _ (by first | omega | (simp only [hset, hnew]; omega) | rfl | decide) | refine At.set_ne ?_ (by first | omega | (simp only [hset, hnew]; omega) | rfl | decide) | refine At.new_ne ?_)))) (hx := rfl) (hj := b6) (hn := (by decide)) (r := ?_)
      refine tX4_giveSeatsByQuota_154  (r := ?_)
      refine tX4_giveSeatsByQuota_155 (ha := (by first | assumption | (repeat (first | assumption | exact At.set_eq2 (by first | omega | (simp only [hset, hnew]; omega) | rfl | decide) | exact At.new_eq2 _ _ (by first | omega | (simp only [hset, hnew]; omega) | rfl | decide) | refine At.set_ne ?_ (by first | omega | (simp only [hset, hnew]; omega) | rfl | decide) | refine At.new_ne ?_)))) (hv := rfl) (r := ?_)
      refine tX4_giveSeatsByQuota_158  (r := ?_)
      refine tX4_giveSeatsByQuota_159  (r := ?_)
      refine tX4_giveSeatsByQuota_160 (ha := (by first | assumption | (repeat (first | assumption | exact At.set_eq2 (by first | omega | (simp only [hset, hnew]; omega) | rfl | decide) | exact At.new_eq2 _ _ (by first | omega | (simp only [hset, hnew]; omega) | rfl | decide) | refine At.set_ne ?_ (by first | omega | (simp only [hset, hnew]; omega) | rfl | decide) | refine At.new_ne ?_)))) (hx := rfl) (hj := b6) (hn := (by decide)) (r := ?_)
      refine tX4_giveSeatsByQuota_161 (ho := o1) (r := ?_)
      rw [nI_dec (by omega)]
      refine tX4_giveSeatsByQuota_164 (r := ?_)
      refine ih _ _ _ _ _ _ _ _ o1 rfl (by omega) ⟨by (first | assumption | (repeat (first | assumption | exact At.set_eq2 (by (first | omega | (simp only [hset, hnew]; omega) | rfl | decide)) | exact At.new_eq2 _ _ (by (first | omega | (simp only [hset, hnew]; omega) | rfl | decide)) | refine At.set_ne ?_ (by (first | omega | (simp only [hset, hnew]; omega) | rfl | decide)) | refine At.new_ne ?_))), by (first | assumption | (repeat (first | assumption | exact At.set_eq2 (by (first | omega | (simp only [hset, hnew]; omega) | rfl | decide)) | exact At.new_eq2 _ _ (by (first | omega | (simp only [hset, hnew]; omega) | rfl | decide)) | refine At.set_ne ?_ (by (first | omega | (simp only [hset, hnew]; omega) | rfl | decide)) | refine At.new_ne ?_))), by (first | assumption | (repeat (first | assumption | exact At.set_eq2 (by (first | omega | (simp only [hset, hnew]; omega) | rfl | decide)) | exact At.new_eq2 _ _ (by (first | omega | (simp only [hset, hnew]; omega) | rfl | decide)) | refine At.set_ne ?_ (by (first | omega | (simp only [hset, hnew]; omega) | rfl | decide)) | refine At.new_ne ?_))), by (first | assumption | (repeat (first | assumption | exact At.set_eq2 (by (first | omega | (simp only [hset, hnew]; omega) | rfl | decide)) | exact At.new_eq2 _ _ (by (first | omega | (simp only [hset, hnew]; omega) | rfl | decide)) | refine At.set_ne ?_ (by (first | omega | (simp only [hset, hnew]; omega) | rfl | decide)) | refine At.new_ne ?_))), by (first | assumption | (repeat (first | assumption | exact At.set_eq2 (by (first | omega | (simp only [hset, hnew]; omega) | rfl | decide)) | exact At.new_eq2 _ _ (by (first | omega | (simp only [hset, hnew]; omega) | rfl | decide)) | refine At.set_ne ?_ (by (first | omega | (simp only [hset, hnew]; omega) | rfl | decide)) | refine At.new_ne ?_)))⟩ (fun k hk => ?_) (fun k hk => ?_) (fun k hk => ?_) ((sm.set (by omega) (by omega)).set (by omega) (by omega))
      · show (if k = bM ls 6 then _ else w k) = nI (if k = bM ls 6 then ws k + 1 else ws k)
        by_cases e : k = bM ls 6
        · rw [if_pos e, if_pos e, e]
        · rw [if_neg e, if_neg e, hw k hk]
      · show (if k = bM ls 6 then _ else l k) = nI (if k = bM ls 6 then 0 else ls k)
        by_cases e : k = bM ls 6
        · rw [if_pos e, if_pos e]
        · rw [if_neg e, if_neg e, hl k hk]
      · show (if k = bM ls 6 then 0 else ls k) ≤ 1200
        have := hls k hk
        split <;> omega

set_option maxHeartbeats 4000000 in
set_option maxRecDepth 100000 in
theorem s_quo_l1 {bf p : Nat → Int32} {se t wy : Nat} {fi ma co : Int32} {q : Nat → Nat} (hp : ∀ k, k < 6 → p k = nI (q k)) (hq : ∀ k, k < 6 → q k ≤ 1200) (hse : se ≤ 9) (ht : su q 6 = t) (ht2 : t ≤ 1200) : ∀ (n i : Nat) (h : AH) (w l : Nat → Int32), 6 ≤ i + n → i ≤ 6 → JarC h j bf p w l (nI se) wy (nI t) fi ma co → (∀ k, k < i → w k = nI ((fun k => q k / (t / (se + 1) + 1)) k)) → (∀ k, k < i → l k = nI ((fun k => q k - q k / (t / (se + 1) + 1) * (t / (se + 1) + 1)) k)) → Sm h0 h j (j + 5) → RQ G mX4_giveSeatsByQuota d 38 [some (.ref j), some (.int (nI (t / (se + 1) + 1))), some (.int (nI (se - su (fun k => q k / (t / (se + 1) + 1)) i))), some (.int (nI i)), none] [] h (Rv fun h1 => ∃ w l, JarC h1 j bf p w l (nI se) wy (nI t) fi ma co ∧ (∀ k, k < 6 → w k = nI (quo q t se k)) ∧ Sm h0 h1 j (j + 5)) := by
  have ex : ∀ (i : Nat) (h : AH) (w l : Nat → Int32), i = 6 → JarC h j bf p w l (nI se) wy (nI t) fi ma co → (∀ k, k < i → w k = nI ((fun k => q k / (t / (se + 1) + 1)) k)) → (∀ k, k < i → l k = nI ((fun k => q k - q k / (t / (se + 1) + 1) * (t / (se + 1) + 1)) k)) → Sm h0 h j (j + 5) → RQ G mX4_giveSeatsByQuota d 38 [some (.ref j), some (.int (nI (t / (se + 1) + 1))), some (.int (nI (se - su (fun k => q k / (t / (se + 1) + 1)) i))), some (.int (nI i)), none] [] h (Rv fun h1 => ∃ w l, JarC h1 j bf p w l (nI se) wy (nI t) fi ma co ∧ (∀ k, k < 6 → w k = nI (quo q t se k)) ∧ Sm h0 h1 j (j + 5)) := by
    intro i h w l hi jc hw hl sm
    subst hi
    obtain ⟨a0, a1, a2, a3, a4⟩ := id jc
    have l0 := a0.1
    have l1 := a1.1
    have l2 := a2.1
    have l3 := a3.1
    have l4 := a4.1
    have Q1 : 1 ≤ (t / (se + 1) + 1) := Nat.succ_pos _
    have Q2 : (t / (se + 1) + 1) ≤ 1201 := by have := Nat.div_le_self t (se + 1); omega
    have Q3 := quota_le (p := q) (se := se) ht
    have dle := fun k => Nat.div_mul_le_self (q k) (t / (se + 1) + 1)
    have dl2 := fun k => Nat.div_le_self (q k) (t / (se + 1) + 1)
    refine tX4_giveSeatsByQuota_38  (r := ?_)
    refine tX4_giveSeatsByQuota_39  (r := ?_)
    refine tX4_giveSeatsByQuota_41  (kf := fun c_ => by exfalso; exact c_ (by decide)) (kt := fun _ => ?_)
    exact s_quo_out (se - su (fun k => q k / (t / (se + 1) + 1)) 6) h w l (fun k => q k / (t / (se + 1) + 1)) (fun k => q k - q k / (t / (se + 1) + 1) * (t / (se + 1) + 1)) _ _ _ rfl rfl (by omega) jc hw hl (fun k hk => by have := hq k hk; show q k - _ ≤ 1200; omega) sm
  intro n
  induction n with
  | zero => exact fun i h w l h1_ h2_ => ex i h w l (by omega)
  | succ n ih =>
    intro i h w l h1_ h2_ jc hw hl sm
    by_cases hi : i = 6
    · exact ex i h w l hi jc hw hl sm
    have hi2 : i < 6 := by omega
    obtain ⟨a0, a1, a2, a3, a4⟩ := id jc
    have l0 := a0.1
    have l1 := a1.1
    have l2 := a2.1
    have l3 := a3.1
    have l4 := a4.1
    have Q1 : 1 ≤ (t / (se + 1) + 1) := Nat.succ_pos _
    have Q2 : (t / (se + 1) + 1) ≤ 1201 := by have := Nat.div_le_self t (se + 1); omega
    have Q3 := quota_le (p := q) (se := se) ht
    have dle := fun k => Nat.div_mul_le_self (q k) (t / (se + 1) + 1)
    have dl2 := fun k => Nat.div_le_self (q k) (t / (se + 1) + 1)
    refine tX4_giveSeatsByQuota_38  (r := ?_)
    refine tX4_giveSeatsByQuota_39  (r := ?_)
    refine tX4_giveSeatsByQuota_41  (kt := fun c_ => by exfalso; (simp (disch := first | omega | decide) only [ci_lt, ci_le, ci_eq, ci_lt0, ci_ge0, ci_gt0, ci_le0, ci_eq0, ci_m1_lt, ci_m1_le, ci_lt_m1, ci_le_m1, ci_eq_m1, ci_m1_eq, not_true, not_false_iff, Nat.not_lt, Nat.not_le] at c_ <;> omega)) (kf := fun _ => ?_)
    refine tX4_giveSeatsByQuota_44  (r := ?_)
    refine tX4_giveSeatsByQuota_45 (ha := (by first | assumption | (repeat (first | assumption | exact At.set_eq2 (by first | omega | (simp only [hset, hnew]; omega) | rfl | decide) | exact At.new_eq2 _ _ (by first | omega | (simp only [hset, hnew]; omega) | rfl | decide) | refine At.set_ne ?_ (by first | omega | (simp only [hset, hnew]; omega) | rfl | decide) | refine At.new_ne ?_)))) (hv := rfl) (r := ?_)
    refine tX4_giveSeatsByQuota_48  (r := ?_)
    refine tX4_giveSeatsByQuota_49  (r := ?_)
    refine tX4_giveSeatsByQuota_50 (ha := (by first | assumption | (repeat (first | assumption | exact At.set_eq2 (by first | omega | (simp only [hset, hnew]; omega) | rfl | decide) | exact At.new_eq2 _ _ (by first | omega | (simp only [hset, hnew]; omega) | rfl | decide) | refine At.set_ne ?_ (by first | omega | (simp only [hset, hnew]; omega) | rfl | decide) | refine At.new_ne ?_)))) (hv := rfl) (r := ?_)
    refine tX4_giveSeatsByQuota_53  (r := ?_)
    refine tX4_giveSeatsByQuota_54 (ha := (by first | assumption | (repeat (first | assumption | exact At.set_eq2 (by first | omega | (simp only [hset, hnew]; omega) | rfl | decide) | exact At.new_eq2 _ _ (by first | omega | (simp only [hset, hnew]; omega) | rfl | decide) | refine At.set_ne ?_ (by first | omega | (simp only [hset, hnew]; omega) | rfl | decide) | refine At.new_ne ?_)))) (hx := rfl) (hj := (by omega)) (hn := (by decide)) (r := ?_)
    rw [hp _ hi2]
    have v1 := hq i hi2
    have v2 := dle i
    have v3 := dl2 i
    refine tX4_giveSeatsByQuota_55  (r := ?_)
    refine tX4_giveSeatsByQuota_56 (hne := (nI_ne0 Q1 (by omega))) (r := ?_)
    rw [pk_div (by omega) Q1 (by omega)]
    refine tX4_giveSeatsByQuota_57 (ha := (by first | assumption | (repeat (first | assumption | exact At.set_eq2 (by first | omega | (simp only [hset, hnew]; omega) | rfl | decide) | exact At.new_eq2 _ _ (by first | omega | (simp only [hset, hnew]; omega) | rfl | decide) | refine At.set_ne ?_ (by first | omega | (simp only [hset, hnew]; omega) | rfl | decide) | refine At.new_ne ?_)))) (hx := rfl) (hj := (by omega)) (hn := (by decide)) (r := ?_)
    refine tX4_giveSeatsByQuota_58  (r := ?_)
    refine tX4_giveSeatsByQuota_59 (ha := (by first | assumption | (repeat (first | assumption | exact At.set_eq2 (by first | omega | (simp only [hset, hnew]; omega) | rfl | decide) | exact At.new_eq2 _ _ (by first | omega | (simp only [hset, hnew]; omega) | rfl | decide) | refine At.set_ne ?_ (by first | omega | (simp only [hset, hnew]; omega) | rfl | decide) | refine At.new_ne ?_)))) (hv := rfl) (r := ?_)
    refine tX4_giveSeatsByQuota_62  (r := ?_)
    refine tX4_giveSeatsByQuota_63  (r := ?_)
    refine tX4_giveSeatsByQuota_64 (ha := (by first | assumption | (repeat (first | assumption | exact At.set_eq2 (by first | omega | (simp only [hset, hnew]; omega) | rfl | decide) | exact At.new_eq2 _ _ (by first | omega | (simp only [hset, hnew]; omega) | rfl | decide) | refine At.set_ne ?_ (by first | omega | (simp only [hset, hnew]; omega) | rfl | decide) | refine At.new_ne ?_)))) (hv := rfl) (r := ?_)
    refine tX4_giveSeatsByQuota_67  (r := ?_)
    refine tX4_giveSeatsByQuota_68 (ha := (by first | assumption | (repeat (first | assumption | exact At.set_eq2 (by first | omega | (simp only [hset, hnew]; omega) | rfl | decide) | exact At.new_eq2 _ _ (by first | omega | (simp only [hset, hnew]; omega) | rfl | decide) | refine At.set_ne ?_ (by first | omega | (simp only [hset, hnew]; omega) | rfl | decide) | refine At.new_ne ?_)))) (hx := rfl) (hj := (by omega)) (hn := (by decide)) (r := ?_)
    rw [hp _ hi2]
    refine tX4_giveSeatsByQuota_69  (r := ?_)
    refine tX4_giveSeatsByQuota_70 (ha := (by first | assumption | (repeat (first | assumption | exact At.set_eq2 (by first | omega | (simp only [hset, hnew]; omega) | rfl | decide) | exact At.new_eq2 _ _ (by first | omega | (simp only [hset, hnew]; omega) | rfl | decide) | refine At.set_ne ?_ (by first | omega | (simp only [hset, hnew]; omega) | rfl | decide) | refine At.new_ne ?_)))) (hv := rfl) (r := ?_)
    refine tX4_giveSeatsByQuota_73  (r := ?_)
    refine tX4_giveSeatsByQuota_74 (ha := (by first | assumption | (repeat (first | assumption | exact At.set_eq2 (by first | omega | (simp only [hset, hnew]; omega) | rfl | decide) | exact At.new_eq2 _ _ (by first | omega | (simp only [hset, hnew]; omega) | rfl | decide) | refine At.set_ne ?_ (by first | omega | (simp only [hset, hnew]; omega) | rfl | decide) | refine At.new_ne ?_)))) (hx := rfl) (hj := (by omega)) (hn := (by decide)) (r := ?_)
    rw [show upd w i (nI (q i / (t / (se + 1) + 1))) i = nI (q i / (t / (se + 1) + 1)) from if_pos rfl]
    refine tX4_giveSeatsByQuota_75  (r := ?_)
    refine tX4_giveSeatsByQuota_76  (r := ?_)
    rw [nI_mulN]
    refine tX4_giveSeatsByQuota_77  (r := ?_)
    rw [nI_subN v2 (by omega)]
    refine tX4_giveSeatsByQuota_78 (ha := (by first | assumption | (repeat (first | assumption | exact At.set_eq2 (by first | omega | (simp only [hset, hnew]; omega) | rfl | decide) | exact At.new_eq2 _ _ (by first | omega | (simp only [hset, hnew]; omega) | rfl | decide) | refine At.set_ne ?_ (by first | omega | (simp only [hset, hnew]; omega) | rfl | decide) | refine At.new_ne ?_)))) (hx := rfl) (hj := (by omega)) (hn := (by decide)) (r := ?_)
    refine tX4_giveSeatsByQuota_79  (r := ?_)
    refine tX4_giveSeatsByQuota_80  (r := ?_)
    refine tX4_giveSeatsByQuota_81 (ha := (by first | assumption | (repeat (first | assumption | exact At.set_eq2 (by first | omega | (simp only [hset, hnew]; omega) | rfl | decide) | exact At.new_eq2 _ _ (by first | omega | (simp only [hset, hnew]; omega) | rfl | decide) | refine At.set_ne ?_ (by first | omega | (simp only [hset, hnew]; omega) | rfl | decide) | refine At.new_ne ?_)))) (hv := rfl) (r := ?_)
    refine tX4_giveSeatsByQuota_84  (r := ?_)
    refine tX4_giveSeatsByQuota_85 (ha := (by first | assumption | (repeat (first | assumption | exact At.set_eq2 (by first | omega | (simp only [hset, hnew]; omega) | rfl | decide) | exact At.new_eq2 _ _ (by first | omega | (simp only [hset, hnew]; omega) | rfl | decide) | refine At.set_ne ?_ (by first | omega | (simp only [hset, hnew]; omega) | rfl | decide) | refine At.new_ne ?_)))) (hx := rfl) (hj := (by omega)) (hn := (by decide)) (r := ?_)
    rw [show upd w i (nI (q i / (t / (se + 1) + 1))) i = nI (q i / (t / (se + 1) + 1)) from if_pos rfl]
    refine tX4_giveSeatsByQuota_86  (r := ?_)
    have v4 : su (fun k => q k / (t / (se + 1) + 1)) (i + 1) ≤ su (fun k => q k / (t / (se + 1) + 1)) 6 := su_le (by omega)
    have v5 : su (fun k => q k / (t / (se + 1) + 1)) (i + 1) = su (fun k => q k / (t / (se + 1) + 1)) i + q i / (t / (se + 1) + 1) := rfl
    rw [nI_subN (by omega) (by omega), show se - su (fun k => q k / (t / (se + 1) + 1)) i - q i / (t / (se + 1) + 1) = se - su (fun k => q k / (t / (se + 1) + 1)) (i + 1) by omega]
    refine tX4_giveSeatsByQuota_87  (r := ?_)
    refine tX4_giveSeatsByQuota_88  (r := ?_)
    rw [nI_add]
    refine tX4_giveSeatsByQuota_91 (r := ?_)
    refine ih (i + 1) _ _ _ (by omega) (by omega) ⟨by (first | assumption | (repeat (first | assumption | exact At.set_eq2 (by (first | omega | (simp only [hset, hnew]; omega) | rfl | decide)) | exact At.new_eq2 _ _ (by (first | omega | (simp only [hset, hnew]; omega) | rfl | decide)) | refine At.set_ne ?_ (by (first | omega | (simp only [hset, hnew]; omega) | rfl | decide)) | refine At.new_ne ?_))), by (first | assumption | (repeat (first | assumption | exact At.set_eq2 (by (first | omega | (simp only [hset, hnew]; omega) | rfl | decide)) | exact At.new_eq2 _ _ (by (first | omega | (simp only [hset, hnew]; omega) | rfl | decide)) | refine At.set_ne ?_ (by (first | omega | (simp only [hset, hnew]; omega) | rfl | decide)) | refine At.new_ne ?_))), by (first | assumption | (repeat (first | assumption | exact At.set_eq2 (by (first | omega | (simp only [hset, hnew]; omega) | rfl | decide)) | exact At.new_eq2 _ _ (by (first | omega | (simp only [hset, hnew]; omega) | rfl | decide)) | refine At.set_ne ?_ (by (first | omega | (simp only [hset, hnew]; omega) | rfl | decide)) | refine At.new_ne ?_))), by (first | assumption | (repeat (first | assumption | exact At.set_eq2 (by (first | omega | (simp only [hset, hnew]; omega) | rfl | decide)) | exact At.new_eq2 _ _ (by (first | omega | (simp only [hset, hnew]; omega) | rfl | decide)) | refine At.set_ne ?_ (by (first | omega | (simp only [hset, hnew]; omega) | rfl | decide)) | refine At.new_ne ?_))), by (first | assumption | (repeat (first | assumption | exact At.set_eq2 (by (first | omega | (simp only [hset, hnew]; omega) | rfl | decide)) | exact At.new_eq2 _ _ (by (first | omega | (simp only [hset, hnew]; omega) | rfl | decide)) | refine At.set_ne ?_ (by (first | omega | (simp only [hset, hnew]; omega) | rfl | decide)) | refine At.new_ne ?_)))⟩ (fun k hk => ?_) (fun k hk => ?_) ((sm.set (by omega) (by omega)).set (by omega) (by omega))
    · by_cases e : k = i
      · subst e
        exact if_pos rfl
      · exact (if_neg e).trans (hw k (by omega))
    · by_cases e : k = i
      · subst e
        exact if_pos rfl
      · exact (if_neg e).trans (hl k (by omega))

set_option maxHeartbeats 4000000 in
set_option maxRecDepth 100000 in
theorem s_quo {bf p : Nat → Int32} {se t wy : Nat} {fi ma co : Int32} {q : Nat → Nat} (hp : ∀ k, k < 6 → p k = nI (q k)) (hq : ∀ k, k < 6 → q k ≤ 1200) (hse : se ≤ 9) (ht : su q 6 = t) (ht2 : t ≤ 1200) {w l : Nat → Int32} (jc : JarC h0 j bf p w l (nI se) wy (nI t) fi ma co) : RQ G mX4_giveSeatsByQuota d 0 [some (.ref j), none, none, none, none] [] h0 (Rv fun h1 => ∃ w l, JarC h1 j bf p w l (nI se) wy (nI t) fi ma co ∧ (∀ k, k < 6 → w k = nI (quo q t se k)) ∧ Sm h0 h1 j (j + 5)) := by
  obtain ⟨a0, a1, a2, a3, a4⟩ := id jc
  have l0 := a0.1
  have l1 := a1.1
  have l2 := a2.1
  have l3 := a3.1
  have l4 := a4.1
  have Q1 : 1 ≤ (t / (se + 1) + 1) := Nat.succ_pos _
  have Q2 : (t / (se + 1) + 1) ≤ 1201 := by have := Nat.div_le_self t (se + 1); omega
  have Q3 := quota_le (p := q) (se := se) ht
  have dle := fun k => Nat.div_mul_le_self (q k) (t / (se + 1) + 1)
  have dl2 := fun k => Nat.div_le_self (q k) (t / (se + 1) + 1)
  refine tX4_giveSeatsByQuota_0  (r := ?_)
  refine tX4_giveSeatsByQuota_1 (ha := (by first | assumption | (repeat (first | assumption | exact At.set_eq2 (by first | omega | (simp only [hset, hnew]; omega) | rfl | decide) | exact At.new_eq2 _ _ (by first | omega | (simp only [hset, hnew]; omega) | rfl | decide) | refine At.set_ne ?_ (by first | omega | (simp only [hset, hnew]; omega) | rfl | decide) | refine At.new_ne ?_)))) (hv := rfl) (r := ?_)
  refine tX4_giveSeatsByQuota_4  (kf := fun c_ => by exfalso; exact c_ (nI_pos' (by omega))) (kt := fun _ => ?_)
  refine tX4_giveSeatsByQuota_11  (r := ?_)
  refine tX4_giveSeatsByQuota_12 (ha := (by first | assumption | (repeat (first | assumption | exact At.set_eq2 (by first | omega | (simp only [hset, hnew]; omega) | rfl | decide) | exact At.new_eq2 _ _ (by first | omega | (simp only [hset, hnew]; omega) | rfl | decide) | refine At.set_ne ?_ (by first | omega | (simp only [hset, hnew]; omega) | rfl | decide) | refine At.new_ne ?_)))) (hv := rfl) (r := ?_)
  refine tX4_giveSeatsByQuota_15  (r := ?_)
  refine tX4_giveSeatsByQuota_16 (ha := (by first | assumption | (repeat (first | assumption | exact At.set_eq2 (by first | omega | (simp only [hset, hnew]; omega) | rfl | decide) | exact At.new_eq2 _ _ (by first | omega | (simp only [hset, hnew]; omega) | rfl | decide) | refine At.set_ne ?_ (by first | omega | (simp only [hset, hnew]; omega) | rfl | decide) | refine At.new_ne ?_)))) (hv := rfl) (r := ?_)
  refine tX4_giveSeatsByQuota_19  (r := ?_)
  refine tX4_giveSeatsByQuota_20  (r := ?_)
  rw [nI_add]
  refine tX4_giveSeatsByQuota_21 (hne := (nI_ne0 (Nat.succ_pos se) (by omega))) (r := ?_)
  rw [pk_div (d := se + 1) (by omega) (Nat.succ_pos se) (by omega)]
  refine tX4_giveSeatsByQuota_22  (r := ?_)
  refine tX4_giveSeatsByQuota_23  (r := ?_)
  rw [nI_add]
  refine tX4_giveSeatsByQuota_24  (r := ?_)
  refine tX4_giveSeatsByQuota_25  (r := ?_)
  refine tX4_giveSeatsByQuota_26  (r := ?_)
  refine tX4_giveSeatsByQuota_27  (kf := fun c_ => by exfalso; exact c_ ((nI_leI (by decide) (by omega)).mpr Q1)) (kt := fun _ => ?_)
  refine tX4_giveSeatsByQuota_31  (r := ?_)
  refine tX4_giveSeatsByQuota_32 (ha := (by first | assumption | (repeat (first | assumption | exact At.set_eq2 (by first | omega | (simp only [hset, hnew]; omega) | rfl | decide) | exact At.new_eq2 _ _ (by first | omega | (simp only [hset, hnew]; omega) | rfl | decide) | refine At.set_ne ?_ (by first | omega | (simp only [hset, hnew]; omega) | rfl | decide) | refine At.new_ne ?_)))) (hv := rfl) (r := ?_)
  refine tX4_giveSeatsByQuota_35  (r := ?_)
  refine tX4_giveSeatsByQuota_36  (r := ?_)
  refine tX4_giveSeatsByQuota_37  (r := ?_)
  exact s_quo_l1 hp hq hse ht ht2 6 0 h0 w l (by omega) (by omega) jc (fun k hk => absurd hk (Nat.not_lt_zero k)) (fun k hk => absurd hk (Nat.not_lt_zero k)) (Sm.rf _ _ _)

end JQ
