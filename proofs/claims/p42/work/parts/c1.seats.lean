/-! the cupboard by hand: seats that are won -/
/-- what is known of who gets the next seat, from m on -/
def DDn (p w : Nat → Nat) (m n : Nat) : Option Nat → Prop
  | none => ∀ k, m ≤ k → k < n → p k = 0
  | some j => m ≤ j ∧ j < n ∧ 0 < p j ∧ (∀ k, m ≤ k → k < n → qle p w k j) ∧ ∀ k, m ≤ k → k < j → qlt p w k j
theorem DDn.best {p w : Nat → Nat} {n j0 : Nat} {b : Option Nat} (h : DDn p w 0 n b) (n6 : n ≤ 6) (p0 : ∀ k, n ≤ k → k < 6 → p k = 0) (hj : j0 < n) (pj : 0 < p j0) : b = some (bestD p w 6) := by
  cases b with
  | none =>
    have := h j0 (Nat.zero_le _) hj
    omega
  | some j =>
    obtain ⟨-, h2, h3, h4, h5⟩ := h
    obtain ⟨b1, b2⟩ := bestD_spec p w 6
    have hB : bestD p w 6 < 6 := by omega
    have hn : bestD p w 6 < n := Classical.byContradiction (fun z => by
      have z0 := p0 _ (Nat.le_of_not_lt z) hB
      have z1 := (b1 j (by omega)).1
      unfold qle at z1
      rw [z0, Nat.zero_mul] at z1
      have : 0 < p j * (w (bestD p w 6) + 1) := Nat.mul_pos h3 (Nat.succ_pos _)
      omega)
    rcases Nat.lt_trichotomy j (bestD p w 6) with e | e | e
    · have z1 := (b1 j (by omega)).2 e
      have z2 := h4 _ (Nat.zero_le _) hn
      exact absurd z1 (Nat.not_lt.mpr z2)
    · rw [e]
    · have z1 := h5 _ (Nat.zero_le _) e
      have z2 := (b1 j (by omega)).1
      exact absurd z1 (Nat.not_lt.mpr z2)
section HW
variable {G : GT} {d : Nat} {h h0 : AH} {c n x be se wy a wr : Nat} {b : Nat → Nat} {F : Nat → Option Nat}

set_option maxHeartbeats 4000000 in
theorem s_hdiv_in (n6 : n ≤ 6) {pf wf : Nat → Int32} {p w : Nat → Nat} (aa : At h a (.inl (0, n, .inl pf))) (hp : ∀ k, k < n → pf k = nI (p k)) (pl : ∀ k, p k ≤ 1200) (p0 : ∀ k, n ≤ k → k < 6 → p k = 0) (aw : At h wr (.inl (0, n + 1, .inl wf))) (hw : ∀ k, k < n → wf k = nI (w k)) (wl : ∀ k, w k ≤ 9) {j0 i : Nat} (hj : j0 < n) (pj : 0 < p j0) {x0 x1 x5 : Option Value} {P : OC → AH → Prop} (r : RQ G mX12_won d 139 [x0, x1, some (.ref a), some (.int (nI n)), some (.ref wr), x5, some (.int (nI i)), some (.int (nI (bestD p w 6))), some (.int (-1))] [] h P) : ∀ (m : Nat), m ≤ n → ∀ (best : Option Nat), DDn p w m n best → RQ G mX12_won d 85 [x0, x1, some (.ref a), some (.int (nI n)), some (.ref wr), x5, some (.int (nI i)), some (.int (oI best)), some (.int (pvI m))] [] h P := by
  have mb : ∀ k l, p k * (w l + 1) < 2147483648 := fun k l => by
    have : p k * (w l + 1) ≤ 1200 * 10 := Nat.mul_le_mul (pl k) (Nat.succ_le_succ (wl l))
    omega
  intro m
  induction m with
  | zero =>
    intro hm best fd
    refine tX12_won_85  (r := ?_)
    refine tX12_won_87  (kf := fun c_ => by exfalso; exact c_ (show (-1 : Int32) < 0 by decide)) (kt := fun _ => ?_)
    rw [fd.best n6 p0 hj pj]
    exact r
  | succ m ih =>
    intro hm best fd
    cases best with
    | none =>
      have fd : ∀ k, m + 1 ≤ k → k < n → p k = 0 := fd
      refine tX12_won_85  (r := ?_)
      refine tX12_won_87  (kt := fun c_ => by exfalso; exact absurd c_ (nI_pos (n := m) (by omega))) (kf := fun _ => ?_)
      refine tX12_won_90  (r := ?_)
      refine tX12_won_91  (r := ?_)
      refine tX12_won_93 (j := m) (ha := (by first | assumption | (repeat (first | assumption | exact At.set_eq2 (by first | omega | (simp only [hset, hnew]; omega) | rfl | decide) | exact At.new_eq2 _ _ (by first | omega | (simp only [hset, hnew]; omega) | rfl | decide) | refine At.set_ne ?_ (by first | omega | (simp only [hset, hnew]; omega) | rfl | decide) | refine At.new_ne ?_)))) (hx := rfl) (hj := (by omega)) (hn := (by omega)) (r := ?_)
      rw [hp m (by omega)]
      refine tX12_won_94  (kt := fun c_94 => ?_) (kf := fun c_94 => ?_)
      · have z0 : p m = 0 := by
          have := Eq.mp (ci_le0 (by have := pl m; omega)) c_94
          omega
        refine tX12_won_133  (r := ?_)
        rw [show pvI (m + 1) + (-1) = pvI m from pv_dec m (by omega)]
        refine tX12_won_136 (r := ?_)
        exact ih (by omega) none (fun k k1 k2 => by
            by_cases y : k = m
            · rw [y]; exact z0
            · exact fd k (by omega) k2)
      · have z1 : 0 < p m := Nat.pos_of_ne_zero (fun z => c_94 (by rw [z]; decide))
        refine tX12_won_97  (r := ?_)
        refine tX12_won_99  (kf := fun c_ => by exfalso; exact c_ (show (-1 : Int32) < 0 by decide)) (kt := fun _ => ?_)
        refine tX12_won_129  (r := ?_)
        refine tX12_won_131  (r := ?_)
        refine tX12_won_133  (r := ?_)
        rw [show pvI (m + 1) + (-1) = pvI m from pv_dec m (by omega)]
        refine tX12_won_136 (r := ?_)
        exact ih (by omega) (some m) ⟨Nat.le_refl _, by omega, z1, fun k k1 k2 => by
            by_cases y : k = m
            · rw [y]; exact Nat.le_refl _
            · have z := fd k (by omega) k2
              unfold qle
              rw [z, Nat.zero_mul]
              exact Nat.zero_le _, fun k k1 k2 => by omega⟩
    | some j =>
      obtain ⟨f1, f2, f3, f4, f5⟩ := fd
      refine tX12_won_85  (r := ?_)
      refine tX12_won_87  (kt := fun c_ => by exfalso; exact absurd c_ (nI_pos (n := m) (by omega))) (kf := fun _ => ?_)
      refine tX12_won_90  (r := ?_)
      refine tX12_won_91  (r := ?_)
      refine tX12_won_93 (j := m) (ha := (by first | assumption | (repeat (first | assumption | exact At.set_eq2 (by first | omega | (simp only [hset, hnew]; omega) | rfl | decide) | exact At.new_eq2 _ _ (by first | omega | (simp only [hset, hnew]; omega) | rfl | decide) | refine At.set_ne ?_ (by first | omega | (simp only [hset, hnew]; omega) | rfl | decide) | refine At.new_ne ?_)))) (hx := rfl) (hj := (by omega)) (hn := (by omega)) (r := ?_)
      rw [hp m (by omega)]
      refine tX12_won_94  (kt := fun c_94 => ?_) (kf := fun c_94 => ?_)
      · have z0 : p m = 0 := by
          have := Eq.mp (ci_le0 (by have := pl m; omega)) c_94
          omega
        refine tX12_won_133  (r := ?_)
        rw [show pvI (m + 1) + (-1) = pvI m from pv_dec m (by omega)]
        refine tX12_won_136 (r := ?_)
        exact ih (by omega) (some j) ⟨by omega, f2, f3, fun k k1 k2 => by
            by_cases y : k = m
            · rw [y]
              unfold qle
              rw [z0, Nat.zero_mul]
              exact Nat.zero_le _
            · exact f4 k (by omega) k2, fun k k1 k2 => by
            by_cases y : k = m
            · rw [y]
              unfold qlt
              rw [z0, Nat.zero_mul]
              exact Nat.mul_pos f3 (Nat.succ_pos _)
            · exact f5 k (by omega) k2⟩
      · have z1 : 0 < p m := Nat.pos_of_ne_zero (fun z => c_94 (by rw [z]; decide))
        refine tX12_won_97  (r := ?_)
        refine tX12_won_99  (kt := fun c_ => by exfalso; exact absurd c_ (nI_pos (n := j) (by omega))) (kf := fun _ => ?_)
        refine tX12_won_102  (r := ?_)
        refine tX12_won_103  (r := ?_)
        refine tX12_won_105 (j := m) (ha := (by first | assumption | (repeat (first | assumption | exact At.set_eq2 (by first | omega | (simp only [hset, hnew]; omega) | rfl | decide) | exact At.new_eq2 _ _ (by first | omega | (simp only [hset, hnew]; omega) | rfl | decide) | refine At.set_ne ?_ (by first | omega | (simp only [hset, hnew]; omega) | rfl | decide) | refine At.new_ne ?_)))) (hx := rfl) (hj := (by omega)) (hn := (by omega)) (r := ?_)
        rw [hp m (by omega)]
        refine tX12_won_106  (r := ?_)
        refine tX12_won_108  (r := ?_)
        refine tX12_won_110 (j := j) (ha := (by first | assumption | (repeat (first | assumption | exact At.set_eq2 (by first | omega | (simp only [hset, hnew]; omega) | rfl | decide) | exact At.new_eq2 _ _ (by first | omega | (simp only [hset, hnew]; omega) | rfl | decide) | refine At.set_ne ?_ (by first | omega | (simp only [hset, hnew]; omega) | rfl | decide) | refine At.new_ne ?_)))) (hx := rfl) (hj := (by omega)) (hn := (by omega)) (r := ?_)
        rw [hw j f2]
        refine tX12_won_111  (r := ?_)
        refine tX12_won_112  (r := ?_)
        rw [nI_add]
        refine tX12_won_113  (r := ?_)
        rw [nI_mulN]
        refine tX12_won_114  (r := ?_)
        refine tX12_won_115  (r := ?_)
        refine tX12_won_117 (j := j) (ha := (by first | assumption | (repeat (first | assumption | exact At.set_eq2 (by first | omega | (simp only [hset, hnew]; omega) | rfl | decide) | exact At.new_eq2 _ _ (by first | omega | (simp only [hset, hnew]; omega) | rfl | decide) | refine At.set_ne ?_ (by first | omega | (simp only [hset, hnew]; omega) | rfl | decide) | refine At.new_ne ?_)))) (hx := rfl) (hj := f2) (hn := (by omega)) (r := ?_)
        rw [hp j f2]
        refine tX12_won_118  (r := ?_)
        refine tX12_won_120  (r := ?_)
        refine tX12_won_122 (j := m) (ha := (by first | assumption | (repeat (first | assumption | exact At.set_eq2 (by first | omega | (simp only [hset, hnew]; omega) | rfl | decide) | exact At.new_eq2 _ _ (by first | omega | (simp only [hset, hnew]; omega) | rfl | decide) | refine At.set_ne ?_ (by first | omega | (simp only [hset, hnew]; omega) | rfl | decide) | refine At.new_ne ?_)))) (hx := rfl) (hj := (by omega)) (hn := (by omega)) (r := ?_)
        rw [hw m (by omega)]
        refine tX12_won_123  (r := ?_)
        refine tX12_won_124  (r := ?_)
        rw [nI_add]
        refine tX12_won_125  (r := ?_)
        rw [nI_mulN]
        refine tX12_won_126  (kt := fun c_126 => ?_) (kf := fun c_126 => ?_)
        · have z2 : qlt p w m j := Eq.mp (ci_lt (mb m j) (mb j m)) c_126
          refine tX12_won_133  (r := ?_)
          rw [show pvI (m + 1) + (-1) = pvI m from pv_dec m (by omega)]
          refine tX12_won_136 (r := ?_)
          exact ih (by omega) (some j) ⟨by omega, f2, f3, fun k k1 k2 => by
              by_cases y : k = m
              · rw [y]; exact Nat.le_of_lt z2
              · exact f4 k (by omega) k2, fun k k1 k2 => by
              by_cases y : k = m
              · rw [y]; exact z2
              · exact f5 k (by omega) k2⟩
        · have z2 : qle p w j m := Nat.le_of_not_lt (fun z => c_126 (Eq.mpr (ci_lt (mb m j) (mb j m)) z))
          refine tX12_won_129  (r := ?_)
          refine tX12_won_131  (r := ?_)
          refine tX12_won_133  (r := ?_)
          rw [show pvI (m + 1) + (-1) = pvI m from pv_dec m (by omega)]
          refine tX12_won_136 (r := ?_)
          exact ih (by omega) (some m) ⟨Nat.le_refl _, by omega, z1, fun k k1 k2 => by
              by_cases y : k = m
              · rw [y]; exact Nat.le_refl _
              · exact qle_trans (f4 k (by omega) k2) z2, fun k k1 k2 => by omega⟩
set_option maxHeartbeats 4000000 in
theorem s_hdiv_l (wy1 : wy = 1) (n6 : n ≤ 6) (se9 : se ≤ 9) {p : Nat → Nat} {t f0 : Nat} (pl : ∀ k, p k ≤ 1200) (p0 : ∀ k, n ≤ k → k < 6 → p k = 0) (ef : fiN p 6 = some f0) (gw : h0.1 ≤ wr) (naw : a ≠ wr) {x0 x5 : Option Value} (o5 : ok1 x5 = true) : ∀ (nn i : Nat) (h9 : AH) (pf wf : Nat → Int32) (x7 x8 : Option Value), se ≤ i + nn → i ≤ se → JhR h9 x be n se wy b → At h9 a (.inl (0, n, .inl pf)) → (∀ k, k < n → pf k = nI (p k)) → At h9 wr (.inl (0, n + 1, .inl wf)) → (∀ k, k < n → wf k = nI (dvN p i k)) → be ≠ wr → Ch h0 h9 0 0 2 (2 * n + 1) → RQ G mX12_won d 68 [x0, some (.ref x), some (.ref a), some (.int (nI n)), some (.ref wr), x5, some (.int (nI i)), x7, x8] [] h9 (Rr fun r h1 => h0.1 ≤ r ∧ (∃ wf : Nat → Int32, At h1 r (.inl (0, n + 1, .inl wf)) ∧ ∀ k, k < n → wf k = nI (wo p t se wy k)) ∧ Ch h0 h1 0 0 2 (2 * n + 1)) := by
  have ex : ∀ (i : Nat) (h9 : AH) (pf wf : Nat → Int32) (x7 x8 : Option Value), i = se → JhR h9 x be n se wy b → At h9 a (.inl (0, n, .inl pf)) → (∀ k, k < n → pf k = nI (p k)) → At h9 wr (.inl (0, n + 1, .inl wf)) → (∀ k, k < n → wf k = nI (dvN p i k)) → be ≠ wr → Ch h0 h9 0 0 2 (2 * n + 1) → RQ G mX12_won d 68 [x0, some (.ref x), some (.ref a), some (.int (nI n)), some (.ref wr), x5, some (.int (nI i)), x7, x8] [] h9 (Rr fun r h1 => h0.1 ≤ r ∧ (∃ wf : Nat → Int32, At h1 r (.inl (0, n + 1, .inl wf)) ∧ ∀ k, k < n → wf k = nI (wo p t se wy k)) ∧ Ch h0 h1 0 0 2 (2 * n + 1)) := by
    intro i h9 pf wf x7 x8 hi jh aa hp aw hw nbw ch
    subst hi
    obtain ⟨j1, j2, j3, bf, j4, j5⟩ := id jh
    have f1 : f0 < n := fi_lt p n f0 (by rw [fi_six n6 p0]; exact ef)
    have f2 := fi_pos p 6 f0 ef
    have bn : bestD p (dvN p i) 6 < n := by
      obtain ⟨b1, b2⟩ := bestD_spec p (dvN p i) 6
      refine Classical.byContradiction (fun z => ?_)
      have z0 := p0 _ (Nat.le_of_not_lt z) (by omega)
      have z1 := (b1 f0 (by omega)).1
      unfold qle at z1
      rw [z0, Nat.zero_mul] at z1
      have : 0 < p f0 * (dvN p i (bestD p (dvN p i) 6) + 1) := Nat.mul_pos f2 (Nat.succ_pos _)
      omega
    refine tX12_won_68  (r := ?_)
    refine tX12_won_70  (r := ?_)
    refine tX12_won_71 (ha := (by first | assumption | (repeat (first | assumption | exact At.set_eq2 (by first | omega | (simp only [hset, hnew]; omega) | rfl | decide) | exact At.new_eq2 _ _ (by first | omega | (simp only [hset, hnew]; omega) | rfl | decide) | refine At.set_ne ?_ (by first | omega | (simp only [hset, hnew]; omega) | rfl | decide) | refine At.new_ne ?_)))) (hv := rfl) (r := ?_)
    refine tX12_won_74  (kf := fun c_ => by exfalso; (simp (disch := first | omega | decide) only [ci_lt, ci_le, ci_eq, ci_lt0, ci_ge0, ci_gt0, ci_le0, ci_eq0, ci_m1_lt, ci_m1_le, ci_lt_m1, ci_le_m1, ci_eq_m1, ci_m1_eq, not_true, not_false_iff, Nat.not_lt, Nat.not_le] at c_ <;> omega)) (kt := fun _ => ?_)
    refine tX12_won_154  (r := ?_)
    refine tX12_won_156  (hP := ?_)
    refine ⟨_, rfl, gw, ⟨wf, aw, fun k hk => ?_⟩, ch⟩
    rw [hw k hk]
    unfold wo
    rw [ef, wy1]
    rfl
  intro nn
  induction nn with
  | zero => exact fun i h9 pf wf x7 x8 h1_ h2_ => ex i h9 pf wf x7 x8 (by omega)
  | succ nn ih =>
    intro i h9 pf wf x7 x8 h1_ h2_ jh aa hp aw hw nbw ch
    by_cases hi : i = se
    · exact ex i h9 pf wf x7 x8 hi jh aa hp aw hw nbw ch
    have hi2 : i < se := by omega
    obtain ⟨j1, j2, j3, bf, j4, j5⟩ := id jh
    have f1 : f0 < n := fi_lt p n f0 (by rw [fi_six n6 p0]; exact ef)
    have f2 := fi_pos p 6 f0 ef
    have bn : bestD p (dvN p i) 6 < n := by
      obtain ⟨b1, b2⟩ := bestD_spec p (dvN p i) 6
      refine Classical.byContradiction (fun z => ?_)
      have z0 := p0 _ (Nat.le_of_not_lt z) (by omega)
      have z1 := (b1 f0 (by omega)).1
      unfold qle at z1
      rw [z0, Nat.zero_mul] at z1
      have : 0 < p f0 * (dvN p i (bestD p (dvN p i) 6) + 1) := Nat.mul_pos f2 (Nat.succ_pos _)
      omega
    refine tX12_won_68  (r := ?_)
    refine tX12_won_70  (r := ?_)
    refine tX12_won_71 (ha := (by first | assumption | (repeat (first | assumption | exact At.set_eq2 (by first | omega | (simp only [hset, hnew]; omega) | rfl | decide) | exact At.new_eq2 _ _ (by first | omega | (simp only [hset, hnew]; omega) | rfl | decide) | refine At.set_ne ?_ (by first | omega | (simp only [hset, hnew]; omega) | rfl | decide) | refine At.new_ne ?_)))) (hv := rfl) (r := ?_)
    refine tX12_won_74  (kt := fun c_ => by exfalso; (simp (disch := first | omega | decide) only [ci_lt, ci_le, ci_eq, ci_lt0, ci_ge0, ci_gt0, ci_le0, ci_eq0, ci_m1_lt, ci_m1_le, ci_lt_m1, ci_le_m1, ci_eq_m1, ci_m1_eq, not_true, not_false_iff, Nat.not_lt, Nat.not_le] at c_ <;> omega)) (kf := fun _ => ?_)
    refine tX12_won_77  (r := ?_)
    refine tX12_won_78  (r := ?_)
    refine tX12_won_80  (r := ?_)
    refine tX12_won_81  (r := ?_)
    refine tX12_won_82  (r := ?_)
    rw [show nI n - nI 1 = nI n + (-1) by rw [Int32.sub_eq_add_neg]; rfl, pv_dec n (by omega)]
    refine tX12_won_83  (r := ?_)
    refine s_hdiv_in (i := i) n6 aa hp pl p0 aw hw (fun k => Nat.le_trans (dvN_le p i k) (by omega)) f1 f2 ?_ n (Nat.le_refl _) none (fun k k1 k2 => by omega)
    refine tX12_won_139  (r := ?_)
    refine tX12_won_141  (r := ?_)
    refine tX12_won_143  (r := ?_)
    refine tX12_won_144 (ha := (by first | assumption | (repeat (first | assumption | exact At.set_eq2 (by first | omega | (simp only [hset, hnew]; omega) | rfl | decide) | exact At.new_eq2 _ _ (by first | omega | (simp only [hset, hnew]; omega) | rfl | decide) | refine At.set_ne ?_ (by first | omega | (simp only [hset, hnew]; omega) | rfl | decide) | refine At.new_ne ?_)))) (hx := rfl) (hj := (by omega)) (hn := (by omega)) (r := ?_)
    rw [hw _ bn]
    refine tX12_won_145  (r := ?_)
    refine tX12_won_146  (r := ?_)
    rw [nI_add]
    refine tX12_won_147 (ha := (by first | assumption | (repeat (first | assumption | exact At.set_eq2 (by first | omega | (simp only [hset, hnew]; omega) | rfl | decide) | exact At.new_eq2 _ _ (by first | omega | (simp only [hset, hnew]; omega) | rfl | decide) | refine At.set_ne ?_ (by first | omega | (simp only [hset, hnew]; omega) | rfl | decide) | refine At.new_ne ?_)))) (hx := rfl) (hj := (by omega)) (hn := (by omega)) (r := ?_)
    refine tX12_won_148 (ho := o5) (r := ?_)
    rw [nI_add]
    refine tX12_won_151 (r := ?_)
    refine ih (i + 1) _ pf _ _ _ (by omega) (by omega) ⟨j1, j2, At.set_ne j3 (j3.ne aw (by simp)), bf, At.set_ne j4 nbw, j5⟩ (At.set_ne aa naw) hp (At.set_eq2 aw.1) (fun k hk => ?_) nbw (Ch0.set ch gw)
    show (if k = bestD p (dvN p i) 6 then _ else wf k) = nI (if k = bestD p (dvN p i) 6 then dvN p i k + 1 else dvN p i k)
    by_cases z : k = bestD p (dvN p i) 6
    · rw [if_pos z, if_pos z, z]
    · rw [if_neg z, if_neg z]
      exact hw k hk
set_option maxHeartbeats 4000000 in
theorem s_hq_in (n6 : n ≤ 6) {i Q : Nat} (hi : i < n) (hQ : 0 < Q) (Q9 : Q ≤ 5000) (naw : a ≠ wr) (ga : h0.1 ≤ a) (gw : h0.1 ≤ wr) {x0 x1 x5 : Option Value} {P : OC → AH → Prop} : ∀ (q v m l : Nat) (h9 : AH) (pf wf : Nat → Int32), v / Q = q → v ≤ 1200 → m + q ≤ 2000 → q ≤ l → l ≤ 9 → At h9 a (.inl (0, n, .inl pf)) → At h9 wr (.inl (0, n + 1, .inl wf)) → pf i = nI v → wf i = nI m → (∀ (h1 : AH) (pf1 wf1 : Nat → Int32), At h1 a (.inl (0, n, .inl pf1)) → At h1 wr (.inl (0, n + 1, .inl wf1)) → (∀ k, k ≠ i → pf1 k = pf k ∧ wf1 k = wf k) → pf1 i = nI (v - q * Q) → wf1 i = nI (m + q) → h1.1 = h9.1 → h1.2.1 = h9.2.1 → (∀ j, j ≠ a → j ≠ wr → h1.2.2 j = h9.2.2 j) → RQ G mX12_won d 221 [x0, x1, some (.ref a), some (.int (nI n)), some (.ref wr), x5, some (.int (nI Q)), some (.int (nI (l - q))), some (.int (nI i))] [] h1 P) → RQ G mX12_won d 188 [x0, x1, some (.ref a), some (.int (nI n)), some (.ref wr), x5, some (.int (nI Q)), some (.int (nI l)), some (.int (nI i))] [] h9 P := by
  intro q
  induction q with
  | zero =>
    intro v m l h9 pf wf eq v9 m9 ql l9 aa aw hv hm r
    have vq : v < Q := (Nat.div_eq_zero_iff.mp eq).resolve_left (by omega)
    refine tX12_won_188  (r := ?_)
    refine tX12_won_189  (r := ?_)
    refine tX12_won_191 (j := i) (ha := (by first | assumption | (repeat (first | assumption | exact At.set_eq2 (by first | omega | (simp only [hset, hnew]; omega) | rfl | decide) | exact At.new_eq2 _ _ (by first | omega | (simp only [hset, hnew]; omega) | rfl | decide) | refine At.set_ne ?_ (by first | omega | (simp only [hset, hnew]; omega) | rfl | decide) | refine At.new_ne ?_)))) (hx := rfl) (hj := hi) (hn := (by omega)) (r := ?_)
    rw [hv]
    refine tX12_won_192  (r := ?_)
    refine tX12_won_194  (kf := fun c_ => by exfalso; (simp (disch := first | omega | decide) only [ci_lt, ci_le, ci_eq, ci_lt0, ci_ge0, ci_gt0, ci_le0, ci_eq0, ci_m1_lt, ci_m1_le, ci_lt_m1, ci_le_m1, ci_eq_m1, ci_m1_eq, not_true, not_false_iff, Nat.not_lt, Nat.not_le] at c_ <;> omega)) (kt := fun _ => ?_)
    exact r h9 pf wf aa aw (fun _ _ => ⟨rfl, rfl⟩) (by rw [hv, Nat.zero_mul, Nat.sub_zero]) (by rw [hm]; rfl) rfl rfl (fun _ _ _ => rfl)
  | succ q ih =>
    intro v m l h9 pf wf eq v9 m9 ql l9 aa aw hv hm r
    have vq : Q ≤ v := Nat.le_of_not_lt (fun z => by rw [Nat.div_eq_of_lt z] at eq; omega)
    have e2 : (v - Q) / Q = q := by
      have z : (v - Q + Q) / Q = (v - Q) / Q + 1 := Nat.add_div_right _ hQ
      rw [Nat.sub_add_cancel vq, eq] at z
      omega
    have e3 : (q + 1) * Q = q * Q + Q := Nat.succ_mul q Q
    refine tX12_won_188  (r := ?_)
    refine tX12_won_189  (r := ?_)
    refine tX12_won_191 (j := i) (ha := (by first | assumption | (repeat (first | assumption | exact At.set_eq2 (by first | omega | (simp only [hset, hnew]; omega) | rfl | decide) | exact At.new_eq2 _ _ (by first | omega | (simp only [hset, hnew]; omega) | rfl | decide) | refine At.set_ne ?_ (by first | omega | (simp only [hset, hnew]; omega) | rfl | decide) | refine At.new_ne ?_)))) (hx := rfl) (hj := hi) (hn := (by omega)) (r := ?_)
    rw [hv]
    refine tX12_won_192  (r := ?_)
    refine tX12_won_194  (kt := fun c_ => by exfalso; (simp (disch := first | omega | decide) only [ci_lt, ci_le, ci_eq, ci_lt0, ci_ge0, ci_gt0, ci_le0, ci_eq0, ci_m1_lt, ci_m1_le, ci_lt_m1, ci_le_m1, ci_eq_m1, ci_m1_eq, not_true, not_false_iff, Nat.not_lt, Nat.not_le] at c_ <;> omega)) (kf := fun _ => ?_)
    refine tX12_won_197  (r := ?_)
    refine tX12_won_198  (r := ?_)
    refine tX12_won_200  (r := ?_)
    refine tX12_won_201 (j := i) (ha := (by first | assumption | (repeat (first | assumption | exact At.set_eq2 (by first | omega | (simp only [hset, hnew]; omega) | rfl | decide) | exact At.new_eq2 _ _ (by first | omega | (simp only [hset, hnew]; omega) | rfl | decide) | refine At.set_ne ?_ (by first | omega | (simp only [hset, hnew]; omega) | rfl | decide) | refine At.new_ne ?_)))) (hx := rfl) (hj := hi) (hn := (by omega)) (r := ?_)
    rw [hv]
    refine tX12_won_202  (r := ?_)
    refine tX12_won_204  (r := ?_)
    rw [nI_subN vq (by omega)]
    refine tX12_won_205 (j := i) (ha := (by first | assumption | (repeat (first | assumption | exact At.set_eq2 (by first | omega | (simp only [hset, hnew]; omega) | rfl | decide) | exact At.new_eq2 _ _ (by first | omega | (simp only [hset, hnew]; omega) | rfl | decide) | refine At.set_ne ?_ (by first | omega | (simp only [hset, hnew]; omega) | rfl | decide) | refine At.new_ne ?_)))) (hx := rfl) (hj := hi) (hn := (by omega)) (r := ?_)
    refine tX12_won_206  (r := ?_)
    refine tX12_won_208  (r := ?_)
    refine tX12_won_210  (r := ?_)
    refine tX12_won_211 (j := i) (ha := (At.set_ne aw (Ne.symm naw))) (hx := rfl) (hj := (by omega)) (hn := (by omega)) (r := ?_)
    rw [hm]
    refine tX12_won_212  (r := ?_)
    refine tX12_won_213  (r := ?_)
    rw [nI_add]
    refine tX12_won_214 (j := i) (ha := (At.set_ne aw (Ne.symm naw))) (hx := rfl) (hj := (by omega)) (hn := (by omega)) (r := ?_)
    refine tX12_won_215  (r := ?_)
    rw [show nI l + (-1) = nI (l - 1) from nI_dc1 (by omega)]
    refine tX12_won_218 (r := ?_)
    refine ih (v - Q) (m + 1) (l - 1) _ _ _ e2 (by omega) (by omega) (by omega) (by omega) (At.set_ne (At.set_eq2 aa.1) naw) (At.set_eq2 aw.1) (if_pos rfl) (if_pos rfl) (fun h1 pf1 wf1 b1 b2 b3 b4 b5 b6 b7 b8 => ?_)
    rw [show l - 1 - q = l - (q + 1) by omega]
    refine r h1 pf1 wf1 b1 b2 (fun k hk => ?_) (by rw [b4]; congr 1; omega) (by rw [b5]; congr 1; omega) b6 b7 (fun j j1 j2 => ?_)
    · obtain ⟨c1, c2⟩ := b3 k hk
      exact ⟨c1.trans (if_neg hk), c2.trans (if_neg hk)⟩
    · exact (b8 j j1 j2).trans ((if_neg j2).trans (if_neg j1))
end HW
