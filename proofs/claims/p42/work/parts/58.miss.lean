/-! how few beans would do -/
theorem fi_spec {p : Nat → Nat} : ∀ {n m : Nat}, fiN p n = some m → m < n ∧ 0 < p m ∧ ∀ j, j < n → p j ≤ p m ∧ (j < m → p j < p m)
  | 0, _, h => nomatch h
  | n + 1, m, h => by
    rw [fi_step] at h
    by_cases c : mo p (fiN p n) < p n
    · rw [if_pos c] at h
      cases h
      refine ⟨Nat.lt_succ_self _, Nat.lt_of_le_of_lt (Nat.zero_le _) c, fun j hj => ?_⟩
      by_cases e : j = n
      · subst e
        exact ⟨Nat.le_refl _, fun z => absurd z (Nat.lt_irrefl _)⟩
      · have := fi_max p n j (by omega)
        exact ⟨by omega, fun _ => by omega⟩
    · rw [if_neg c] at h
      obtain ⟨h1, h2, h3⟩ := fi_spec h
      rw [h] at c
      have c : ¬ p m < p n := c
      refine ⟨by omega, h2, fun j hj => ?_⟩
      by_cases e : j = n
      · subst e
        exact ⟨by omega, fun z => by omega⟩
      · exact h3 j (by omega)
theorem fi_iff {p : Nat → Nat} {n m : Nat} : fiN p n = some m ↔ m < n ∧ 0 < p m ∧ ∀ j, j < n → p j ≤ p m ∧ (j < m → p j < p m) := by
  refine ⟨fi_spec, fun h => ?_⟩
  obtain ⟨h1, h2, h3⟩ := h
  cases e : fiN p n with
  | none =>
    have := fi_max p n m h1
    rw [e] at this
    exact absurd h2 (Nat.not_lt.mpr this)
  | some k =>
    obtain ⟨k1, k2, k3⟩ := fi_spec e
    have a := h3 k k1
    have b := k3 m h1
    by_cases z : m < k
    · have := b.2 z
      omega
    · by_cases z2 : k < m
      · have := a.2 z2
        omega
      · rw [show k = m by omega]
theorem su_mem {f : Nat → Nat} : ∀ {n a : Nat}, a < n → f a ≤ su f n
  | n + 1, a, h => by
    show f a ≤ su f n + f n
    by_cases e : a = n
    · rw [e]
      exact Nat.le_add_left _ _
    · have := su_mem (f := f) (n := n) (a := a) (by omega)
      omega
theorem su_two {f : Nat → Nat} : ∀ {n a b : Nat}, a < n → b < n → ¬ a = b → f a + f b ≤ su f n
  | n + 1, a, b, h1, h2, h3 => by
    show f a + f b ≤ su f n + f n
    by_cases e : a = n
    · have := su_mem (f := f) (n := n) (a := b) (by omega)
      rw [e]
      omega
    · by_cases e2 : b = n
      · have := su_mem (f := f) (n := n) (a := a) (by omega)
        rw [e2]
        omega
      · have := su_two (f := f) (n := n) (a := a) (b := b) (by omega) (by omega) h3
        omega
/-- so many are missing, as far as the first n tell -/
def msN (p : Nat → Nat) (f m : Nat) : Nat → Nat
  | 0 => (p f - p m + (if f < m then 1 else 0) + 1) / 2
  | n + 1 => if n = f ∨ n = m then msN p f m n else max (msN p f m n) (p n + (if n < m then 1 else 0) - p m)
theorem msN_iff {p : Nat → Nat} {f m k : Nat} : ∀ n, msN p f m n ≤ k ↔ (p f - p m + (if f < m then 1 else 0) + 1) / 2 ≤ k ∧ ∀ j, j < n → ¬ j = f → ¬ j = m → p j + (if j < m then 1 else 0) - p m ≤ k
  | 0 => ⟨fun h => ⟨h, fun j hj => absurd hj (Nat.not_lt_zero j)⟩, fun h => h.1⟩
  | n + 1 => by
    by_cases c : n = f ∨ n = m
    · have e : msN p f m (n + 1) = msN p f m n := if_pos c
      rw [e, msN_iff n]
      refine ⟨fun h => ⟨h.1, fun j hj j1 j2 => h.2 j (by omega) j1 j2⟩, fun h => ⟨h.1, fun j hj => h.2 j (by omega)⟩⟩
    · have e : msN p f m (n + 1) = max (msN p f m n) (p n + (if n < m then 1 else 0) - p m) := if_neg c
      rw [e, Nat.max_le, msN_iff n]
      refine ⟨fun h => ⟨h.1.1, fun j hj j1 j2 => ?_⟩, fun h => ⟨⟨h.1, fun j hj => h.2 j (by omega)⟩, h.2 n (by omega) (fun z => c (Or.inl z)) (fun z => c (Or.inr z))⟩⟩
      by_cases z : j = n
      · rw [z]
        exact h.2
      · exact h.1.2 j (by omega) j1 j2
theorem msN_le {p : Nat → Nat} {f m : Nat} (hp : ∀ k, k < 6 → p k ≤ 1200) (hf : f < 6) {n : Nat} (hn : n ≤ 6) : msN p f m n ≤ 1300 := (msN_iff n).mpr ⟨by have := hp f hf; split <;> omega, fun j hj _ _ => by have := hp j (by omega); split <;> omega⟩
/-- k beans of the first alliance go to another one -/
def pkM (p : Nat → Nat) (f m k : Nat) : Nat → Nat := fun j => if j = f then p f - k else if j = m then p m + k else p j
theorem ms_first {p : Nat → Nat} {f m k : Nat} (e : fiN p 6 = some f) (hm : m < 6) (hne : ¬ m = f) (hk : k ≤ p f) : fiN (pkM p f m k) 6 = some m ↔ msN p f m 6 ≤ k := by
  obtain ⟨f6, f0, fm⟩ := fi_spec e
  have fm1 := fm m hm
  have pf : pkM p f m k f = p f - k := if_pos rfl
  have pm : pkM p f m k m = p m + k := by
    show (if m = f then _ else if m = m then p m + k else _) = _
    rw [if_neg hne, if_pos rfl]
  have pj : ∀ j, ¬ j = f → ¬ j = m → pkM p f m k j = p j := fun j j1 j2 => by
    show (if j = f then _ else if j = m then _ else p j) = _
    rw [if_neg j1, if_neg j2]
  rw [fi_iff, msN_iff, pm]
  constructor
  · intro h
    obtain ⟨-, h2, h3⟩ := h
    have h4 := h3 f f6
    rw [pf] at h4
    refine ⟨?_, fun j hj j1 j2 => ?_⟩
    · by_cases z : f < m
      · have := h4.2 z
        rw [if_pos z]
        omega
      · rw [if_neg z]
        omega
    · have h5 := h3 j hj
      rw [pj j j1 j2] at h5
      by_cases z : j < m
      · have := h5.2 z
        rw [if_pos z]
        omega
      · rw [if_neg z]
        omega
  · intro h
    obtain ⟨h1, h2⟩ := h
    have k1 : 1 ≤ k := by
      by_cases z : f < m
      · rw [if_pos z] at h1
        omega
      · rw [if_neg z] at h1
        have := fm1.2 (by omega)
        omega
    refine ⟨hm, by omega, fun j hj => ?_⟩
    by_cases j1 : j = f
    · subst j1
      rw [pf]
      by_cases z : j < m
      · rw [if_pos z] at h1
        exact ⟨by omega, fun _ => by omega⟩
      · rw [if_neg z] at h1
        exact ⟨by omega, fun y => absurd y z⟩
    · by_cases j2 : j = m
      · subst j2
        rw [pm]
        exact ⟨Nat.le_refl _, fun y => absurd y (Nat.lt_irrefl _)⟩
      · rw [pj j j1 j2]
        have h3 := h2 j hj j1 j2
        by_cases z : j < m
        · rw [if_pos z] at h3
          exact ⟨by omega, fun _ => by omega⟩
        · rw [if_neg z] at h3
          exact ⟨by omega, fun y => absurd y z⟩
/-- how few beans would make the alliance of m the first one -/
def bw (p : Nat → Nat) (m : Nat) : Option Nat := match fiN p 6 with
  | none => none
  | some f => if m = f then some 0 else if msN p f m 6 ≤ p f then some (msN p f m 6) else none
theorem bw_none {p : Nat → Nat} {m : Nat} (e : fiN p 6 = none) : bw p m = none := by
  unfold bw
  rw [e]
theorem bw_some {p : Nat → Nat} {m f : Nat} (e : fiN p 6 = some f) : bw p m = if m = f then some 0 else if msN p f m 6 ≤ p f then some (msN p f m 6) else none := by
  unfold bw
  rw [e]
theorem bw_le {p : Nat → Nat} {m k : Nat} (hp : ∀ k, k < 6 → p k ≤ 1200) (h : bw p m = some k) : k ≤ 1200 := by
  cases e : fiN p 6 with
  | none =>
    rw [bw_none e] at h
    exact nomatch h
  | some f =>
    have f1 := hp f (fi_lt _ _ _ e)
    rw [bw_some e] at h
    by_cases c1 : m = f
    · rw [if_pos c1] at h
      cases h
      exact Nat.zero_le _
    · rw [if_neg c1] at h
      by_cases c2 : msN p f m 6 ≤ p f
      · rw [if_pos c2] at h
        cases h
        omega
      · rw [if_neg c2] at h
        exact nomatch h
theorem nI_sac {x y c : Nat} (hx : x ≤ 5000) (hy : y ≤ 5000) (hc : c ≤ 5000) : (nI x - nI y + nI c).toInt = (x : Int) - y + c := by
  have e1 : (nI x - nI y).toInt = (x : Int) - y := by
    rw [Int32.toInt_sub, nI_toInt (by omega), nI_toInt (by omega), Int.bmod_eq_of_le (by omega) (by omega)]
  rw [Int32.toInt_add, e1, nI_toInt (by omega), Int.bmod_eq_of_le (by omega) (by omega)]
theorem nI_maxS {a x y c : Nat} (ha : a ≤ 5000) (hx : x ≤ 5000) (hy : y ≤ 5000) (hc : c ≤ 5000) : (if nI a < nI x - nI y + nI c then nI x - nI y + nI c else nI a) = nI (max a (x + c - y)) := by
  have e1 := nI_sac hx hy hc
  have e2 := nI_toInt (n := a) (by omega)
  by_cases z : (a : Int) < (x : Int) - y + c
  · rw [if_pos (by rw [Int32.lt_iff_toInt_lt, e1, e2]; exact z), Nat.max_eq_right (by omega)]
    apply Int32.toInt_inj.mp
    rw [e1, nI_toInt (by omega)]
    omega
  · rw [if_neg (by rw [Int32.lt_iff_toInt_lt, e1, e2]; exact z), Nat.max_eq_left (by omega)]
section BW
variable {G : GT} {d : Nat} {s : ST} {h0 h : AH} {bk dr : Nat}

set_option maxHeartbeats 4000000 in
set_option maxRecDepth 100000 in
theorem s_missing_l {j : Nat} {bf p w l : Nat → Int32} {se : Int32} {wy : Nat} {tu ma co : Int32} {q : Nat → Nat} {f m : Nat} (hd : 1 ≤ d) (jc : JarC h j bf p w l se wy tu (nI f) ma co) (hp : ∀ k, k < 6 → p k = nI (q k)) (hq : ∀ k, k < 6 → q k ≤ 1200) (e : fiN q 6 = some f) (hm : m < 6) (hne : ¬ m = f) : ∀ (n i : Nat) (x4 : Option Value), 6 ≤ i + n → i ≤ 6 → True → RQ G mX4_beansMissing d 67 [some (.ref j), some (.int (nI m)), some (.int (nI (msN q f m i))), some (.int (nI i)), x4] [] h (Ri fun v h1 => v = oI (bw q m) ∧ h1 = h) := by
  have ex : ∀ (i : Nat) (x4 : Option Value), i = 6 → True → RQ G mX4_beansMissing d 67 [some (.ref j), some (.int (nI m)), some (.int (nI (msN q f m i))), some (.int (nI i)), x4] [] h (Ri fun v h1 => v = oI (bw q m) ∧ h1 = h) := by
    intro i x4 hi _t
    subst hi
    obtain ⟨b0, b1, b2, b3, b4⟩ := id jc
    have f6 := fi_lt _ _ _ e
    have w1 := hq f f6
    have w2 := hq m hm
    have w5 := msN_le (m := m) hq f6 (n := 6) (by omega)
    refine tX4_beansMissing_67  (r := ?_)
    refine tX4_beansMissing_68  (r := ?_)
    refine tX4_beansMissing_70  (kf := fun c_ => by exfalso; exact c_ (by decide)) (kt := fun _ => ?_)
    refine tX4_beansMissing_125  (r := ?_)
    refine tX4_beansMissing_126  (r := ?_)
    refine tX4_beansMissing_127 (ha := (by first | assumption | (repeat (first | assumption | exact At.set_eq2 (by first | omega | (simp only [hset, hnew]; omega) | rfl | decide) | exact At.new_eq2 _ _ (by first | omega | (simp only [hset, hnew]; omega) | rfl | decide) | refine At.set_ne ?_ (by first | omega | (simp only [hset, hnew]; omega) | rfl | decide) | refine At.new_ne ?_)))) (hv := rfl) (r := ?_)
    refine tX4_beansMissing_130  (r := ?_)
    refine tX4_beansMissing_131 (ha := (by first | assumption | (repeat (first | assumption | exact At.set_eq2 (by first | omega | (simp only [hset, hnew]; omega) | rfl | decide) | exact At.new_eq2 _ _ (by first | omega | (simp only [hset, hnew]; omega) | rfl | decide) | refine At.set_ne ?_ (by first | omega | (simp only [hset, hnew]; omega) | rfl | decide) | refine At.new_ne ?_)))) (hv := rfl) (r := ?_)
    refine tX4_beansMissing_134 (ha := (by first | assumption | (repeat (first | assumption | exact At.set_eq2 (by first | omega | (simp only [hset, hnew]; omega) | rfl | decide) | exact At.new_eq2 _ _ (by first | omega | (simp only [hset, hnew]; omega) | rfl | decide) | refine At.set_ne ?_ (by first | omega | (simp only [hset, hnew]; omega) | rfl | decide) | refine At.new_ne ?_)))) (hx := rfl) (hj := f6) (hn := (by decide)) (r := ?_)
    rw [hp _ f6]
    refine tX4_beansMissing_135  (kt := fun c_135 => ?_) (kf := fun c_135 => ?_)
    · have v1 : bw q m = none := by
        rw [bw_some e, if_neg hne, if_neg (by have := (nI_ltI (by omega) (by omega)).mp c_135; omega)]
      refine tX4_beansMissing_142  (r := ?_)
      refine tX4_beansMissing_143  (hP := ?_)
      exact ⟨_, rfl, by rw [v1]; rfl, rfl⟩
    · have v1 : bw q m = some (msN q f m 6) := by
        rw [bw_some e, if_neg hne, if_pos (Nat.le_of_not_lt (fun z => c_135 ((nI_ltI (by omega) (by omega)).mpr z)))]
      refine tX4_beansMissing_138  (r := ?_)
      refine tX4_beansMissing_139 (r := ?_)
      refine tX4_beansMissing_143  (hP := ?_)
      exact ⟨_, rfl, by rw [v1]; rfl, rfl⟩
  intro n
  induction n with
  | zero => exact fun i x4 h1_ h2_ => ex i x4 (by omega)
  | succ n ih =>
    intro i x4 h1_ h2_ _t
    by_cases hi : i = 6
    · exact ex i x4 hi trivial
    have hi2 : i < 6 := by omega
    obtain ⟨b0, b1, b2, b3, b4⟩ := id jc
    have f6 := fi_lt _ _ _ e
    have w1 := hq f f6
    have w2 := hq m hm
    have w5 := msN_le (m := m) hq f6 (n := 6) (by omega)
    refine tX4_beansMissing_67  (r := ?_)
    refine tX4_beansMissing_68  (r := ?_)
    refine tX4_beansMissing_70  (kt := fun c_ => by exfalso; exact absurd ((nI_leI (by decide) (by omega)).mp c_) (by omega)) (kf := fun _ => ?_)
    refine tX4_beansMissing_73  (r := ?_)
    refine tX4_beansMissing_74  (r := ?_)
    refine tX4_beansMissing_75 (ha := (by first | assumption | (repeat (first | assumption | exact At.set_eq2 (by first | omega | (simp only [hset, hnew]; omega) | rfl | decide) | exact At.new_eq2 _ _ (by first | omega | (simp only [hset, hnew]; omega) | rfl | decide) | refine At.set_ne ?_ (by first | omega | (simp only [hset, hnew]; omega) | rfl | decide) | refine At.new_ne ?_)))) (hv := rfl) (r := ?_)
    refine tX4_beansMissing_78  (kt := fun c_78 => ?_) (kf := fun c_78 => ?_)
    · have e_ : msN q f m (i + 1) = msN q f m i := if_pos (Or.inl ((nI_eq (by omega) (by omega)).mp c_78))
      refine tX4_beansMissing_119  (r := ?_)
      rw [nI_add]
      refine tX4_beansMissing_122 (r := ?_)
      have key := fun x_ => ih (i + 1) x_ (by omega) (by omega) trivial
      rw [e_] at key
      exact key _
    · have n1 : ¬ i = f := fun z => c_78 (by rw [z])
      refine tX4_beansMissing_81  (r := ?_)
      refine tX4_beansMissing_82  (r := ?_)
      refine tX4_beansMissing_83  (kt := fun c_83 => ?_) (kf := fun c_83 => ?_)
      · have e_ : msN q f m (i + 1) = msN q f m i := if_pos (Or.inr ((nI_eq (by omega) (by omega)).mp c_83))
        refine tX4_beansMissing_119  (r := ?_)
        rw [nI_add]
        refine tX4_beansMissing_122 (r := ?_)
        have key := fun x_ => ih (i + 1) x_ (by omega) (by omega) trivial
        rw [e_] at key
        exact key _
      · have n2 : ¬ i = m := fun z => c_83 (by rw [z])
        have w3 := hq i hi2
        have w4 := msN_le (m := m) hq f6 (n := i) (by omega)
        refine tX4_beansMissing_86  (r := ?_)
        refine tX4_beansMissing_87 (ha := (by first | assumption | (repeat (first | assumption | exact At.set_eq2 (by first | omega | (simp only [hset, hnew]; omega) | rfl | decide) | exact At.new_eq2 _ _ (by first | omega | (simp only [hset, hnew]; omega) | rfl | decide) | refine At.set_ne ?_ (by first | omega | (simp only [hset, hnew]; omega) | rfl | decide) | refine At.new_ne ?_)))) (hv := rfl) (r := ?_)
        refine tX4_beansMissing_90  (r := ?_)
        refine tX4_beansMissing_91 (ha := (by first | assumption | (repeat (first | assumption | exact At.set_eq2 (by first | omega | (simp only [hset, hnew]; omega) | rfl | decide) | exact At.new_eq2 _ _ (by first | omega | (simp only [hset, hnew]; omega) | rfl | decide) | refine At.set_ne ?_ (by first | omega | (simp only [hset, hnew]; omega) | rfl | decide) | refine At.new_ne ?_)))) (hx := rfl) (hj := hi2) (hn := (by decide)) (r := ?_)
        rw [hp _ hi2]
        refine tX4_beansMissing_92  (r := ?_)
        refine tX4_beansMissing_93 (ha := (by first | assumption | (repeat (first | assumption | exact At.set_eq2 (by first | omega | (simp only [hset, hnew]; omega) | rfl | decide) | exact At.new_eq2 _ _ (by first | omega | (simp only [hset, hnew]; omega) | rfl | decide) | refine At.set_ne ?_ (by first | omega | (simp only [hset, hnew]; omega) | rfl | decide) | refine At.new_ne ?_)))) (hv := rfl) (r := ?_)
        refine tX4_beansMissing_96  (r := ?_)
        refine tX4_beansMissing_97 (ha := (by first | assumption | (repeat (first | assumption | exact At.set_eq2 (by first | omega | (simp only [hset, hnew]; omega) | rfl | decide) | exact At.new_eq2 _ _ (by first | omega | (simp only [hset, hnew]; omega) | rfl | decide) | refine At.set_ne ?_ (by first | omega | (simp only [hset, hnew]; omega) | rfl | decide) | refine At.new_ne ?_)))) (hx := rfl) (hj := hm) (hn := (by decide)) (r := ?_)
        rw [hp _ hm]
        refine tX4_beansMissing_98  (r := ?_)
        refine tX4_beansMissing_99  (r := ?_)
        refine tX4_beansMissing_100  (r := ?_)
        refine tX4_beansMissing_101  (kt := fun c_101 => ?_) (kf := fun c_101 => ?_)
        · have e_ : msN q f m (i + 1) = max (msN q f m i) (q i + 0 - q m) := by
            have z : ¬ i < m := Nat.not_lt.mpr ((nI_leI (by omega) (by omega)).mp c_101)
            show (if i = f ∨ i = m then _ else max (msN q f m i) (q i + (if i < m then 1 else 0) - q m)) = _
            rw [if_neg (fun y => y.elim n1 n2), if_neg z]
          refine tX4_beansMissing_108  (r := ?_)
          refine tX4_beansMissing_109  (r := ?_)
          refine tX4_beansMissing_110  (r := ?_)
          refine tX4_beansMissing_112  (r := ?_)
          refine tX4_beansMissing_113  (r := ?_)
          refine tX4_beansMissing_115 (hd := (by omega)) (r := ?_)
          rw [nI_maxS (by omega) (by omega) (by omega) (by decide), ← e_]
          refine tX4_beansMissing_118  (r := ?_)
          refine tX4_beansMissing_119  (r := ?_)
          rw [nI_add]
          refine tX4_beansMissing_122 (r := ?_)
          exact ih (i + 1) _ (by omega) (by omega) trivial
        · have e_ : msN q f m (i + 1) = max (msN q f m i) (q i + 1 - q m) := by
            have z : i < m := Nat.lt_of_not_le (fun y => c_101 ((nI_leI (by omega) (by omega)).mpr y))
            show (if i = f ∨ i = m then _ else max (msN q f m i) (q i + (if i < m then 1 else 0) - q m)) = _
            rw [if_neg (fun y => y.elim n1 n2), if_pos z]
          refine tX4_beansMissing_104  (r := ?_)
          refine tX4_beansMissing_105 (r := ?_)
          refine tX4_beansMissing_109  (r := ?_)
          refine tX4_beansMissing_110  (r := ?_)
          refine tX4_beansMissing_112  (r := ?_)
          refine tX4_beansMissing_113  (r := ?_)
          refine tX4_beansMissing_115 (hd := (by omega)) (r := ?_)
          rw [nI_maxS (by omega) (by omega) (by omega) (by decide), ← e_]
          refine tX4_beansMissing_118  (r := ?_)
          refine tX4_beansMissing_119  (r := ?_)
          rw [nI_add]
          refine tX4_beansMissing_122 (r := ?_)
          exact ih (i + 1) _ (by omega) (by omega) trivial

set_option maxHeartbeats 4000000 in
set_option maxRecDepth 100000 in
theorem s_missing_some {j : Nat} {bf p w l : Nat → Int32} {se : Int32} {wy : Nat} {tu ma co : Int32} {q : Nat → Nat} {f m : Nat} (hd : 1 ≤ d) (jc : JarC h j bf p w l se wy tu (nI f) ma co) (hp : ∀ k, k < 6 → p k = nI (q k)) (hq : ∀ k, k < 6 → q k ≤ 1200) (e : fiN q 6 = some f) (hm : m < 6) : RQ G mX4_beansMissing d 0 [some (.ref j), some (.int (nI m)), none, none, none] [] h (Ri fun v h1 => v = oI (bw q m) ∧ h1 = h) := by
  obtain ⟨b0, b1, b2, b3, b4⟩ := id jc
  have f6 := fi_lt _ _ _ e
  have w1 := hq f f6
  have w2 := hq m hm
  have w3 := ((fi_spec e).2.2 m hm).1
  refine tX4_beansMissing_0  (r := ?_)
  refine tX4_beansMissing_1 (ha := (by first | assumption | (repeat (first | assumption | exact At.set_eq2 (by first | omega | (simp only [hset, hnew]; omega) | rfl | decide) | exact At.new_eq2 _ _ (by first | omega | (simp only [hset, hnew]; omega) | rfl | decide) | refine At.set_ne ?_ (by first | omega | (simp only [hset, hnew]; omega) | rfl | decide) | refine At.new_ne ?_)))) (hv := rfl) (r := ?_)
  refine tX4_beansMissing_4  (r := ?_)
  refine tX4_beansMissing_5  (kt := fun c_ => by exfalso; exact absurd c_ (show ¬ nI f = -1 by simp only [ci_eq_m1 (show f < 2147483648 by omega), not_false_iff])) (kf := fun _ => ?_)
  refine tX4_beansMissing_8  (r := ?_)
  refine tX4_beansMissing_9  (r := ?_)
  refine tX4_beansMissing_10 (ha := (by first | assumption | (repeat (first | assumption | exact At.set_eq2 (by first | omega | (simp only [hset, hnew]; omega) | rfl | decide) | exact At.new_eq2 _ _ (by first | omega | (simp only [hset, hnew]; omega) | rfl | decide) | refine At.set_ne ?_ (by first | omega | (simp only [hset, hnew]; omega) | rfl | decide) | refine At.new_ne ?_)))) (hv := rfl) (r := ?_)
  refine tX4_beansMissing_13  (kt := fun c_13 => ?_) (kf := fun c_13 => ?_)
  · have c_13 : ¬ m = f := fun z => c_13 (by rw [z])
    refine tX4_beansMissing_30  (r := ?_)
    refine tX4_beansMissing_31 (ha := (by first | assumption | (repeat (first | assumption | exact At.set_eq2 (by first | omega | (simp only [hset, hnew]; omega) | rfl | decide) | exact At.new_eq2 _ _ (by first | omega | (simp only [hset, hnew]; omega) | rfl | decide) | refine At.set_ne ?_ (by first | omega | (simp only [hset, hnew]; omega) | rfl | decide) | refine At.new_ne ?_)))) (hv := rfl) (r := ?_)
    refine tX4_beansMissing_34  (r := ?_)
    refine tX4_beansMissing_35 (ha := (by first | assumption | (repeat (first | assumption | exact At.set_eq2 (by first | omega | (simp only [hset, hnew]; omega) | rfl | decide) | exact At.new_eq2 _ _ (by first | omega | (simp only [hset, hnew]; omega) | rfl | decide) | refine At.set_ne ?_ (by first | omega | (simp only [hset, hnew]; omega) | rfl | decide) | refine At.new_ne ?_)))) (hv := rfl) (r := ?_)
    refine tX4_beansMissing_38 (ha := (by first | assumption | (repeat (first | assumption | exact At.set_eq2 (by first | omega | (simp only [hset, hnew]; omega) | rfl | decide) | exact At.new_eq2 _ _ (by first | omega | (simp only [hset, hnew]; omega) | rfl | decide) | refine At.set_ne ?_ (by first | omega | (simp only [hset, hnew]; omega) | rfl | decide) | refine At.new_ne ?_)))) (hx := rfl) (hj := f6) (hn := (by decide)) (r := ?_)
    rw [hp _ f6]
    refine tX4_beansMissing_39  (r := ?_)
    refine tX4_beansMissing_40 (ha := (by first | assumption | (repeat (first | assumption | exact At.set_eq2 (by first | omega | (simp only [hset, hnew]; omega) | rfl | decide) | exact At.new_eq2 _ _ (by first | omega | (simp only [hset, hnew]; omega) | rfl | decide) | refine At.set_ne ?_ (by first | omega | (simp only [hset, hnew]; omega) | rfl | decide) | refine At.new_ne ?_)))) (hv := rfl) (r := ?_)
    refine tX4_beansMissing_43  (r := ?_)
    refine tX4_beansMissing_44 (ha := (by first | assumption | (repeat (first | assumption | exact At.set_eq2 (by first | omega | (simp only [hset, hnew]; omega) | rfl | decide) | exact At.new_eq2 _ _ (by first | omega | (simp only [hset, hnew]; omega) | rfl | decide) | refine At.set_ne ?_ (by first | omega | (simp only [hset, hnew]; omega) | rfl | decide) | refine At.new_ne ?_)))) (hx := rfl) (hj := hm) (hn := (by decide)) (r := ?_)
    rw [hp _ hm]
    refine tX4_beansMissing_45  (r := ?_)
    rw [nI_subN (by omega) (by omega)]
    refine tX4_beansMissing_46  (r := ?_)
    refine tX4_beansMissing_47 (ha := (by first | assumption | (repeat (first | assumption | exact At.set_eq2 (by first | omega | (simp only [hset, hnew]; omega) | rfl | decide) | exact At.new_eq2 _ _ (by first | omega | (simp only [hset, hnew]; omega) | rfl | decide) | refine At.set_ne ?_ (by first | omega | (simp only [hset, hnew]; omega) | rfl | decide) | refine At.new_ne ?_)))) (hv := rfl) (r := ?_)
    refine tX4_beansMissing_50  (r := ?_)
    refine tX4_beansMissing_51  (kt := fun c_51 => ?_) (kf := fun c_51 => ?_)
    · have e0 : (q f - q m + (if f < m then 1 else 0) + 1) / 2 = (q f - q m + 0 + 1) / 2 := by
        rw [if_neg (Nat.not_lt.mpr ((nI_leI (by omega) (by omega)).mp c_51))]
      refine tX4_beansMissing_58  (r := ?_)
      refine tX4_beansMissing_59  (r := ?_)
      rw [nI_add]
      refine tX4_beansMissing_60  (r := ?_)
      refine tX4_beansMissing_61  (r := ?_)
      rw [nI_add]
      refine tX4_beansMissing_62  (r := ?_)
      refine tX4_beansMissing_63 (hne := (by decide)) (r := ?_)
      rw [pk_div (by omega) (by decide) (by decide)]
      refine tX4_beansMissing_64  (r := ?_)
      refine tX4_beansMissing_65  (r := ?_)
      refine tX4_beansMissing_66  (r := ?_)
      have key := s_missing_l (G := G) hd jc hp hq e hm c_13 6 0 none (by omega) (by omega) trivial
      rw [show msN q f m 0 = (q f - q m + 0 + 1) / 2 from e0] at key
      exact key
    · have e0 : (q f - q m + (if f < m then 1 else 0) + 1) / 2 = (q f - q m + 1 + 1) / 2 := by
        rw [if_pos (Nat.lt_of_not_le (fun y => c_51 ((nI_leI (by omega) (by omega)).mpr y)))]
      refine tX4_beansMissing_54  (r := ?_)
      refine tX4_beansMissing_55 (r := ?_)
      refine tX4_beansMissing_59  (r := ?_)
      rw [nI_add]
      refine tX4_beansMissing_60  (r := ?_)
      refine tX4_beansMissing_61  (r := ?_)
      rw [nI_add]
      refine tX4_beansMissing_62  (r := ?_)
      refine tX4_beansMissing_63 (hne := (by decide)) (r := ?_)
      rw [pk_div (by omega) (by decide) (by decide)]
      refine tX4_beansMissing_64  (r := ?_)
      refine tX4_beansMissing_65  (r := ?_)
      refine tX4_beansMissing_66  (r := ?_)
      have key := s_missing_l (G := G) hd jc hp hq e hm c_13 6 0 none (by omega) (by omega) trivial
      rw [show msN q f m 0 = (q f - q m + 1 + 1) / 2 from e0] at key
      exact key
  · have c_13 : m = f := (nI_eq (by omega) (by omega)).mp c_13
    refine tX4_beansMissing_16  (r := ?_)
    refine tX4_beansMissing_17 (ha := (by first | assumption | (repeat (first | assumption | exact At.set_eq2 (by first | omega | (simp only [hset, hnew]; omega) | rfl | decide) | exact At.new_eq2 _ _ (by first | omega | (simp only [hset, hnew]; omega) | rfl | decide) | refine At.set_ne ?_ (by first | omega | (simp only [hset, hnew]; omega) | rfl | decide) | refine At.new_ne ?_)))) (hv := rfl) (r := ?_)
    refine tX4_beansMissing_20  (r := ?_)
    refine tX4_beansMissing_21  (kf := fun c_ => by exfalso; exact absurd c_ (show ¬ nI f = -1 by simp only [ci_eq_m1 (show f < 2147483648 by omega), not_false_iff])) (kt := fun _ => ?_)
    refine tX4_beansMissing_28  (r := ?_)
    refine tX4_beansMissing_29  (hP := ?_)
    exact ⟨_, rfl, by rw [bw_some e, if_pos c_13]; rfl, rfl⟩

set_option maxHeartbeats 4000000 in
set_option maxRecDepth 100000 in
theorem s_missing_none {j : Nat} {bf p w l : Nat → Int32} {se : Int32} {wy : Nat} {tu ma co : Int32} {q : Nat → Nat} {m : Nat} (jc : JarC h j bf p w l se wy tu (-1) ma co) (e : fiN q 6 = none) : RQ G mX4_beansMissing d 0 [some (.ref j), some (.int (nI m)), none, none, none] [] h (Ri fun v h1 => v = oI (bw q m) ∧ h1 = h) := by
  obtain ⟨b0, b1, b2, b3, b4⟩ := id jc
  refine tX4_beansMissing_0  (r := ?_)
  refine tX4_beansMissing_1 (ha := (by first | assumption | (repeat (first | assumption | exact At.set_eq2 (by first | omega | (simp only [hset, hnew]; omega) | rfl | decide) | exact At.new_eq2 _ _ (by first | omega | (simp only [hset, hnew]; omega) | rfl | decide) | refine At.set_ne ?_ (by first | omega | (simp only [hset, hnew]; omega) | rfl | decide) | refine At.new_ne ?_)))) (hv := rfl) (r := ?_)
  refine tX4_beansMissing_4  (r := ?_)
  refine tX4_beansMissing_5  (kf := fun c_ => by exfalso; exact c_ rfl) (kt := fun _ => ?_)
  refine tX4_beansMissing_16  (r := ?_)
  refine tX4_beansMissing_17 (ha := (by first | assumption | (repeat (first | assumption | exact At.set_eq2 (by first | omega | (simp only [hset, hnew]; omega) | rfl | decide) | exact At.new_eq2 _ _ (by first | omega | (simp only [hset, hnew]; omega) | rfl | decide) | refine At.set_ne ?_ (by first | omega | (simp only [hset, hnew]; omega) | rfl | decide) | refine At.new_ne ?_)))) (hv := rfl) (r := ?_)
  refine tX4_beansMissing_20  (r := ?_)
  refine tX4_beansMissing_21  (kt := fun c_ => by exfalso; exact c_ rfl) (kf := fun _ => ?_)
  refine tX4_beansMissing_24  (r := ?_)
  refine tX4_beansMissing_25 (r := ?_)
  refine tX4_beansMissing_29  (hP := ?_)
  exact ⟨_, rfl, by rw [bw_none e]; rfl, rfl⟩

theorem s_missing {j : Nat} {bf p w l : Nat → Int32} {se : Int32} {wy : Nat} {tu fi ma co : Int32} {q : Nat → Nat} {m : Nat} (hd : 1 ≤ d) (jc : JarC h j bf p w l se wy tu fi ma co) (cf : fi = oI (fiN q 6)) (hp : ∀ k, k < 6 → p k = nI (q k)) (hq : ∀ k, k < 6 → q k ≤ 1200) (hm : m < 6) : RQ G mX4_beansMissing d 0 [some (.ref j), some (.int (nI m)), none, none, none] [] h (Ri fun v h1 => v = oI (bw q m) ∧ h1 = h) := by
  subst cf
  cases e : fiN q 6 with
  | none =>
    rw [e] at jc
    exact s_missing_none jc e
  | some f =>
    rw [e] at jc
    exact s_missing_some hd jc hp hq e hm

set_option maxHeartbeats 4000000 in
set_option maxRecDepth 100000 in
theorem k_beansToWin_ok (hd : 7 ≤ d) (c : ClR h 0 bk dr s) (hb : BDok s.2.2.1 s.2.2.2) (hh : 216 ≤ h.1) {j0 : Nat} (q0 : j0 < bJa s.2.2.1) {j1 : Nat} (q1 : j1 < bLa s.2.2.1) : RQ G mX10_beansToWin d 0 [some (.ref 0), some (.int (nI j0)), some (.int (nI j1))] [] h (CK h bk dr s "java/lang/IndexOutOfBoundsException" "" 0 (oI (bw (po (rt (dF s.2.2.2)) (dB s.2.2.2 j0)) (rt (dF s.2.2.2) j1)))) := by
  have c1 := c.poll
  have cb := c.book
  obtain ⟨jf, lj, fo, le, u0, u1, u2, u3, u4, u5, u6, u7, u8, u9⟩ := id c.2.2.2.2.1
  have l1 := hb.1
  have l2 := hb.2.1
  have l3 := hb.2.2.1
  have r6 := rt_lt6 hb j1 (by omega)
  refine tX10_beansToWin_0  (r := ?_)
  refine tX10_beansToWin_1  (r := ?_)
  refine tX10_beansToWin_2 (hd := (by omega)) (ha := (by first | assumption | (repeat (first | assumption | exact At.set_eq2 (by first | omega | (simp only [hset, hnew]; omega) | rfl | decide) | exact At.new_eq2 _ _ (by first | omega | (simp only [hset, hnew]; omega) | rfl | decide) | refine At.set_ne ?_ (by first | omega | (simp only [hset, hnew]; omega) | rfl | decide) | refine At.new_ne ?_)))) (call := s_checkJar_ok (d := 6) (QX := fun _ _ => False) c hb q0) (kx := fun E_ h_ hx_ => by exact hx_.elim) (k := ?_)
  intro h_ e0
  rw [e0]
  refine tX10_beansToWin_5  (r := ?_)
  refine tX10_beansToWin_6  (r := ?_)
  refine tX10_beansToWin_7 (hd := (by omega)) (ha := (by first | assumption | (repeat (first | assumption | exact At.set_eq2 (by first | omega | (simp only [hset, hnew]; omega) | rfl | decide) | exact At.new_eq2 _ _ (by first | omega | (simp only [hset, hnew]; omega) | rfl | decide) | refine At.set_ne ?_ (by first | omega | (simp only [hset, hnew]; omega) | rfl | decide) | refine At.new_ne ?_)))) (call := s_checkLabel_ok (d := 6) (QX := fun _ _ => False) c hb q1) (kx := fun E_ h_ hx_ => by exact hx_.elim) (k := ?_)
  intro h_ e1
  rw [e1]
  refine tX10_beansToWin_10  (r := ?_)
  refine tX10_beansToWin_11 (ha := (by first | assumption | (repeat (first | assumption | exact At.set_eq2 (by first | omega | (simp only [hset, hnew]; omega) | rfl | decide) | exact At.new_eq2 _ _ (by first | omega | (simp only [hset, hnew]; omega) | rfl | decide) | refine At.set_ne ?_ (by first | omega | (simp only [hset, hnew]; omega) | rfl | decide) | refine At.new_ne ?_)))) (hv := rfl) (r := ?_)
  refine tX10_beansToWin_14  (r := ?_)
  refine tX10_beansToWin_15 (hd := (by omega)) (ha := (by first | assumption | (repeat (first | assumption | exact At.set_eq2 (by first | omega | (simp only [hset, hnew]; omega) | rfl | decide) | exact At.new_eq2 _ _ (by first | omega | (simp only [hset, hnew]; omega) | rfl | decide) | refine At.set_ne ?_ (by first | omega | (simp only [hset, hnew]; omega) | rfl | decide) | refine At.new_ne ?_)))) (call := (s_counted (d := 3) (by decide) c.2.2.2.2.1 hb (show j0 < 8 by omega)).imp (fun o9 h9 q9 => (⟨_, q9.1, rfl, q9.2⟩ : Rr (fun r h1 => r = 0 + 66 + 5 + 5 * j0 ∧ JaC h1 (0 + 66 + 5 + 5 * j0) (dB s.2.2.2 j0) (bSe s.2.2.1 j0) (bWy s.2.2.1 j0) (rt (dF s.2.2.2)) ∧ CuR h1 (0 + 66) s.2.2.1 s.2.2.2 ∧ Sm h h1 (0 + 66 + 5 + 5 * j0) (0 + 66 + 5 + 5 * j0 + 5)) o9 h9))) (k := ?_)
  rintro jj h1 ⟨rfl, q9⟩
  obtain ⟨jc, cu, sm⟩ := q9
  have cl := c.now cu sm (by omega) (by omega)
  have chh : Ch h h1 0 216 0 0 := sm.ch (Nat.zero_le _) (by omega)
  obtain ⟨bf, p, w, l, tu, fi, ma, ⟨b0, b1, b2, b3, b4⟩, hb2, cp, cw_, ct, cf, cm⟩ := jc
  obtain ⟨jf', lj', fo', le', v0, v1, v2, v3, v4, v5, v6, v7, v8, v9⟩ := id cu
  have c1 := cl.poll
  refine tX10_beansToWin_18  (r := ?_)
  refine tX10_beansToWin_19 (ha := (by first | assumption | (repeat (first | assumption | exact At.set_eq2 (by first | omega | (simp only [hset, hnew]; omega) | rfl | decide) | exact At.new_eq2 _ _ (by first | omega | (simp only [hset, hnew]; omega) | rfl | decide) | refine At.set_ne ?_ (by first | omega | (simp only [hset, hnew]; omega) | rfl | decide) | refine At.new_ne ?_)))) (hv := rfl) (r := ?_)
  refine tX10_beansToWin_22 (ha := (by first | assumption | (repeat (first | assumption | exact At.set_eq2 (by first | omega | (simp only [hset, hnew]; omega) | rfl | decide) | exact At.new_eq2 _ _ (by first | omega | (simp only [hset, hnew]; omega) | rfl | decide) | refine At.set_ne ?_ (by first | omega | (simp only [hset, hnew]; omega) | rfl | decide) | refine At.new_ne ?_)))) (hv := rfl) (r := ?_)
  refine tX10_beansToWin_25  (r := ?_)
  refine tX10_beansToWin_26 (ha := (by first | assumption | (repeat (first | assumption | exact At.set_eq2 (by first | omega | (simp only [hset, hnew]; omega) | rfl | decide) | exact At.new_eq2 _ _ (by first | omega | (simp only [hset, hnew]; omega) | rfl | decide) | refine At.set_ne ?_ (by first | omega | (simp only [hset, hnew]; omega) | rfl | decide) | refine At.new_ne ?_)))) (hx := rfl) (hj := (by omega)) (hn := (by decide)) (r := ?_)
  rw [v8 _ (by omega)]
  refine tX10_beansToWin_27 (hd := (by omega)) (ha := (by first | assumption | (repeat (first | assumption | exact At.set_eq2 (by first | omega | (simp only [hset, hnew]; omega) | rfl | decide) | exact At.new_eq2 _ _ (by first | omega | (simp only [hset, hnew]; omega) | rfl | decide) | refine At.set_ne ?_ (by first | omega | (simp only [hset, hnew]; omega) | rfl | decide) | refine At.new_ne ?_)))) (call := s_missing (d := 5) (q := (po (rt (dF s.2.2.2)) (dB s.2.2.2 j0))) (by decide) ⟨b0, b1, b2, b3, b4⟩ cf cp (fun k _ => po_le (hb.2.2.2.2.2.2.1 j0 (by omega)) k) r6) (k := ?_)
  rintro v_ h_ ⟨rfl, e9⟩
  rw [e9]
  refine tX10_beansToWin_30  (hP := ?_)
  exact ck_val cl chh

end BW