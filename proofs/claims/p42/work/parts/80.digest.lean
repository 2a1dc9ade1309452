/-! the digest of the class, in all -/
def dgA (s : ST) : Int64 := dgDs s (dgJs s (dgLs s (dgS (dgS (dgS (dgS (dgS (dgS (lN 1949) (nI (bLa s.2.2.1))) (nI (bJa s.2.2.1))) (nI (bLi s.2.2.1))) (dDay s.2.2.2)) (nI (su (fun k => if rt (dF s.2.2.2) k = k then 1 else 0) (bLa s.2.2.1)))) (oI (ldN (sT s.2.2.1 s.2.2.2) (rt (dF s.2.2.2)) (bLa s.2.2.1)))) (bLa s.2.2.1)) (bJa s.2.2.1)) (bLi s.2.2.1)
section DA
variable {G : GT} {d : Nat} {h0 h : AH} {bk dr : Nat} {s : ST} {P : OC → AH → Prop}
theorem kd_ri {M : MI} {L : List (Option Value)} {V : Int32} {s2 : ST} (r : RQ G M d 0 L [] h (fun o h1 => o = .inl (some (Value.int V)) ∧ ClR h1 0 bk dr s2 ∧ Ch h h1 0 216 0 0)) : RQ G M d 0 L [] h (Ri fun v h1 => v = V ∧ ClR h1 0 bk dr s2 ∧ Ch h h1 0 216 0 0) := r.imp (fun o h1 q => ⟨_, q.1, rfl, q.2.1, q.2.2⟩)

set_option maxHeartbeats 4000000 in
set_option maxRecDepth 100000 in
theorem s_dgl (hd : 11 ≤ d) (hb : BDok s.2.2.1 s.2.2.2) (hh0 : 216 ≤ h0.1) {d0 : Int64} (kk : ∀ h, ClR h 0 bk dr s → Ch h0 h 0 216 0 0 → RQ G mX10_digest d 102 [some (.ref 0), some (.long (dgLs s d0 (bLa s.2.2.1))), none, some (.int (nI (bLa s.2.2.1)))] [] h P) : ∀ (n i : Nat) (h : AH), bLa s.2.2.1 ≤ i + n → i ≤ bLa s.2.2.1 → ClR h 0 bk dr s → Ch h0 h 0 216 0 0 → RQ G mX10_digest d 78 [some (.ref 0), some (.long (dgLs s d0 i)), none, some (.int (nI i))] [] h (P) := by
  have ex : ∀ (i : Nat) (h : AH), i = bLa s.2.2.1 → ClR h 0 bk dr s → Ch h0 h 0 216 0 0 → RQ G mX10_digest d 78 [some (.ref 0), some (.long (dgLs s d0 i)), none, some (.int (nI i))] [] h (P) := by
    intro i h hi c cc
    subst hi
    have c0_ := c.poll
    have cb := c.book
    have l1 := hb.1
    have l2 := hb.2.1
    have l3 := hb.2.2.1
    have hh : 216 ≤ h.1 := by have := cc.1; omega
    refine tX10_digest_78  (r := ?_)
    refine tX10_digest_79  (r := ?_)
    refine tX10_digest_80 (ha := (by first | assumption | (repeat (first | assumption | exact At.set_eq2 (by first | omega | (simp only [hset, hnew]; omega) | rfl | decide) | exact At.new_eq2 _ _ (by first | omega | (simp only [hset, hnew]; omega) | rfl | decide) | refine At.set_ne ?_ (by first | omega | (simp only [hset, hnew]; omega) | rfl | decide) | refine At.new_ne ?_)))) (hv := rfl) (r := ?_)
    refine tX10_digest_83 (ha := (by first | assumption | (repeat (first | assumption | exact At.set_eq2 (by first | omega | (simp only [hset, hnew]; omega) | rfl | decide) | exact At.new_eq2 _ _ (by first | omega | (simp only [hset, hnew]; omega) | rfl | decide) | refine At.set_ne ?_ (by first | omega | (simp only [hset, hnew]; omega) | rfl | decide) | refine At.new_ne ?_)))) (hv := rfl) (r := ?_)
    refine tX10_digest_86  (kf := fun c_ => by exfalso; exact c_ ((nI_leI (by omega) (by omega)).mpr (Nat.le_refl _))) (kt := fun _ => ?_)
    exact kk h c cc
  intro n
  induction n with
  | zero => exact fun i h h1_ h2_ => ex i h (by omega)
  | succ n ih =>
    intro i h h1_ h2_ c cc
    by_cases hi : i = bLa s.2.2.1
    · exact ex i h hi c cc
    have hi2 : i < bLa s.2.2.1 := by omega
    have c0_ := c.poll
    have cb := c.book
    have l1 := hb.1
    have l2 := hb.2.1
    have l3 := hb.2.2.1
    have hh : 216 ≤ h.1 := by have := cc.1; omega
    refine tX10_digest_78  (r := ?_)
    refine tX10_digest_79  (r := ?_)
    refine tX10_digest_80 (ha := (by first | assumption | (repeat (first | assumption | exact At.set_eq2 (by first | omega | (simp only [hset, hnew]; omega) | rfl | decide) | exact At.new_eq2 _ _ (by first | omega | (simp only [hset, hnew]; omega) | rfl | decide) | refine At.set_ne ?_ (by first | omega | (simp only [hset, hnew]; omega) | rfl | decide) | refine At.new_ne ?_)))) (hv := rfl) (r := ?_)
    refine tX10_digest_83 (ha := (by first | assumption | (repeat (first | assumption | exact At.set_eq2 (by first | omega | (simp only [hset, hnew]; omega) | rfl | decide) | exact At.new_eq2 _ _ (by first | omega | (simp only [hset, hnew]; omega) | rfl | decide) | refine At.set_ne ?_ (by first | omega | (simp only [hset, hnew]; omega) | rfl | decide) | refine At.new_ne ?_)))) (hv := rfl) (r := ?_)
    refine tX10_digest_86  (kt := fun c_ => by exfalso; exact absurd ((nI_leI (by omega) (by omega)).mp c_) (by omega)) (kf := fun _ => ?_)
    refine tX10_digest_89  (r := ?_)
    refine tX10_digest_90  (r := ?_)
    refine tX10_digest_91  (r := ?_)
    refine tX10_digest_92 (hd := (by omega)) (ha := (by first | assumption | (repeat (first | assumption | exact At.set_eq2 (by first | omega | (simp only [hset, hnew]; omega) | rfl | decide) | exact At.new_eq2 _ _ (by first | omega | (simp only [hset, hnew]; omega) | rfl | decide) | refine At.set_ne ?_ (by first | omega | (simp only [hset, hnew]; omega) | rfl | decide) | refine At.new_ne ?_)))) (call := s_withLabel (d := 10) (by decide) c hb hh hi2) (k := ?_)
    rintro v h1 ⟨rfl, c1, ch1⟩
    refine tX10_digest_95  (r := ?_)
    refine tX10_digest_96  (r := ?_)
    rw [nI_add]
    refine tX10_digest_99 (r := ?_)
    exact ih (i + 1) h1 (by omega) (by omega) c1 (cc.trans ch1)

set_option maxHeartbeats 4000000 in
set_option maxRecDepth 100000 in
theorem s_dgj (hd : 11 ≤ d) (hb : BDok s.2.2.1 s.2.2.2) (hh0 : 216 ≤ h0.1) {d0 : Int64} (kk : ∀ h, ClR h 0 bk dr s → Ch h0 h 0 216 0 0 → RQ G mX10_digest d 128 [some (.ref 0), some (.long (dgJs s d0 (bJa s.2.2.1))), none, some (.int (nI (bJa s.2.2.1)))] [] h P) : ∀ (n i : Nat) (h : AH), bJa s.2.2.1 ≤ i + n → i ≤ bJa s.2.2.1 → ClR h 0 bk dr s → Ch h0 h 0 216 0 0 → RQ G mX10_digest d 104 [some (.ref 0), some (.long (dgJs s d0 i)), none, some (.int (nI i))] [] h (P) := by
  have ex : ∀ (i : Nat) (h : AH), i = bJa s.2.2.1 → ClR h 0 bk dr s → Ch h0 h 0 216 0 0 → RQ G mX10_digest d 104 [some (.ref 0), some (.long (dgJs s d0 i)), none, some (.int (nI i))] [] h (P) := by
    intro i h hi c cc
    subst hi
    have c0_ := c.poll
    have cb := c.book
    have l1 := hb.1
    have l2 := hb.2.1
    have l3 := hb.2.2.1
    have hh : 216 ≤ h.1 := by have := cc.1; omega
    refine tX10_digest_104  (r := ?_)
    refine tX10_digest_105  (r := ?_)
    refine tX10_digest_106 (ha := (by first | assumption | (repeat (first | assumption | exact At.set_eq2 (by first | omega | (simp only [hset, hnew]; omega) | rfl | decide) | exact At.new_eq2 _ _ (by first | omega | (simp only [hset, hnew]; omega) | rfl | decide) | refine At.set_ne ?_ (by first | omega | (simp only [hset, hnew]; omega) | rfl | decide) | refine At.new_ne ?_)))) (hv := rfl) (r := ?_)
    refine tX10_digest_109 (ha := (by first | assumption | (repeat (first | assumption | exact At.set_eq2 (by first | omega | (simp only [hset, hnew]; omega) | rfl | decide) | exact At.new_eq2 _ _ (by first | omega | (simp only [hset, hnew]; omega) | rfl | decide) | refine At.set_ne ?_ (by first | omega | (simp only [hset, hnew]; omega) | rfl | decide) | refine At.new_ne ?_)))) (hv := rfl) (r := ?_)
    refine tX10_digest_112  (kf := fun c_ => by exfalso; exact c_ ((nI_leI (by omega) (by omega)).mpr (Nat.le_refl _))) (kt := fun _ => ?_)
    exact kk h c cc
  intro n
  induction n with
  | zero => exact fun i h h1_ h2_ => ex i h (by omega)
  | succ n ih =>
    intro i h h1_ h2_ c cc
    by_cases hi : i = bJa s.2.2.1
    · exact ex i h hi c cc
    have hi2 : i < bJa s.2.2.1 := by omega
    have c0_ := c.poll
    have cb := c.book
    have l1 := hb.1
    have l2 := hb.2.1
    have l3 := hb.2.2.1
    have hh : 216 ≤ h.1 := by have := cc.1; omega
    refine tX10_digest_104  (r := ?_)
    refine tX10_digest_105  (r := ?_)
    refine tX10_digest_106 (ha := (by first | assumption | (repeat (first | assumption | exact At.set_eq2 (by first | omega | (simp only [hset, hnew]; omega) | rfl | decide) | exact At.new_eq2 _ _ (by first | omega | (simp only [hset, hnew]; omega) | rfl | decide) | refine At.set_ne ?_ (by first | omega | (simp only [hset, hnew]; omega) | rfl | decide) | refine At.new_ne ?_)))) (hv := rfl) (r := ?_)
    refine tX10_digest_109 (ha := (by first | assumption | (repeat (first | assumption | exact At.set_eq2 (by first | omega | (simp only [hset, hnew]; omega) | rfl | decide) | exact At.new_eq2 _ _ (by first | omega | (simp only [hset, hnew]; omega) | rfl | decide) | refine At.set_ne ?_ (by first | omega | (simp only [hset, hnew]; omega) | rfl | decide) | refine At.new_ne ?_)))) (hv := rfl) (r := ?_)
    refine tX10_digest_112  (kt := fun c_ => by exfalso; exact absurd ((nI_leI (by omega) (by omega)).mp c_) (by omega)) (kf := fun _ => ?_)
    refine tX10_digest_115  (r := ?_)
    refine tX10_digest_116  (r := ?_)
    refine tX10_digest_117  (r := ?_)
    refine tX10_digest_118 (hd := (by omega)) (ha := (by first | assumption | (repeat (first | assumption | exact At.set_eq2 (by first | omega | (simp only [hset, hnew]; omega) | rfl | decide) | exact At.new_eq2 _ _ (by first | omega | (simp only [hset, hnew]; omega) | rfl | decide) | refine At.set_ne ?_ (by first | omega | (simp only [hset, hnew]; omega) | rfl | decide) | refine At.new_ne ?_)))) (call := s_withJar (d := 10) (by decide) c hb hh hi2) (k := ?_)
    rintro v h1 ⟨rfl, c1, ch1⟩
    refine tX10_digest_121  (r := ?_)
    refine tX10_digest_122  (r := ?_)
    rw [nI_add]
    refine tX10_digest_125 (r := ?_)
    exact ih (i + 1) h1 (by omega) (by omega) c1 (cc.trans ch1)

set_option maxHeartbeats 4000000 in
set_option maxRecDepth 100000 in
theorem s_dgd (hd : 11 ≤ d) (hb : BDok s.2.2.1 s.2.2.2) (hh0 : 216 ≤ h0.1) {d0 : Int64} (kk : ∀ h, ClR h 0 bk dr s → Ch h0 h 0 216 0 0 → RQ G mX10_digest d 186 [some (.ref 0), some (.long (dgDs s d0 (bLi s.2.2.1))), none, some (.int (nI (bLi s.2.2.1)))] [] h P) : ∀ (n i : Nat) (h : AH), bLi s.2.2.1 ≤ i + n → i ≤ bLi s.2.2.1 → ClR h 0 bk dr s → Ch h0 h 0 216 0 0 → RQ G mX10_digest d 130 [some (.ref 0), some (.long (dgDs s d0 i)), none, some (.int (nI i))] [] h (P) := by
  have ex : ∀ (i : Nat) (h : AH), i = bLi s.2.2.1 → ClR h 0 bk dr s → Ch h0 h 0 216 0 0 → RQ G mX10_digest d 130 [some (.ref 0), some (.long (dgDs s d0 i)), none, some (.int (nI i))] [] h (P) := by
    intro i h hi c cc
    subst hi
    have c0_ := c.poll
    have cb := c.book
    have l1 := hb.1
    have l2 := hb.2.1
    have l3 := hb.2.2.1
    have hh : 216 ≤ h.1 := by have := cc.1; omega
    refine tX10_digest_130  (r := ?_)
    refine tX10_digest_131  (r := ?_)
    refine tX10_digest_132 (ha := (by first | assumption | (repeat (first | assumption | exact At.set_eq2 (by first | omega | (simp only [hset, hnew]; omega) | rfl | decide) | exact At.new_eq2 _ _ (by first | omega | (simp only [hset, hnew]; omega) | rfl | decide) | refine At.set_ne ?_ (by first | omega | (simp only [hset, hnew]; omega) | rfl | decide) | refine At.new_ne ?_)))) (hv := rfl) (r := ?_)
    refine tX10_digest_135 (ha := (by first | assumption | (repeat (first | assumption | exact At.set_eq2 (by first | omega | (simp only [hset, hnew]; omega) | rfl | decide) | exact At.new_eq2 _ _ (by first | omega | (simp only [hset, hnew]; omega) | rfl | decide) | refine At.set_ne ?_ (by first | omega | (simp only [hset, hnew]; omega) | rfl | decide) | refine At.new_ne ?_)))) (hv := rfl) (r := ?_)
    refine tX10_digest_138  (kf := fun c_ => by exfalso; exact c_ ((nI_leI (by omega) (by omega)).mpr (Nat.le_refl _))) (kt := fun _ => ?_)
    exact kk h c cc
  intro n
  induction n with
  | zero => exact fun i h h1_ h2_ => ex i h (by omega)
  | succ n ih =>
    intro i h h1_ h2_ c cc
    by_cases hi : i = bLi s.2.2.1
    · exact ex i h hi c cc
    have hi2 : i < bLi s.2.2.1 := by omega
    have c0_ := c.poll
    have cb := c.book
    have l1 := hb.1
    have l2 := hb.2.1
    have l3 := hb.2.2.1
    have hh : 216 ≤ h.1 := by have := cc.1; omega
    refine tX10_digest_130  (r := ?_)
    refine tX10_digest_131  (r := ?_)
    refine tX10_digest_132 (ha := (by first | assumption | (repeat (first | assumption | exact At.set_eq2 (by first | omega | (simp only [hset, hnew]; omega) | rfl | decide) | exact At.new_eq2 _ _ (by first | omega | (simp only [hset, hnew]; omega) | rfl | decide) | refine At.set_ne ?_ (by first | omega | (simp only [hset, hnew]; omega) | rfl | decide) | refine At.new_ne ?_)))) (hv := rfl) (r := ?_)
    refine tX10_digest_135 (ha := (by first | assumption | (repeat (first | assumption | exact At.set_eq2 (by first | omega | (simp only [hset, hnew]; omega) | rfl | decide) | exact At.new_eq2 _ _ (by first | omega | (simp only [hset, hnew]; omega) | rfl | decide) | refine At.set_ne ?_ (by first | omega | (simp only [hset, hnew]; omega) | rfl | decide) | refine At.new_ne ?_)))) (hv := rfl) (r := ?_)
    refine tX10_digest_138  (kt := fun c_ => by exfalso; exact absurd ((nI_leI (by omega) (by omega)).mp c_) (by omega)) (kf := fun _ => ?_)
    refine tX10_digest_141  (r := ?_)
    refine tX10_digest_142  (r := ?_)
    refine tX10_digest_145  (r := ?_)
    refine tX10_digest_146  (r := ?_)
    refine tX10_digest_147  (r := ?_)
    refine tX10_digest_148 (hd := (by omega)) (ha := (by first | assumption | (repeat (first | assumption | exact At.set_eq2 (by first | omega | (simp only [hset, hnew]; omega) | rfl | decide) | exact At.new_eq2 _ _ (by first | omega | (simp only [hset, hnew]; omega) | rfl | decide) | refine At.set_ne ?_ (by first | omega | (simp only [hset, hnew]; omega) | rfl | decide) | refine At.new_ne ?_)))) (call := ck_rx (k_jarOfLid_ok (d := 10) (by decide) c hb hh hi2)) (kx := fun E_ h_ hx_ => by exact hx_.elim) (k := ?_)
    rintro v1 h1 ⟨rfl, c1, ch1⟩
    have p1 := c1.poll
    have b1_ := c1.book
    have hh1 : 216 ≤ h1.1 := by have := ch1.1; omega
    have cc1 := cc.trans ch1
    refine tX10_digest_151  (r := ?_)
    refine tX10_digest_152  (r := ?_)
    refine tX10_digest_153  (r := ?_)
    refine tX10_digest_154  (r := ?_)
    refine tX10_digest_155  (r := ?_)
    refine tX10_digest_158  (r := ?_)
    refine tX10_digest_159  (r := ?_)
    refine tX10_digest_160  (r := ?_)
    refine tX10_digest_161 (hd := (by omega)) (ha := (by first | assumption | (repeat (first | assumption | exact At.set_eq2 (by first | omega | (simp only [hset, hnew]; omega) | rfl | decide) | exact At.new_eq2 _ _ (by first | omega | (simp only [hset, hnew]; omega) | rfl | decide) | refine At.set_ne ?_ (by first | omega | (simp only [hset, hnew]; omega) | rfl | decide) | refine At.new_ne ?_)))) (call := ck_rx (k_labelOfLid_ok (d := 10) (by decide) c1 hb hh1 hi2)) (kx := fun E_ h_ hx_ => by exact hx_.elim) (k := ?_)
    rintro v2 h2 ⟨rfl, c2, ch2⟩
    have p2 := c2.poll
    have b2_ := c2.book
    have hh2 : 216 ≤ h2.1 := by have := ch2.1; omega
    have cc2 := cc1.trans ch2
    refine tX10_digest_164  (r := ?_)
    refine tX10_digest_165  (r := ?_)
    refine tX10_digest_166  (r := ?_)
    refine tX10_digest_167  (r := ?_)
    refine tX10_digest_168  (r := ?_)
    refine tX10_digest_171  (r := ?_)
    refine tX10_digest_172  (r := ?_)
    refine tX10_digest_173  (r := ?_)
    refine tX10_digest_174 (hd := (by omega)) (ha := (by first | assumption | (repeat (first | assumption | exact At.set_eq2 (by first | omega | (simp only [hset, hnew]; omega) | rfl | decide) | exact At.new_eq2 _ _ (by first | omega | (simp only [hset, hnew]; omega) | rfl | decide) | refine At.set_ne ?_ (by first | omega | (simp only [hset, hnew]; omega) | rfl | decide) | refine At.new_ne ?_)))) (call := ck_rx (k_ruleOfLid_ok (d := 10) (by decide) c2 hb hh2 hi2)) (kx := fun E_ h_ hx_ => by exact hx_.elim) (k := ?_)
    rintro v3 h3 ⟨rfl, c3, ch3⟩
    have p3 := c3.poll
    have b3_ := c3.book
    have hh3 : 216 ≤ h3.1 := by have := ch3.1; omega
    have cc3 := cc2.trans ch3
    refine tX10_digest_177  (r := ?_)
    refine tX10_digest_178  (r := ?_)
    refine tX10_digest_179  (r := ?_)
    refine tX10_digest_180  (r := ?_)
    rw [nI_add]
    refine tX10_digest_183 (r := ?_)
    exact ih (i + 1) h3 (by omega) (by omega) c3 cc3

-- the call
set_option maxHeartbeats 4000000 in
set_option maxRecDepth 100000 in
theorem k_digest (hd : 11 ≤ d) (c : ClR h0 0 bk dr s) (hb : BDok s.2.2.1 s.2.2.2) (hh : 216 ≤ h0.1) : RQ G mX10_digest d 0 [some (.ref 0), none, none, none] [] h0 (Rj fun v h1 => v = dgA s ∧ ClR h1 0 bk dr s ∧ Ch h0 h1 0 216 0 0) := by
  have c0_ := c.poll
  have cb := c.book
  refine tX10_digest_0  (r := ?_)
  refine tX10_digest_3  (r := ?_)
  refine tX10_digest_4  (r := ?_)
  refine tX10_digest_5  (r := ?_)
  refine tX10_digest_8  (r := ?_)
  refine tX10_digest_9  (r := ?_)
  refine tX10_digest_10 (hd := (by omega)) (ha := (by first | assumption | (repeat (first | assumption | exact At.set_eq2 (by first | omega | (simp only [hset, hnew]; omega) | rfl | decide) | exact At.new_eq2 _ _ (by first | omega | (simp only [hset, hnew]; omega) | rfl | decide) | refine At.set_ne ?_ (by first | omega | (simp only [hset, hnew]; omega) | rfl | decide) | refine At.new_ne ?_)))) (call := kd_ri (k_labels (d := 10) c hb)) (k := ?_)
  rintro v1 h1 ⟨rfl, c1, ch1⟩
  have p1 := c1.poll
  have b1_ := c1.book
  have hh1 : 216 ≤ h1.1 := by have := ch1.1; omega
  have cc1 := (Ch.rf h0 0 216 0 0).trans ch1
  refine tX10_digest_13  (r := ?_)
  refine tX10_digest_14  (r := ?_)
  refine tX10_digest_15  (r := ?_)
  refine tX10_digest_16  (r := ?_)
  refine tX10_digest_17  (r := ?_)
  refine tX10_digest_20  (r := ?_)
  refine tX10_digest_21  (r := ?_)
  refine tX10_digest_22 (hd := (by omega)) (ha := (by first | assumption | (repeat (first | assumption | exact At.set_eq2 (by first | omega | (simp only [hset, hnew]; omega) | rfl | decide) | exact At.new_eq2 _ _ (by first | omega | (simp only [hset, hnew]; omega) | rfl | decide) | refine At.set_ne ?_ (by first | omega | (simp only [hset, hnew]; omega) | rfl | decide) | refine At.new_ne ?_)))) (call := kd_ri (k_jars (d := 10) c1 hb)) (k := ?_)
  rintro v2 h2 ⟨rfl, c2, ch2⟩
  have p2 := c2.poll
  have b2_ := c2.book
  have hh2 : 216 ≤ h2.1 := by have := ch2.1; omega
  have cc2 := cc1.trans ch2
  refine tX10_digest_25  (r := ?_)
  refine tX10_digest_26  (r := ?_)
  refine tX10_digest_27  (r := ?_)
  refine tX10_digest_28  (r := ?_)
  refine tX10_digest_29  (r := ?_)
  refine tX10_digest_32  (r := ?_)
  refine tX10_digest_33  (r := ?_)
  refine tX10_digest_34 (hd := (by omega)) (ha := (by first | assumption | (repeat (first | assumption | exact At.set_eq2 (by first | omega | (simp only [hset, hnew]; omega) | rfl | decide) | exact At.new_eq2 _ _ (by first | omega | (simp only [hset, hnew]; omega) | rfl | decide) | refine At.set_ne ?_ (by first | omega | (simp only [hset, hnew]; omega) | rfl | decide) | refine At.new_ne ?_)))) (call := kd_ri (k_lids (d := 10) c2 hb)) (k := ?_)
  rintro v3 h3 ⟨rfl, c3, ch3⟩
  have p3 := c3.poll
  have b3_ := c3.book
  have hh3 : 216 ≤ h3.1 := by have := ch3.1; omega
  have cc3 := cc2.trans ch3
  refine tX10_digest_37  (r := ?_)
  refine tX10_digest_38  (r := ?_)
  refine tX10_digest_39  (r := ?_)
  refine tX10_digest_40  (r := ?_)
  refine tX10_digest_41  (r := ?_)
  refine tX10_digest_44  (r := ?_)
  refine tX10_digest_45  (r := ?_)
  refine tX10_digest_46 (hd := (by omega)) (ha := (by first | assumption | (repeat (first | assumption | exact At.set_eq2 (by first | omega | (simp only [hset, hnew]; omega) | rfl | decide) | exact At.new_eq2 _ _ (by first | omega | (simp only [hset, hnew]; omega) | rfl | decide) | refine At.set_ne ?_ (by first | omega | (simp only [hset, hnew]; omega) | rfl | decide) | refine At.new_ne ?_)))) (call := kd_ri (k_days (d := 10) c3 hb)) (k := ?_)
  rintro v4 h4 ⟨rfl, c4, ch4⟩
  have p4 := c4.poll
  have b4_ := c4.book
  have hh4 : 216 ≤ h4.1 := by have := ch4.1; omega
  have cc4 := cc3.trans ch4
  refine tX10_digest_49  (r := ?_)
  refine tX10_digest_50  (r := ?_)
  refine tX10_digest_51  (r := ?_)
  refine tX10_digest_52  (r := ?_)
  refine tX10_digest_53  (r := ?_)
  refine tX10_digest_56  (r := ?_)
  refine tX10_digest_57  (r := ?_)
  refine tX10_digest_58 (hd := (by omega)) (ha := (by first | assumption | (repeat (first | assumption | exact At.set_eq2 (by first | omega | (simp only [hset, hnew]; omega) | rfl | decide) | exact At.new_eq2 _ _ (by first | omega | (simp only [hset, hnew]; omega) | rfl | decide) | refine At.set_ne ?_ (by first | omega | (simp only [hset, hnew]; omega) | rfl | decide) | refine At.new_ne ?_)))) (call := kd_ri (k_alliances (d := 10) c4 hb)) (k := ?_)
  rintro v5 h5 ⟨rfl, c5, ch5⟩
  have p5 := c5.poll
  have b5_ := c5.book
  have hh5 : 216 ≤ h5.1 := by have := ch5.1; omega
  have cc5 := cc4.trans ch5
  refine tX10_digest_61  (r := ?_)
  refine tX10_digest_62  (r := ?_)
  refine tX10_digest_63  (r := ?_)
  refine tX10_digest_64  (r := ?_)
  refine tX10_digest_65  (r := ?_)
  refine tX10_digest_68  (r := ?_)
  refine tX10_digest_69  (r := ?_)
  refine tX10_digest_70 (hd := (by omega)) (ha := (by first | assumption | (repeat (first | assumption | exact At.set_eq2 (by first | omega | (simp only [hset, hnew]; omega) | rfl | decide) | exact At.new_eq2 _ _ (by first | omega | (simp only [hset, hnew]; omega) | rfl | decide) | refine At.set_ne ?_ (by first | omega | (simp only [hset, hnew]; omega) | rfl | decide) | refine At.new_ne ?_)))) (call := kd_ri (k_leading (d := 10) (by decide) c5 hb)) (k := ?_)
  rintro v6 h6 ⟨rfl, c6, ch6⟩
  have p6 := c6.poll
  have b6_ := c6.book
  have hh6 : 216 ≤ h6.1 := by have := ch6.1; omega
  have cc6 := cc5.trans ch6
  refine tX10_digest_73  (r := ?_)
  refine tX10_digest_74  (r := ?_)
  refine tX10_digest_75  (r := ?_)
  refine tX10_digest_76  (r := ?_)
  refine tX10_digest_77  (r := ?_)
  refine s_dgl hd hb hh (fun h7 c7 cc7 => ?_) (bLa s.2.2.1) 0 h6 (by omega) (by omega) c6 cc6
  refine tX10_digest_102 (r := ?_)
  refine tX10_digest_103 (r := ?_)
  refine s_dgj hd hb hh (fun h8 c8 cc8 => ?_) (bJa s.2.2.1) 0 h7 (by omega) (by omega) c7 cc7
  refine tX10_digest_128 (r := ?_)
  refine tX10_digest_129 (r := ?_)
  refine s_dgd hd hb hh (fun h9 c9 cc9 => ?_) (bLi s.2.2.1) 0 h8 (by omega) (by omega) c8 cc8
  refine tX10_digest_186 (r := ?_)
  refine tX10_digest_187 (hP := ?_)
  exact ⟨_, rfl, rfl, c9, cc9⟩

end DA
