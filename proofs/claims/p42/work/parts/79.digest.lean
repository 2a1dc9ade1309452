/-! the digest of the class -/
def dgLa (s : ST) (d : Int64) (k : Nat) : Int64 := (dgS (dgS (dgS (dgS (dgS d (nI (rt (dF s.2.2.2) k))) (nI (su (fun j => dB s.2.2.2 j k) (bJa s.2.2.1)))) (nI (su (sw s.2.2.1 s.2.2.2 k) 8))) (if gov s.2.2.1 s.2.2.2 k = 0 then nI 0 else nI 1)) (oI (bjN (vB s.2.2.2 (rt (dF s.2.2.2) k)) (bJa s.2.2.1))))
def dgLs (s : ST) (d : Int64) : Nat → Int64
  | 0 => d
  | n + 1 => dgLa s (dgLs s d n) n
def dgJa (s : ST) (d : Int64) (j : Nat) : Nat → Int64
  | 0 => (dgS (dgS (dgS (dgS (dgS (dgS d (nI (su (dB s.2.2.2 j) 6))) (nI (bSe s.2.2.1 j))) (oI (fiN (po (rt (dF s.2.2.2)) (dB s.2.2.2 j)) 6))) (nI (mar (po (rt (dF s.2.2.2)) (dB s.2.2.2 j))))) (nI (emp (po (rt (dF s.2.2.2)) (dB s.2.2.2 j)) (su (dB s.2.2.2 j) 6) (bSe s.2.2.1 j) (bWy s.2.2.1 j)))) (oI (fiN (po (rt (dF (jrB s.2.2.2 j (stB (dB s.2.2.2 j) (bLa s.2.2.1))))) (dB (jrB s.2.2.2 j (stB (dB s.2.2.2 j) (bLa s.2.2.1))) j)) 6)))
  | k + 1 => (dgS (dgS (dgS (dgJa s d j k) (nI (dB s.2.2.2 j k))) (nI (wo (po (rt (dF s.2.2.2)) (dB s.2.2.2 j)) (su (dB s.2.2.2 j) 6) (bSe s.2.2.1 j) (bWy s.2.2.1 j) (rt (dF s.2.2.2) k)))) (oI (bw (po (rt (dF s.2.2.2)) (dB s.2.2.2 j)) (rt (dF s.2.2.2) k))))
def dgJs (s : ST) (d : Int64) : Nat → Int64
  | 0 => d
  | n + 1 => dgJa s (dgJs s d n) n (bLa s.2.2.1)
def dgDs (s : ST) (d : Int64) : Nat → Int64
  | 0 => d
  | n + 1 => dgS (dgS (dgS (dgDs s d n) (nI (dL s.2.2.2 n))) (nI (bLl s.2.2.1 n))) (roV s.2.2.1 s.2.2.2 n)
section DC
variable {G : GT} {d : Nat} {h0 h : AH} {bk dr : Nat} {s : ST}
theorem ck_ri {M : MI} {L : List (Option Value)} {E1 E2 : String} {V : Int32} {s2 : ST} (r : RQ G M d 0 L [] h (CK h bk dr s2 E1 E2 0 V)) : RQ G M d 0 L [] h (Ri fun v h1 => v = V ∧ ClR h1 0 bk dr s2 ∧ Ch h h1 0 216 0 0) := r.imp (fun o h1 q => by
  obtain ⟨p, c, ch⟩ := q
  rcases p with ⟨-, e⟩ | ⟨e, -⟩ | ⟨e, -⟩
  · exact ⟨_, e, rfl, c, ch⟩
  · exact absurd e (by decide)
  · exact absurd e (by decide))
theorem ck_rx {M : MI} {L : List (Option Value)} {E1 E2 : String} {V : Int32} {s2 : ST} (r : RQ G M d 0 L [] h (CK h bk dr s2 E1 E2 0 V)) : RQ G M d 0 L [] h (Rx (Ri fun v h1 => v = V ∧ ClR h1 0 bk dr s2 ∧ Ch h h1 0 216 0 0) (fun _ _ => False)) := (ck_ri r).imp (fun o h1 q => Or.inl q)

set_option maxHeartbeats 4000000 in
set_option maxRecDepth 100000 in
theorem s_withLabel (hd : 10 ≤ d) (c : ClR h 0 bk dr s) (hb : BDok s.2.2.1 s.2.2.2) (hh : 216 ≤ h.1) {d0 : Int64} {k : Nat} (hk : k < bLa s.2.2.1) : RQ G mX10_withLabel d 0 [some (.ref 0), some (.long d0), none, some (.int (nI k)), none, none] [] h (Rj fun v h1 => v = dgLa s d0 k ∧ ClR h1 0 bk dr s ∧ Ch h h1 0 216 0 0) := by
  have c1 := c.poll
  have cb := c.book
  refine tX10_withLabel_0  (r := ?_)
  refine tX10_withLabel_1  (r := ?_)
  refine tX10_withLabel_4  (r := ?_)
  refine tX10_withLabel_5  (r := ?_)
  refine tX10_withLabel_6  (r := ?_)
  refine tX10_withLabel_7 (hd := (by omega)) (ha := (by first | assumption | (repeat (first | assumption | exact At.set_eq2 (by first | omega | (simp only [hset, hnew]; omega) | rfl | decide) | exact At.new_eq2 _ _ (by first | omega | (simp only [hset, hnew]; omega) | rfl | decide) | refine At.set_ne ?_ (by first | omega | (simp only [hset, hnew]; omega) | rfl | decide) | refine At.new_ne ?_)))) (call := ck_rx (k_leaderOf_ok (d := 9) (by decide) c hb hh hk)) (kx := fun E_ h_ hx_ => by exact hx_.elim) (k := ?_)
  rintro v1 h1 ⟨rfl, c1, ch1⟩
  have p1 := c1.poll
  have b1_ := c1.book
  have hh1 : 216 ≤ h1.1 := by have := ch1.1; omega
  have cc1 := (Ch.rf h 0 216 0 0).trans ch1
  refine tX10_withLabel_10  (r := ?_)
  refine tX10_withLabel_11  (r := ?_)
  refine tX10_withLabel_12  (r := ?_)
  refine tX10_withLabel_14  (r := ?_)
  refine tX10_withLabel_16  (r := ?_)
  refine tX10_withLabel_19  (r := ?_)
  refine tX10_withLabel_20  (r := ?_)
  refine tX10_withLabel_21  (r := ?_)
  refine tX10_withLabel_22 (hd := (by omega)) (ha := (by first | assumption | (repeat (first | assumption | exact At.set_eq2 (by first | omega | (simp only [hset, hnew]; omega) | rfl | decide) | exact At.new_eq2 _ _ (by first | omega | (simp only [hset, hnew]; omega) | rfl | decide) | refine At.set_ne ?_ (by first | omega | (simp only [hset, hnew]; omega) | rfl | decide) | refine At.new_ne ?_)))) (call := ck_rx (k_beansOf_ok (d := 9) (by decide) c1 hb hh1 hk)) (kx := fun E_ h_ hx_ => by exact hx_.elim) (k := ?_)
  rintro v2 h2 ⟨rfl, c2, ch2⟩
  have p2 := c2.poll
  have b2_ := c2.book
  have hh2 : 216 ≤ h2.1 := by have := ch2.1; omega
  have cc2 := cc1.trans ch2
  refine tX10_withLabel_25  (r := ?_)
  refine tX10_withLabel_26  (r := ?_)
  refine tX10_withLabel_27  (r := ?_)
  refine tX10_withLabel_29  (r := ?_)
  refine tX10_withLabel_31  (r := ?_)
  refine tX10_withLabel_34  (r := ?_)
  refine tX10_withLabel_35  (r := ?_)
  refine tX10_withLabel_36  (r := ?_)
  refine tX10_withLabel_37 (hd := (by omega)) (ha := (by first | assumption | (repeat (first | assumption | exact At.set_eq2 (by first | omega | (simp only [hset, hnew]; omega) | rfl | decide) | exact At.new_eq2 _ _ (by first | omega | (simp only [hset, hnew]; omega) | rfl | decide) | refine At.set_ne ?_ (by first | omega | (simp only [hset, hnew]; omega) | rfl | decide) | refine At.new_ne ?_)))) (call := ck_rx (k_seatsInAll_ok (d := 9) (by decide) c2 hb hh2 hk)) (kx := fun E_ h_ hx_ => by exact hx_.elim) (k := ?_)
  rintro v3 h3 ⟨rfl, c3, ch3⟩
  have p3 := c3.poll
  have b3_ := c3.book
  have hh3 : 216 ≤ h3.1 := by have := ch3.1; omega
  have cc3 := cc2.trans ch3
  refine tX10_withLabel_40  (r := ?_)
  refine tX10_withLabel_41  (r := ?_)
  refine tX10_withLabel_42  (r := ?_)
  refine tX10_withLabel_44  (r := ?_)
  refine tX10_withLabel_46  (r := ?_)
  refine tX10_withLabel_49  (r := ?_)
  refine tX10_withLabel_50  (r := ?_)
  refine tX10_withLabel_51  (r := ?_)
  refine tX10_withLabel_52 (hd := (by omega)) (ha := (by first | assumption | (repeat (first | assumption | exact At.set_eq2 (by first | omega | (simp only [hset, hnew]; omega) | rfl | decide) | exact At.new_eq2 _ _ (by first | omega | (simp only [hset, hnew]; omega) | rfl | decide) | refine At.set_ne ?_ (by first | omega | (simp only [hset, hnew]; omega) | rfl | decide) | refine At.new_ne ?_)))) (call := ck_rx (k_hasMajority_ok (d := 9) (by decide) c3 hb hh3 hk)) (kx := fun E_ h_ hx_ => by exact hx_.elim) (k := ?_)
  rintro v4 h4 ⟨rfl, c4, ch4⟩
  have p4 := c4.poll
  have b4_ := c4.book
  have hh4 : 216 ≤ h4.1 := by have := ch4.1; omega
  have cc4 := cc3.trans ch4
  refine tX10_withLabel_55  (kt := fun c_55 => ?_) (kf := fun c_55 => ?_)
  · have eg : (if gov s.2.2.1 s.2.2.2 k = 0 then nI 0 else nI 1) = nI 0 := if_pos c_55
    refine tX10_withLabel_62  (r := ?_)
    refine tX10_withLabel_63  (r := ?_)
    refine tX10_withLabel_64  (r := ?_)
    refine tX10_withLabel_65  (r := ?_)
    refine tX10_withLabel_67  (r := ?_)
    refine tX10_withLabel_69  (r := ?_)
    refine tX10_withLabel_72  (r := ?_)
    refine tX10_withLabel_73  (r := ?_)
    refine tX10_withLabel_74  (r := ?_)
    refine tX10_withLabel_75 (hd := (by omega)) (ha := (by first | assumption | (repeat (first | assumption | exact At.set_eq2 (by first | omega | (simp only [hset, hnew]; omega) | rfl | decide) | exact At.new_eq2 _ _ (by first | omega | (simp only [hset, hnew]; omega) | rfl | decide) | refine At.set_ne ?_ (by first | omega | (simp only [hset, hnew]; omega) | rfl | decide) | refine At.new_ne ?_)))) (call := ck_rx (k_bestJarFor_ok (d := 9) (by decide) c4 hb hh4 hk)) (kx := fun E_ h_ hx_ => by exact hx_.elim) (k := ?_)
    rintro v5 h5 ⟨rfl, c5, ch5⟩
    have p5 := c5.poll
    have b5_ := c5.book
    have hh5 : 216 ≤ h5.1 := by have := ch5.1; omega
    have cc5 := cc4.trans ch5
    refine tX10_withLabel_78  (r := ?_)
    refine tX10_withLabel_79  (r := ?_)
    refine tX10_withLabel_80  (hP := ?_)
    refine ⟨_, rfl, ?_, c5, cc5⟩
    unfold dgLa
    rw [eg]
    rfl
  · have eg : (if gov s.2.2.1 s.2.2.2 k = 0 then nI 0 else nI 1) = nI 1 := if_neg c_55
    refine tX10_withLabel_58  (r := ?_)
    refine tX10_withLabel_59 (r := ?_)
    refine tX10_withLabel_63  (r := ?_)
    refine tX10_withLabel_64  (r := ?_)
    refine tX10_withLabel_65  (r := ?_)
    refine tX10_withLabel_67  (r := ?_)
    refine tX10_withLabel_69  (r := ?_)
    refine tX10_withLabel_72  (r := ?_)
    refine tX10_withLabel_73  (r := ?_)
    refine tX10_withLabel_74  (r := ?_)
    refine tX10_withLabel_75 (hd := (by omega)) (ha := (by first | assumption | (repeat (first | assumption | exact At.set_eq2 (by first | omega | (simp only [hset, hnew]; omega) | rfl | decide) | exact At.new_eq2 _ _ (by first | omega | (simp only [hset, hnew]; omega) | rfl | decide) | refine At.set_ne ?_ (by first | omega | (simp only [hset, hnew]; omega) | rfl | decide) | refine At.new_ne ?_)))) (call := ck_rx (k_bestJarFor_ok (d := 9) (by decide) c4 hb hh4 hk)) (kx := fun E_ h_ hx_ => by exact hx_.elim) (k := ?_)
    rintro v5 h5 ⟨rfl, c5, ch5⟩
    have p5 := c5.poll
    have b5_ := c5.book
    have hh5 : 216 ≤ h5.1 := by have := ch5.1; omega
    have cc5 := cc4.trans ch5
    refine tX10_withLabel_78  (r := ?_)
    refine tX10_withLabel_79  (r := ?_)
    refine tX10_withLabel_80  (hP := ?_)
    refine ⟨_, rfl, ?_, c5, cc5⟩
    unfold dgLa
    rw [eg]
    rfl

set_option maxHeartbeats 4000000 in
set_option maxRecDepth 100000 in
theorem s_withJar_l (hd : 10 ≤ d) (hb : BDok s.2.2.1 s.2.2.2) (hh0 : 216 ≤ h0.1) {d0 : Int64} {j : Nat} (hj : j < bJa s.2.2.1) : ∀ (n i : Nat) (h : AH), bLa s.2.2.1 ≤ i + n → i ≤ bLa s.2.2.1 → ClR h 0 bk dr s → Ch h0 h 0 216 0 0 → RQ G mX10_withJar d 92 [some (.ref 0), some (.long d0), none, some (.int (nI j)), some (.long (dgJa s d0 j i)), none, some (.int (nI i))] [] h (Rj fun v h1 => v = dgJa s d0 j (bLa s.2.2.1) ∧ ClR h1 0 bk dr s ∧ Ch h0 h1 0 216 0 0) := by
  have ex : ∀ (i : Nat) (h : AH), i = bLa s.2.2.1 → ClR h 0 bk dr s → Ch h0 h 0 216 0 0 → RQ G mX10_withJar d 92 [some (.ref 0), some (.long d0), none, some (.int (nI j)), some (.long (dgJa s d0 j i)), none, some (.int (nI i))] [] h (Rj fun v h1 => v = dgJa s d0 j (bLa s.2.2.1) ∧ ClR h1 0 bk dr s ∧ Ch h0 h1 0 216 0 0) := by
    intro i h hi c cc
    subst hi
    have c0_ := c.poll
    have cb := c.book
    have l1 := hb.1
    have hh : 216 ≤ h.1 := by have := cc.1; omega
    refine tX10_withJar_92  (r := ?_)
    refine tX10_withJar_94  (r := ?_)
    refine tX10_withJar_95 (ha := (by first | assumption | (repeat (first | assumption | exact At.set_eq2 (by first | omega | (simp only [hset, hnew]; omega) | rfl | decide) | exact At.new_eq2 _ _ (by first | omega | (simp only [hset, hnew]; omega) | rfl | decide) | refine At.set_ne ?_ (by first | omega | (simp only [hset, hnew]; omega) | rfl | decide) | refine At.new_ne ?_)))) (hv := rfl) (r := ?_)
    refine tX10_withJar_98 (ha := (by first | assumption | (repeat (first | assumption | exact At.set_eq2 (by first | omega | (simp only [hset, hnew]; omega) | rfl | decide) | exact At.new_eq2 _ _ (by first | omega | (simp only [hset, hnew]; omega) | rfl | decide) | refine At.set_ne ?_ (by first | omega | (simp only [hset, hnew]; omega) | rfl | decide) | refine At.new_ne ?_)))) (hv := rfl) (r := ?_)
    refine tX10_withJar_101  (kf := fun c_ => by exfalso; exact c_ ((nI_leI (by omega) (by omega)).mpr (Nat.le_refl _))) (kt := fun _ => ?_)
    refine tX10_withJar_161  (r := ?_)
    refine tX10_withJar_163  (hP := ?_)
    exact ⟨_, rfl, rfl, c, cc⟩
  intro n
  induction n with
  | zero => exact fun i h h1_ h2_ => ex i h (by omega)
  | succ n ih =>
    intro i h h1_ h2_ c cc
    by_cases hi : i = bLa s.2.2.1
    · exact ex i h hi c cc
    have hi2 : i < bLa s.2.2.1 := by omega
    have c0_ := c.poll
    have cb := c.book
    have l1 := hb.1
    have hh : 216 ≤ h.1 := by have := cc.1; omega
    refine tX10_withJar_92  (r := ?_)
    refine tX10_withJar_94  (r := ?_)
    refine tX10_withJar_95 (ha := (by first | assumption | (repeat (first | assumption | exact At.set_eq2 (by first | omega | (simp only [hset, hnew]; omega) | rfl | decide) | exact At.new_eq2 _ _ (by first | omega | (simp only [hset, hnew]; omega) | rfl | decide) | refine At.set_ne ?_ (by first | omega | (simp only [hset, hnew]; omega) | rfl | decide) | refine At.new_ne ?_)))) (hv := rfl) (r := ?_)
    refine tX10_withJar_98 (ha := (by first | assumption | (repeat (first | assumption | exact At.set_eq2 (by first | omega | (simp only [hset, hnew]; omega) | rfl | decide) | exact At.new_eq2 _ _ (by first | omega | (simp only [hset, hnew]; omega) | rfl | decide) | refine At.set_ne ?_ (by first | omega | (simp only [hset, hnew]; omega) | rfl | decide) | refine At.new_ne ?_)))) (hv := rfl) (r := ?_)
    refine tX10_withJar_101  (kt := fun c_ => by exfalso; exact absurd ((nI_leI (by omega) (by omega)).mp c_) (by omega)) (kf := fun _ => ?_)
    refine tX10_withJar_104  (r := ?_)
    refine tX10_withJar_106  (r := ?_)
    refine tX10_withJar_109  (r := ?_)
    refine tX10_withJar_110  (r := ?_)
    refine tX10_withJar_111  (r := ?_)
    refine tX10_withJar_112  (r := ?_)
    refine tX10_withJar_114 (hd := (by omega)) (ha := (by first | assumption | (repeat (first | assumption | exact At.set_eq2 (by first | omega | (simp only [hset, hnew]; omega) | rfl | decide) | exact At.new_eq2 _ _ (by first | omega | (simp only [hset, hnew]; omega) | rfl | decide) | refine At.set_ne ?_ (by first | omega | (simp only [hset, hnew]; omega) | rfl | decide) | refine At.new_ne ?_)))) (call := ck_rx (k_beansIn_ok (d := 9) (by decide) c hb hh hj hi2)) (kx := fun E_ h_ hx_ => by exact hx_.elim) (k := ?_)
    rintro v1 h1 ⟨rfl, c1, ch1⟩
    have p1 := c1.poll
    have b1_ := c1.book
    have hh1 : 216 ≤ h1.1 := by have := ch1.1; omega
    have cc1 := cc.trans ch1
    refine tX10_withJar_117  (r := ?_)
    refine tX10_withJar_118  (r := ?_)
    refine tX10_withJar_119  (r := ?_)
    refine tX10_withJar_121  (r := ?_)
    refine tX10_withJar_123  (r := ?_)
    refine tX10_withJar_126  (r := ?_)
    refine tX10_withJar_127  (r := ?_)
    refine tX10_withJar_128  (r := ?_)
    refine tX10_withJar_129  (r := ?_)
    refine tX10_withJar_131 (hd := (by omega)) (ha := (by first | assumption | (repeat (first | assumption | exact At.set_eq2 (by first | omega | (simp only [hset, hnew]; omega) | rfl | decide) | exact At.new_eq2 _ _ (by first | omega | (simp only [hset, hnew]; omega) | rfl | decide) | refine At.set_ne ?_ (by first | omega | (simp only [hset, hnew]; omega) | rfl | decide) | refine At.new_ne ?_)))) (call := ck_rx (k_seatsWon_ok (d := 9) (by decide) c1 hb hh1 hj hi2)) (kx := fun E_ h_ hx_ => by exact hx_.elim) (k := ?_)
    rintro v2 h2 ⟨rfl, c2, ch2⟩
    have p2 := c2.poll
    have b2_ := c2.book
    have hh2 : 216 ≤ h2.1 := by have := ch2.1; omega
    have cc2 := cc1.trans ch2
    refine tX10_withJar_134  (r := ?_)
    refine tX10_withJar_135  (r := ?_)
    refine tX10_withJar_136  (r := ?_)
    refine tX10_withJar_138  (r := ?_)
    refine tX10_withJar_140  (r := ?_)
    refine tX10_withJar_143  (r := ?_)
    refine tX10_withJar_144  (r := ?_)
    refine tX10_withJar_145  (r := ?_)
    refine tX10_withJar_146  (r := ?_)
    refine tX10_withJar_148 (hd := (by omega)) (ha := (by first | assumption | (repeat (first | assumption | exact At.set_eq2 (by first | omega | (simp only [hset, hnew]; omega) | rfl | decide) | exact At.new_eq2 _ _ (by first | omega | (simp only [hset, hnew]; omega) | rfl | decide) | refine At.set_ne ?_ (by first | omega | (simp only [hset, hnew]; omega) | rfl | decide) | refine At.new_ne ?_)))) (call := ck_rx (k_beansToWin_ok (d := 9) (by decide) c2 hb hh2 hj hi2)) (kx := fun E_ h_ hx_ => by exact hx_.elim) (k := ?_)
    rintro v3 h3 ⟨rfl, c3, ch3⟩
    have p3 := c3.poll
    have b3_ := c3.book
    have hh3 : 216 ≤ h3.1 := by have := ch3.1; omega
    have cc3 := cc2.trans ch3
    refine tX10_withJar_151  (r := ?_)
    refine tX10_withJar_152  (r := ?_)
    refine tX10_withJar_153  (r := ?_)
    refine tX10_withJar_155  (r := ?_)
    rw [nI_add]
    refine tX10_withJar_158 (r := ?_)
    exact ih (i + 1) h3 (by omega) (by omega) c3 cc3

set_option maxHeartbeats 4000000 in
set_option maxRecDepth 100000 in
theorem s_withJar (hd : 10 ≤ d) (c : ClR h0 0 bk dr s) (hb : BDok s.2.2.1 s.2.2.2) (hh : 216 ≤ h0.1) {d0 : Int64} {j : Nat} (hj : j < bJa s.2.2.1) : RQ G mX10_withJar d 0 [some (.ref 0), some (.long d0), none, some (.int (nI j)), none, none, none] [] h0 (Rj fun v h1 => v = dgJa s d0 j (bLa s.2.2.1) ∧ ClR h1 0 bk dr s ∧ Ch h0 h1 0 216 0 0) := by
  have c0_ := c.poll
  have cb := c.book
  refine tX10_withJar_0  (r := ?_)
  refine tX10_withJar_1  (r := ?_)
  refine tX10_withJar_4  (r := ?_)
  refine tX10_withJar_5  (r := ?_)
  refine tX10_withJar_6  (r := ?_)
  refine tX10_withJar_7 (hd := (by omega)) (ha := (by first | assumption | (repeat (first | assumption | exact At.set_eq2 (by first | omega | (simp only [hset, hnew]; omega) | rfl | decide) | exact At.new_eq2 _ _ (by first | omega | (simp only [hset, hnew]; omega) | rfl | decide) | refine At.set_ne ?_ (by first | omega | (simp only [hset, hnew]; omega) | rfl | decide) | refine At.new_ne ?_)))) (call := ck_rx (k_turnout_ok (d := 9) (by decide) c hb hh hj)) (kx := fun E_ h_ hx_ => by exact hx_.elim) (k := ?_)
  rintro v1 h1 ⟨rfl, c1, ch1⟩
  have p1 := c1.poll
  have b1_ := c1.book
  have hh1 : 216 ≤ h1.1 := by have := ch1.1; omega
  have cc1 := (Ch.rf h0 0 216 0 0).trans ch1
  refine tX10_withJar_10  (r := ?_)
  refine tX10_withJar_11  (r := ?_)
  refine tX10_withJar_12  (r := ?_)
  refine tX10_withJar_14  (r := ?_)
  refine tX10_withJar_16  (r := ?_)
  refine tX10_withJar_19  (r := ?_)
  refine tX10_withJar_20  (r := ?_)
  refine tX10_withJar_21  (r := ?_)
  refine tX10_withJar_22 (hd := (by omega)) (ha := (by first | assumption | (repeat (first | assumption | exact At.set_eq2 (by first | omega | (simp only [hset, hnew]; omega) | rfl | decide) | exact At.new_eq2 _ _ (by first | omega | (simp only [hset, hnew]; omega) | rfl | decide) | refine At.set_ne ?_ (by first | omega | (simp only [hset, hnew]; omega) | rfl | decide) | refine At.new_ne ?_)))) (call := ck_rx (k_seatsOf_ok (d := 9) (by decide) c1 hb hh1 hj)) (kx := fun E_ h_ hx_ => by exact hx_.elim) (k := ?_)
  rintro v2 h2 ⟨rfl, c2, ch2⟩
  have p2 := c2.poll
  have b2_ := c2.book
  have hh2 : 216 ≤ h2.1 := by have := ch2.1; omega
  have cc2 := cc1.trans ch2
  refine tX10_withJar_25  (r := ?_)
  refine tX10_withJar_26  (r := ?_)
  refine tX10_withJar_27  (r := ?_)
  refine tX10_withJar_29  (r := ?_)
  refine tX10_withJar_31  (r := ?_)
  refine tX10_withJar_34  (r := ?_)
  refine tX10_withJar_35  (r := ?_)
  refine tX10_withJar_36  (r := ?_)
  refine tX10_withJar_37 (hd := (by omega)) (ha := (by first | assumption | (repeat (first | assumption | exact At.set_eq2 (by first | omega | (simp only [hset, hnew]; omega) | rfl | decide) | exact At.new_eq2 _ _ (by first | omega | (simp only [hset, hnew]; omega) | rfl | decide) | refine At.set_ne ?_ (by first | omega | (simp only [hset, hnew]; omega) | rfl | decide) | refine At.new_ne ?_)))) (call := ck_rx (k_firstIn_ok (d := 9) (by decide) c2 hb hh2 hj)) (kx := fun E_ h_ hx_ => by exact hx_.elim) (k := ?_)
  rintro v3 h3 ⟨rfl, c3, ch3⟩
  have p3 := c3.poll
  have b3_ := c3.book
  have hh3 : 216 ≤ h3.1 := by have := ch3.1; omega
  have cc3 := cc2.trans ch3
  refine tX10_withJar_40  (r := ?_)
  refine tX10_withJar_41  (r := ?_)
  refine tX10_withJar_42  (r := ?_)
  refine tX10_withJar_44  (r := ?_)
  refine tX10_withJar_46  (r := ?_)
  refine tX10_withJar_49  (r := ?_)
  refine tX10_withJar_50  (r := ?_)
  refine tX10_withJar_51  (r := ?_)
  refine tX10_withJar_52 (hd := (by omega)) (ha := (by first | assumption | (repeat (first | assumption | exact At.set_eq2 (by first | omega | (simp only [hset, hnew]; omega) | rfl | decide) | exact At.new_eq2 _ _ (by first | omega | (simp only [hset, hnew]; omega) | rfl | decide) | refine At.set_ne ?_ (by first | omega | (simp only [hset, hnew]; omega) | rfl | decide) | refine At.new_ne ?_)))) (call := ck_rx (k_marginIn_ok (d := 9) (by decide) c3 hb hh3 hj)) (kx := fun E_ h_ hx_ => by exact hx_.elim) (k := ?_)
  rintro v4 h4 ⟨rfl, c4, ch4⟩
  have p4 := c4.poll
  have b4_ := c4.book
  have hh4 : 216 ≤ h4.1 := by have := ch4.1; omega
  have cc4 := cc3.trans ch4
  refine tX10_withJar_55  (r := ?_)
  refine tX10_withJar_56  (r := ?_)
  refine tX10_withJar_57  (r := ?_)
  refine tX10_withJar_59  (r := ?_)
  refine tX10_withJar_61  (r := ?_)
  refine tX10_withJar_64  (r := ?_)
  refine tX10_withJar_65  (r := ?_)
  refine tX10_withJar_66  (r := ?_)
  refine tX10_withJar_67 (hd := (by omega)) (ha := (by first | assumption | (repeat (first | assumption | exact At.set_eq2 (by first | omega | (simp only [hset, hnew]; omega) | rfl | decide) | exact At.new_eq2 _ _ (by first | omega | (simp only [hset, hnew]; omega) | rfl | decide) | refine At.set_ne ?_ (by first | omega | (simp only [hset, hnew]; omega) | rfl | decide) | refine At.new_ne ?_)))) (call := ck_rx (k_emptySeats_ok (d := 9) (by decide) c4 hb hh4 hj)) (kx := fun E_ h_ hx_ => by exact hx_.elim) (k := ?_)
  rintro v5 h5 ⟨rfl, c5, ch5⟩
  have p5 := c5.poll
  have b5_ := c5.book
  have hh5 : 216 ≤ h5.1 := by have := ch5.1; omega
  have cc5 := cc4.trans ch5
  refine tX10_withJar_70  (r := ?_)
  refine tX10_withJar_71  (r := ?_)
  refine tX10_withJar_72  (r := ?_)
  refine tX10_withJar_74  (r := ?_)
  refine tX10_withJar_76  (r := ?_)
  refine tX10_withJar_79  (r := ?_)
  refine tX10_withJar_80  (r := ?_)
  refine tX10_withJar_81  (r := ?_)
  refine tX10_withJar_82 (hd := (by omega)) (ha := (by first | assumption | (repeat (first | assumption | exact At.set_eq2 (by first | omega | (simp only [hset, hnew]; omega) | rfl | decide) | exact At.new_eq2 _ _ (by first | omega | (simp only [hset, hnew]; omega) | rfl | decide) | refine At.set_ne ?_ (by first | omega | (simp only [hset, hnew]; omega) | rfl | decide) | refine At.new_ne ?_)))) (call := ck_rx (k_firstShaken_ok (d := 9) (by decide) c5 hb hh5 hj)) (kx := fun E_ h_ hx_ => by exact hx_.elim) (k := ?_)
  rintro v6 h6 ⟨rfl, c6, ch6⟩
  have p6 := c6.poll
  have b6_ := c6.book
  have hh6 : 216 ≤ h6.1 := by have := ch6.1; omega
  have cc6 := cc5.trans ch6
  refine tX10_withJar_85  (r := ?_)
  refine tX10_withJar_86  (r := ?_)
  refine tX10_withJar_87  (r := ?_)
  refine tX10_withJar_89  (r := ?_)
  refine tX10_withJar_90  (r := ?_)
  exact s_withJar_l hd hb hh hj (bLa s.2.2.1) 0 h6 (by omega) (by omega) c6 cc6

end DC
