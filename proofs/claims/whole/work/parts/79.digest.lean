/-! the digest of the class -/
def dgLa (s : ST) (d : Int64) (k : Nat) : Int64 := (dgS (dgS (dgS (dgS (dgS d (nI (rt (dF s.2.2.2) k))) (nI (su (fun j => dB s.2.2.2 j k) (bJa s.2.2.1)))) (nI (su (sw s.2.2.1 s.2.2.2 k) 8))) (if gov s.2.2.1 s.2.2.2 k = 0 then nI 0 else nI 1)) (oI (bjN (vB s.2.2.2 (rt (dF s.2.2.2) k)) (bJa s.2.2.1))))
def dgLs (s : ST) (d : Int64) : Nat → Int64
  | 0 => d
  | n + 1 => dgLa s (dgLs s d n) n
def dgJa (s : ST) (d : Int64) (j : Nat) : Nat → Int64
  | 0 => (dgS (dgS (dgS (dgS (dgS (dgS d (nI (su (dB s.2.2.2 j) 6))) (nI (bSe s.2.2.1 j))) (oI (fiN (po (rt (dF s.2.2.2)) (dB s.2.2.2 j)) 6))) (nI (mar (po (rt (dF s.2.2.2)) (dB s.2.2.2 j))))) (nI (emp (po (rt (dF s.2.2.2)) (dB s.2.2.2 j)) (su (dB s.2.2.2 j) 6) (bSe s.2.2.1 j) (bWy s.2.2.1 j)))) (oI (fiN (po (rt (dF (jrB s.2.2.2 j (stB (dB s.2.2.2 j) (bLa s.2.2.1))))) (dB (jrB s.2.2.2 j (stB (dB s.2.2.2 j) (bLa s.2.2.1))) j)) 6)))
  | k + 1 => (dgS (dgS (dgS (dgJa s d j k) (nI (dB s.2.2.2 j k))) (nI (wo (po (rt (dF s.2.2.2)) (dB s.2.2.2 j)) (su (dB s.2.2.2 j) 6) (bSe s.2.2.1 j) (bWy s.2.2.1 j) (rt (dF s.2.2.2) k)))) (oI (bw (po (rt (dF s.2.2.2)) (dB s.2.2.2 j)) (rt (dF s.2.2.2) k))))
def dgJs (s : ST) (d : Int64) : Nat → Int64
  | 0 => d
  | n + 1 => dgJa s (dgJs s d n) n (bLa s.2.2.1)
def dgDs (s : ST) (d : Int64) : Nat → Int64
  | 0 => d
  | n + 1 => dgS (dgS (dgS (dgDs s d n) (nI (dL s.2.2.2 n))) (nI (bLl s.2.2.1 n))) (roV s.2.2.1 s.2.2.2 n)
section DC
variable {G : GT} {d : Nat} {h0 h : AH} {bk dr : Nat} {s : ST}
theorem ck_ri {M : MI} {L : List (Option Value)} {E1 E2 : String} {V : Int32} {s2 : ST} (r : RQ G M d 0 L [] h (CK h bk dr s2 E1 E2 0 V)) : RQ G M d 0 L [] h (Ri fun v h1 => v = V ∧ ClR h1 0 bk dr s2 ∧ Ch h h1 0 216 0 0) := r.imp (fun o h1 q => by
  obtain ⟨p, c, ch⟩ := q
  rcases p with ⟨-, e⟩ | ⟨e, -⟩ | ⟨e, -⟩
  · exact ⟨_, e, rfl, c, ch⟩
  · exact absurd e (by decide)
  · exact absurd e (by decide))
theorem ck_rx {M : MI} {L : List (Option Value)} {E1 E2 : String} {V : Int32} {s2 : ST} (r : RQ G M d 0 L [] h (CK h bk dr s2 E1 E2 0 V)) : RQ G M d 0 L [] h (Rx (Ri fun v h1 => v = V ∧ ClR h1 0 bk dr s2 ∧ Ch h h1 0 216 0 0) (fun _ _ => False)) := (ck_ri r).imp (fun o h1 q => Or.inl q)

set_option maxHeartbeats 4000000 in
set_option maxRecDepth 100000 in
theorem s_withLabel (hd : 10 ≤ d) (c : ClR h 0 bk dr s) (hb : BDok s.2.2.1 s.2.2.2) (hh : 216 ≤ h.1) {d0 : Int64} {k : Nat} (hk : k < bLa s.2.2.1) : RQ G mX10_withLabel d 0 [some (.ref 0), some (.long d0), none, some (.int (nI k)), none, none] [] h (Rj fun v h1 => v = dgLa s d0 k ∧ ClR h1 0 bk dr s ∧ Ch h h1 0 216 0 0) := by
  have c1 := c.poll
  have cb := c.book
  refine tX10_withLabel_0  (r := ?_)
  refine tX10_withLabel_1  (r := ?_)
  refine tX10_withLabel_4  (r := ?_)
  refine tX10_withLabel_5  (r := ?_)
  refine tX10_withLabel_6  (r := ?_)
  refine tX10_withLabel_7 (hd := (by omega)) (ha := (by first | assumption | (repeat (first | assumption | exact At.set_eq2 (by first | omega | (simp only [hset, hnew]; omega) | rfl | decide) | exact At.new_eq2 _ _ (by first | omega | (simp only [hset, hnew]; omega) | rfl | decide) | refine At.set_ne ?_ (by first | omega | (simp only [hset, hnew]; omega) | rfl | decide) | refine At.new_ne ?_)))) (call := ck_rx (k_leaderOf_ok (d := 9) (by decide) c hb hh hk)) (kx := fun E_ h_ hx_ => by exact hx_.elim) (k := ?_)
  rintro v1 h1 ⟨rfl, c1, ch1⟩
  have p1 := c1.poll
  have b1_ := c1.book
  have hh1 : 216 ≤ h1.1 := by have := ch1.1; omega
  have cc1 := (Ch.rf h 0 216 0 0).trans ch1
  refine tX10_withLabel_10  (r := ?_)
  refine tX10_withLabel_11  (r := ?_)
  refine tX10_withLabel_12  (r := ?_)
  refine tX10_withLabel_14  (r := ?_)
  refine tX10_withLabel_16  (r := ?_)
  refine tX10_withLabel_19  (r := ?_)
  refine tX10_withLabel_20  (r := ?_)
  refine tX10_withLabel_21  (r := ?_)
  refine tX10_withLabel_22 (hd := (by omega)) (ha := (by first | assumption | (repeat (first | assumption | exact At.set_eq2 (by first | omega | (simp only [hset, hnew]; omega) | rfl | decide) | exact At.new_eq2 _ _ (by first | omega | (simp only [hset, hnew]; omega) | rfl | decide) | refine At.set_ne ?_ (by first | omega | (simp only [hset, hnew]; omega) | rfl | decide) | refine At.new_ne ?_)))) (call := ck_rx (k_beansOf_ok (d := 9) (by decide) c1 hb hh1 hk)) (kx := fun E_ h_ hx_ => by exact hx_.elim) (k := ?_)
  rintro v2 h2 ⟨rfl, c2, ch2⟩
  have p2 := c2.poll
  have b2_ := c2.book
  have hh2 : 216 ≤ h2.1 := by have := ch2.1; omega
  have cc2 := cc1.trans ch2
  refine tX10_withLabel_25  (r := ?_)
  refine tX10_withLabel_26  (r := ?_)
  refine tX10_withLabel_27  (r := ?_)
  refine tX10_withLabel_29  (r := ?_)
  refine tX10_withLabel_31  (r := ?_)
  refine tX10_withLabel_34  (r := ?_)
  refine tX10_withLabel_35  (r := ?_)
  refine tX10_withLabel_36  (r := ?_)
  refine tX10_withLabel_37 (hd := (by omega)) (ha := (by first | assumption | (repeat (first | assumption | exact At.set_eq2 (by first | omega | (simp only [hset, hnew]; omega) | rfl | decide) | exact At.new_eq2 _ _ (by first | omega | (simp only [hset, hnew]; omega) | rfl | decide) | refine At.set_ne ?_ (by first | omega | (simp only [hset, hnew]; omega) | rfl | decide) | refine At.new_ne ?_)))) (call := ck_rx (k_seatsInAll_ok (d := 9) (by decide) c2 hb hh2 hk)) (kx := fun E_ h_ hx_ => by exact hx_.elim) (k := ?_)
  rintro v3 h3 ⟨rfl, c3, ch3⟩
  have p3 := c3.poll
  have b3_ := c3.book
  have hh3 : 216 ≤ h3.1 := by have := ch3.1; omega
  have cc3 := cc2.trans ch3
  refine tX10_withLabel_40  (r := ?_)
  refine tX10_withLabel_41  (r := ?_)
  refine tX10_withLabel_42  (r := ?_)
  refine tX10_withLabel_44  (r := ?_)
  refine tX10_withLabel_46  (r := ?_)
  refine tX10_withLabel_49  (r := ?_)
  refine tX10_withLabel_50  (r := ?_)
  refine tX10_withLabel_51  (r := ?_)
  refine tX10_withLabel_52 (hd := (by omega)) (ha := (by first | assumption | (repeat (first | assumption | exact At.set_eq2 (by first | omega | (simp only [hset, hnew]; omega) | rfl | decide) | exact At.new_eq2 _ _ (by first | omega | (simp only [hset, hnew]; omega) | rfl | decide) | refine At.set_ne ?_ (by first | omega | (simp only [hset, hnew]; omega) | rfl | decide) | refine At.new_ne ?_)))) (call := ck_rx (k_hasMajority_ok (d := 9) (by decide) c3 hb hh3 hk)) (kx := fun E_ h_ hx_ => by exact hx_.elim) (k := ?_)
  rintro v4 h4 ⟨rfl, c4, ch4⟩
  have p4 := c4.poll
  have b4_ := c4.book
  have hh4 : 216 ≤ h4.1 := by have := ch4.1; omega
  have cc4 := cc3.trans ch4
  refine tX10_withLabel_55  (kt := fun c_55 => ?_) (kf := fun c_55 => ?_)
  · have eg : (if gov s.2.2.1 s.2.2.2 k = 0 then nI 0 else nI 1) = nI 0 := if_pos c_55
    refine tX10_withLabel_62  (r := ?_)
    refine tX10_withLabel_63  (r := ?_)
    refine tX10_withLabel_64  (r := ?_)
    refine tX10_withLabel_65  (r := ?_)
    refine tX10_withLabel_67  (r := ?_)
    refine tX10_withLabel_69  (r := ?_)
    refine tX10_withLabel_72  (r := ?_)
    refine tX10_withLabel_73  (r := ?_)
    refine tX10_withLabel_74  (r := ?_)
    refine tX10_withLabel_75 (hd := (by omega)) (ha := (by first | assumption | (repeat (first | assumption | exact At.set_eq2 (by first | omega | (simp only [hset, hnew]; omega) | rfl | decide) | exact At.new_eq2 _ _ (by first | omega | (simp only [hset, hnew]; omega) | rfl | decide) | refine At.set_ne ?_ (by first | omega | (simp only [hset, hnew]; omega) | rfl | decide) | refine At.new_ne ?_)))) (call := ck_rx (k_bestJarFor_ok (d := 9) (by decide) c4 hb hh4 hk)) (kx := fun E_ h_ hx_ => by exact hx_.elim) (k := ?_)
    rintro v5 h5 ⟨rfl, c5, ch5⟩
    have p5 := c5.poll
    have b5_ := c5.book
    have hh5 : 216 ≤ h5.1 := by have := ch5.1; omega
    have cc5 := cc4.trans ch5
    refine tX10_withLabel_78  (r := ?_)
    refine tX10_withLabel_79  (r := ?_)
    refine tX10_withLabel_80  (hP := ?_)
    refine ⟨_, rfl, ?_, c5, cc5⟩
    unfold dgLa
    rw [eg]
    rfl
  · have eg : (if gov s.2.2.1 s.2.2.2 k = 0 then nI 0 else nI 1) = nI 1 := if_neg c_55
    refine tX10_withLabel_58  (r := ?_)
    refine tX10_withLabel_59 (r := ?_)
    refine tX10_withLabel_63  (r := ?_)
    refine tX10_withLabel_64  (r := ?_)
    refine tX10_withLabel_65  (r := ?_)
    refine tX10_withLabel_67  (r := ?_)
    refine tX10_withLabel_69  (r := ?_)
    refine tX10_withLabel_72  (r := ?_)
    refine tX10_withLabel_73  (r := ?_)
    refine tX10_withLabel_74  (r := ?_)
    refine tX10_withLabel_75 (hd := (by omega)) (ha := (by first | assumption | (repeat (first | assumption | exact At.set_eq2 (by first | omega | (simp only [hset, hnew]; omega) | rfl | decide) | exact At.new_eq2 _ _ (by first | omega | (simp only [hset, hnew]; omega) | rfl | decide) | refine At.set_ne ?_ (by first | omega | (simp only [hset, hnew]; omega) | rfl | decide) | refine At.new_ne ?_)))) (call := ck_rx (k_bestJarFor_ok (d := 9) (by decide) c4 hb hh4 hk)) (kx := fun E_ h_ hx_ => by exact hx_.elim) (k := ?_)
    rintro v5 h5 ⟨rfl, c5, ch5⟩
    have p5 := c5.poll
    have b5_ := c5.book
    have hh5 : 216 ≤ h5.1 := by have := ch5.1; omega
    have cc5 := cc4.trans ch5
    refine tX10_withLabel_78  (r := ?_)
    refine tX10_withLabel_79  (r := ?_)
    refine tX10_withLabel_80  (hP := ?_)
    refine ⟨_, rfl, ?_, c5, cc5⟩
    unfold dgLa
    rw [eg]
    rfl

end DC
