/-! acts and rules are drawn -/
def KpO (h h1 : AH) : Prop := ∀ j k v, 216 ≤ j → At h j (.inr (k, v)) → (k = 14 ∨ k = 9) → At h1 j (.inr (k, v))
theorem KpI.o {h h1 : AH} (k : KpI h h1) : KpO h h1 := fun j q v e a z => k _ _ e a (by rcases z with rfl | rfl; exact imm14 _; exact imm9 _)
theorem KpO.trans {h h1 h2 : AH} (a : KpO h h1) (b : KpO h1 h2) : KpO h h2 := fun j k v e x z => b j k v e (a j k v e x z) z
theorem KpO.set {h h1 : AH} {i t : Nat} {x y : vp_A} (a : KpO h h1) (q : At h1 i (.inl (t, x))) : KpO h (hset h1 i (.inl (t, y))) := fun j k v e b z => At.set_ne (a j k v e b z) ((a j k v e b z).ne q (by simp))
theorem KpO.set15 {h h1 : AH} {i : Nat} {u v9 : List Value} (a : KpO h h1) (q : At h1 i (.inr (15, u))) : KpO h (hset h1 i (.inr (15, v9))) := fun j k v e b z => At.set_ne (a j k v e b z) ((a j k v e b z).ne q (fun w => by injection w with w; injection w with w; omega))
theorem KpO.new {h : AH} {n : Nat} {c : AC} : KpO h (hnew h n c) := fun _ _ _ _ b _ => At.new_ne b
theorem NdR.ko {h h1 : AH} {a so n : Nat} {x y : Option Nat} (q : NdR h a so n x y) (k : KpO h h1) : NdR h1 a so n x y := ⟨q.1, k _ _ _ q.1 q.2 (Or.inl rfl)⟩
theorem VaR.ko {h h1 : AH} {a : Nat} {e : EVa} (q : VaR h a e) (k : KpO h h1) : VaR h1 a e := by
  match e, q with
  | .inl l, q => exact NdR.ko q k
  | .inr (s, l, m), ⟨x, y, q1, q2, q3⟩ => exact ⟨x, y, q1.ko k, NdR.ko q2 k, NdR.ko q3 k⟩
theorem T0R.ko {h h1 : AH} {a : Nat} {e : ET0} (q : T0R h a e) (k : KpO h h1) : T0R h1 a e := by
  match e, q with
  | .inl (s, l), q => exact NdR.ko q k
  | .inr (s, e, l), ⟨x, y, q1, q2, q3⟩ => exact ⟨x, y, q1.ko k, q2.ko k, NdR.ko q3 k⟩
theorem T1R.ko {h h1 : AH} {a : Nat} {e : ET1} (q : T1R h a e) (k : KpO h h1) : T1R h1 a e := by
  match e, q with
  | .inl t, q => exact T0R.ko q k
  | .inr (s, t, u), ⟨x, y, q1, q2, q3⟩ => exact ⟨x, y, q1.ko k, q2.ko k, fun n => (q3 n).imp (fun z w => ⟨w.1, w.2.ko k⟩)⟩
theorem AcR.ko {h h1 : AH} {a : Nat} {e : EAc} (q : AcR h a e) (k : KpO h h1) : AcR h1 a e := ⟨q.1, q.2.imp (fun x w => ⟨k _ _ _ q.1 w.1 (Or.inr rfl), fun n => (w.2 n).imp (fun z v => ⟨v.1, v.2.ko k⟩)⟩)⟩
theorem Fc.ko {h h1 : AH} {b ck sk : Nat} (x : Fc h h1 b ck sk) (q : DiR h b) : KpO h h1 := (q.kp x).o
theorem Fb.set {h h1 : AH} {b v ck sk i : Nat} {c : AC} (x : Fb h h1 b v ck sk) (e : i = b ∨ i = v ∨ h.1 ≤ i) : Fb h (hset h1 i c) b v ck sk := ⟨x.1, x.2.1, x.2.2.1, fun j hj n n2 => by
  show (if j = i then c else h1.2.2 j) = _
  rw [if_neg (by omega)]
  exact x.2.2.2 j hj n n2⟩
theorem Fb.fc {h h1 h2 : AH} {b v ck sk ck2 sk2 : Nat} (x : Fb h h1 b v ck sk) (c : Fc h1 h2 v ck2 sk2) : Fb h h2 b v (ck + ck2) (sk + sk2) := by
  obtain ⟨a1, a2, a3, a4⟩ := x
  obtain ⟨c1, c2, c3, c4⟩ := c
  exact ⟨by omega, by omega, by omega, fun j hj n n2 => (c4 j (by omega) n2).trans (a4 j hj n n2)⟩
theorem Fb.new {h h1 : AH} {b v ck sk n : Nat} {c : AC} (x : Fb h h1 b v ck sk) : Fb h (hnew h1 n c) b v (ck + 1) (sk + n) := ⟨by have := x.1; show h.1 ≤ h1.1 + 1; omega, by have := x.2.1; show h1.1 + 1 ≤ _; omega, by have := x.2.2.1; show h1.2.1 + n ≤ _; omega, fun j hj n1 n2 => by
  show (if j = h1.1 then c else h1.2.2 j) = _
  have := x.1
  rw [if_neg (by omega)]
  exact x.2.2.2 j hj n1 n2⟩
theorem Fb.fbn {h h1 h2 : AH} {b v a ck sk ck2 sk2 : Nat} (x : Fb h h1 b v ck sk) (c : Fb h1 h2 a v ck2 sk2) (e : h.1 ≤ a) : Fb h h2 b v (ck + ck2) (sk + sk2) := by
  obtain ⟨a1, a2, a3, a4⟩ := x
  obtain ⟨c1, c2, c3, c4⟩ := c
  exact ⟨by omega, by omega, by omega, fun j hj n n2 => (c4 j (by omega) (by omega) n2).trans (a4 j hj n n2)⟩
theorem Fb.fcn {h h2 h3 : AH} {b v ck sk ck2 sk2 : Nat} (x : Fc h h2 v ck sk) (c : Fb h2 h3 b v ck2 sk2) (e : h.1 ≤ b) : Fc h h3 v (ck + ck2) (sk + sk2) := by
  obtain ⟨a1, a2, a3, a4⟩ := x
  obtain ⟨c1, c2, c3, c4⟩ := c
  exact ⟨by omega, by omega, by omega, fun j hj n => (c4 j (by omega) (by omega) n).trans (a4 j hj n)⟩
theorem Fb.sub {h h1 : AH} {b v ck sk ck2 sk2 : Nat} (x : Fb h h1 b v ck sk) (e1 : ck ≤ ck2) (e2 : sk ≤ sk2) : Fb h h1 b v ck2 sk2 := ⟨x.1, by have := x.2.1; omega, by have := x.2.2.1; omega, x.2.2.2⟩
section DA
variable {G : GT} {d di la ja : Nat}

set_option maxHeartbeats 4000000 in
theorem s_acT (l1 : 0 < la) (l2 : la ≤ 6) (j1 : 0 < ja) (j2 : ja ≤ 8) (hd : 5 ≤ d) {h : AH} {a k dv : Nat} (h4 : dv ≤ 4) (h216 : 216 ≤ a) (q : DiR h di) (aa : At h a (.inr (9, [.int 0, .int 0, .null]))) : RQ G mX11_init d 27 [some (.ref a), some (.ref di), some (.int (nI la)), some (.int (nI ja)), some (.int (nI k))] [.int (nI dv), .ref a] h (Rv fun h1 => ∃ e, okAc la ja e ∧ AcR h1 a e ∧ DiR h1 di ∧ Fb h h1 a di 3 12) := by
  have nad : a ≠ di := by
    obtain ⟨x, w⟩ := q
    exact aa.ne w (fun z => by injection z with z; injection z with z; omega)
  have ga := aa.1
  refine tX11_init_27 (ha := (by first | assumption | (repeat (first | assumption | exact At.set_eq2 (by first | omega | (simp only [hset, hnew]; omega) | rfl | decide) | exact At.new_eq2 _ _ (by first | omega | (simp only [hset, hnew]; omega) | rfl | decide) | refine At.set_ne ?_ (by first | omega | (simp only [hset, hnew]; omega) | rfl | decide) | refine At.new_ne ?_)))) (hlen := rfl) (r := ?_)
  refine tX11_init_30  (r := ?_)
  refine tX11_init_31  (r := ?_)
  refine tX11_init_32 (ha := (by first | assumption | (repeat (first | assumption | exact At.set_eq2 (by first | omega | (simp only [hset, hnew]; omega) | rfl | decide) | exact At.new_eq2 _ _ (by first | omega | (simp only [hset, hnew]; omega) | rfl | decide) | refine At.set_ne ?_ (by first | omega | (simp only [hset, hnew]; omega) | rfl | decide) | refine At.new_ne ?_)))) (hv := rfl) (r := ?_)
  refine tX11_init_35  (r := ?_)
  refine tX11_init_36  (kt := fun c_36 => ?_) (kf := fun c_36 => ?_)
  · have e1 : dv ≠ 1 := fun z => c_36 (congrArg nI z)
    refine tX11_init_47  (r := ?_)
    refine tX11_init_48  (r := ?_)
    refine tX11_init_49 (hd := (by omega)) (ha := (q.imp (fun _ w => At.set_ne w (Ne.symm nad))).choose_spec) (call := s_next (d := 1) (h := (hset h a _)) (by decide) (q.imp (fun _ w => At.set_ne w (Ne.symm nad))) (n := la) (by omega) (by omega)) (k := ?_)
    rintro r_ h2 ⟨⟨k2, hk2, e_⟩, qh2, fh2⟩
    rw [e_]
    refine tX11_init_52 (ha := (fh2.at (At.set_eq2 aa.1) nad)) (hlen := rfl) (r := ?_)
    refine tX11_init_55  (r := ?_)
    refine tX11_init_56  (r := ?_)
    refine tX11_init_57 (ha := (At.set_eq2 (by have := fh2.1; exact Nat.lt_of_lt_of_le aa.1 this))) (hv := rfl) (r := ?_)
    refine tX11_init_60  (kt := fun c_60 => ?_) (kf := fun c_60 => ?_)
    · have e0 : dv ≠ 0 := fun z => c_60 (by rw [z]; exact nI_0)
      refine tX11_init_72  (r := ?_)
      refine tX11_init_73q (v := none) (ha := (At.set_eq2 (by have := fh2.1; exact Nat.lt_of_lt_of_le aa.1 this))) (hlen := (by rfl)) (r := ?_)
      refine tX11_init_76  (hP := ?_)
      have g2 : h.1 ≤ h2.1 := fh2.1
      have FF : Fb h h2 a di 0 0 := ⟨fh2.1, fh2.2.1, fh2.2.2.1, fun j hj n1 n2 => (fh2.2.2.2 j hj n2).trans (if_neg n1)⟩
      refine ⟨rfl, (dv, k2, .inl (0, 0)), ⟨h4, fun z => absurd z e1, fun _ => hk2, Or.inl ⟨rfl, by decide⟩⟩, ⟨h216, none, At.set_eq2 (by have := fh2.1; exact Nat.lt_of_lt_of_le aa.1 this), fun z => absurd z e0⟩, (qh2.imp (fun _ w => At.set_ne (At.set_ne w (Ne.symm nad)) (Ne.symm nad))), ((FF.set (Or.inl rfl)).set (Or.inl rfl)).sub (by decide) (by decide)⟩
    · have e0 : dv = 0 := (nI_eq (by omega) (by decide)).mp (c_60.trans nI_0.symm)
      subst e0
      refine tX11_init_63  (r := ?_)
      refine tX11_init_64  (r := ?_)
      refine tX11_init_65  (r := ?_)
      refine tX11_init_66 (hd := (by omega)) (call := s_value1 l1 l2 (d := 4) (h := hset h2 a _) (by decide) (qh2.imp (fun _ w => At.set_ne w (Ne.symm nad))) (by have := fh2.1; have : h.1 ≤ h2.1 := this; show 216 ≤ h2.1; omega)) (k := ?_)
      rintro y h3 ⟨ey, oky, vay, -, qh3, fh3⟩
      have ah3 : At h3 a _ := fh3.at (At.set_eq2 (by have := fh2.1; exact Nat.lt_of_lt_of_le aa.1 this)) nad
      refine tX11_init_69 (r := ?_)
      refine tX11_init_73 (ha := ah3) (hlen := rfl) (r := ?_)
      refine tX11_init_76  (hP := ?_)
      have g2 : h.1 ≤ h2.1 := fh2.1
      have FF : Fb h h2 a di 0 0 := ⟨fh2.1, fh2.2.1, fh2.2.2.1, fun j hj n1 n2 => (fh2.2.2.2 j hj n2).trans (if_neg n1)⟩
      have vay2 := vay (hset h3 a (.inr (9, [.int (nI 0), .int (nI k2), .ref y]))) (fun j c e w => At.set_ne w (fun z => by
        have : h2.1 ≤ j := e
        have := aa.1
        omega))
      exact ⟨rfl, (0, k2, ey), ⟨Nat.zero_le _, fun z => absurd (show (0 : Nat) = 1 from z) (by decide), fun _ => hk2, oky⟩, ⟨h216, some y, At.set_eq2 ah3.1, fun _ => ⟨y, rfl, vay2⟩⟩, (qh3.imp (fun _ w => At.set_ne w (Ne.symm nad))), (((FF.set (Or.inl rfl)).fc fh3).set (Or.inl rfl)).sub (by decide) (by decide)⟩
  · have e1 : dv = 1 := (nI_eq (by omega) (by decide)).mp c_36
    subst e1
    refine tX11_init_39  (r := ?_)
    refine tX11_init_40  (r := ?_)
    refine tX11_init_41 (hd := (by omega)) (ha := (q.imp (fun _ w => At.set_ne w (Ne.symm nad))).choose_spec) (call := s_next (d := 1) (h := (hset h a _)) (by decide) (q.imp (fun _ w => At.set_ne w (Ne.symm nad))) (n := ja) (by omega) (by omega)) (k := ?_)
    rintro r_ h2 ⟨⟨k2, hk2, e_⟩, qh2, fh2⟩
    rw [e_]
    refine tX11_init_44 (r := ?_)
    refine tX11_init_52 (ha := (fh2.at (At.set_eq2 aa.1) nad)) (hlen := rfl) (r := ?_)
    refine tX11_init_55  (r := ?_)
    refine tX11_init_56  (r := ?_)
    refine tX11_init_57 (ha := (At.set_eq2 (by have := fh2.1; exact Nat.lt_of_lt_of_le aa.1 this))) (hv := rfl) (r := ?_)
    refine tX11_init_60  (kf := fun c_ => by exfalso; first | exact c_ (by decide) | exact absurd c_ (by decide)) (kt := fun _ => ?_)
    refine tX11_init_72  (r := ?_)
    refine tX11_init_73q (v := none) (ha := (At.set_eq2 (by have := fh2.1; exact Nat.lt_of_lt_of_le aa.1 this))) (hlen := (by rfl)) (r := ?_)
    refine tX11_init_76  (hP := ?_)
    have g2 : h.1 ≤ h2.1 := fh2.1
    have FF : Fb h h2 a di 0 0 := ⟨fh2.1, fh2.2.1, fh2.2.2.1, fun j hj n1 n2 => (fh2.2.2.2 j hj n2).trans (if_neg n1)⟩
    refine ⟨rfl, (1, k2, .inl (0, 0)), ⟨(by decide : 1 ≤ 4), fun _ => hk2, fun z => absurd rfl z, Or.inl ⟨rfl, by decide⟩⟩, ⟨h216, none, At.set_eq2 (by have := fh2.1; exact Nat.lt_of_lt_of_le aa.1 this), fun z => absurd (show (1 : Nat) = 0 from z) (by decide)⟩, (qh2.imp (fun _ w => At.set_ne (At.set_ne w (Ne.symm nad)) (Ne.symm nad))), ((FF.set (Or.inl rfl)).set (Or.inl rfl)).sub (by decide) (by decide)⟩
theorem s_acInit (l1 : 0 < la) (l2 : la ≤ 6) (j1 : 0 < ja) (j2 : ja ≤ 8) (hd : 5 ≤ d) {h : AH} {a : Nat} (h216 : 216 ≤ a) (q : DiR h di) (aa : At h a (.inr (9, [.int 0, .int 0, .null]))) : RQ G mX11_init d 0 [some (.ref a), some (.ref di), some (.int (nI la)), some (.int (nI ja)), none] [] h (Rv fun h1 => ∃ e, okAc la ja e ∧ AcR h1 a e ∧ DiR h1 di ∧ Fb h h1 a di 3 12) := by
  have nad : a ≠ di := by
    obtain ⟨x, w⟩ := q
    exact aa.ne w (fun z => by injection z with z; injection z with z; omega)
  refine tX11_init_0  (r := ?_)
  refine tX11_init_1 (hd := (by omega)) (r := ?_)
  refine tX11_init_4  (r := ?_)
  refine tX11_init_5  (r := ?_)
  refine tX11_init_7 (hd := (by omega)) (ha := q.choose_spec) (call := s_next (d := 1) (h := h) (by decide) q (n := 8) (by omega) (by omega)) (k := ?_)
  rintro r_ h1 ⟨⟨k, hk, e_⟩, qh1, fh1⟩
  rw [e_]
  refine tX11_init_10  (r := ?_)
  refine tX11_init_12  (r := ?_)
  refine tX11_init_13  (r := ?_)
  refine tX11_init_15  (r := ?_)
  refine tX11_init_16  (kt := fun c_16 => ?_) (kf := fun c_16 => ?_)
  · have c3 : 3 ≤ k := (nI_leI (by omega) (by omega)).mp c_16
    refine tX11_init_23  (r := ?_)
    refine tX11_init_25  (r := ?_)
    refine tX11_init_26  (r := ?_)
    rw [show nI k - nI 3 = nI (k - 3) from pk_sub c3]
    refine RQ.imp (s_acT l1 l2 j1 j2 hd (dv := k - 3) (by omega) h216 qh1 (fh1.at aa nad)) ?_
    rintro o h9 ⟨e, x, k1, k2, k3, k4⟩
    exact ⟨e, x, k1, k2, k3, ⟨Nat.le_trans fh1.1 k4.1, by have := k4.2.1; have := fh1.2.1; omega, by have := k4.2.2.1; have := fh1.2.2.1; omega, fun j hj n1 n2 => (k4.2.2.2 j (Nat.lt_of_lt_of_le hj fh1.1) n1 n2).trans (fh1.2.2.2 j hj n2)⟩⟩
  · refine tX11_init_19  (r := ?_)
    refine tX11_init_20 (r := ?_)
    refine RQ.imp (s_acT l1 l2 j1 j2 hd (dv := 0) (by decide) h216 qh1 (fh1.at aa nad)) ?_
    rintro o h9 ⟨e, x, k1, k2, k3, k4⟩
    exact ⟨e, x, k1, k2, k3, ⟨Nat.le_trans fh1.1 k4.1, by have := k4.2.1; have := fh1.2.1; omega, by have := k4.2.2.1; have := fh1.2.2.1; omega, fun j hj n1 n2 => (k4.2.2.2 j (Nat.lt_of_lt_of_le hj fh1.1) n1 n2).trans (fh1.2.2.2 j hj n2)⟩⟩
set_option maxHeartbeats 4000000 in
theorem s_ruInit_l (l1 : 0 < la) (l2 : la ≤ 6) (j1 : 0 < ja) (j2 : ja ≤ 8) (hd : 6 ≤ d) {h : AH} {a x y n0 : Nat} {e : ET1} (h216 : 216 ≤ a) (h216b : 216 ≤ h.1) (hn3 : n0 ≤ 3) (okt : ok1T la e) (nad : a ≠ di) (nyd : y ≠ di) (gy : h.1 ≤ y) : ∀ (n i : Nat), n0 ≤ i + n → i ≤ n0 → ∀ (h9 : AH) (f : Nat → Option Nat) (s : List EAc), DiR h9 di → At h9 a (.inr (15, [.ref x, .ref y])) → T1R h9 x e → At h9 y (.inl (8, n0, .inr (.inr (.inr (.inr f))))) → s.length = i → (∀ b ∈ s, okAc la ja b) → (∀ j (hj : j < s.length), ∃ z, f j = some z ∧ AcR h9 z s[j]) → Fb h h9 a di (12 + 4 * i) (47 + 15 * i) → RQ G mX17_init d 33 [some (.ref a), some (.ref di), some (.int (nI la)), some (.int (nI ja)), some (.int (nI i))] [] h9 (Rv fun h1 => ∃ r, okRu la ja r ∧ RuR h1 a r ∧ DiR h1 di ∧ Fb h h1 a di 24 92) := by
  have ex : ∀ (i : Nat), i = n0 → ∀ (h9 : AH) (f : Nat → Option Nat) (s : List EAc), DiR h9 di → At h9 a (.inr (15, [.ref x, .ref y])) → T1R h9 x e → At h9 y (.inl (8, n0, .inr (.inr (.inr (.inr f))))) → s.length = i → (∀ b ∈ s, okAc la ja b) → (∀ j (hj : j < s.length), ∃ z, f j = some z ∧ AcR h9 z s[j]) → Fb h h9 a di (12 + 4 * i) (47 + 15 * i) → RQ G mX17_init d 33 [some (.ref a), some (.ref di), some (.int (nI la)), some (.int (nI ja)), some (.int (nI i))] [] h9 (Rv fun h1 => ∃ r, okRu la ja r ∧ RuR h1 a r ∧ DiR h1 di ∧ Fb h h1 a di 24 92) := by
    intro i hi h9 f s q1 q2 q3 q4 q5 q6 q7 q8
    subst hi
    have g8 := q8.1
    refine tX17_init_33  (r := ?_)
    refine tX17_init_35  (r := ?_)
    refine tX17_init_36 (ha := q2) (hv := rfl) (r := ?_)
    refine tX17_init_39 (t := 8) (ha := q4) (ht := rfl) (r := ?_)
    refine tX17_init_40  (kf := fun c_ => by exfalso; exact c_ ((nI_leI (by omega) (by omega)).mpr (by omega))) (kt := fun _ => ?_)
    refine tX17_init_66  (hP := ?_)
    subst q5
    exact ⟨rfl, (e, s), ⟨okt, by omega, q6⟩, ⟨h216, x, y, f, q2, q3, Nat.le_trans h216b gy, q4, q7⟩, q1, q8.sub (by omega) (by omega)⟩
  intro n
  induction n with
  | zero => exact fun i h1_ h2_ => ex i (by omega)
  | succ n ih =>
    intro i h1_ h2_ h9 f s q1 q2 q3 q4 q5 q6 q7 q8
    by_cases hie : i = n0
    · exact ex i hie h9 f s q1 q2 q3 q4 q5 q6 q7 q8
    have hi : i < n0 := by omega
    have g8 := q8.1
    refine tX17_init_33  (r := ?_)
    refine tX17_init_35  (r := ?_)
    refine tX17_init_36 (ha := q2) (hv := rfl) (r := ?_)
    refine tX17_init_39 (t := 8) (ha := q4) (ht := rfl) (r := ?_)
    refine tX17_init_40  (kt := fun c_ => by exfalso; exact absurd ((nI_leI (by omega) (by omega)).mp c_) (by omega)) (kf := fun _ => ?_)
    refine tX17_init_43  (r := ?_)
    refine tX17_init_44 (ha := q2) (hv := rfl) (r := ?_)
    refine tX17_init_47  (r := ?_)
    refine tX17_init_49  (r := ?_)
    refine tX17_init_52  (r := ?_)
    refine tX17_init_53  (r := ?_)
    refine tX17_init_54  (r := ?_)
    refine tX17_init_55  (r := ?_)
    refine tX17_init_56 (hd := (by omega)) (call := s_acInit l1 l2 j1 j2 (d := 5) (h := hnew h9 3 _) (a := h9.1) (by decide) (by have := q8.1; omega) q1.new (At.new_eq h9 3 _)) (k := ?_)
    rintro h3 ⟨e3, ok3, ac3, q13, f3⟩
    have g8 := q8.1
    have lt9 := q1.lt
    have F39 : Fc h9 h3 di 4 15 := ((Fb.fcn ((Fc.rf h9 di 0 0).new) f3 (Nat.le_refl _))).sub (by decide) (by decide)
    have K39 := F39.ko q1
    have a3 := F39.at q2 (fun z => nad z)
    have y3 := F39.at q4 (fun z => nyd z)
    refine tX17_init_59 (t := 8) (ci := 9) (hc := rfl) (ht := rfl) (ha := y3) (hb := ac3.2.choose_spec.1) (hx := rfl) (hj := (by omega)) (hn := (by omega)) (r := ?_)
    refine tX17_init_60  (r := ?_)
    rw [nI_add]
    refine tX17_init_63 (r := ?_)
    have ny3 : ∀ b, b ∈ (s ++ [e3]) → okAc la ja b := fun b hb => by
      rcases List.mem_append.mp hb with z | z
      · exact q6 b z
      · cases List.mem_singleton.mp z
        exact ok3
    have K3s : KpO h3 (hset h3 y (.inl (8, n0, .inr (.inr (.inr (.inr (va_up f i (some h9.1)))))))) := (KpI.rf h3).o.set y3
    refine ih (i + 1) (by omega) (by omega) _ (va_up f i (some h9.1)) (s ++ [e3]) ?_ ?_ ?_ ?_ (by rw [List.length_append, q5]; rfl) ny3 ?_ ?_
    · exact q13.imp (fun _ w => At.set_ne w (w.ne y3 (by simp)))
    · exact At.set_ne a3 (a3.ne y3 (by simp))
    · exact q3.ko (K39.trans K3s)
    · exact At.set_eq2 y3.1
    · intro j hj
      rw [List.length_append] at hj
      by_cases z : j < s.length
      · obtain ⟨z1, z2, z3⟩ := q7 j z
        refine ⟨z1, ?_, ?_⟩
        · show (if j = i then some h9.1 else f j) = _
          rw [if_neg (by omega)]
          exact z2
        · rw [List.getElem_append_left z]
          exact z3.ko (K39.trans K3s)
      · have ej : j = s.length := by
          simp only [List.length_cons, List.length_nil] at hj
          omega
        subst ej
        refine ⟨h9.1, by show (if s.length = i then some h9.1 else f s.length) = _; rw [if_pos q5], ?_⟩
        rw [List.getElem_append_right (Nat.le_refl _)]
        simp only [Nat.sub_self, List.getElem_cons_zero]
        exact ac3.ko K3s
    · exact ((q8.new.fbn f3 (by omega)).set (Or.inr (Or.inr (by omega)))).sub (by omega) (by omega)
theorem s_ruInit (l1 : 0 < la) (l2 : la ≤ 6) (j1 : 0 < ja) (j2 : ja ≤ 8) (hd : 7 ≤ d) {h : AH} {a : Nat} (h216 : 216 ≤ a) (h216b : 216 ≤ h.1) (q : DiR h di) (aa : At h a (.inr (15, [.null, .null]))) : RQ G mX17_init d 0 [some (.ref a), some (.ref di), some (.int (nI la)), some (.int (nI ja)), none] [] h (Rv fun h1 => ∃ r, okRu la ja r ∧ RuR h1 a r ∧ DiR h1 di ∧ Fb h h1 a di 24 92) := by
  have nad : a ≠ di := by
    obtain ⟨x, w⟩ := q
    exact aa.ne w (fun z => by injection z with z; injection z with z; omega)
  refine tX17_init_0  (r := ?_)
  refine tX17_init_1 (hd := (by omega)) (r := ?_)
  refine tX17_init_4  (r := ?_)
  refine tX17_init_5  (r := ?_)
  refine tX17_init_6  (r := ?_)
  refine tX17_init_7  (r := ?_)
  refine tX17_init_8  (r := ?_)
  refine tX17_init_9 (hd := (by omega)) (ha := q.choose_spec) (call := s_next (d := 1) (h := h) (by decide) q (n := 2) (by omega) (by omega)) (k := ?_)
  rintro r_ h1 ⟨⟨k, hk, e_⟩, qh1, fh1⟩
  rw [e_]
  have e01 : k = 0 ∨ k = 1 := by omega
  rcases e01 with rfl | rfl
  · skip
    refine tX17_init_12 (hd := (by omega)) (call := s_test0 l1 l2 (d := 6) (by decide) qh1 (by have := fh1.1; omega)) (k := ?_)
    rintro x h2 ⟨e, okt, vat, -, qh2, fh2⟩
    have F2 := fh1.trans fh2
    have lt0 := q.lt
    have a2 := F2.at aa nad
    refine tX17_init_15 (ha := a2) (hlen := rfl) (r := ?_)
    refine tX17_init_18  (r := ?_)
    refine tX17_init_19  (r := ?_)
    refine tX17_init_20  (r := ?_)
    refine tX17_init_21 (hd := (by omega)) (ha := (qh2.imp (fun _ w => At.set_ne w (Ne.symm nad))).choose_spec) (call := s_next (d := 1) (h := (hset h2 a _)) (by decide) (qh2.imp (fun _ w => At.set_ne w (Ne.symm nad))) (n := 4) (by omega) (by omega)) (k := ?_)
    rintro r_ h3 ⟨⟨n0, hn0, e_⟩, qh3, fh3⟩
    rw [e_]
    refine tX17_init_24 (hx := rfl) (hn := (by omega)) (r := ?_)
    refine tX17_init_27 (ha := (At.new_ne (fh3.at (At.set_eq2 a2.1) nad))) (hlen := rfl) (r := ?_)
    refine tX17_init_30  (r := ?_)
    refine tX17_init_31  (r := ?_)
    have g2 := F2.1
    have g3 : h2.1 ≤ h3.1 := fh3.1
    have a3 : At h3 a (.inr (15, [.ref x, .null])) := fh3.at (At.set_eq2 a2.1) nad
    have ga := aa.1
    have K2s : KpO h2 (hset h2 a (.inr (15, [.ref x, .null]))) := (KpI.rf h2).o.set15 a2
    have q2s : DiR (hset h2 a (.inr (15, [.ref x, .null]))) di := qh2.imp (fun _ w => At.set_ne w (Ne.symm nad))
    have K3 : KpO h2 (hnew h3 n0 (.inl (8, n0, .inr (.inr (.inr (.inr (fun _ => none))))))) := (K2s.trans (fh3.ko q2s)).trans KpO.new
    have a4 : At (hnew h3 n0 (.inl (8, n0, .inr (.inr (.inr (.inr (fun _ => none))))))) a (.inr (15, [.ref x, .null])) := At.new_ne a3
    have FF : Fb h h3 a di 11 44 := by
      have w1 : Fb h h2 a di 11 44 := ⟨F2.1, by have := F2.2.1; omega, by have := F2.2.2.1; omega, fun j hj _ n2 => F2.2.2.2 j hj n2⟩
      exact ((w1.set (Or.inl rfl)).fc fh3).sub (by decide) (by decide)
    refine s_ruInit_l (d := d) (n0 := n0) (x := x) l1 l2 j1 j2 (by omega) h216 h216b (by omega) okt nad (y := h3.1) (by omega) (by omega) n0 0 (by omega) (Nat.zero_le _) _ (fun _ => none) [] ?_ ?_ ?_ ?_ rfl (fun b hb => nomatch hb) (fun j hj => absurd hj (Nat.not_lt_zero j)) ?_
    · exact (qh3.new).imp (fun _ w => At.set_ne w (Ne.symm nad))
    · exact At.set_eq2 a4.1
    · exact (vat h2 (Kn.rf _ _)).ko (K3.set15 a4)
    · exact At.set_ne (At.new_eq _ _ _) (by omega)
    · exact ((FF.new).set (Or.inl rfl)).sub (by omega) (by omega)
  · skip
    refine tX17_init_12 (hd := (by omega)) (call := s_test1 l1 l2 (d := 6) (by decide) qh1 (by have := fh1.1; omega)) (k := ?_)
    rintro x h2 ⟨e, okt, vat, -, qh2, fh2⟩
    have F2 := fh1.trans fh2
    have lt0 := q.lt
    have a2 := F2.at aa nad
    refine tX17_init_15 (ha := a2) (hlen := rfl) (r := ?_)
    refine tX17_init_18  (r := ?_)
    refine tX17_init_19  (r := ?_)
    refine tX17_init_20  (r := ?_)
    refine tX17_init_21 (hd := (by omega)) (ha := (qh2.imp (fun _ w => At.set_ne w (Ne.symm nad))).choose_spec) (call := s_next (d := 1) (h := (hset h2 a _)) (by decide) (qh2.imp (fun _ w => At.set_ne w (Ne.symm nad))) (n := 4) (by omega) (by omega)) (k := ?_)
    rintro r_ h3 ⟨⟨n0, hn0, e_⟩, qh3, fh3⟩
    rw [e_]
    refine tX17_init_24 (hx := rfl) (hn := (by omega)) (r := ?_)
    refine tX17_init_27 (ha := (At.new_ne (fh3.at (At.set_eq2 a2.1) nad))) (hlen := rfl) (r := ?_)
    refine tX17_init_30  (r := ?_)
    refine tX17_init_31  (r := ?_)
    have g2 := F2.1
    have g3 : h2.1 ≤ h3.1 := fh3.1
    have a3 : At h3 a (.inr (15, [.ref x, .null])) := fh3.at (At.set_eq2 a2.1) nad
    have ga := aa.1
    have K2s : KpO h2 (hset h2 a (.inr (15, [.ref x, .null]))) := (KpI.rf h2).o.set15 a2
    have q2s : DiR (hset h2 a (.inr (15, [.ref x, .null]))) di := qh2.imp (fun _ w => At.set_ne w (Ne.symm nad))
    have K3 : KpO h2 (hnew h3 n0 (.inl (8, n0, .inr (.inr (.inr (.inr (fun _ => none))))))) := (K2s.trans (fh3.ko q2s)).trans KpO.new
    have a4 : At (hnew h3 n0 (.inl (8, n0, .inr (.inr (.inr (.inr (fun _ => none))))))) a (.inr (15, [.ref x, .null])) := At.new_ne a3
    have FF : Fb h h3 a di 11 44 := by
      have w1 : Fb h h2 a di 11 44 := ⟨F2.1, by have := F2.2.1; omega, by have := F2.2.2.1; omega, fun j hj _ n2 => F2.2.2.2 j hj n2⟩
      exact ((w1.set (Or.inl rfl)).fc fh3).sub (by decide) (by decide)
    refine s_ruInit_l (d := d) (n0 := n0) (x := x) l1 l2 j1 j2 (by omega) h216 h216b (by omega) okt nad (y := h3.1) (by omega) (by omega) n0 0 (by omega) (Nat.zero_le _) _ (fun _ => none) [] ?_ ?_ ?_ ?_ rfl (fun b hb => nomatch hb) (fun j hj => absurd hj (Nat.not_lt_zero j)) ?_
    · exact (qh3.new).imp (fun _ w => At.set_ne w (Ne.symm nad))
    · exact At.set_eq2 a4.1
    · exact (vat h2 (Kn.rf _ _)).ko (K3.set15 a4)
    · exact At.set_ne (At.new_eq _ _ _) (by omega)
    · exact ((FF.new).set (Or.inl rfl)).sub (by omega) (by omega)
end DA
