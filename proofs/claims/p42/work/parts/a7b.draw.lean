/-! values, tests, acts and rules are drawn -/
theorem DiR.lt {h : AH} {a : Nat} (q : DiR h a) : a < h.1 := q.elim (fun _ w => w.1)
theorem DiR.new {h : AH} {a n : Nat} {c : AC} (q : DiR h a) : DiR (hnew h n c) a := q.imp (fun _ w => At.new_ne w)
/-- what lies from m on is still there -/
def Kn (m : Nat) (h h1 : AH) : Prop := ∀ j c, m ≤ j → At h j c → At h1 j c
theorem Kn.rf (m : Nat) (h : AH) : Kn m h h := fun _ _ _ a => a
theorem Kn.trans {m : Nat} {h h1 h2 : AH} (a : Kn m h h1) (b : Kn m h1 h2) : Kn m h h2 := fun j c e x => b j c e (a j c e x)
theorem Kn.sub {m m2 : Nat} {h h1 : AH} (a : Kn m h h1) (e : m ≤ m2) : Kn m2 h h1 := fun j c e2 x => a j c (by omega) x
theorem Fc.kn {h h1 : AH} {b ck sk m : Nat} (x : Fc h h1 b ck sk) (e : b < m) : Kn m h h1 := fun j c e2 y => x.at y (by omega)
theorem Kn.new {h : AH} {m n : Nat} {c : AC} : Kn m h (hnew h n c) := fun _ _ _ y => At.new_ne y
section DR
variable {G : GT} {d di la : Nat}

set_option maxHeartbeats 4000000 in
theorem s_valueT (l1 : 0 < la) (l2 : la ≤ 6) {dp m : Nat} (hdp : dp ≤ 1) (hd : 3 + dp ≤ d) (hm : 6 ≤ m ∧ m ≤ 9) (hm0 : dp = 0 → m = 6) (rec_ : dp = 1 → ∀ (h : AH), DiR h di → 216 ≤ h.1 → RQ G mX16_value 3 0 [some (.ref di), some (.int (nI la)), some (.int (nI 0)), none, none] [] h (Rr fun r h1 => ∃ e, okV la e ∧ (∀ h9, Kn h.1 h1 h9 → VaR h9 r e) ∧ (0 = 0 → ∃ l, e = .inl l) ∧ DiR h1 di ∧ Fc h h1 di (1 + 2 * 0) (4 + 8 * 0))) {h : AH} (q : DiR h di) (h216 : 216 ≤ h.1) : RQ G mX16_value d 12 [some (.ref di), some (.int (nI la)), some (.int (nI dp)), none, none] [.int (nI m), .ref di] h (Rr fun r h1 => ∃ e, okV la e ∧ (∀ h9, Kn h.1 h1 h9 → VaR h9 r e) ∧ (dp = 0 → ∃ l, e = .inl l) ∧ DiR h1 di ∧ Fc h h1 di (1 + 2 * dp) (4 + 8 * dp)) := by
  have lt0 := q.lt
  refine tX16_value_12 (hd := (by omega)) (ha := q.choose_spec) (call := s_next (d := 1) (h := h) (by decide) q (n := m) (by omega) (by omega)) (k := ?_)
  rintro r_ h1 ⟨⟨k, hk, e_⟩, qh1, fh1⟩
  rw [e_]
  have gh1 := fh1.1
  refine tX16_value_15  (r := ?_)
  refine tX16_value_16  (r := ?_)
  refine tX16_value_17  (r := ?_)
  refine tX16_value_18  (kt := fun c_18 => ?_) (kf := fun c_18 => ?_)
  · have c2 : 2 ≤ k := (nI_leI (by omega) (by omega)).mp c_18
    refine tX16_value_57  (r := ?_)
    refine tX16_value_58  (r := ?_)
    refine tX16_value_59  (kt := fun c_59 => ?_) (kf := fun c_59 => ?_)
    · have c4 : 4 ≤ k := (nI_leI (by omega) (by omega)).mp c_59
      refine tX16_value_78  (r := ?_)
      refine tX16_value_79  (r := ?_)
      refine tX16_value_81  (kt := fun c_81 => ?_) (kf := fun c_81 => ?_)
      · have c6 : 6 ≤ k := (nI_leI (by omega) (by omega)).mp c_81
        have hdp1 : dp = 1 := by
          by_cases z : dp = 0
          · have := hm0 z
            omega
          · omega
        subst hdp1
        have hdp1 := True.intro
        have rec_ := rec_ rfl
        refine tX16_value_102  (r := ?_)
        refine tX16_value_103  (r := ?_)
        refine tX16_value_104  (r := ?_)
        refine tX16_value_105  (r := ?_)
        refine tX16_value_106  (r := ?_)
        rw [show nI 1 - nI 1 = nI 0 from rfl]
        refine tX16_value_107 (hd := (by omega)) (call := rec_ h1 qh1 (by omega)) (k := ?_)
        rintro y2 h2 ⟨eh2, okh2, vah2, leh2, qh2, fh2⟩
        obtain ⟨lh2, rfl⟩ := leh2 rfl
        refine tX16_value_110  (r := ?_)
        refine tX16_value_112  (r := ?_)
        refine tX16_value_115  (r := ?_)
        refine tX16_value_116  (r := ?_)
        refine tX16_value_117  (r := ?_)
        refine tX16_value_118  (r := ?_)
        rw [show nI k - nI 2 = nI (k - 2) from pk_sub (by omega)]
        refine tX16_value_119  (r := ?_)
        refine tX16_value_120  (r := ?_)
        refine tX16_value_122  (r := ?_)
        refine tX16_value_123  (r := ?_)
        refine tX16_value_124  (r := ?_)
        refine tX16_value_125  (r := ?_)
        refine tX16_value_126  (r := ?_)
        rw [show nI 1 - nI 1 = nI 0 from rfl]
        refine tX16_value_127 (hd := (by omega)) (call := rec_ (hnew h2 4 _) qh2.new (by have g1 := fh1.1; have g2 := fh2.1; show 216 ≤ h2.1 + 1; omega)) (k := ?_)
        rintro y3 h3 ⟨eh3, okh3, vah3, leh3, qh3, fh3⟩
        obtain ⟨lh3, rfl⟩ := leh3 rfl
        refine tX16_value_130 (a2 := (some y2)) (a3 := (some y3)) (hd := (by omega)) (call := s_ndInit (d := 1) (by decide) (x := some y2) (y := some y3) (fh3.at (At.new_eq h2 4 _) (by have g1 := fh1.1; have g2 := fh2.1; omega))) (k := ?_)
        rintro h4 ⟨a4, f4⟩
        refine tX16_value_133  (hP := ?_)
        have g2 := fh2.1
        have F4 : Fc h h4 di 3 12 := ((((fh1.trans fh2).new.trans fh3).newer f4 (by omega))).sub (by omega) (by omega)
        have F24 : Fc h2 h4 di 2 8 := ((((Fc.rf h2 di 0 0).new.trans fh3).newer f4 (Nat.le_refl _))).sub (by omega) (by omega)
        exact ⟨_, rfl, .inr (k - 2, lh2, lh3), ⟨by omega, okh2, okh3⟩, fun h9 kn => ⟨y2, y3, ⟨by omega, kn _ _ (by omega) a4⟩, vah2 h9 (((F24.kn (m := h1.1) (by omega)).trans (kn.sub gh1))), vah3 h9 ((f4.kn (m := h2.1 + 1) (by omega)).trans (kn.sub (by omega)))⟩, fun z => absurd z (by decide), qh3.fc f4 (by omega), F4.sub (by omega) (by omega)⟩
      · have c6 : k < 6 := Nat.lt_of_not_le (fun z => c_81 ((nI_leI (by omega) (by omega)).mpr z))
        refine tX16_value_84  (r := ?_)
        refine tX16_value_87  (r := ?_)
        refine tX16_value_88  (r := ?_)
        refine tX16_value_89  (r := ?_)
        refine tX16_value_90  (r := ?_)
        rw [show nI k - nI 2 = nI (k - 2) from pk_sub (by omega)]
        refine tX16_value_91  (r := ?_)
        refine tX16_value_92  (r := ?_)
        refine tX16_value_93 (hd := (by omega)) (ha := qh1.new.choose_spec) (call := s_next (d := 1) (h := (hnew h1 4 _)) (by decide) qh1.new (n := la) (by omega) (by omega)) (k := ?_)
        rintro r_ h3 ⟨⟨k3, hk3, e_⟩, qh3, fh3⟩
        rw [e_]
        refine tX16_value_96  (r := ?_)
        refine tX16_value_97  (r := ?_)
        refine tX16_value_98 (a2 := none) (a3 := none) (hd := (by omega)) (call := s_ndInit (d := 1) (by decide) (x := none) (y := none) (fh3.at (At.new_eq h1 4 _) (by omega))) (k := ?_)
        rintro h4 ⟨a4, f4⟩
        refine tX16_value_101  (hP := ?_)
        have F4 : Fc h h4 di 1 4 := ((fh1.new.trans fh3).newer f4 gh1).sub (by omega) (by omega)
        exact ⟨_, rfl, .inl (k - 2, k3), (Or.inr (Or.inr ⟨by show k - 2 = 2 ∨ k - 2 = 3; omega, hk3⟩)), fun h9 kn => ⟨by omega, kn _ _ gh1 a4⟩, fun _ => ⟨_, rfl⟩, qh3.fc f4 (by omega), F4.sub (by omega) (by omega)⟩
    · have c4 : k < 4 := Nat.lt_of_not_le (fun z => c_59 ((nI_leI (by omega) (by omega)).mpr z))
      refine tX16_value_62  (r := ?_)
      refine tX16_value_65  (r := ?_)
      refine tX16_value_66  (r := ?_)
      refine tX16_value_67  (r := ?_)
      refine tX16_value_68  (r := ?_)
      refine tX16_value_69 (hd := (by omega)) (ha := qh1.new.choose_spec) (call := s_next (d := 1) (h := (hnew h1 4 _)) (by decide) qh1.new (n := 3) (by omega) (by omega)) (k := ?_)
      rintro r_ h3 ⟨⟨k3, hk3, e_⟩, qh3, fh3⟩
      rw [e_]
      refine tX16_value_72  (r := ?_)
      refine tX16_value_73  (r := ?_)
      refine tX16_value_74 (a2 := none) (a3 := none) (hd := (by omega)) (call := s_ndInit (d := 1) (by decide) (x := none) (y := none) (fh3.at (At.new_eq h1 4 _) (by omega))) (k := ?_)
      rintro h4 ⟨a4, f4⟩
      refine tX16_value_77  (hP := ?_)
      have F4 : Fc h h4 di 1 4 := ((fh1.new.trans fh3).newer f4 gh1).sub (by omega) (by omega)
      exact ⟨_, rfl, .inl (1, k3), (Or.inr (Or.inl ⟨rfl, hk3⟩)), fun h9 kn => ⟨by omega, kn _ _ gh1 a4⟩, fun _ => ⟨_, rfl⟩, qh3.fc f4 (by omega), F4.sub (by omega) (by omega)⟩
  · have c2 : k < 2 := Nat.lt_of_not_le (fun z => c_18 ((nI_leI (by omega) (by omega)).mpr z))
    refine tX16_value_21  (r := ?_)
    refine tX16_value_24  (r := ?_)
    refine tX16_value_25  (r := ?_)
    refine tX16_value_26  (r := ?_)
    refine tX16_value_27  (r := ?_)
    refine tX16_value_29 (hd := (by omega)) (ha := qh1.new.choose_spec) (call := s_next (d := 1) (h := (hnew h1 4 _)) (by decide) qh1.new (n := 6) (by omega) (by omega)) (k := ?_)
    rintro r_ h2 ⟨⟨k2, hk2, e_⟩, qh2, fh2⟩
    rw [e_]
    refine tX16_value_32  (kt := fun c_32 => ?_) (kf := fun c_32 => ?_)
    · refine tX16_value_45  (r := ?_)
      refine tX16_value_46  (r := ?_)
      refine tX16_value_48 (hd := (by omega)) (ha := qh2.choose_spec) (call := s_next (d := 1) (h := h2) (by decide) qh2 (n := 40) (by omega) (by omega)) (k := ?_)
      rintro r_ h3 ⟨⟨k3, hk3, e_⟩, qh3, fh3⟩
      rw [e_]
      refine tX16_value_51  (r := ?_)
      refine tX16_value_52  (r := ?_)
      refine tX16_value_53 (a2 := none) (a3 := none) (hd := (by omega)) (call := s_ndInit (d := 1) (by decide) (x := none) (y := none) (fh3.at (fh2.at (At.new_eq h1 4 _) (by omega)) (by omega))) (k := ?_)
      rintro h4 ⟨a4, f4⟩
      refine tX16_value_56  (hP := ?_)
      have F4 : Fc h h4 di 1 4 := (((fh1.new.trans fh2).trans fh3).newer f4 gh1).sub (by omega) (by omega)
      exact ⟨_, rfl, .inl (0, k3), (Or.inl ⟨rfl, by show k3 < 10000; omega⟩), fun h9 kn => ⟨by omega, kn _ _ gh1 a4⟩, fun _ => ⟨_, rfl⟩, qh3.fc f4 (by omega), F4.sub (by omega) (by omega)⟩
    · refine tX16_value_35  (r := ?_)
      refine tX16_value_36  (r := ?_)
      refine tX16_value_39 (hd := (by omega)) (ha := qh2.choose_spec) (call := s_next (d := 1) (h := h2) (by decide) qh2 (n := 10000) (by omega) (by omega)) (k := ?_)
      rintro r_ h3 ⟨⟨k3, hk3, e_⟩, qh3, fh3⟩
      rw [e_]
      refine tX16_value_42 (r := ?_)
      refine tX16_value_51  (r := ?_)
      refine tX16_value_52  (r := ?_)
      refine tX16_value_53 (a2 := none) (a3 := none) (hd := (by omega)) (call := s_ndInit (d := 1) (by decide) (x := none) (y := none) (fh3.at (fh2.at (At.new_eq h1 4 _) (by omega)) (by omega))) (k := ?_)
      rintro h4 ⟨a4, f4⟩
      refine tX16_value_56  (hP := ?_)
      have F4 : Fc h h4 di 1 4 := (((fh1.new.trans fh2).trans fh3).newer f4 gh1).sub (by omega) (by omega)
      exact ⟨_, rfl, .inl (0, k3), (Or.inl ⟨rfl, by show k3 < 10000; omega⟩), fun h9 kn => ⟨by omega, kn _ _ gh1 a4⟩, fun _ => ⟨_, rfl⟩, qh3.fc f4 (by omega), F4.sub (by omega) (by omega)⟩
theorem s_value0 (l1 : 0 < la) (l2 : la ≤ 6) (hd : 3 ≤ d) {h : AH} (q : DiR h di) (h216 : 216 ≤ h.1) : RQ G mX16_value d 0 [some (.ref di), some (.int (nI la)), some (.int (nI 0)), none, none] [] h (Rr fun r h1 => ∃ e, okV la e ∧ (∀ h9, Kn h.1 h1 h9 → VaR h9 r e) ∧ (0 = 0 → ∃ l, e = .inl l) ∧ DiR h1 di ∧ Fc h h1 di (1 + 2 * 0) (4 + 8 * 0)) := by
  refine tX16_value_0  (r := ?_)
  refine tX16_value_1  (r := ?_)
  refine tX16_value_2  (kt := fun c_ => by exfalso; exact c_ rfl) (kf := fun _ => ?_)
  refine tX16_value_5  (r := ?_)
  refine tX16_value_7 (r := ?_)
  exact s_valueT l1 l2 (dp := 0) (m := 6) (by decide) hd ⟨by decide, by decide⟩ (fun _ => rfl) (fun z => absurd z (by decide)) q h216
theorem s_value1 (l1 : 0 < la) (l2 : la ≤ 6) (hd : 4 ≤ d) {h : AH} (q : DiR h di) (h216 : 216 ≤ h.1) : RQ G mX16_value d 0 [some (.ref di), some (.int (nI la)), some (.int (nI 1)), none, none] [] h (Rr fun r h1 => ∃ e, okV la e ∧ (∀ h9, Kn h.1 h1 h9 → VaR h9 r e) ∧ (1 = 0 → ∃ l, e = .inl l) ∧ DiR h1 di ∧ Fc h h1 di (1 + 2 * 1) (4 + 8 * 1)) := by
  refine tX16_value_0  (r := ?_)
  refine tX16_value_1  (r := ?_)
  refine tX16_value_2  (kf := fun c_ => by exfalso; first | exact c_ (by decide) | exact absurd c_ (by decide)) (kt := fun _ => ?_)
  refine tX16_value_10  (r := ?_)
  exact s_valueT l1 l2 (dp := 1) (m := 9) (by decide) hd ⟨by decide, by decide⟩ (fun z => absurd z (by decide)) (fun _ h q h216 => s_value0 l1 l2 (by decide) q h216) q h216
set_option maxHeartbeats 4000000 in
theorem s_testT (l1 : 0 < la) (l2 : la ≤ 6) {dp m : Nat} (hdp : dp ≤ 1) (hd : 5 + dp ≤ d) (hm : 6 ≤ m ∧ m ≤ 9) (hm0 : dp = 0 → m = 6) (rec_ : dp = 1 → ∀ (h : AH), DiR h di → 216 ≤ h.1 → RQ G mX16_test 5 0 [some (.ref di), some (.int (nI la)), some (.int (nI 0)), none, none] [] h (Rr fun r h1 => ∃ e, ok1T la e ∧ (∀ h9, Kn h.1 h1 h9 → T1R h9 r e) ∧ (0 = 0 → ∃ t, e = .inl t) ∧ DiR h1 di ∧ Fc h h1 di (5 + 6 * 0) (20 + 24 * 0))) {h : AH} (q : DiR h di) (h216 : 216 ≤ h.1) : RQ G mX16_test d 12 [some (.ref di), some (.int (nI la)), some (.int (nI dp)), none, none] [.int (nI m), .ref di] h (Rr fun r h1 => ∃ e, ok1T la e ∧ (∀ h9, Kn h.1 h1 h9 → T1R h9 r e) ∧ (dp = 0 → ∃ t, e = .inl t) ∧ DiR h1 di ∧ Fc h h1 di (5 + 6 * dp) (20 + 24 * dp)) := by
  have lt0 := q.lt
  refine tX16_test_12 (hd := (by omega)) (ha := q.choose_spec) (call := s_next (d := 1) (h := h) (by decide) q (n := m) (by omega) (by omega)) (k := ?_)
  rintro r_ h1 ⟨⟨k, hk, e_⟩, qh1, fh1⟩
  rw [e_]
  have gh1 := fh1.1
  refine tX16_test_15  (r := ?_)
  refine tX16_test_16  (r := ?_)
  refine tX16_test_17  (r := ?_)
  refine tX16_test_18  (kt := fun c_18 => ?_) (kf := fun c_18 => ?_)
  · have c2 : 2 ≤ k := (nI_leI (by omega) (by omega)).mp c_18
    refine tX16_test_40  (r := ?_)
    refine tX16_test_41  (r := ?_)
    refine tX16_test_43  (kt := fun c_43 => ?_) (kf := fun c_43 => ?_)
    · have c6 : 6 ≤ k := (nI_leI (by omega) (by omega)).mp c_43
      have hdp1 : dp = 1 := by
        by_cases z : dp = 0
        · have := hm0 z
          omega
        · omega
      subst hdp1
      have rec_ := rec_ rfl
      refine tX16_test_75  (r := ?_)
      refine tX16_test_76  (r := ?_)
      refine tX16_test_77  (r := ?_)
      refine tX16_test_78  (r := ?_)
      refine tX16_test_79  (r := ?_)
      rw [show nI 1 - nI 1 = nI 0 from rfl]
      refine tX16_test_80 (hd := (by omega)) (call := rec_ h1 qh1 (by omega)) (k := ?_)
      rintro y2 h2 ⟨eh2, okh2, vah2, leh2, qh2, fh2⟩
      obtain ⟨th2, rfl⟩ := leh2 rfl
      have g2 := fh2.1
      refine tX16_test_83  (r := ?_)
      refine tX16_test_85  (r := ?_)
      refine tX16_test_88  (r := ?_)
      refine tX16_test_89  (r := ?_)
      refine tX16_test_91  (r := ?_)
      refine tX16_test_92  (r := ?_)
      rw [nI_add]
      refine tX16_test_93  (r := ?_)
      refine tX16_test_94  (r := ?_)
      refine tX16_test_96  (r := ?_)
      refine tX16_test_97  (r := ?_)
      refine tX16_test_99  (kt := fun c_99 => ?_) (kf := fun c_99 => ?_)
      · have c6b : k ≠ 6 := fun z => c_99 (congrArg nI z)
        refine tX16_test_106  (r := ?_)
        refine tX16_test_107  (r := ?_)
        refine tX16_test_108  (r := ?_)
        refine tX16_test_109  (r := ?_)
        refine tX16_test_110  (r := ?_)
        rw [show nI 1 - nI 1 = nI 0 from rfl]
        refine tX16_test_111 (hd := (by omega)) (call := rec_ (hnew h2 4 _) qh2.new (by have g1 := fh1.1; have g2 := fh2.1; show 216 ≤ h2.1 + 1; omega)) (k := ?_)
        rintro y3 h3 ⟨eh3, okh3, vah3, leh3, qh3, fh3⟩
        obtain ⟨th3, rfl⟩ := leh3 rfl
        refine tX16_test_114 (a2 := (some y2)) (a3 := (some y3)) (hd := (by omega)) (call := s_ndInit (d := 1) (by decide) (x := some y2) (y := some y3) (fh3.at (At.new_eq h2 4 _) (by have g1 := fh1.1; have g2 := fh2.1; omega))) (k := ?_)
        rintro h4 ⟨a4, f4⟩
        refine tX16_test_117  (hP := ?_)
        have F4 : Fc h h4 di 11 44 := ((((fh1.trans fh2).new.trans fh3).newer f4 (by omega))).sub (by omega) (by omega)
        have F24 : Fc h2 h4 di 6 24 := ((((Fc.rf h2 di 0 0).new.trans fh3).newer f4 (Nat.le_refl _))).sub (by omega) (by omega)
        exact ⟨_, rfl, .inr (6 + k, th2, th3), ⟨by omega, okh2, okh3⟩, fun h9 kn => ⟨y2, some y3, ⟨by omega, kn _ _ (by omega) a4⟩, vah2 h9 ((F24.kn (m := h1.1) (by omega)).trans (kn.sub gh1)), fun _ => ⟨_, rfl, vah3 h9 ((f4.kn (m := h2.1 + 1) (by omega)).trans (kn.sub (by omega)))⟩⟩, fun z => absurd z (by decide), qh3.fc f4 (by omega), F4.sub (by omega) (by omega)⟩
      · have c6b : k = 6 := (nI_eq (by omega) (by omega)).mp c_99
        subst c6b
        refine tX16_test_102  (r := ?_)
        refine tX16_test_103 (r := ?_)
        refine tX16_test_114 (a2 := (some y2)) (a3 := none) (hd := (by omega)) (call := s_ndInit (d := 1) (by decide) (x := some y2) (y := none) (At.new_eq h2 4 _)) (k := ?_)
        rintro h4 ⟨a4, f4⟩
        refine tX16_test_117  (hP := ?_)
        have F4 : Fc h h4 di 6 24 := (((fh1.trans fh2).new.newer f4 (by omega))).sub (by omega) (by omega)
        have F24 : Fc h2 h4 di 1 4 := (((Fc.rf h2 di 0 0).new.newer f4 (Nat.le_refl _))).sub (by omega) (by omega)
        exact ⟨_, rfl, .inr (12, th2, th2), ⟨by decide, okh2, okh2⟩, fun h9 kn => ⟨y2, none, ⟨by omega, kn _ _ (by omega) a4⟩, vah2 h9 ((F24.kn (m := h1.1) (by omega)).trans (kn.sub gh1)), fun z => absurd rfl z⟩, fun z => absurd z (by decide), (qh2.new).fc f4 (by omega), F4.sub (by omega) (by omega)⟩
    · have c6 : k < 6 := Nat.lt_of_not_le (fun z => c_43 ((nI_leI (by omega) (by omega)).mpr z))
      refine tX16_test_46  (r := ?_)
      refine tX16_test_49  (r := ?_)
      refine tX16_test_50  (r := ?_)
      refine tX16_test_52  (r := ?_)
      refine tX16_test_53  (r := ?_)
      refine tX16_test_54 (hd := (by omega)) (ha := qh1.new.choose_spec) (call := s_next (d := 1) (h := (hnew h1 4 _)) (by decide) qh1.new (n := 3) (by omega) (by omega)) (k := ?_)
      rintro r_ h2 ⟨⟨k2, hk2, e_⟩, qh2, fh2⟩
      rw [e_]
      refine tX16_test_57  (r := ?_)
      rw [nI_add]
      refine tX16_test_58  (r := ?_)
      refine tX16_test_59  (r := ?_)
      refine tX16_test_60  (r := ?_)
      refine tX16_test_61  (r := ?_)
      refine tX16_test_62 (hd := (by omega)) (call := s_value1 l1 l2 (d := 4) (by decide) qh2 (by have := fh2.1; have : h1.1 + 1 ≤ h2.1 := this; omega)) (k := ?_)
      rintro y3 h3 ⟨eh3, okh3, vah3, -, qh3, fh3⟩
      refine tX16_test_65  (r := ?_)
      refine tX16_test_66  (r := ?_)
      refine tX16_test_67  (r := ?_)
      refine tX16_test_68 (hd := (by omega)) (call := s_value0 l1 l2 (d := 3) (by decide) qh3 (by have := fh3.1; have : h1.1 + 1 ≤ h2.1 := fh2.1; omega)) (k := ?_)
      rintro y5 h5 ⟨eh5, okh5, vah5, leh5, qh5, fh5⟩
      obtain ⟨lh5, rfl⟩ := leh5 rfl
      refine tX16_test_71 (a2 := (some y3)) (a3 := (some y5)) (hd := (by omega)) (call := s_ndInit (d := 1) (by decide) (x := some y3) (y := some y5) (fh5.at (fh3.at (fh2.at (At.new_eq h1 4 _) (by omega)) (by omega)) (by omega))) (k := ?_)
      rintro h4 ⟨a4, f4⟩
      refine tX16_test_74  (hP := ?_)
      have g2 : h1.1 + 1 ≤ h2.1 := fh2.1
      have g3 := fh3.1
      have g5 := fh5.1
      have F4 : Fc h h4 di 5 20 := ((((fh1.new.trans fh2).trans fh3).trans fh5).newer f4 (by omega)).sub (by omega) (by omega)
      have Kn4 : Kn (h1.1 + 1) h5 h4 := f4.kn (by omega)
      have Kn3 : Kn h2.1 h3 h5 := fh5.kn (by omega)
      exact ⟨_, rfl, .inl (.inr (7 + k2, eh3, lh5)), ⟨by omega, okh3, okh5⟩, fun h9 kn => ⟨y3, y5, ⟨by omega, kn _ _ (by omega) a4⟩, vah3 h9 ((Kn3.trans (Kn4.sub g2)).trans (kn.sub (by omega))), vah5 h9 ((Kn4.sub (by omega)).trans (kn.sub (by omega)))⟩, fun _ => ⟨_, rfl⟩, qh5.fc f4 (by omega), F4.sub (by omega) (by omega)⟩
  · have c2 : k < 2 := Nat.lt_of_not_le (fun z => c_18 ((nI_leI (by omega) (by omega)).mpr z))
    refine tX16_test_21  (r := ?_)
    refine tX16_test_24  (r := ?_)
    refine tX16_test_25  (r := ?_)
    refine tX16_test_27  (r := ?_)
    refine tX16_test_28  (r := ?_)
    rw [nI_add]
    refine tX16_test_29  (r := ?_)
    refine tX16_test_30  (r := ?_)
    refine tX16_test_31 (hd := (by omega)) (ha := qh1.new.choose_spec) (call := s_next (d := 1) (h := (hnew h1 4 _)) (by decide) qh1.new (n := la) (by omega) (by omega)) (k := ?_)
    rintro r_ h3 ⟨⟨k3, hk3, e_⟩, qh3, fh3⟩
    rw [e_]
    refine tX16_test_34  (r := ?_)
    refine tX16_test_35  (r := ?_)
    refine tX16_test_36 (a2 := none) (a3 := none) (hd := (by omega)) (call := s_ndInit (d := 1) (by decide) (x := none) (y := none) (fh3.at (At.new_eq h1 4 _) (by omega))) (k := ?_)
    rintro h4 ⟨a4, f4⟩
    refine tX16_test_39  (hP := ?_)
    have F4 : Fc h h4 di 1 4 := ((fh1.new.trans fh3).newer f4 gh1).sub (by omega) (by omega)
    exact ⟨_, rfl, .inl (.inl (10 + k, k3)), ⟨by omega, hk3⟩, fun h9 kn => ⟨by omega, kn _ _ gh1 a4⟩, fun _ => ⟨_, rfl⟩, qh3.fc f4 (by omega), F4.sub (by omega) (by omega)⟩
theorem s_test0 (l1 : 0 < la) (l2 : la ≤ 6) (hd : 5 ≤ d) {h : AH} (q : DiR h di) (h216 : 216 ≤ h.1) : RQ G mX16_test d 0 [some (.ref di), some (.int (nI la)), some (.int (nI 0)), none, none] [] h (Rr fun r h1 => ∃ e, ok1T la e ∧ (∀ h9, Kn h.1 h1 h9 → T1R h9 r e) ∧ (0 = 0 → ∃ t, e = .inl t) ∧ DiR h1 di ∧ Fc h h1 di (5 + 6 * 0) (20 + 24 * 0)) := by
  refine tX16_test_0  (r := ?_)
  refine tX16_test_1  (r := ?_)
  refine tX16_test_2  (kt := fun c_ => by exfalso; exact c_ rfl) (kf := fun _ => ?_)
  refine tX16_test_5  (r := ?_)
  refine tX16_test_7 (r := ?_)
  exact s_testT l1 l2 (dp := 0) (m := 6) (by decide) hd ⟨by decide, by decide⟩ (fun _ => rfl) (fun z => absurd z (by decide)) q h216
theorem s_test1 (l1 : 0 < la) (l2 : la ≤ 6) (hd : 6 ≤ d) {h : AH} (q : DiR h di) (h216 : 216 ≤ h.1) : RQ G mX16_test d 0 [some (.ref di), some (.int (nI la)), some (.int (nI 1)), none, none] [] h (Rr fun r h1 => ∃ e, ok1T la e ∧ (∀ h9, Kn h.1 h1 h9 → T1R h9 r e) ∧ (1 = 0 → ∃ t, e = .inl t) ∧ DiR h1 di ∧ Fc h h1 di (5 + 6 * 1) (20 + 24 * 1)) := by
  refine tX16_test_0  (r := ?_)
  refine tX16_test_1  (r := ?_)
  refine tX16_test_2  (kf := fun c_ => by exfalso; first | exact c_ (by decide) | exact absurd c_ (by decide)) (kt := fun _ => ?_)
  refine tX16_test_10  (r := ?_)
  exact s_testT l1 l2 (dp := 1) (m := 9) (by decide) hd ⟨by decide, by decide⟩ (fun z => absurd z (by decide)) (fun _ h q h216 => s_test0 l1 l2 (by decide) q h216) q h216
end DR
