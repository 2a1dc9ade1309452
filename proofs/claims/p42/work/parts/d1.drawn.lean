/-! drawing a cupboard: its labels -/
section D1
variable {G : GT} {d di b ck sk c fo la : Nat} {h0 h : AH} {t : List Nat}
theorem Dw.fc {h1 : AH} {i ck2 sk2 : Nat} {o : AC} (w : Dw h0 h di b t ck sk) (a : At h i o) (n : NDb o) (e : h0.1 ≤ i) (q : Fc h h1 i ck2 sk2) : Dw h0 h1 di b t (ck + ck2) (sk + sk2) := by
  obtain ⟨⟨v, ⟨⟨cap, f, mb, ⟨y1, y2, y3⟩, y4⟩, y5⟩, x2, x3, x4⟩, ⟨x, w2⟩, w3⟩ := w
  have n1 : b ≠ i := y1.ne a (fun e => n.2.1 _ e.symm)
  have n2 : v ≠ i := y2.ne a (fun e => n.2.2 _ e.symm)
  have n3 : di ≠ i := w2.ne a (fun e => n.1 _ e.symm)
  obtain ⟨z1, z2, z3, z4, z5⟩ := x4
  obtain ⟨p1, p2, p3, p4⟩ := q
  exact ⟨⟨v, ⟨⟨cap, f, mb, ⟨y1.keep p1 (p4 b y1.1 n1), y2.keep p1 (p4 v y2.1 n2), y3⟩, y4⟩, y5⟩, x2, x3, ⟨by omega, by omega, by omega, fun j _ j2 => absurd j2 (Nat.not_lt_zero j), fun j j1 j2 => (p4 j (by omega) (by omega)).trans (z5 j j1 j2)⟩⟩, ⟨x, w2.keep p1 (p4 di w2.1 n3)⟩, w3⟩

set_option maxHeartbeats 4000000 in
theorem s_cuInit (hd : 1 ≤ d) (a : At h c (.inr (10, [.null, .null, .null, .int 0]))) : RQ G mX12_init d 0 [some (.ref c)] [] h (Rv fun h1 => (∃ f0 j0 l0, At h1 c (.inr (10, [.ref f0, .ref j0, .ref l0, .int 0]))) ∧ Fc h h1 c 3 0) := by
  have g := a.1
  refine tX12_init_0  (r := ?_)
  refine tX12_init_1 (hd := (by omega)) (r := ?_)
  refine tX12_init_4  (r := ?_)
  refine tX12_init_5  (r := ?_)
  refine tX12_init_6 (hx := rfl) (hn := (by decide)) (r := ?_)
  refine tX12_init_8 (ha := (At.new_ne a)) (hlen := rfl) (r := ?_)
  generalize e1 : hset (hnew h 0 _) c _ = h1
  have a1 : At h1 c (.inr (10, [.ref h.1, .null, .null, .int 0])) := by rw [← e1]; exact At.set_eq2 (At.new_ne a).1
  have f1 : Fc h h1 c 1 0 := by rw [← e1]; exact ((Fc.rf h c 0 0).new).set (Or.inl rfl)
  refine tX12_init_11  (r := ?_)
  refine tX12_init_12  (r := ?_)
  refine tX12_init_13 (hx := rfl) (hn := (by decide)) (r := ?_)
  refine tX12_init_16 (ha := (At.new_ne a1)) (hlen := rfl) (r := ?_)
  generalize e2 : hset (hnew h1 0 _) c _ = h2
  have a2 : At h2 c (.inr (10, [.ref h.1, .ref h1.1, .null, .int 0])) := by rw [← e2]; exact At.set_eq2 (At.new_ne a1).1
  have f2 : Fc h h2 c 2 0 := by rw [← e2]; exact (f1.new).set (Or.inl rfl)
  refine tX12_init_19  (r := ?_)
  refine tX12_init_20  (r := ?_)
  refine tX12_init_21 (hx := rfl) (hn := (by decide)) (r := ?_)
  refine tX12_init_24 (ha := (At.new_ne a2)) (hlen := rfl) (r := ?_)
  refine tX12_init_27  (hP := ?_)
  exact ⟨rfl, ⟨_, _, _, At.set_eq2 (At.new_ne a2).1⟩, (f2.new).set (Or.inl rfl)⟩
set_option maxHeartbeats 4000000 in
theorem s_dr1 (l6 : la ≤ 6) (gf : h0.1 ≤ fo) {v1 v2 v3 : Value} {x4 x5 x7 x8 x9 x10 x11 : Option Value} (o5 : ok1 x5 = true) {P : OC → AH → Prop} (r : (∀ (h1 : AH) (ff : Nat → Int32), At h1 c (.inr (10, [.ref fo, v1, v2, v3])) → At h1 fo (.inl (0, la, .inl ff)) → (∀ k, k < la → ff k = -1) → Dw h0 h1 di b t ck sk → RQ G mL_drawn d 77 [some (.ref di), some (.ref b), some (.ref c), some (.int (nI la)), x4, x5, some (.int (nI la)), x7, x8, x9, x10, x11] [] h1 P)) : ∀ (n i : Nat) (h9 : AH) (ff : Nat → Int32), la ≤ i + n → i ≤ la → At h9 c (.inr (10, [.ref fo, v1, v2, v3])) → At h9 fo (.inl (0, la, .inl ff)) → (∀ k, k < i → ff k = -1) → Dw h0 h9 di b t ck sk → RQ G mL_drawn d 57 [some (.ref di), some (.ref b), some (.ref c), some (.int (nI la)), x4, x5, some (.int (nI i)), x7, x8, x9, x10, x11] [] h9 P := by
  have ex : ∀ (i : Nat) (h9 : AH) (ff : Nat → Int32), i = la → At h9 c (.inr (10, [.ref fo, v1, v2, v3])) → At h9 fo (.inl (0, la, .inl ff)) → (∀ k, k < i → ff k = -1) → Dw h0 h9 di b t ck sk → RQ G mL_drawn d 57 [some (.ref di), some (.ref b), some (.ref c), some (.int (nI la)), x4, x5, some (.int (nI i)), x7, x8, x9, x10, x11] [] h9 P := by
    intro i h9 ff hi q1 q2 q3 q4
    subst hi
    refine tL_drawn_57  (r := ?_)
    refine tL_drawn_59  (r := ?_)
    refine tL_drawn_60  (kf := fun c_ => by exfalso; (simp (disch := first | omega | decide) only [ci_lt, ci_le, ci_eq, ci_lt0, ci_ge0, ci_gt0, ci_le0, ci_eq0, ci_m1_lt, ci_m1_le, ci_lt_m1, ci_le_m1, ci_eq_m1, ci_m1_eq, not_true, not_false_iff, Nat.not_lt, Nat.not_le] at c_ <;> omega)) (kt := fun _ => ?_)
    exact r h9 ff q1 q2 q3 q4
  intro n
  induction n with
  | zero => exact fun i h9 ff h1_ h2_ => ex i h9 ff (by omega)
  | succ n ih =>
    intro i h9 ff h1_ h2_ q1 q2 q3 q4
    by_cases hie : i = la
    · exact ex i h9 ff hie q1 q2 q3 q4
    have hi2 : i < la := by omega
    refine tL_drawn_57  (r := ?_)
    refine tL_drawn_59  (r := ?_)
    refine tL_drawn_60  (kt := fun c_ => by exfalso; (simp (disch := first | omega | decide) only [ci_lt, ci_le, ci_eq, ci_lt0, ci_ge0, ci_gt0, ci_le0, ci_eq0, ci_m1_lt, ci_m1_le, ci_lt_m1, ci_le_m1, ci_eq_m1, ci_m1_eq, not_true, not_false_iff, Nat.not_lt, Nat.not_le] at c_ <;> omega)) (kf := fun _ => ?_)
    refine tL_drawn_63  (r := ?_)
    refine tL_drawn_64 (ha := q1) (hv := rfl) (r := ?_)
    refine tL_drawn_67  (r := ?_)
    refine tL_drawn_69  (r := ?_)
    refine tL_drawn_70 (ha := q2) (hx := rfl) (hj := hi2) (hn := (by omega)) (r := ?_)
    refine tL_drawn_71 (ho := o5) (r := ?_)
    rw [nI_add]
    refine tL_drawn_74 (r := ?_)
    refine ih (i + 1) _ _ (by omega) (by omega) (At.set_ne q1 (q1.ne q2 (by simp))) (At.set_eq2 q2.1) (fun k hk => ?_) (q4.set q2 (nd_a (by decide)) gf)
    show (if k = i then _ else ff k) = _
    by_cases z : k = i
    · rw [if_pos z]
    · rw [if_neg z]
      exact q3 k (by omega)
set_option maxHeartbeats 4000000 in
theorem s_dr2 (hd : 9 ≤ d) (l6 : la ≤ 6) {e lt : Nat} (he : e ≤ la) (el : nI la - nI lt = nI e) {x5 x7 x8 x9 x10 x11 : Option Value} (o5 : ok1 x5 = true) {P : OC → AH → Prop} (r : (∀ (h1 : AH), KpD h h1 → Dw h0 h1 di b (lbsX true 0 e) (ck + 10 * e) (sk + 8006 * e) → RQ G mL_drawn d 127 [some (.ref di), some (.ref b), some (.ref c), some (.int (nI la)), some (.int (nI lt)), x5, some (.int (nI e)), x7, x8, x9, x10, x11] [] h1 P)) : ∀ (n i : Nat) (h9 : AH), e ≤ i + n → i ≤ e → KpD h h9 → Dw h0 h9 di b (lbsX true 0 i) (ck + 10 * i) (sk + 8006 * i) → RQ G mL_drawn d 80 [some (.ref di), some (.ref b), some (.ref c), some (.int (nI la)), some (.int (nI lt)), x5, some (.int (nI i)), x7, x8, x9, x10, x11] [] h9 P := by
  have ex : ∀ (i : Nat) (h9 : AH), i = e → KpD h h9 → Dw h0 h9 di b (lbsX true 0 i) (ck + 10 * i) (sk + 8006 * i) → RQ G mL_drawn d 80 [some (.ref di), some (.ref b), some (.ref c), some (.int (nI la)), some (.int (nI lt)), x5, some (.int (nI i)), x7, x8, x9, x10, x11] [] h9 P := by
    intro i h9 hi k9 w
    subst hi
    refine tL_drawn_80  (r := ?_)
    refine tL_drawn_82  (r := ?_)
    refine tL_drawn_83  (r := ?_)
    refine tL_drawn_85  (r := ?_)
    rw [el]
    refine tL_drawn_86  (kf := fun c_ => by exfalso; (simp (disch := first | omega | decide) only [ci_lt, ci_le, ci_eq, ci_lt0, ci_ge0, ci_gt0, ci_le0, ci_eq0, ci_m1_lt, ci_m1_le, ci_lt_m1, ci_le_m1, ci_eq_m1, ci_m1_eq, not_true, not_false_iff, Nat.not_lt, Nat.not_le] at c_ <;> omega)) (kt := fun _ => ?_)
    exact r h9 k9 w
  intro n
  induction n with
  | zero => exact fun i h9 h1_ h2_ => ex i h9 (by omega)
  | succ n ih =>
    intro i h9 h1_ h2_ k9 w
    by_cases hie : i = e
    · exact ex i h9 hie k9 w
    have hi2 : i < e := by omega
    have tl := (lbK_le true i 0).2
    by_cases pr : i % 2 = 1
    · skip
      refine tL_drawn_80  (r := ?_)
      refine tL_drawn_82  (r := ?_)
      refine tL_drawn_83  (r := ?_)
      refine tL_drawn_85  (r := ?_)
      rw [el]
      refine tL_drawn_86  (kt := fun c_ => by exfalso; (simp (disch := first | omega | decide) only [ci_lt, ci_le, ci_eq, ci_lt0, ci_ge0, ci_gt0, ci_le0, ci_eq0, ci_m1_lt, ci_m1_le, ci_lt_m1, ci_le_m1, ci_eq_m1, ci_m1_eq, not_true, not_false_iff, Nat.not_lt, Nat.not_le] at c_ <;> omega)) (kf := fun _ => ?_)
      refine tL_drawn_89  (r := ?_)
      refine tL_drawn_90  (r := ?_)
      refine tL_drawn_92 (hd := (by omega)) (ha := w.at.choose_spec) (call := s_dApp (d := d - 1) (by omega) w (StR.old (i := 41) (by decide)) (by (simp only [List.length_append, List.length_nil, List.length_cons, txt_len, nam_len, tL40, tL41, tL42, tL43, tL44, tL45, tL46, tL47, tL48, tL49, tL50, tL51, tL52, tL53, tL54, tL55, tL56, tL57, tL58, tL59, tL60, tL61, tL62, tL63, tL64, tL65, tL66, tL67, tL68, tL69, tL70, tL71, tL72, tL73, tL74, tL75, tL76, tL77, tL78, tL79, tL80, tL81, tL82, tL83, tL84, tL85, tL86, tL87]; omega))) (k := ?_)
      rintro r_ H1 ⟨e_, W1, K1⟩
      rw [e_]
      clear e_
      refine tL_drawn_95  (r := ?_)
      refine tL_drawn_97 (hd := (by omega)) (call := s_dName (d := d - 1) (by omega) W1 (k := i) (by omega)) (k := ?_)
      rintro r_ H2 ⟨y2, W2, K2⟩
      refine tL_drawn_100 (hd := (by omega)) (ha := W2.at.choose_spec) (call := s_dApp (d := d - 1) (by omega) W2 y2 (by (simp only [List.length_append, List.length_nil, List.length_cons, txt_len, nam_len, tL40, tL41, tL42, tL43, tL44, tL45, tL46, tL47, tL48, tL49, tL50, tL51, tL52, tL53, tL54, tL55, tL56, tL57, tL58, tL59, tL60, tL61, tL62, tL63, tL64, tL65, tL66, tL67, tL68, tL69, tL70, tL71, tL72, tL73, tL74, tL75, tL76, tL77, tL78, tL79, tL80, tL81, tL82, tL83, tL84, tL85, tL86, tL87]; omega))) (k := ?_)
      rintro r_ H3 ⟨e_, W3, K3⟩
      rw [e_]
      clear e_
      refine tL_drawn_103  (r := ?_)
      refine tL_drawn_105  (r := ?_)
      refine tL_drawn_106 (hne := (by decide)) (r := ?_)
      rw [rem_nn (by omega) (by decide) (by decide)]
      refine tL_drawn_107  (kf := fun c_ => by exfalso; first | exact absurd c_ (by decide) | (rw [pr] at c_; exact absurd c_ (by decide)) | exact c_ (by rw [pr]; decide) | (rw [pr] at c_; exact c_ (by decide))) (kt := fun _ => ?_)
      refine tL_drawn_115  (r := ?_)
      refine tL_drawn_117 (hd := (by omega)) (ha := W3.at.choose_spec) (call := s_dApp (d := d - 1) (by omega) W3 (StR.old (i := 43) (by decide)) (by (simp only [List.length_append, List.length_nil, List.length_cons, txt_len, nam_len, tL40, tL41, tL42, tL43, tL44, tL45, tL46, tL47, tL48, tL49, tL50, tL51, tL52, tL53, tL54, tL55, tL56, tL57, tL58, tL59, tL60, tL61, tL62, tL63, tL64, tL65, tL66, tL67, tL68, tL69, tL70, tL71, tL72, tL73, tL74, tL75, tL76, tL77, tL78, tL79, tL80, tL81, tL82, tL83, tL84, tL85, tL86, tL87]; omega))) (k := ?_)
      rintro r_ H4 ⟨e_, W4, K4⟩
      rw [e_]
      clear e_
      refine tL_drawn_120  (r := ?_)
      refine tL_drawn_121 (ho := o5) (r := ?_)
      rw [nI_add]
      refine tL_drawn_124 (r := ?_)
      refine ih (i + 1) H4 (by omega) (by omega) (k9.trans (((K1.trans K2).trans K3).trans K4)) ?_
      have et : lbsX true 0 (i + 1) = lbsX true 0 i ++ txt 41 ++ nam i ++ txt 43 := by
        rw [lbsX_app, Nat.zero_add]
        unfold lbX
        rw [if_pos ⟨rfl, pr⟩]
        simp only [List.append_assoc]
      rw [et]
      exact W4.sub (by omega) (by omega)
    · have pr : i % 2 = 0 := by omega
      refine tL_drawn_80  (r := ?_)
      refine tL_drawn_82  (r := ?_)
      refine tL_drawn_83  (r := ?_)
      refine tL_drawn_85  (r := ?_)
      rw [el]
      refine tL_drawn_86  (kt := fun c_ => by exfalso; (simp (disch := first | omega | decide) only [ci_lt, ci_le, ci_eq, ci_lt0, ci_ge0, ci_gt0, ci_le0, ci_eq0, ci_m1_lt, ci_m1_le, ci_lt_m1, ci_le_m1, ci_eq_m1, ci_m1_eq, not_true, not_false_iff, Nat.not_lt, Nat.not_le] at c_ <;> omega)) (kf := fun _ => ?_)
      refine tL_drawn_89  (r := ?_)
      refine tL_drawn_90  (r := ?_)
      refine tL_drawn_92 (hd := (by omega)) (ha := w.at.choose_spec) (call := s_dApp (d := d - 1) (by omega) w (StR.old (i := 41) (by decide)) (by (simp only [List.length_append, List.length_nil, List.length_cons, txt_len, nam_len, tL40, tL41, tL42, tL43, tL44, tL45, tL46, tL47, tL48, tL49, tL50, tL51, tL52, tL53, tL54, tL55, tL56, tL57, tL58, tL59, tL60, tL61, tL62, tL63, tL64, tL65, tL66, tL67, tL68, tL69, tL70, tL71, tL72, tL73, tL74, tL75, tL76, tL77, tL78, tL79, tL80, tL81, tL82, tL83, tL84, tL85, tL86, tL87]; omega))) (k := ?_)
      rintro r_ H1 ⟨e_, W1, K1⟩
      rw [e_]
      clear e_
      refine tL_drawn_95  (r := ?_)
      refine tL_drawn_97 (hd := (by omega)) (call := s_dName (d := d - 1) (by omega) W1 (k := i) (by omega)) (k := ?_)
      rintro r_ H2 ⟨y2, W2, K2⟩
      refine tL_drawn_100 (hd := (by omega)) (ha := W2.at.choose_spec) (call := s_dApp (d := d - 1) (by omega) W2 y2 (by (simp only [List.length_append, List.length_nil, List.length_cons, txt_len, nam_len, tL40, tL41, tL42, tL43, tL44, tL45, tL46, tL47, tL48, tL49, tL50, tL51, tL52, tL53, tL54, tL55, tL56, tL57, tL58, tL59, tL60, tL61, tL62, tL63, tL64, tL65, tL66, tL67, tL68, tL69, tL70, tL71, tL72, tL73, tL74, tL75, tL76, tL77, tL78, tL79, tL80, tL81, tL82, tL83, tL84, tL85, tL86, tL87]; omega))) (k := ?_)
      rintro r_ H3 ⟨e_, W3, K3⟩
      rw [e_]
      clear e_
      refine tL_drawn_103  (r := ?_)
      refine tL_drawn_105  (r := ?_)
      refine tL_drawn_106 (hne := (by decide)) (r := ?_)
      rw [rem_nn (by omega) (by decide) (by decide)]
      refine tL_drawn_107  (kt := fun c_ => by exfalso; first | (rw [pr] at c_; exact absurd c_ (by decide)) | exact c_ (by rw [pr]; decide) | (rw [pr] at c_; exact c_ rfl)) (kf := fun _ => ?_)
      refine tL_drawn_110  (r := ?_)
      refine tL_drawn_112 (r := ?_)
      refine tL_drawn_117 (hd := (by omega)) (ha := W3.at.choose_spec) (call := s_dApp (d := d - 1) (by omega) W3 (StR.old (i := 42) (by decide)) (by (simp only [List.length_append, List.length_nil, List.length_cons, txt_len, nam_len, tL40, tL41, tL42, tL43, tL44, tL45, tL46, tL47, tL48, tL49, tL50, tL51, tL52, tL53, tL54, tL55, tL56, tL57, tL58, tL59, tL60, tL61, tL62, tL63, tL64, tL65, tL66, tL67, tL68, tL69, tL70, tL71, tL72, tL73, tL74, tL75, tL76, tL77, tL78, tL79, tL80, tL81, tL82, tL83, tL84, tL85, tL86, tL87]; omega))) (k := ?_)
      rintro r_ H4 ⟨e_, W4, K4⟩
      rw [e_]
      clear e_
      refine tL_drawn_120  (r := ?_)
      refine tL_drawn_121 (ho := o5) (r := ?_)
      rw [nI_add]
      refine tL_drawn_124 (r := ?_)
      refine ih (i + 1) H4 (by omega) (by omega) (k9.trans (((K1.trans K2).trans K3).trans K4)) ?_
      have et : lbsX true 0 (i + 1) = lbsX true 0 i ++ txt 41 ++ nam i ++ txt 42 := by
        rw [lbsX_app, Nat.zero_add]
        unfold lbX
        rw [if_neg (fun z => by omega)]
        simp only [List.append_assoc]
      rw [et]
      exact W4.sub (by omega) (by omega)
end D1
