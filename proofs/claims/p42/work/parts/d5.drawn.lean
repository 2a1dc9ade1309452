/-! drawing a cupboard: its lids, all of it -/
section D5
variable {G : GT} {d di b ck sk c fo ja li la J L : Nat} {h0 h hb : AH} {t : List Nat} {js : List EJa} {ls : List ELi}

set_option maxHeartbeats 4000000 in
theorem s_drI2 (hd : 18 ≤ d) (l1 : 0 < la) (l6 : la ≤ 6) (j1 : 0 < J) (j4 : J ≤ 4) (L3 : L ≤ 3) {T : List Nat} (tl : T.length ≤ 340) (gl : h0.1 ≤ li) {y jar lab R k J9 : Nat} (hR : ruN ls + R ≤ k + 2) (R2 : R ≤ 2) (kL : k < L) (hk : ls.length = k) (hj : jar < J) (hl : lab < la) (okl : ∀ x ∈ ls, okI la J x) (g0 : h0.1 ≤ hb.1) (gy : hb.1 ≤ y) (qj : JsA hb c fo ja la J9 js) (cc : At hb c (.inr (10, [.ref fo, .ref ja, .ref li, .int 0]))) (ql : LsA hb li L ls) {h9 : AH} (k9 : KpD hb h9) (a1 : At h9 y (.inr (13, [.int (nI jar), .int (nI lab), .null]))) (w : Dw h0 h9 di b (T ++ lsX 0 ls) ck sk) {x4 x6 x9 x10 x11 : Option Value} (o6 : ok1 x6 = true) {P : OC → AH → Prop} (r : ∀ (h1 : AH) (rs : List ERu) (x8 x9 : Option Value), (∀ e ∈ rs, okRu la J e) → rs.length = R → JsA h1 c fo ja la J9 js → At h1 c (.inr (10, [.ref fo, .ref ja, .ref li, .int 0])) → LsA h1 li L (ls ++ [(jar, lab, rs)]) → Dw h0 h1 di b (T ++ lsX 0 (ls ++ [(jar, lab, rs)])) (ck + 1400) (sk + 70000) → RQ G mL_drawn d 459 [some (.ref di), some (.ref b), some (.ref c), some (.int (nI la)), x4, some (.int (nI J)), x6, some (.int (nI (k + 1))), x8, x9, x10, x11] [] h1 P) : RQ G mL_drawn d 515 [some (.ref di), some (.ref b), some (.ref c), some (.int (nI la)), x4, some (.int (nI J)), x6, some (.int (nI k)), some (.ref y), x9, x10, x11] [.int (nI R), .ref y] h9 P := by
  have ll := (lsK_le ls 0 okl).2
  have n1 := nam_len k
  have n2 := nam_len jar
  have n3 := nam_len lab
  refine tL_drawn_515 (hx := rfl) (hn := (by omega)) (r := ?_)
  refine tL_drawn_518 (ha := (At.new_ne a1)) (hlen := rfl) (r := ?_)
  have K0 : KpD hb (hset (hnew h9 R (.inl (7, R, .inr (.inr (.inr (.inr (fun _ => none))))))) y (.inr (13, [.int (nI jar), .int (nI lab), .ref h9.1]))) := (k9.trans KpD.new).set gy
  have w0 := (w.new (n := R) (c := .inl (7, R, .inr (.inr (.inr (.inr (fun _ => none))))))).set (c := .inr (13, [.int (nI jar), .int (nI lab), .ref h9.1])) (At.new_ne a1) (nd_r ⟨by decide, by decide⟩) (Nat.le_trans g0 gy)
  have b1 : At (hset (hnew h9 R (.inl (7, R, .inr (.inr (.inr (.inr (fun _ => none))))))) y (.inr (13, [.int (nI jar), .int (nI lab), .ref h9.1]))) y (.inr (13, [.int (nI jar), .int (nI lab), .ref h9.1])) := At.set_eq2 (At.new_ne a1).1
  have b2 : At (hset (hnew h9 R (.inl (7, R, .inr (.inr (.inr (.inr (fun _ => none))))))) y (.inr (13, [.int (nI jar), .int (nI lab), .ref h9.1]))) h9.1 (.inl (7, R, .inr (.inr (.inr (.inr (fun _ => none)))))) := At.set_ne (At.new_eq h9 R _) (Nat.ne_of_gt a1.1)
  have gr : hb.1 ≤ h9.1 := k9.1
  show RQ G mL_drawn d 521 _ _ (hset (hnew h9 R (.inl (7, R, .inr (.inr (.inr (.inr (fun _ => none))))))) y (.inr (13, [.int (nI jar), .int (nI lab), .ref h9.1]))) P
  revert K0 w0 b1 b2
  generalize hset (hnew h9 R (.inl (7, R, .inr (.inr (.inr (.inr (fun _ => none))))))) y (.inr (13, [.int (nI jar), .int (nI lab), .ref h9.1])) = hA
  intro K0 w0 b1 b2
  refine tL_drawn_521  (r := ?_)
  refine tL_drawn_522  (r := ?_)
  refine tL_drawn_524 (hd := (by omega)) (ha := w0.at.choose_spec) (call := s_dApp (d := d - 1) (by omega) w0 (StR.old (i := 53) (by decide)) (by (simp only [List.length_append, List.length_nil, List.length_cons, txt_len, nam_len, tL40, tL41, tL42, tL43, tL44, tL45, tL46, tL47, tL48, tL49, tL50, tL51, tL52, tL53, tL54, tL55, tL56, tL57, tL58, tL59, tL60, tL61, tL62, tL63, tL64, tL65, tL66, tL67, tL68, tL69, tL70, tL71, tL72, tL73, tL74, tL75, tL76, tL77, tL78, tL79, tL80, tL81, tL82, tL83, tL84, tL85, tL86, tL87]; omega))) (k := ?_)
  rintro r_ H1 ⟨e_, W1, K1⟩
  rw [e_]
  clear e_
  refine tL_drawn_527  (r := ?_)
  refine tL_drawn_529 (hd := (by omega)) (call := s_dName (d := d - 1) (by omega) W1 (k := k) (by omega)) (k := ?_)
  rintro r_ H2 ⟨y2, W2, K2⟩
  refine tL_drawn_532 (hd := (by omega)) (ha := W2.at.choose_spec) (call := s_dApp (d := d - 1) (by omega) W2 y2 (by (simp only [List.length_append, List.length_nil, List.length_cons, txt_len, nam_len, tL40, tL41, tL42, tL43, tL44, tL45, tL46, tL47, tL48, tL49, tL50, tL51, tL52, tL53, tL54, tL55, tL56, tL57, tL58, tL59, tL60, tL61, tL62, tL63, tL64, tL65, tL66, tL67, tL68, tL69, tL70, tL71, tL72, tL73, tL74, tL75, tL76, tL77, tL78, tL79, tL80, tL81, tL82, tL83, tL84, tL85, tL86, tL87]; omega))) (k := ?_)
  rintro r_ H3 ⟨e_, W3, K3⟩
  rw [e_]
  clear e_
  refine tL_drawn_535  (r := ?_)
  refine tL_drawn_537 (hd := (by omega)) (ha := W3.at.choose_spec) (call := s_dApp (d := d - 1) (by omega) W3 (StR.old (i := 54) (by decide)) (by (simp only [List.length_append, List.length_nil, List.length_cons, txt_len, nam_len, tL40, tL41, tL42, tL43, tL44, tL45, tL46, tL47, tL48, tL49, tL50, tL51, tL52, tL53, tL54, tL55, tL56, tL57, tL58, tL59, tL60, tL61, tL62, tL63, tL64, tL65, tL66, tL67, tL68, tL69, tL70, tL71, tL72, tL73, tL74, tL75, tL76, tL77, tL78, tL79, tL80, tL81, tL82, tL83, tL84, tL85, tL86, tL87]; omega))) (k := ?_)
  rintro r_ H4 ⟨e_, W4, K4⟩
  rw [e_]
  clear e_
  refine tL_drawn_540  (r := ?_)
  refine tL_drawn_542 (ha := ((((K1.trans K2).trans K3).trans K4).at b1 (nd_r ⟨by decide, by decide⟩))) (hv := rfl) (r := ?_)
  refine tL_drawn_545 (hd := (by omega)) (call := s_dName (d := d - 1) (by omega) W4 (k := jar) (by omega)) (k := ?_)
  rintro r_ H5 ⟨y5, W5, K5⟩
  refine tL_drawn_548 (hd := (by omega)) (ha := W5.at.choose_spec) (call := s_dApp (d := d - 1) (by omega) W5 y5 (by (simp only [List.length_append, List.length_nil, List.length_cons, txt_len, nam_len, tL40, tL41, tL42, tL43, tL44, tL45, tL46, tL47, tL48, tL49, tL50, tL51, tL52, tL53, tL54, tL55, tL56, tL57, tL58, tL59, tL60, tL61, tL62, tL63, tL64, tL65, tL66, tL67, tL68, tL69, tL70, tL71, tL72, tL73, tL74, tL75, tL76, tL77, tL78, tL79, tL80, tL81, tL82, tL83, tL84, tL85, tL86, tL87]; omega))) (k := ?_)
  rintro r_ H6 ⟨e_, W6, K6⟩
  rw [e_]
  clear e_
  refine tL_drawn_551  (r := ?_)
  refine tL_drawn_553 (hd := (by omega)) (ha := W6.at.choose_spec) (call := s_dApp (d := d - 1) (by omega) W6 (StR.old (i := 55) (by decide)) (by (simp only [List.length_append, List.length_nil, List.length_cons, txt_len, nam_len, tL40, tL41, tL42, tL43, tL44, tL45, tL46, tL47, tL48, tL49, tL50, tL51, tL52, tL53, tL54, tL55, tL56, tL57, tL58, tL59, tL60, tL61, tL62, tL63, tL64, tL65, tL66, tL67, tL68, tL69, tL70, tL71, tL72, tL73, tL74, tL75, tL76, tL77, tL78, tL79, tL80, tL81, tL82, tL83, tL84, tL85, tL86, tL87]; omega))) (k := ?_)
  rintro r_ H7 ⟨e_, W7, K7⟩
  rw [e_]
  clear e_
  refine tL_drawn_556  (r := ?_)
  refine tL_drawn_558 (ha := (((((((K1.trans K2).trans K3).trans K4).trans K5).trans K6).trans K7).at b1 (nd_r ⟨by decide, by decide⟩))) (hv := rfl) (r := ?_)
  refine tL_drawn_561 (hd := (by omega)) (call := s_dName (d := d - 1) (by omega) W7 (k := lab) (by omega)) (k := ?_)
  rintro r_ H8 ⟨y8, W8, K8⟩
  refine tL_drawn_564 (hd := (by omega)) (ha := W8.at.choose_spec) (call := s_dApp (d := d - 1) (by omega) W8 y8 (by (simp only [List.length_append, List.length_nil, List.length_cons, txt_len, nam_len, tL40, tL41, tL42, tL43, tL44, tL45, tL46, tL47, tL48, tL49, tL50, tL51, tL52, tL53, tL54, tL55, tL56, tL57, tL58, tL59, tL60, tL61, tL62, tL63, tL64, tL65, tL66, tL67, tL68, tL69, tL70, tL71, tL72, tL73, tL74, tL75, tL76, tL77, tL78, tL79, tL80, tL81, tL82, tL83, tL84, tL85, tL86, tL87]; omega))) (k := ?_)
  rintro r_ H9 ⟨e_, W9, K9⟩
  rw [e_]
  clear e_
  refine tL_drawn_567  (r := ?_)
  refine tL_drawn_568  (r := ?_)
  refine tL_drawn_569  (r := ?_)
  refine s_drR (hb := hb) (T := T ++ lsX 0 ls ++ txt 53 ++ nam k ++ txt 54 ++ nam jar ++ txt 55 ++ nam lab) (ck := ck + 30) (sk := sk + 16300) hd l1 l6 j1 (by omega) (by omega) (by (simp only [List.length_append, List.length_nil, List.length_cons, txt_len, nam_len, tL40, tL41, tL42, tL43, tL44, tL45, tL46, tL47, tL48, tL49, tL50, tL51, tL52, tL53, tL54, tL55, tL56, tL57, tL58, tL59, tL60, tL61, tL62, tL63, tL64, tL65, tL66, tL67, tL68, tL69, tL70, tL71, tL72, tL73, tL74, tL75, tL76, tL77, tL78, tL79, tL80, tL81, tL82, tL83, tL84, tL85, tL86, tL87]; omega)) gr g0 (fun h1 rs rf p1 p2 p3 p4 p5 p6 p7 => ?_) R 0 H9 [] (fun _ => none) (by omega) (Nat.zero_le _) (K0.trans ((((((((K1.trans K2).trans K3).trans K4).trans K5).trans K6).trans K7).trans K8).trans K9)) (((((((((K1.trans K2).trans K3).trans K4).trans K5).trans K6).trans K7).trans K8).trans K9).at b1 (nd_r ⟨by decide, by decide⟩)) (((((((((K1.trans K2).trans K3).trans K4).trans K5).trans K6).trans K7).trans K8).trans K9).at b2 (nd_a (by decide))) rfl (fun j hj => absurd hj (Nat.not_lt_zero j)) (fun e he => nomatch he) ?_
  rotate_left
  · have e0 : T ++ lsX 0 ls ++ txt 53 ++ nam k ++ txt 54 ++ nam jar ++ txt 55 ++ nam lab ++ rsX [] = T ++ lsX 0 ls ++ txt 53 ++ nam k ++ txt 54 ++ nam jar ++ txt 55 ++ nam lab := List.append_nil _
    rw [e0]
    exact W9.sub (by omega) (by omega)
  have rl := (rsK_le rs p6).2
  refine tL_drawn_623  (r := ?_)
  refine tL_drawn_624  (r := ?_)
  refine tL_drawn_626 (hd := (by omega)) (ha := p7.at.choose_spec) (call := s_dApp (d := d - 1) (by omega) p7 (StR.old (i := 42) (by decide)) (by (simp only [List.length_append, List.length_nil, List.length_cons, txt_len, nam_len, tL40, tL41, tL42, tL43, tL44, tL45, tL46, tL47, tL48, tL49, tL50, tL51, tL52, tL53, tL54, tL55, tL56, tL57, tL58, tL59, tL60, tL61, tL62, tL63, tL64, tL65, tL66, tL67, tL68, tL69, tL70, tL71, tL72, tL73, tL74, tL75, tL76, tL77, tL78, tL79, tL80, tL81, tL82, tL83, tL84, tL85, tL86, tL87]; omega))) (k := ?_)
  rintro r_ Hb1 ⟨e_, Wb1, Kb1⟩
  rw [e_]
  clear e_
  have k2 : KpD hb Hb1 := p1.trans Kb1
  have y2 := Kb1.at p2 (nd_r ⟨by decide, by decide⟩)
  have r2 := Kb1.at p3 (nd_a (by decide))
  have c2 := k2.at cc (nd_r ⟨by decide, by decide⟩)
  have gh6 := w.2.2.2
  have jy : LhR Hb1 y h9.1 jar lab rs := ⟨by omega, by omega, y2, rf, by rw [p4]; exact r2, fun j hj => (p5 j hj).imp (fun z u => ⟨u.1, u.2.kp Kb1.i⟩)⟩
  obtain ⟨lf, al, li6, ladd⟩ := ql.add k2 (by omega) gy jy
  refine tL_drawn_629  (r := ?_)
  refine tL_drawn_630  (r := ?_)
  refine tL_drawn_631 (ha := c2) (hv := rfl) (r := ?_)
  refine tL_drawn_634  (r := ?_)
  refine tL_drawn_636  (r := ?_)
  refine tL_drawn_638 (t := 6) (ci := 13) (hc := rfl) (ht := rfl) (ha := al) (hb := y2) (hx := rfl) (hj := kL) (hn := (by omega)) (r := ?_)
  refine tL_drawn_639 (ho := o6) (r := ?_)
  rw [nI_add]
  refine tL_drawn_642 (r := ?_)
  rw [hk] at ladd
  refine r _ rs _ _ p6 p4 ((qj.kd k2).set6 al) (At.set_ne c2 (c2.ne al (by simp))) ladd ?_
  have w9 := Wb1.set (c := .inl (6, L, .inr (.inr (.inr (.inr (va_up lf k (some y))))))) al (nd_a (by decide)) gl
  have et : T ++ lsX 0 (ls ++ [(jar, lab, rs)]) = T ++ lsX 0 ls ++ txt 53 ++ nam k ++ txt 54 ++ nam jar ++ txt 55 ++ nam lab ++ rsX rs ++ txt 42 := by
    rw [lsX_app, Nat.zero_add, hk]
    unfold liX
    simp only [List.append_assoc]
  rw [et]
  exact w9.sub (by omega) (by omega)
set_option maxHeartbeats 4000000 in
theorem s_drI (hd : 18 ≤ d) (l1 : 0 < la) (l6 : la ≤ 6) (j1 : 0 < J) (j4 : J ≤ 4) (L3 : L ≤ 3) {T : List Nat} (tl : T.length ≤ 340) (gl : h0.1 ≤ li) {J9 : Nat} {x4 x6 x10 x11 : Option Value} (o6 : ok1 x6 = true) {P : OC → AH → Prop} (r : (∀ (h1 : AH) (ls : List ELi) (x8 x9 : Option Value), ls.length = L → JsA h1 c fo ja la J9 js → At h1 c (.inr (10, [.ref fo, .ref ja, .ref li, .int 0])) → LsA h1 li L ls → (∀ x ∈ ls, okI la J x ∧ x.2.2.length ≤ 2) → ruN ls ≤ L + 1 → (L = 0 → ruN ls = 0) → Dw h0 h1 di b (T ++ lsX 0 ls) (ck + 1500 * L) (sk + 71000 * L) → RQ G mL_drawn d 645 [some (.ref di), some (.ref b), some (.ref c), some (.int (nI la)), x4, some (.int (nI J)), x6, some (.int (nI L)), x8, x9, x10, x11] [] h1 P)) : ∀ (n k : Nat) (h9 : AH) (ls : List ELi) (x8 x9 : Option Value), L ≤ k + n → k ≤ L → ls.length = k → JsA h9 c fo ja la J9 js → At h9 c (.inr (10, [.ref fo, .ref ja, .ref li, .int 0])) → LsA h9 li L ls → (∀ x ∈ ls, okI la J x ∧ x.2.2.length ≤ 2) → ruN ls ≤ k + 1 → (k = 0 → ruN ls = 0) → Dw h0 h9 di b (T ++ lsX 0 ls) (ck + 1500 * k) (sk + 71000 * k) → RQ G mL_drawn d 459 [some (.ref di), some (.ref b), some (.ref c), some (.int (nI la)), x4, some (.int (nI J)), x6, some (.int (nI k)), x8, x9, x10, x11] [] h9 P := by
  have ex : ∀ (k : Nat) (h9 : AH) (ls : List ELi) (x8 x9 : Option Value), k = L → ls.length = k → JsA h9 c fo ja la J9 js → At h9 c (.inr (10, [.ref fo, .ref ja, .ref li, .int 0])) → LsA h9 li L ls → (∀ x ∈ ls, okI la J x ∧ x.2.2.length ≤ 2) → ruN ls ≤ k + 1 → (k = 0 → ruN ls = 0) → Dw h0 h9 di b (T ++ lsX 0 ls) (ck + 1500 * k) (sk + 71000 * k) → RQ G mL_drawn d 459 [some (.ref di), some (.ref b), some (.ref c), some (.int (nI la)), x4, some (.int (nI J)), x6, some (.int (nI k)), x8, x9, x10, x11] [] h9 P := by
    intro k h9 ls x8 x9 hi hl qj cc ql okl rn r0 w
    subst hi
    obtain ⟨lf0, _, _, _, al0, _⟩ := id ql
    refine tL_drawn_459  (r := ?_)
    refine tL_drawn_461  (r := ?_)
    refine tL_drawn_462 (ha := cc) (hv := rfl) (r := ?_)
    refine tL_drawn_465 (t := 6) (ha := al0) (ht := rfl) (r := ?_)
    refine tL_drawn_466  (kf := fun c_ => by exfalso; (simp (disch := first | omega | decide) only [ci_lt, ci_le, ci_eq, ci_lt0, ci_ge0, ci_gt0, ci_le0, ci_eq0, ci_m1_lt, ci_m1_le, ci_lt_m1, ci_le_m1, ci_eq_m1, ci_m1_eq, not_true, not_false_iff, Nat.not_lt, Nat.not_le] at c_ <;> omega)) (kt := fun _ => ?_)
    exact r h9 ls x8 x9 hl qj cc ql okl rn r0 w
  intro n
  induction n with
  | zero => exact fun k h9 ls x8 x9 h1_ h2_ => ex k h9 ls x8 x9 (by omega)
  | succ n ih =>
    intro k h9 ls x8 x9 h1_ h2_ hl qj cc ql okl rn r0 w
    by_cases hie : k = L
    · exact ex k h9 ls x8 x9 hie hl qj cc ql okl rn r0 w
    have hi2 : k < L := by omega
    have gh := w.ge
    have g6 := w.g216
    obtain ⟨lf0, _, _, _, al0, _⟩ := id ql
    refine tL_drawn_459  (r := ?_)
    refine tL_drawn_461  (r := ?_)
    refine tL_drawn_462 (ha := cc) (hv := rfl) (r := ?_)
    refine tL_drawn_465 (t := 6) (ha := al0) (ht := rfl) (r := ?_)
    refine tL_drawn_466  (kt := fun c_ => by exfalso; (simp (disch := first | omega | decide) only [ci_lt, ci_le, ci_eq, ci_lt0, ci_ge0, ci_gt0, ci_le0, ci_eq0, ci_m1_lt, ci_m1_le, ci_lt_m1, ci_le_m1, ci_eq_m1, ci_m1_eq, not_true, not_false_iff, Nat.not_lt, Nat.not_le] at c_ <;> omega)) (kf := fun _ => ?_)
    refine tL_drawn_469  (r := ?_)
    have K0 : KpD h9 (hnew h9 3 (.inr (13, [.int 0, .int 0, .null]))) := KpD.new
    have w0 := w.new (n := 3) (c := .inr (13, [.int 0, .int 0, .null]))
    have b0 := At.new_eq h9 3 (.inr (13, [.int 0, .int 0, .null]))
    generalize hnew h9 3 (.inr (13, [.int 0, .int 0, .null])) = hA at K0 w0 b0 ⊢
    refine tL_drawn_472  (r := ?_)
    refine tL_drawn_473 (hd := (by omega)) (call := s_lInit (d := d - 1) (by omega)) (k := ?_)
    rintro h_ e9
    rw [e9]
    refine tL_drawn_476  (r := ?_)
    refine tL_drawn_478  (r := ?_)
    refine tL_drawn_480  (r := ?_)
    refine tL_drawn_481  (r := ?_)
    refine tL_drawn_483 (hd := (by omega)) (ha := w0.dc.choose_spec) (call := s_dNext (d := d - 1) (by omega) w0 (n := J) (by omega) (by omega)) (k := ?_)
    rintro r_ H1 ⟨⟨z1, hz1, e_⟩, W1, K1, g1⟩
    rw [e_]
    clear e_
    refine tL_drawn_486 (ha := (K1.at b0 (nd_r ⟨by decide, by decide⟩))) (hlen := rfl) (r := ?_)
    have b0x := K1.at b0 (nd_r ⟨by decide, by decide⟩)
    have K1b : KpD h9 (hset H1 h9.1 (.inr (13, [.int (nI z1), .int 0, .null]))) := (K0.trans K1).set (Nat.le_refl _)
    have W1b := W1.set (c := .inr (13, [.int (nI z1), .int 0, .null])) b0x (nd_r ⟨by decide, by decide⟩) gh
    have b2 : At (hset H1 h9.1 (.inr (13, [.int (nI z1), .int 0, .null]))) h9.1 (.inr (13, [.int (nI z1), .int 0, .null])) := At.set_eq2 b0x.1
    show RQ G mL_drawn d 489 _ _ (hset H1 h9.1 (.inr (13, [.int (nI z1), .int 0, .null]))) P
    revert K1b W1b b2
    generalize hset H1 h9.1 (.inr (13, [.int (nI z1), .int 0, .null])) = hB
    intro K1b W1b b2
    refine tL_drawn_489  (r := ?_)
    refine tL_drawn_491  (r := ?_)
    refine tL_drawn_492  (r := ?_)
    refine tL_drawn_493 (hd := (by omega)) (ha := W1b.dc.choose_spec) (call := s_dNext (d := d - 1) (by omega) W1b (n := la) (by omega) (by omega)) (k := ?_)
    rintro r_ H2 ⟨⟨z2, hz2, e_⟩, W2, K2, g2⟩
    rw [e_]
    clear e_
    refine tL_drawn_496 (ha := (K2.at b2 (nd_r ⟨by decide, by decide⟩))) (hlen := rfl) (r := ?_)
    have b2x := K2.at b2 (nd_r ⟨by decide, by decide⟩)
    have K2b : KpD h9 (hset H2 h9.1 (.inr (13, [.int (nI z1), .int (nI z2), .null]))) := (K1b.trans K2).set (Nat.le_refl _)
    have W2b := W2.set (c := .inr (13, [.int (nI z1), .int (nI z2), .null])) b2x (nd_r ⟨by decide, by decide⟩) gh
    have b4 : At (hset H2 h9.1 (.inr (13, [.int (nI z1), .int (nI z2), .null]))) h9.1 (.inr (13, [.int (nI z1), .int (nI z2), .null])) := At.set_eq2 b2x.1
    show RQ G mL_drawn d 499 _ _ (hset H2 h9.1 (.inr (13, [.int (nI z1), .int (nI z2), .null]))) P
    revert K2b W2b b4
    generalize hset H2 h9.1 (.inr (13, [.int (nI z1), .int (nI z2), .null])) = hC
    intro K2b W2b b4
    refine tL_drawn_499  (r := ?_)
    refine tL_drawn_501  (r := ?_)
    refine tL_drawn_502  (r := ?_)
    refine tL_drawn_504  (kt := fun c_504 => ?_) (kf := fun c_504 => ?_)
    · have k0 : ¬ k = 0 := fun z => c_504 (by rw [z]; rfl)
      refine tL_drawn_511  (r := ?_)
      refine tL_drawn_512 (hd := (by omega)) (ha := W2b.dc.choose_spec) (call := s_dNext (d := d - 1) (by omega) W2b (n := 2) (by omega) (by omega)) (k := ?_)
      rintro r_ H3 ⟨⟨z3, hz3, e_⟩, W3, K3, g3⟩
      rw [e_]
      clear e_
      refine s_drI2 (hb := h9) (k := k) hd l1 l6 j1 j4 L3 tl gl (by omega) (by omega) (by omega) hl hz1 hz2 (fun x hx => (okl x hx).1) gh (Nat.le_refl _) qj cc ql (K2b.trans K3) (K3.at b4 (nd_r ⟨by decide, by decide⟩)) W3 o6 (fun h1 rs x8 x9 p1 p2 p3 p4 p5 p6 => ih (k + 1) h1 (ls ++ [(z1, z2, rs)]) x8 x9 (by omega) (by omega) (by rw [List.length_append, hl]; rfl) p3 p4 p5 (fun x hx => ?_) ?_ (fun z => by omega) (p6.sub (by omega) (by omega)))
      · rcases List.mem_append.mp hx with z | z
        · exact okl x z
        · rw [List.mem_singleton.mp z]
          exact ⟨⟨hz1, hz2, p1⟩, by show rs.length ≤ 2; omega⟩
      · rw [ruN_app]
        show ruN ls + (rs.length + 0) ≤ _
        omega
    · have k0 : k = 0 := (nI_eq (by omega) (by decide)).mp (c_504.trans nI_0.symm)
      have rr := r0 k0
      refine tL_drawn_507  (r := ?_)
      refine tL_drawn_508 (r := ?_)
      refine tL_drawn_512 (hd := (by omega)) (ha := W2b.dc.choose_spec) (call := s_dNext (d := d - 1) (by omega) W2b (n := 3) (by omega) (by omega)) (k := ?_)
      rintro r_ H3 ⟨⟨z3, hz3, e_⟩, W3, K3, g3⟩
      rw [e_]
      clear e_
      refine s_drI2 (hb := h9) (k := k) hd l1 l6 j1 j4 L3 tl gl (by omega) (by omega) (by omega) hl hz1 hz2 (fun x hx => (okl x hx).1) gh (Nat.le_refl _) qj cc ql (K2b.trans K3) (K3.at b4 (nd_r ⟨by decide, by decide⟩)) W3 o6 (fun h1 rs x8 x9 p1 p2 p3 p4 p5 p6 => ih (k + 1) h1 (ls ++ [(z1, z2, rs)]) x8 x9 (by omega) (by omega) (by rw [List.length_append, hl]; rfl) p3 p4 p5 (fun x hx => ?_) ?_ (fun z => by omega) (p6.sub (by omega) (by omega)))
      · rcases List.mem_append.mp hx with z | z
        · exact okl x z
        · rw [List.mem_singleton.mp z]
          exact ⟨⟨hz1, hz2, p1⟩, by show rs.length ≤ 2; omega⟩
      · rw [ruN_app]
        show ruN ls + (rs.length + 0) ≤ _
        omega
/-- a book and a state that say what was drawn -/
def MtB (la : Nat) (js : List EJa) (ls : List ELi) (B : BK) (D : DY) : Prop := bLa B = la ∧ bJa B = js.length ∧ bLi B = ls.length ∧ dDay D = 0 ∧ (∀ k, dF D k = none) ∧ (∀ j (hj : j < js.length), bSe B j = js[j].1 ∧ bWy B j = js[j].2.1 ∧ ∀ k, dB D j k = js[j].2.2.getD k 0) ∧ ∀ i (hi : i < ls.length), dL D i = ls[i].1 ∧ bLl B i = ls[i].2.1
def rsA (ls : List ELi) (i : Nat) : List ERu := (ls[i]?.map (fun x => x.2.2)).getD []
theorem rsA_at {ls : List ELi} {i : Nat} (hi : i < ls.length) : rsA ls i = ls[i].2.2 := by
  unfold rsA
  rw [List.getElem?_eq_getElem hi]
  rfl
theorem JsA.hand {B : BK} {D : DY} (q : JsA h c fo ja la js.length js) (cc : At h c (.inr (10, [.ref fo, .ref ja, .ref li, .int 0]))) (ql : LsA h li ls.length ls) (m : MtB la js ls B D) : HaR h c B D (rsA ls) := by
  obtain ⟨v3, ff, jf, xj, bj, ⟨a1, a2, a3⟩, a4, ⟨a5, a6⟩, a7, a8, a9⟩ := q
  obtain ⟨lf, yl, rl, b1, b2, b3, b4⟩ := ql
  obtain ⟨m1, m2, m3, m4, m5, m6, m7⟩ := m
  refine ⟨fo, ja, li, xj, bj, yl, rl, ff, jf, lf, ⟨a1, a2, a3, b1⟩, by rw [m4]; exact cc, ⟨by rw [m1]; exact a5, fun k hk => ?_⟩, ⟨by rw [m2]; exact a7, fun j hj => ?_⟩, ⟨by rw [m3]; exact b2, fun i hi => ?_⟩, fun j hj => ?_, fun i hi => ?_, fun j hj => ?_, fun i j hi hj n => a9 i j (by omega) (by omega) n, fun i j hi hj n => b4 i j (by omega) (by omega) n⟩
  · rw [m5]
    exact a6 k (by omega)
  · exact (a8 j (by omega)).1
  · exact (b3 i (by omega)).1
  · obtain ⟨e1, e2, e3⟩ := m6 j (by omega)
    obtain ⟨p1, p2, p3, bf, p4, p5⟩ := (a8 j (by omega)).2.2
    rw [m1, e1, e2]
    exact ⟨p1, p2, p3, bf, p4, fun k hk => by rw [e3]; exact p5 k hk⟩
  · obtain ⟨e1, e2⟩ := m7 i (by omega)
    rw [e1, e2, rsA_at (by omega)]
    exact (b3 i (by omega)).2
  · exact (a8 j (by omega)).2.1
end D5
