/-! drawing a cupboard: labels that come late, its lids -/
def LsA (h : AH) (li L : Nat) (ls : List ELi) : Prop := ∃ (lf : Nat → Option Nat) (yl rl : Nat → Nat), 216 ≤ li ∧ At h li (.inl (6, L, .inr (.inr (.inr (.inr lf))))) ∧ (∀ i (hi : i < ls.length), lf i = some (yl i) ∧ LhR h (yl i) (rl i) ls[i].1 ls[i].2.1 ls[i].2.2) ∧ ∀ i j, i < ls.length → j < ls.length → i ≠ j → yl i ≠ yl j
section D4
variable {G : GT} {d di b ck sk c fo ja li la J L : Nat} {h0 h hb : AH} {t : List Nat} {js : List EJa} {ls : List ELi}
theorem LsA.kd {h1 : AH} (q : LsA h li L ls) (k : KpD h h1) : LsA h1 li L ls := by
  obtain ⟨lf, yl, rl, a1, a2, a3, a4⟩ := q
  exact ⟨lf, yl, rl, a1, k.at a2 (nd_a (by decide)), fun i hi => ⟨(a3 i hi).1, (a3 i hi).2.kd k⟩, a4⟩
theorem kpi_set {i : Nat} {o c : AC} (x : At h i o) (n : ¬ Imm o) : KpI h (hset h i c) := fun j c1 _ y m => At.set_ne y (y.ne x (fun e => n (e ▸ m)))
theorem LhR.setI {y ru jar lab i : Nat} {rs : List ERu} {o c : AC} (q : LhR h y ru jar lab rs) (x : At h i o) (n : ¬ Imm o) (ny : y ≠ i) : LhR (hset h i c) y ru jar lab rs := by
  obtain ⟨q1, q2, q3, f, q4, q5⟩ := q
  exact ⟨q1, q2, At.set_ne q3 ny, f, At.set_ne q4 (q4.ne x (fun e => n (e ▸ imm7 _))), fun k hk => (q5 k hk).imp (fun z w => ⟨w.1, w.2.kp (kpi_set x n)⟩)⟩
theorem LsA.add (q : LsA hb li L ls) (k : KpD hb h) (hL : ls.length < L) {y ru jar lab : Nat} {rs : List ERu} (gy : hb.1 ≤ y) (jy : LhR h y ru jar lab rs) : ∃ lf : Nat → Option Nat, At h li (.inl (6, L, .inr (.inr (.inr (.inr lf))))) ∧ 216 ≤ li ∧ LsA (hset h li (.inl (6, L, .inr (.inr (.inr (.inr (va_up lf ls.length (some y)))))))) li L (ls ++ [(jar, lab, rs)]) := by
  obtain ⟨lf, yl, rl, a1, a2, a3, a4⟩ := q
  have c2 := k.at a2 (nd_a (by decide))
  have n6 : ¬ Imm (.inl (6, L, .inr (.inr (.inr (.inr lf))))) := imm_na (by decide) (by decide)
  have lx : ∀ j (hj : j < ls.length), yl j < hb.1 := fun j hj => (a3 j hj).2.2.2.1.1
  refine ⟨lf, c2, a1, va_up lf ls.length (some y), upN yl ls.length y, upN rl ls.length ru, a1, At.set_eq2 c2.1, fun j hj => ?_, fun i j hi hj n => ?_⟩
  · rw [List.length_append] at hj
    have hj : j < ls.length + 1 := hj
    by_cases z : j = ls.length
    · subst z
      have ex : upN yl ls.length y ls.length = y := if_pos rfl
      have eb : upN rl ls.length ru ls.length = ru := if_pos rfl
      have ej : va_up lf ls.length (some y) ls.length = some y := if_pos rfl
      rw [List.getElem_append_right (Nat.le_refl _), ex, eb, ej]
      simp only [Nat.sub_self, List.getElem_cons_zero]
      exact ⟨trivial, jy.setI c2 n6 (jy.2.2.1.ne c2 (by simp))⟩
    · have hj2 : j < ls.length := by omega
      have ex : upN yl ls.length y j = yl j := if_neg z
      have eb : upN rl ls.length ru j = rl j := if_neg z
      have ej : va_up lf ls.length (some y) j = lf j := if_neg z
      rw [List.getElem_append_left hj2, ex, eb, ej]
      obtain ⟨p1, p3⟩ := a3 j hj2
      have p3 := p3.kd k
      exact ⟨p1, p3.setI c2 n6 (p3.2.2.1.ne c2 (by simp))⟩
  · rw [List.length_append] at hi hj
    have hi : i < ls.length + 1 := hi
    have hj : j < ls.length + 1 := hj
    show (if i = ls.length then y else yl i) ≠ (if j = ls.length then y else yl j)
    by_cases z1 : i = ls.length
    · have z2 : ¬ j = ls.length := fun z2 => n (z1.trans z2.symm)
      have l := lx j (by omega)
      rw [if_pos z1, if_neg z2]
      omega
    · have l := lx i (by omega)
      rw [if_neg z1]
      by_cases z2 : j = ls.length
      · rw [if_pos z2]
        omega
      · rw [if_neg z2]
        exact a4 i j (by omega) (by omega) n
theorem JsA.set6 {i : Nat} {v : vp_A} {x : AC} (q : JsA h c fo ja la J js) (a : At h i (.inl (6, v))) : JsA (hset h i x) c fo ja la J js := by
  obtain ⟨v3, ff, jf, xj, bj, a1, a2, ⟨a3, a4⟩, a5, a6, a7⟩ := q
  exact ⟨v3, ff, jf, xj, bj, a1, At.set_ne a2 (a2.ne a (by simp)), ⟨At.set_ne a3 (a3.ne a (by simp)), a4⟩, At.set_ne a5 (a5.ne a (by simp)), fun j hj => ⟨(a6 j hj).1, (a6 j hj).2.1, (a6 j hj).2.2.set0 ((a6 j hj).2.2.2.2.1.ne a (by simp)) (by obtain ⟨_, _, _, bf, p4, _⟩ := (a6 j hj).2.2; exact p4.ne a (by simp))⟩, a7⟩
theorem JsA.setc {v4 : Value} {o : List Value} (q : JsA h c fo ja la J js) (a : At h c (.inr (10, o))) : JsA (hset h c (.inr (10, [.ref fo, .ref ja, v4, .int 0]))) c fo ja la J js := by
  obtain ⟨v3, ff, jf, xj, bj, a1, a2, ⟨a3, a4⟩, a5, a6, a7⟩ := q
  exact ⟨v4, ff, jf, xj, bj, a1, At.set_eq2 a2.1, ⟨At.set_ne a3 (a3.ne a (by simp)), a4⟩, At.set_ne a5 (a5.ne a (by simp)), fun j hj => ⟨(a6 j hj).1, (a6 j hj).2.1, (a6 j hj).2.2.set0 ((a6 j hj).2.2.2.2.1.ne a (by simp)) (by obtain ⟨_, _, _, bf, p4, _⟩ := (a6 j hj).2.2; exact p4.ne a (by simp))⟩, a7⟩
theorem RuR.set7 {a i : Nat} {r : ERu} {v : vp_A} {w : vp_A} (q : RuR h a r) (x : At h i (.inl (7, v))) : RuR (hset h i (.inl (7, w))) a r := by
  obtain ⟨q1, z, y, f, q2, q3, q4, q5, q6⟩ := q
  have ko : KpO h (hset h i (.inl (7, w))) := KpO.set (KpI.rf h).o x
  exact ⟨q1, z, y, f, At.set_ne q2 (q2.ne x (by simp)), q3.ko ko, q4, At.set_ne q5 (q5.ne x (by simp)), fun j hj => (q6 j hj).imp (fun z w => ⟨w.1, w.2.ko ko⟩)⟩

set_option maxHeartbeats 4000000 in
theorem s_lInit (hd : 1 ≤ d) {x : Nat} : RQ G mX15_init d 0 [some (.ref x)] [] h (Rv fun h1 => h1 = h) := by
  refine tX15_init_0  (r := ?_)
  refine tX15_init_1 (hd := (by omega)) (r := ?_)
  refine tX15_init_4  (hP := ?_)
  exact ⟨rfl, rfl⟩
set_option maxHeartbeats 4000000 in
theorem s_drL (hd : 9 ≤ d) (l6 : la ≤ 6) {e lt : Nat} (el : e + lt = la) {T : List Nat} (tl : T.length ≤ 600) {x4 x6 x8 x9 x10 x11 : Option Value} (o6 : ok1 x6 = true) {P : OC → AH → Prop} (r : (∀ (h1 : AH), KpD hb h1 → Dw h0 h1 di b (T ++ lbsX false e lt) (ck + 10 * lt) (sk + 8006 * lt) → RQ G mL_drawn d 444 [some (.ref di), some (.ref b), some (.ref c), some (.int (nI la)), x4, some (.int (nI J)), x6, some (.int (nI la)), x8, x9, x10, x11] [] h1 P)) : ∀ (n i : Nat) (h9 : AH), lt ≤ i + n → i ≤ lt → KpD hb h9 → Dw h0 h9 di b (T ++ lbsX false e i) (ck + 10 * i) (sk + 8006 * i) → RQ G mL_drawn d 412 [some (.ref di), some (.ref b), some (.ref c), some (.int (nI la)), x4, some (.int (nI J)), x6, some (.int (nI (e + i))), x8, x9, x10, x11] [] h9 P := by
  have ex : ∀ (i : Nat) (h9 : AH), i = lt → KpD hb h9 → Dw h0 h9 di b (T ++ lbsX false e i) (ck + 10 * i) (sk + 8006 * i) → RQ G mL_drawn d 412 [some (.ref di), some (.ref b), some (.ref c), some (.int (nI la)), x4, some (.int (nI J)), x6, some (.int (nI (e + i))), x8, x9, x10, x11] [] h9 P := by
    intro i h9 hi k9 w
    subst hi
    refine tL_drawn_412  (r := ?_)
    refine tL_drawn_414  (r := ?_)
    refine tL_drawn_415  (kf := fun c_ => by exfalso; exact c_ (by rw [el]; exact Int32.le_refl _)) (kt := fun _ => ?_)
    rw [el]
    exact r h9 k9 w
  intro n
  induction n with
  | zero => exact fun i h9 h1_ h2_ => ex i h9 (by omega)
  | succ n ih =>
    intro i h9 h1_ h2_ k9 w
    by_cases hie : i = lt
    · exact ex i h9 hie k9 w
    have hi2 : i < lt := by omega
    have bl := (lbK_le false i e).2
    refine tL_drawn_412  (r := ?_)
    refine tL_drawn_414  (r := ?_)
    refine tL_drawn_415  (kt := fun c_ => by exfalso; (simp (disch := first | omega | decide) only [ci_lt, ci_le, ci_eq, ci_lt0, ci_ge0, ci_gt0, ci_le0, ci_eq0, ci_m1_lt, ci_m1_le, ci_lt_m1, ci_le_m1, ci_eq_m1, ci_m1_eq, not_true, not_false_iff, Nat.not_lt, Nat.not_le] at c_ <;> omega)) (kf := fun _ => ?_)
    refine tL_drawn_418  (r := ?_)
    refine tL_drawn_419  (r := ?_)
    refine tL_drawn_421 (hd := (by omega)) (ha := w.at.choose_spec) (call := s_dApp (d := d - 1) (by omega) w (StR.old (i := 41) (by decide)) (by (simp only [List.length_append, List.length_nil, List.length_cons, txt_len, nam_len, tL40, tL41, tL42, tL43, tL44, tL45, tL46, tL47, tL48, tL49, tL50, tL51, tL52, tL53, tL54, tL55, tL56, tL57, tL58, tL59, tL60, tL61, tL62, tL63, tL64, tL65, tL66, tL67, tL68, tL69, tL70, tL71, tL72, tL73, tL74, tL75, tL76, tL77, tL78, tL79, tL80, tL81, tL82, tL83, tL84, tL85, tL86, tL87]; omega))) (k := ?_)
    rintro r_ H1 ⟨e_, W1, K1⟩
    rw [e_]
    clear e_
    refine tL_drawn_424  (r := ?_)
    refine tL_drawn_426 (hd := (by omega)) (call := s_dName (d := d - 1) (by omega) W1 (k := e + i) (by omega)) (k := ?_)
    rintro r_ H2 ⟨y2, W2, K2⟩
    refine tL_drawn_429 (hd := (by omega)) (ha := W2.at.choose_spec) (call := s_dApp (d := d - 1) (by omega) W2 y2 (by (simp only [List.length_append, List.length_nil, List.length_cons, txt_len, nam_len, tL40, tL41, tL42, tL43, tL44, tL45, tL46, tL47, tL48, tL49, tL50, tL51, tL52, tL53, tL54, tL55, tL56, tL57, tL58, tL59, tL60, tL61, tL62, tL63, tL64, tL65, tL66, tL67, tL68, tL69, tL70, tL71, tL72, tL73, tL74, tL75, tL76, tL77, tL78, tL79, tL80, tL81, tL82, tL83, tL84, tL85, tL86, tL87]; omega))) (k := ?_)
    rintro r_ H3 ⟨e_, W3, K3⟩
    rw [e_]
    clear e_
    refine tL_drawn_432  (r := ?_)
    refine tL_drawn_434 (hd := (by omega)) (ha := W3.at.choose_spec) (call := s_dApp (d := d - 1) (by omega) W3 (StR.old (i := 42) (by decide)) (by (simp only [List.length_append, List.length_nil, List.length_cons, txt_len, nam_len, tL40, tL41, tL42, tL43, tL44, tL45, tL46, tL47, tL48, tL49, tL50, tL51, tL52, tL53, tL54, tL55, tL56, tL57, tL58, tL59, tL60, tL61, tL62, tL63, tL64, tL65, tL66, tL67, tL68, tL69, tL70, tL71, tL72, tL73, tL74, tL75, tL76, tL77, tL78, tL79, tL80, tL81, tL82, tL83, tL84, tL85, tL86, tL87]; omega))) (k := ?_)
    rintro r_ H4 ⟨e_, W4, K4⟩
    rw [e_]
    clear e_
    refine tL_drawn_437  (r := ?_)
    refine tL_drawn_438 (ho := o6) (r := ?_)
    rw [nI_add]
    refine tL_drawn_441 (r := ?_)
    have en : nI (e + i + 1) = nI (e + (i + 1)) := rfl
    rw [en]
    refine ih (i + 1) H4 (by omega) (by omega) ((((k9.trans K1).trans K2).trans K3).trans K4) ?_
    have et : T ++ lbsX false e (i + 1) = T ++ lbsX false e i ++ txt 41 ++ nam (e + i) ++ txt 42 := by
      rw [lbsX_app]
      unfold lbX
      rw [if_neg (fun z => by have := z.1; exact absurd this (by decide))]
      simp only [List.append_assoc]
    rw [et]
    exact W4.sub (by omega) (by omega)
set_option maxHeartbeats 4000000 in
theorem s_drR (hd : 18 ≤ d) (l1 : 0 < la) (l6 : la ≤ 6) (j1 : 0 < J) (j8 : J ≤ 8) {y ru jar lab R k : Nat} (R3 : R ≤ 3) {T : List Nat} (tl : T.length + 188 * R ≤ 1300) (gr : hb.1 ≤ ru) (g0 : h0.1 ≤ hb.1) {x4 x6 x10 x11 : Option Value} {P : OC → AH → Prop} (r : (∀ (h1 : AH) (rs : List ERu) (rf : Nat → Option Nat), KpD hb h1 → At h1 y (.inr (13, [.int (nI jar), .int (nI lab), .ref ru])) → At h1 ru (.inl (7, R, .inr (.inr (.inr (.inr rf))))) → rs.length = R → (∀ j (hj : j < rs.length), ∃ z, rf j = some z ∧ RuR h1 z rs[j]) → (∀ e ∈ rs, okRu la J e) → Dw h0 h1 di b (T ++ rsX rs) (ck + 640 * R) (sk + 23000 * R) → RQ G mL_drawn d 623 [some (.ref di), some (.ref b), some (.ref c), some (.int (nI la)), x4, some (.int (nI J)), x6, some (.int (nI k)), some (.ref y), some (.int (nI (R))), x10, x11] [] h1 P)) : ∀ (n i : Nat) (h9 : AH) (rs : List ERu) (rf : Nat → Option Nat), R ≤ i + n → i ≤ R → KpD hb h9 → At h9 y (.inr (13, [.int (nI jar), .int (nI lab), .ref ru])) → At h9 ru (.inl (7, R, .inr (.inr (.inr (.inr rf))))) → rs.length = i → (∀ j (hj : j < rs.length), ∃ z, rf j = some z ∧ RuR h9 z rs[j]) → (∀ e ∈ rs, okRu la J e) → Dw h0 h9 di b (T ++ rsX rs) (ck + 640 * i) (sk + 23000 * i) → RQ G mL_drawn d 571 [some (.ref di), some (.ref b), some (.ref c), some (.int (nI la)), x4, some (.int (nI J)), x6, some (.int (nI k)), some (.ref y), some (.int (nI (i))), x10, x11] [] h9 P := by
  have ex : ∀ (i : Nat) (h9 : AH) (rs : List ERu) (rf : Nat → Option Nat), i = R → KpD hb h9 → At h9 y (.inr (13, [.int (nI jar), .int (nI lab), .ref ru])) → At h9 ru (.inl (7, R, .inr (.inr (.inr (.inr rf))))) → rs.length = i → (∀ j (hj : j < rs.length), ∃ z, rf j = some z ∧ RuR h9 z rs[j]) → (∀ e ∈ rs, okRu la J e) → Dw h0 h9 di b (T ++ rsX rs) (ck + 640 * i) (sk + 23000 * i) → RQ G mL_drawn d 571 [some (.ref di), some (.ref b), some (.ref c), some (.int (nI la)), x4, some (.int (nI J)), x6, some (.int (nI k)), some (.ref y), some (.int (nI (i))), x10, x11] [] h9 P := by
    intro i h9 rs rf hi k9 a1 a2 hl hz okr w
    subst hi
    refine tL_drawn_571  (r := ?_)
    refine tL_drawn_573  (r := ?_)
    refine tL_drawn_575 (ha := a1) (hv := rfl) (r := ?_)
    refine tL_drawn_578 (t := 7) (ha := a2) (ht := rfl) (r := ?_)
    refine tL_drawn_579  (kf := fun c_ => by exfalso; (simp (disch := first | omega | decide) only [ci_lt, ci_le, ci_eq, ci_lt0, ci_ge0, ci_gt0, ci_le0, ci_eq0, ci_m1_lt, ci_m1_le, ci_lt_m1, ci_le_m1, ci_eq_m1, ci_m1_eq, not_true, not_false_iff, Nat.not_lt, Nat.not_le] at c_ <;> omega)) (kt := fun _ => ?_)
    exact r h9 rs rf k9 a1 a2 hl hz okr w
  intro n
  induction n with
  | zero => exact fun i h9 rs rf h1_ h2_ => ex i h9 rs rf (by omega)
  | succ n ih =>
    intro i h9 rs rf h1_ h2_ k9 a1 a2 hl hz okr w
    by_cases hie : i = R
    · exact ex i h9 rs rf hie k9 a1 a2 hl hz okr w
    have hi2 : i < R := by omega
    have rl9 := (rsK_le rs okr).2
    refine tL_drawn_571  (r := ?_)
    refine tL_drawn_573  (r := ?_)
    refine tL_drawn_575 (ha := a1) (hv := rfl) (r := ?_)
    refine tL_drawn_578 (t := 7) (ha := a2) (ht := rfl) (r := ?_)
    refine tL_drawn_579  (kt := fun c_ => by exfalso; (simp (disch := first | omega | decide) only [ci_lt, ci_le, ci_eq, ci_lt0, ci_ge0, ci_gt0, ci_le0, ci_eq0, ci_m1_lt, ci_m1_le, ci_lt_m1, ci_le_m1, ci_eq_m1, ci_m1_eq, not_true, not_false_iff, Nat.not_lt, Nat.not_le] at c_ <;> omega)) (kf := fun _ => ?_)
    refine tL_drawn_582  (r := ?_)
    refine tL_drawn_584 (ha := a1) (hv := rfl) (r := ?_)
    refine tL_drawn_587  (r := ?_)
    refine tL_drawn_589  (r := ?_)
    refine tL_drawn_592  (r := ?_)
    refine tL_drawn_593  (r := ?_)
    refine tL_drawn_594  (r := ?_)
    refine tL_drawn_595  (r := ?_)
    refine tL_drawn_597 (hd := (by omega)) (call := s_dRule (d := d - 1) l1 l6 j1 j8 (by omega) w) (k := ?_)
    rintro H1 ⟨r1, ok1_, ru1, w1, K1⟩
    have a11 := K1.at a1 (nd_r ⟨by decide, by decide⟩)
    have a12 := K1.at a2 (nd_a (by decide))
    obtain ⟨vz, az⟩ : ∃ vz, At H1 h9.1 (.inr (15, vz)) := by
      obtain ⟨_, x_, y_, _, q_, _⟩ := ru1
      exact ⟨_, q_⟩
    refine tL_drawn_600 (t := 7) (ci := 15) (hc := rfl) (ht := rfl) (ha := a12) (hb := az) (hx := rfl) (hj := hi2) (hn := (by omega)) (r := ?_)
    have K2 : KpD hb (hset H1 ru (.inl (7, R, .inr (.inr (.inr (.inr (va_up rf i (some h9.1)))))))) := (k9.trans K1).set gr
    have w2 := w1.set (c := .inl (7, R, .inr (.inr (.inr (.inr (va_up rf i (some h9.1))))))) a12 (nd_a (by decide)) (Nat.le_trans g0 gr)
    have b2 : At (hset H1 ru (.inl (7, R, .inr (.inr (.inr (.inr (va_up rf i (some h9.1)))))))) ru (.inl (7, R, .inr (.inr (.inr (.inr (va_up rf i (some h9.1))))))) := At.set_eq2 a12.1
    have b1 : At (hset H1 ru (.inl (7, R, .inr (.inr (.inr (.inr (va_up rf i (some h9.1)))))))) y (.inr (13, [.int (nI jar), .int (nI lab), .ref ru])) := At.set_ne a11 (a11.ne a12 (by simp))
    have rz : RuR (hset H1 ru (.inl (7, R, .inr (.inr (.inr (.inr (va_up rf i (some h9.1)))))))) h9.1 r1 := ru1.set7 a12
    have rq : ∀ j (hj : j < rs.length), ∃ z, rf j = some z ∧ RuR (hset H1 ru (.inl (7, R, .inr (.inr (.inr (.inr (va_up rf i (some h9.1)))))))) z rs[j] := fun j hj => (hz j hj).imp (fun z w => ⟨w.1, (w.2.kp K1.i).set7 a12⟩)
    revert K2 w2 b2 b1 rz rq
    generalize hset H1 ru (.inl (7, R, .inr (.inr (.inr (.inr (va_up rf i (some h9.1))))))) = hS
    intro K2 w2 b2 b1 rz rq
    have rz0 := rz
    obtain ⟨_, x_, y_, _, qz_, _⟩ := rz0
    refine tL_drawn_601  (r := ?_)
    refine tL_drawn_602  (r := ?_)
    refine tL_drawn_604 (ha := b1) (hv := rfl) (r := ?_)
    refine tL_drawn_607  (r := ?_)
    refine tL_drawn_609 (t := 7) (ha := b2) (ht := rfl) (hx := rfl) (hj := hi2) (hn := (by omega)) (hf := (if_pos rfl)) (r := ?_)
    refine tL_drawn_610 (hd := (by omega)) (ha := qz_) (call := s_tx_rule (d := d - 1) (by omega) l6 j8 ok1_ rz) (k := ?_)
    rintro r_ H3 ⟨y3, c3⟩
    have w3 := w2.keep c3
    have K3 := K2.trans (Ch.kd c3)
    have c1 := Ch0.at c3 b1
    have c2 := Ch0.at c3 b2
    have rl := ruX_len ok1_
    refine tL_drawn_613 (hd := (by omega)) (ha := w3.at.choose_spec) (call := s_dApp (d := d - 1) (by omega) w3 y3 (by (simp only [List.length_append, List.length_nil, List.length_cons, txt_len, nam_len, tL40, tL41, tL42, tL43, tL44, tL45, tL46, tL47, tL48, tL49, tL50, tL51, tL52, tL53, tL54, tL55, tL56, tL57, tL58, tL59, tL60, tL61, tL62, tL63, tL64, tL65, tL66, tL67, tL68, tL69, tL70, tL71, tL72, tL73, tL74, tL75, tL76, tL77, tL78, tL79, tL80, tL81, tL82, tL83, tL84, tL85, tL86, tL87]; omega))) (k := ?_)
    rintro r_ H4 ⟨e_, W4, K4⟩
    rw [e_]
    clear e_
    refine tL_drawn_616  (r := ?_)
    refine tL_drawn_617  (r := ?_)
    rw [nI_add]
    refine tL_drawn_620 (r := ?_)
    refine ih (i + 1) H4 (rs ++ [r1]) (va_up rf i (some h9.1)) (by omega) (by omega) (K3.trans K4) (K4.at c1 (nd_r ⟨by decide, by decide⟩)) (K4.at c2 (nd_a (by decide))) (by rw [List.length_append, hl]; rfl) (fun j hj => ?_) (fun e he => ?_) ?_
    · rw [List.length_append] at hj
      have hj : j < rs.length + 1 := hj
      by_cases z : j = i
      · refine ⟨h9.1, if_pos z, ?_⟩
        have e9 : (rs ++ [r1])[j]'(by rw [List.length_append]; exact hj) = r1 := by
          rw [List.getElem_append_right (by omega)]
          simp only [show j - rs.length = 0 by omega, List.getElem_cons_zero]
        rw [e9]
        exact (rz.kp (Ch.kd c3).i).kp K4.i
      · obtain ⟨z1, z2, z3⟩ := rq j (by omega)
        refine ⟨z1, (if_neg z).trans z2, ?_⟩
        rw [List.getElem_append_left (by omega)]
        exact (z3.kp (Ch.kd c3).i).kp K4.i
    · rcases List.mem_append.mp he with z | z
      · exact okr e z
      · rw [List.mem_singleton.mp z]
        exact ok1_
    · have et : T ++ rsX (rs ++ [r1]) = T ++ rsX rs ++ ruX r1 := by rw [rsX_app, List.append_assoc]
      rw [et]
      exact W4.sub (by omega) (by omega)
end D4
