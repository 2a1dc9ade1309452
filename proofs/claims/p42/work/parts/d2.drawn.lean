/-! drawing a cupboard: its jars -/
def JsA (h : AH) (c fo ja la J : Nat) (js : List EJa) : Prop := ∃ (v3 : Value) (ff : Nat → Int32) (jf : Nat → Option Nat) (xj bj : Nat → Nat), (216 ≤ c ∧ 216 ≤ fo ∧ 216 ≤ ja) ∧ At h c (.inr (10, [.ref fo, .ref ja, v3, .int 0])) ∧ (At h fo (.inl (0, la, .inl ff)) ∧ ∀ k, k < la → ff k = -1) ∧ At h ja (.inl (5, J, .inr (.inr (.inr (.inr jf))))) ∧ (∀ j (hj : j < js.length), jf j = some (xj j) ∧ bj j ≠ fo ∧ JhR h (xj j) (bj j) la js[j].1 js[j].2.1 (fun k => js[j].2.2.getD k 0)) ∧ ∀ i j, i < js.length → j < js.length → i ≠ j → xj i ≠ xj j ∧ bj i ≠ bj j
section D2
variable {G : GT} {d di b ck sk c fo ja la J wa : Nat} {h0 h hb : AH} {t : List Nat} {js : List EJa}
theorem JsA.kd {h1 : AH} (q : JsA h c fo ja la J js) (k : KpD h h1) : JsA h1 c fo ja la J js := by
  obtain ⟨v3, ff, jf, xj, bj, a1, a2, ⟨a3, a4⟩, a5, a6, a7⟩ := q
  exact ⟨v3, ff, jf, xj, bj, a1, k.at a2 (nd_r ⟨by decide, by decide⟩), ⟨k.at a3 (nd_a (by decide)), a4⟩, k.at a5 (nd_a (by decide)), fun j hj => ⟨(a6 j hj).1, (a6 j hj).2.1, (a6 j hj).2.2.kd k⟩, a7⟩
theorem JsA.cc (q : JsA h c fo ja la J js) : ∃ v3, At h c (.inr (10, [.ref fo, .ref ja, v3, .int 0])) := by
  obtain ⟨v3, ff, jf, xj, bj, a1, a2, -⟩ := q
  exact ⟨v3, a2⟩
theorem JsA.add (q : JsA hb c fo ja la J js) (k : KpD hb h) (hJ : js.length < J) (gh : 216 ≤ hb.1) {x be se wy : Nat} {bs : List Nat} (gx : hb.1 ≤ x) (gb : hb.1 ≤ be) (jx : JhR h x be la se wy (fun k => bs.getD k 0)) : ∃ jf : Nat → Option Nat, At h ja (.inl (5, J, .inr (.inr (.inr (.inr jf))))) ∧ 216 ≤ ja ∧ JsA (hset h ja (.inl (5, J, .inr (.inr (.inr (.inr (va_up jf js.length (some x)))))))) c fo ja la J (js ++ [(se, wy, bs)]) := by
  obtain ⟨v3, ff, jf, xj, bj, ⟨a1, a2, a3⟩, a4, ⟨a5, a6⟩, a7, a8, a9⟩ := q
  have c4 := k.at a4 (nd_r ⟨by decide, by decide⟩)
  have c5 := k.at a5 (nd_a (by decide))
  have c7 := k.at a7 (nd_a (by decide))
  have lx : ∀ j (hj : j < js.length), xj j < hb.1 ∧ bj j < hb.1 := fun j hj => by
    obtain ⟨-, -, _, _, p3, bf, p4, _⟩ := a8 j hj
    exact ⟨p3.1, p4.1⟩
  refine ⟨jf, c7, a3, v3, ff, va_up jf js.length (some x), upN xj js.length x, upN bj js.length be, ⟨a1, a2, a3⟩, At.set_ne c4 (c4.ne c7 (by simp)), ⟨At.set_ne c5 (c5.ne c7 (by simp)), a6⟩, At.set_eq2 c7.1, fun j hj => ?_, fun i j hi hj n => ?_⟩
  · rw [List.length_append] at hj
    have hj : j < js.length + 1 := hj
    by_cases z : j = js.length
    · subst z
      have ex : upN xj js.length x js.length = x := if_pos rfl
      have eb : upN bj js.length be js.length = be := if_pos rfl
      have ej : va_up jf js.length (some x) js.length = some x := if_pos rfl
      rw [List.getElem_append_right (Nat.le_refl _), ex, eb, ej]
      simp only [Nat.sub_self, List.getElem_cons_zero]
      refine ⟨trivial, ?_, ?_⟩
      · have := a5.1
        omega
      · exact jx.set0 (jx.2.2.1.ne c7 (by simp)) (by obtain ⟨_, _, _, bf, p4, _⟩ := jx; exact p4.ne c7 (by simp))
    · have hj2 : j < js.length := by omega
      have ex : upN xj js.length x j = xj j := if_neg z
      have eb : upN bj js.length be j = bj j := if_neg z
      have ej : va_up jf js.length (some x) j = jf j := if_neg z
      rw [List.getElem_append_left hj2, ex, eb, ej]
      obtain ⟨p1, p2, p3⟩ := a8 j hj2
      have p3 := p3.kd k
      exact ⟨p1, p2, p3.set0 (p3.2.2.1.ne c7 (by simp)) (by obtain ⟨_, _, _, bf, p4, _⟩ := p3; exact p4.ne c7 (by simp))⟩
  · rw [List.length_append] at hi hj
    have hi : i < js.length + 1 := hi
    have hj : j < js.length + 1 := hj
    show (if i = js.length then x else xj i) ≠ (if j = js.length then x else xj j) ∧ (if i = js.length then be else bj i) ≠ (if j = js.length then be else bj j)
    by_cases z1 : i = js.length
    · have z2 : ¬ j = js.length := fun z2 => n (z1.trans z2.symm)
      have l := lx j (by omega)
      rw [if_pos z1, if_pos z1, if_neg z2, if_neg z2]
      omega
    · have l := lx i (by omega)
      rw [if_neg z1, if_neg z1]
      by_cases z2 : j = js.length
      · rw [if_pos z2, if_pos z2]
        omega
      · rw [if_neg z2, if_neg z2]
        exact a9 i j (by omega) (by omega) n
/-- the beans told so far -/
def bpX : List Nat → List Nat
  | [] => []
  | b :: s => dgs b ++ beX s
theorem bpX_app (s : List Nat) (a : Nat) : bpX (s ++ [a]) = bpX s ++ ((if s = [] then txt 51 else txt 52) ++ dgs a) := by
  have e : txt 51 = [] := by decide +kernel
  cases s with
  | nil =>
    show dgs a ++ [] = [] ++ ((if ([] : List Nat) = [] then txt 51 else txt 52) ++ dgs a)
    rw [if_pos rfl, e, List.append_nil, List.nil_append, List.nil_append]
  | cons b s =>
    show dgs b ++ beX (s ++ [a]) = (dgs b ++ beX s) ++ _
    rw [if_neg (fun z => nomatch z), beX_app, List.append_assoc]
theorem bpX_le (s : List Nat) : (bpX s).length ≤ 5 * s.length := by
  cases s with
  | nil => exact Nat.le_refl _
  | cons b s =>
    have h1 := dgs_le b
    have h2 := (beK_le s).2
    simp only [bpX, List.length_append, List.length_cons]
    omega
theorem gd_app {s : List Nat} {a k : Nat} : (s ++ [a]).getD k 0 = if k = s.length then a else s.getD k 0 := by
  rw [getD_app]
  by_cases z : k < s.length
  · rw [if_pos z, if_neg (by omega)]
  · rw [if_neg z]
    by_cases y : k = s.length
    · rw [if_pos y, y, Nat.sub_self]
      rfl
    · rw [if_neg y, List.getD_eq_getElem?_getD, List.getD_eq_getElem?_getD, List.getElem?_eq_none (by simp only [List.length_cons, List.length_nil]; omega), List.getElem?_eq_none (by omega)]

set_option maxHeartbeats 4000000 in
theorem s_jInit (hd : 1 ≤ d) {x : Nat} : RQ G mX14_init d 0 [some (.ref x)] [] h (Rv fun h1 => h1 = h) := by
  refine tX14_init_0  (r := ?_)
  refine tX14_init_1 (hd := (by omega)) (r := ?_)
  refine tX14_init_4  (hP := ?_)
  exact ⟨rfl, rfl⟩
set_option maxHeartbeats 4000000 in
theorem s_drJ5 (hd : 9 ≤ d) (l6 : la ≤ 6) {x be se wy lt k mo to i v : Nat} {T bs : List Nat} {bf : Nat → Int32} {h9 : AH} (hi2 : i < la) (v2 : v ≤ 200) (tl : T.length ≤ 600) (gb : hb.1 ≤ be) (g0 : h0.1 ≤ hb.1) (k9 : KpD hb h9) (a1 : At h9 x (.inr (12, [.int (nI se), .int (nI wy), .ref be]))) (a2 : At h9 be (.inl (0, la, .inl bf))) (hbf : ∀ q, q < la → bf q = nI (bs.getD q 0)) (hl : bs.length = i) (w : Dw h0 h9 di b (T ++ bpX bs) (ck + 2 * i) (sk + 5204 * i)) {P : OC → AH → Prop} (r : ∀ (h1 : AH) (bf1 : Nat → Int32), KpD hb h1 → At h1 x (.inr (12, [.int (nI se), .int (nI wy), .ref be])) → At h1 be (.inl (0, la, .inl bf1)) → (∀ q, q < la → bf1 q = nI ((bs ++ [v]).getD q 0)) → Dw h0 h1 di b (T ++ bpX (bs ++ [v])) (ck + 2 * (i + 1)) (sk + 5204 * (i + 1)) → RQ G mL_drawn d 317 [some (.ref di), some (.ref b), some (.ref c), some (.int (nI la)), some (.int (nI lt)), some (.int (nI J)), some (.ref wa), some (.int (nI k)), some (.ref x), some (.int (nI mo)), some (.int (nI to)), some (.int (nI (i + 1)))] [] h1 P) : RQ G mL_drawn d 349 [some (.ref di), some (.ref b), some (.ref c), some (.int (nI la)), some (.int (nI lt)), some (.int (nI J)), some (.ref wa), some (.int (nI k)), some (.ref x), some (.int (nI mo)), some (.int (nI to)), some (.int (nI i))] [.int (nI v), .int (nI i), .ref be] h9 P := by
  have bl := bpX_le bs
  by_cases hz : i = 0
  · skip
    refine tL_drawn_349 (ha := a2) (hx := rfl) (hj := hi2) (hn := (by omega)) (r := ?_)
    generalize eq0 : hset h9 be _ = hs
    have KS : KpD hb hs := by rw [← eq0]; exact k9.set gb
    have s1 : At hs x (.inr (12, [.int (nI se), .int (nI wy), .ref be])) := by rw [← eq0]; exact At.set_ne a1 (a1.ne a2 (by simp))
    have s2 : At hs be (.inl (0, la, .inl (upd bf i (nI v)))) := by rw [← eq0]; exact At.set_eq2 a2.1
    have w1 : Dw h0 hs di b (T ++ bpX bs) (ck + 2 * i) (sk + 5204 * i) := by rw [← eq0]; exact w.set a2 (nd_a (by decide)) (Nat.le_trans g0 gb)
    refine tL_drawn_350  (r := ?_)
    refine tL_drawn_351  (r := ?_)
    refine tL_drawn_353  (kt := fun c_ => by exfalso; first | (rw [hz] at c_; exact absurd c_ (by decide)) | exact c_ (by rw [hz]; rfl) | exact hz ((nI_eq (by omega) (by decide)).mp c_) | exact absurd ((nI_eq (by omega) (by decide)).mp c_) hz) (kf := fun _ => ?_)
    refine tL_drawn_356  (r := ?_)
    refine tL_drawn_358 (r := ?_)
    refine tL_drawn_363 (hd := (by omega)) (ha := w1.at.choose_spec) (call := s_dApp (d := d - 1) (by omega) w1 (StR.old (i := 51) (by decide)) (by (simp only [List.length_append, List.length_nil, List.length_cons, txt_len, nam_len, tL40, tL41, tL42, tL43, tL44, tL45, tL46, tL47, tL48, tL49, tL50, tL51, tL52, tL53, tL54, tL55, tL56, tL57, tL58, tL59, tL60, tL61, tL62, tL63, tL64, tL65, tL66, tL67, tL68, tL69, tL70, tL71, tL72, tL73, tL74, tL75, tL76, tL77, tL78, tL79, tL80, tL81, tL82, tL83, tL84, tL85, tL86, tL87]; omega))) (k := ?_)
    rintro r_ H1 ⟨e_, W1, K1⟩
    rw [e_]
    clear e_
    refine tL_drawn_366  (r := ?_)
    refine tL_drawn_368 (ha := (K1.at s1 (nd_r ⟨by decide, by decide⟩))) (hv := rfl) (r := ?_)
    refine tL_drawn_371  (r := ?_)
    refine tL_drawn_373 (ha := (K1.at s2 (nd_a (by decide)))) (hx := rfl) (hj := hi2) (hn := (by omega)) (r := ?_)
    rw [show upd bf i (nI v) i = nI v from if_pos rfl]
    refine tL_drawn_374 (hd := (by omega)) (ha := W1.at.choose_spec) (call := s_dAppI (d := d - 1) (by omega) W1 (n := v) (by omega) (by (simp only [List.length_append, List.length_nil, List.length_cons, txt_len, nam_len, tL40, tL41, tL42, tL43, tL44, tL45, tL46, tL47, tL48, tL49, tL50, tL51, tL52, tL53, tL54, tL55, tL56, tL57, tL58, tL59, tL60, tL61, tL62, tL63, tL64, tL65, tL66, tL67, tL68, tL69, tL70, tL71, tL72, tL73, tL74, tL75, tL76, tL77, tL78, tL79, tL80, tL81, tL82, tL83, tL84, tL85, tL86, tL87]; omega))) (k := ?_)
    rintro r_ H2 ⟨e_, W2, K2⟩
    rw [e_]
    clear e_
    refine tL_drawn_377  (r := ?_)
    refine tL_drawn_378  (r := ?_)
    rw [nI_add]
    refine tL_drawn_381 (r := ?_)
    refine r H2 (upd bf i (nI v)) ((KS.trans K1).trans K2) (K2.at (K1.at s1 (nd_r ⟨by decide, by decide⟩)) (nd_r ⟨by decide, by decide⟩)) (K2.at (K1.at s2 (nd_a (by decide))) (nd_a (by decide))) (fun q hq => ?_) ?_
    · show (if q = i then nI v else bf q) = _
      rw [gd_app, hl]
      by_cases z : q = i
      · rw [if_pos z, if_pos z]
      · rw [if_neg z, if_neg z]
        exact hbf q hq
    · have et : T ++ bpX (bs ++ [v]) = T ++ bpX bs ++ txt 51 ++ dgs v := by
        rw [bpX_app, if_pos (List.length_eq_zero_iff.mp (hl.trans hz))]
        simp only [List.append_assoc]
      rw [et]
      exact W2.sub (by omega) (by omega)
  · skip
    refine tL_drawn_349 (ha := a2) (hx := rfl) (hj := hi2) (hn := (by omega)) (r := ?_)
    generalize eq0 : hset h9 be _ = hs
    have KS : KpD hb hs := by rw [← eq0]; exact k9.set gb
    have s1 : At hs x (.inr (12, [.int (nI se), .int (nI wy), .ref be])) := by rw [← eq0]; exact At.set_ne a1 (a1.ne a2 (by simp))
    have s2 : At hs be (.inl (0, la, .inl (upd bf i (nI v)))) := by rw [← eq0]; exact At.set_eq2 a2.1
    have w1 : Dw h0 hs di b (T ++ bpX bs) (ck + 2 * i) (sk + 5204 * i) := by rw [← eq0]; exact w.set a2 (nd_a (by decide)) (Nat.le_trans g0 gb)
    refine tL_drawn_350  (r := ?_)
    refine tL_drawn_351  (r := ?_)
    refine tL_drawn_353  (kf := fun c_ => by exfalso; first | (rw [hz] at c_; exact absurd c_ (by decide)) | exact c_ (by rw [hz]; rfl) | exact hz ((nI_eq (by omega) (by decide)).mp c_) | exact absurd ((nI_eq (by omega) (by decide)).mp c_) hz) (kt := fun _ => ?_)
    refine tL_drawn_361  (r := ?_)
    refine tL_drawn_363 (hd := (by omega)) (ha := w1.at.choose_spec) (call := s_dApp (d := d - 1) (by omega) w1 (StR.old (i := 52) (by decide)) (by (simp only [List.length_append, List.length_nil, List.length_cons, txt_len, nam_len, tL40, tL41, tL42, tL43, tL44, tL45, tL46, tL47, tL48, tL49, tL50, tL51, tL52, tL53, tL54, tL55, tL56, tL57, tL58, tL59, tL60, tL61, tL62, tL63, tL64, tL65, tL66, tL67, tL68, tL69, tL70, tL71, tL72, tL73, tL74, tL75, tL76, tL77, tL78, tL79, tL80, tL81, tL82, tL83, tL84, tL85, tL86, tL87]; omega))) (k := ?_)
    rintro r_ H1 ⟨e_, W1, K1⟩
    rw [e_]
    clear e_
    refine tL_drawn_366  (r := ?_)
    refine tL_drawn_368 (ha := (K1.at s1 (nd_r ⟨by decide, by decide⟩))) (hv := rfl) (r := ?_)
    refine tL_drawn_371  (r := ?_)
    refine tL_drawn_373 (ha := (K1.at s2 (nd_a (by decide)))) (hx := rfl) (hj := hi2) (hn := (by omega)) (r := ?_)
    rw [show upd bf i (nI v) i = nI v from if_pos rfl]
    refine tL_drawn_374 (hd := (by omega)) (ha := W1.at.choose_spec) (call := s_dAppI (d := d - 1) (by omega) W1 (n := v) (by omega) (by (simp only [List.length_append, List.length_nil, List.length_cons, txt_len, nam_len, tL40, tL41, tL42, tL43, tL44, tL45, tL46, tL47, tL48, tL49, tL50, tL51, tL52, tL53, tL54, tL55, tL56, tL57, tL58, tL59, tL60, tL61, tL62, tL63, tL64, tL65, tL66, tL67, tL68, tL69, tL70, tL71, tL72, tL73, tL74, tL75, tL76, tL77, tL78, tL79, tL80, tL81, tL82, tL83, tL84, tL85, tL86, tL87]; omega))) (k := ?_)
    rintro r_ H2 ⟨e_, W2, K2⟩
    rw [e_]
    clear e_
    refine tL_drawn_377  (r := ?_)
    refine tL_drawn_378  (r := ?_)
    rw [nI_add]
    refine tL_drawn_381 (r := ?_)
    refine r H2 (upd bf i (nI v)) ((KS.trans K1).trans K2) (K2.at (K1.at s1 (nd_r ⟨by decide, by decide⟩)) (nd_r ⟨by decide, by decide⟩)) (K2.at (K1.at s2 (nd_a (by decide))) (nd_a (by decide))) (fun q hq => ?_) ?_
    · show (if q = i then nI v else bf q) = _
      rw [gd_app, hl]
      by_cases z : q = i
      · rw [if_pos z, if_pos z]
      · rw [if_neg z, if_neg z]
        exact hbf q hq
    · have et : T ++ bpX (bs ++ [v]) = T ++ bpX bs ++ txt 52 ++ dgs v := by
        rw [bpX_app, if_neg (fun z => hz (by rw [← hl, z]; rfl))]
        simp only [List.append_assoc]
      rw [et]
      exact W2.sub (by omega) (by omega)
set_option maxHeartbeats 4000000 in
theorem s_drJ4 (hd : 9 ≤ d) (l6 : la ≤ 6) {x be se wy lt k mo to : Nat} {T : List Nat} (mo1 : 0 < mo) (mo2 : mo ≤ 201) (tl : T.length ≤ 600) (gb : hb.1 ≤ be) (g0 : h0.1 ≤ hb.1) (ht : to ≤ la) {P : OC → AH → Prop} (r : (∀ (h1 : AH) (bs : List Nat) (bf : Nat → Int32), KpD hb h1 → At h1 x (.inr (12, [.int (nI se), .int (nI wy), .ref be])) → At h1 be (.inl (0, la, .inl bf)) → (∀ q, q < la → bf q = nI (bs.getD q 0)) → bs.length = to → (∀ q ∈ bs, q ≤ 200) → Dw h0 h1 di b (T ++ bpX bs) (ck + 2 * to) (sk + 5204 * to) → RQ G mL_drawn d 384 [some (.ref di), some (.ref b), some (.ref c), some (.int (nI la)), some (.int (nI lt)), some (.int (nI J)), some (.ref wa), some (.int (nI k)), some (.ref x), some (.int (nI mo)), some (.int (nI to)), some (.int (nI to))] [] h1 P)) : ∀ (n i : Nat) (h9 : AH) (bs : List Nat) (bf : Nat → Int32), to ≤ i + n → i ≤ to → KpD hb h9 → At h9 x (.inr (12, [.int (nI se), .int (nI wy), .ref be])) → At h9 be (.inl (0, la, .inl bf)) → (∀ q, q < la → bf q = nI (bs.getD q 0)) → bs.length = i → (∀ q ∈ bs, q ≤ 200) → Dw h0 h9 di b (T ++ bpX bs) (ck + 2 * i) (sk + 5204 * i) → RQ G mL_drawn d 317 [some (.ref di), some (.ref b), some (.ref c), some (.int (nI la)), some (.int (nI lt)), some (.int (nI J)), some (.ref wa), some (.int (nI k)), some (.ref x), some (.int (nI mo)), some (.int (nI to)), some (.int (nI i))] [] h9 P := by
  have ex : ∀ (i : Nat) (h9 : AH) (bs : List Nat) (bf : Nat → Int32), i = to → KpD hb h9 → At h9 x (.inr (12, [.int (nI se), .int (nI wy), .ref be])) → At h9 be (.inl (0, la, .inl bf)) → (∀ q, q < la → bf q = nI (bs.getD q 0)) → bs.length = i → (∀ q ∈ bs, q ≤ 200) → Dw h0 h9 di b (T ++ bpX bs) (ck + 2 * i) (sk + 5204 * i) → RQ G mL_drawn d 317 [some (.ref di), some (.ref b), some (.ref c), some (.int (nI la)), some (.int (nI lt)), some (.int (nI J)), some (.ref wa), some (.int (nI k)), some (.ref x), some (.int (nI mo)), some (.int (nI to)), some (.int (nI i))] [] h9 P := by
    intro i h9 bs bf hi k9 a1 a2 hbf hl b2 w
    subst hi
    refine tL_drawn_317  (r := ?_)
    refine tL_drawn_319  (r := ?_)
    refine tL_drawn_321  (kf := fun c_ => by exfalso; (simp (disch := first | omega | decide) only [ci_lt, ci_le, ci_eq, ci_lt0, ci_ge0, ci_gt0, ci_le0, ci_eq0, ci_m1_lt, ci_m1_le, ci_lt_m1, ci_le_m1, ci_eq_m1, ci_m1_eq, not_true, not_false_iff, Nat.not_lt, Nat.not_le] at c_ <;> omega)) (kt := fun _ => ?_)
    exact r h9 bs bf k9 a1 a2 hbf hl b2 w
  intro n
  induction n with
  | zero => exact fun i h9 bs bf h1_ h2_ => ex i h9 bs bf (by omega)
  | succ n ih =>
    intro i h9 bs bf h1_ h2_ k9 a1 a2 hbf hl b2 w
    by_cases hie : i = to
    · exact ex i h9 bs bf hie k9 a1 a2 hbf hl b2 w
    have hi2 : i < to := by omega
    refine tL_drawn_317  (r := ?_)
    refine tL_drawn_319  (r := ?_)
    refine tL_drawn_321  (kt := fun c_ => by exfalso; (simp (disch := first | omega | decide) only [ci_lt, ci_le, ci_eq, ci_lt0, ci_ge0, ci_gt0, ci_le0, ci_eq0, ci_m1_lt, ci_m1_le, ci_lt_m1, ci_le_m1, ci_eq_m1, ci_m1_eq, not_true, not_false_iff, Nat.not_lt, Nat.not_le] at c_ <;> omega)) (kf := fun _ => ?_)
    refine tL_drawn_324  (r := ?_)
    refine tL_drawn_326 (ha := a1) (hv := rfl) (r := ?_)
    refine tL_drawn_329  (r := ?_)
    refine tL_drawn_331  (r := ?_)
    refine tL_drawn_332  (r := ?_)
    refine tL_drawn_333 (hd := (by omega)) (ha := w.dc.choose_spec) (call := s_dNext (d := d - 1) (by omega) w (n := 4) (by omega) (by omega)) (k := ?_)
    rintro r_ H1 ⟨⟨z1, hz1, e_⟩, W1, K1, g1⟩
    rw [e_]
    clear e_
    refine tL_drawn_336  (kt := fun c_336 => ?_) (kf := fun c_336 => ?_)
    · have ze : z1 = z1 := rfl
      refine tL_drawn_343  (r := ?_)
      refine tL_drawn_344  (r := ?_)
      refine tL_drawn_346 (hd := (by omega)) (ha := W1.dc.choose_spec) (call := s_dNext (d := d - 1) (by omega) W1 (n := mo) (by omega) (by omega)) (k := ?_)
      rintro r_ H2 ⟨⟨z2, hz2, e_⟩, W2, K2, g2⟩
      rw [e_]
      clear e_
      refine s_drJ5 (h9 := H2) hd l6 (by omega) (by omega) tl gb g0 (k9.trans (K1.trans K2)) (K2.at (K1.at a1 (nd_r ⟨by decide, by decide⟩)) (nd_r ⟨by decide, by decide⟩)) (K2.at (K1.at a2 (nd_a (by decide))) (nd_a (by decide))) hbf hl W2 (fun h1 bf1 p1 p2 p3 p4 p5 => ih (i + 1) h1 (bs ++ [z2]) bf1 (by omega) (by omega) p1 p2 p3 p4 (by rw [List.length_append, hl]; rfl) (fun q hq => ?_) p5)
      rcases List.mem_append.mp hq with y | y
      · exact b2 q y
      · rw [List.mem_singleton.mp y]
        omega
    · refine tL_drawn_339  (r := ?_)
      refine tL_drawn_340 (r := ?_)
      refine s_drJ5 (v := 0) (h9 := H1) hd l6 (by omega) (by decide) tl gb g0 (k9.trans K1) (K1.at a1 (nd_r ⟨by decide, by decide⟩)) (K1.at a2 (nd_a (by decide))) hbf hl W1 (fun h1 bf1 p1 p2 p3 p4 p5 => ih (i + 1) h1 (bs ++ [0]) bf1 (by omega) (by omega) p1 p2 p3 p4 (by rw [List.length_append, hl]; rfl) (fun q hq => ?_) p5)
      rcases List.mem_append.mp hq with y | y
      · exact b2 q y
      · rw [List.mem_singleton.mp y]
        exact Nat.zero_le _
end D2
