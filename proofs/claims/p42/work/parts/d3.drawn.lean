/-! drawing a cupboard: all its jars -/
section D3
variable {G : GT} {d di b ck sk c fo ja la J wa : Nat} {h0 h hb : AH} {t : List Nat} {js : List EJa}
/-- the names of the ways -/
def WaR (h : AH) (wa : Nat) : Prop := ∃ wf : Nat → Option Nat, At h wa (.inl (9, 3, .inr (.inr (.inr (.inr wf))))) ∧ ∀ q, q < 3 → wf q = some (OLD + (100 + (44 + q)))
theorem WaR.kd {h1 : AH} (q : WaR h wa) (k : KpD h h1) : WaR h1 wa := q.imp (fun _ w => ⟨k.at w.1 (nd_a (by decide)), w.2⟩)
theorem tl_way {wy : Nat} (h : wy < 3) : tln (44 + wy) ≤ 6 := by
  rcases (by omega : wy = 0 ∨ wy = 1 ∨ wy = 2) with rfl | rfl | rfl <;> decide +kernel

set_option maxHeartbeats 4000000 in
theorem s_drJ3 (hd : 9 ≤ d) (l6 : la ≤ 6) (J4 : J ≤ 4) {x be se wy lt k mo : Nat} (mo1 : 0 < mo) (mo2 : mo ≤ 201) (se1 : 1 ≤ se ∧ se ≤ 9) (wy3 : wy < 3) (gx : hb.1 ≤ x) (gb : hb.1 ≤ be) (g0 : h0.1 ≤ hb.1) (gj : h0.1 ≤ ja) (q : JsA hb c fo ja la J js) (qw : WaR hb wa) (hk : js.length = k) (kJ : k < J) (lt2 : lt < la) (g216 : 216 ≤ hb.1) (okj : ∀ y ∈ js, okJ (la - lt) y) {x10 x11 : Option Value} {h9 : AH} (k9 : KpD hb h9) (a1 : At h9 x (.inr (12, [.int (nI se), .int (nI wy), .ref be]))) (a2 : At h9 be (.inl (0, la, .inl (fun _ => 0)))) (w : Dw h0 h9 di b (lbsX true 0 (la - lt) ++ jsX 0 js) ck sk) {P : OC → AH → Prop} (r : ∀ (h1 : AH) (bs : List Nat) (x8 x9 x10 x11 : Option Value), okJ (la - lt) (se, wy, bs) → JsA h1 c fo ja la J (js ++ [(se, wy, bs)]) → WaR h1 wa → Dw h0 h1 di b (lbsX true 0 (la - lt) ++ jsX 0 (js ++ [(se, wy, bs)])) (ck + 60) (sk + 70000) → RQ G mL_drawn d 160 [some (.ref di), some (.ref b), some (.ref c), some (.int (nI la)), some (.int (nI lt)), some (.int (nI J)), some (.ref wa), some (.int (nI (k + 1))), x8, x9, x10, x11] [] h1 P) : RQ G mL_drawn d 253 [some (.ref di), some (.ref b), some (.ref c), some (.int (nI la)), some (.int (nI lt)), some (.int (nI J)), some (.ref wa), some (.int (nI k)), some (.ref x), some (.int (nI mo)), x10, x11] [] h9 P := by
  have ll := (lbK_le true (la - lt) 0).2
  have jl := (jsK_le (by omega) js 0 okj).2
  have nl := nam_len k
  have dl := dgs_le se
  have wl := tl_way wy3
  obtain ⟨wf, qw1, qw2⟩ := id qw
  refine tL_drawn_253  (r := ?_)
  refine tL_drawn_254  (r := ?_)
  refine tL_drawn_256 (hd := (by omega)) (ha := w.at.choose_spec) (call := s_dApp (d := d - 1) (by omega) w (StR.old (i := 47) (by decide)) (by (simp only [List.length_append, List.length_nil, List.length_cons, txt_len, nam_len, tL40, tL41, tL42, tL43, tL44, tL45, tL46, tL47, tL48, tL49, tL50, tL51, tL52, tL53, tL54, tL55, tL56, tL57, tL58, tL59, tL60, tL61, tL62, tL63, tL64, tL65, tL66, tL67, tL68, tL69, tL70, tL71, tL72, tL73, tL74, tL75, tL76, tL77, tL78, tL79, tL80, tL81, tL82, tL83, tL84, tL85, tL86, tL87]; omega))) (k := ?_)
  rintro r_ H1 ⟨e_, W1, K1⟩
  rw [e_]
  clear e_
  refine tL_drawn_259  (r := ?_)
  refine tL_drawn_261 (hd := (by omega)) (call := s_dName (d := d - 1) (by omega) W1 (k := k) (by omega)) (k := ?_)
  rintro r_ H2 ⟨y2, W2, K2⟩
  refine tL_drawn_264 (hd := (by omega)) (ha := W2.at.choose_spec) (call := s_dApp (d := d - 1) (by omega) W2 y2 (by (simp only [List.length_append, List.length_nil, List.length_cons, txt_len, nam_len, tL40, tL41, tL42, tL43, tL44, tL45, tL46, tL47, tL48, tL49, tL50, tL51, tL52, tL53, tL54, tL55, tL56, tL57, tL58, tL59, tL60, tL61, tL62, tL63, tL64, tL65, tL66, tL67, tL68, tL69, tL70, tL71, tL72, tL73, tL74, tL75, tL76, tL77, tL78, tL79, tL80, tL81, tL82, tL83, tL84, tL85, tL86, tL87]; omega))) (k := ?_)
  rintro r_ H3 ⟨e_, W3, K3⟩
  rw [e_]
  clear e_
  refine tL_drawn_267  (r := ?_)
  refine tL_drawn_269 (hd := (by omega)) (ha := W3.at.choose_spec) (call := s_dApp (d := d - 1) (by omega) W3 (StR.old (i := 48) (by decide)) (by (simp only [List.length_append, List.length_nil, List.length_cons, txt_len, nam_len, tL40, tL41, tL42, tL43, tL44, tL45, tL46, tL47, tL48, tL49, tL50, tL51, tL52, tL53, tL54, tL55, tL56, tL57, tL58, tL59, tL60, tL61, tL62, tL63, tL64, tL65, tL66, tL67, tL68, tL69, tL70, tL71, tL72, tL73, tL74, tL75, tL76, tL77, tL78, tL79, tL80, tL81, tL82, tL83, tL84, tL85, tL86, tL87]; omega))) (k := ?_)
  rintro r_ H4 ⟨e_, W4, K4⟩
  rw [e_]
  clear e_
  refine tL_drawn_272  (r := ?_)
  refine tL_drawn_274 (ha := ((((K1.trans K2).trans K3).trans K4).at a1 (nd_r ⟨by decide, by decide⟩))) (hv := rfl) (r := ?_)
  refine tL_drawn_277 (hd := (by omega)) (ha := W4.at.choose_spec) (call := s_dAppI (d := d - 1) (by omega) W4 (n := se) (by omega) (by (simp only [List.length_append, List.length_nil, List.length_cons, txt_len, nam_len, tL40, tL41, tL42, tL43, tL44, tL45, tL46, tL47, tL48, tL49, tL50, tL51, tL52, tL53, tL54, tL55, tL56, tL57, tL58, tL59, tL60, tL61, tL62, tL63, tL64, tL65, tL66, tL67, tL68, tL69, tL70, tL71, tL72, tL73, tL74, tL75, tL76, tL77, tL78, tL79, tL80, tL81, tL82, tL83, tL84, tL85, tL86, tL87]; omega))) (k := ?_)
  rintro r_ H5 ⟨e_, W5, K5⟩
  rw [e_]
  clear e_
  refine tL_drawn_280  (r := ?_)
  refine tL_drawn_282 (hd := (by omega)) (ha := W5.at.choose_spec) (call := s_dApp (d := d - 1) (by omega) W5 (StR.old (i := 49) (by decide)) (by (simp only [List.length_append, List.length_nil, List.length_cons, txt_len, nam_len, tL40, tL41, tL42, tL43, tL44, tL45, tL46, tL47, tL48, tL49, tL50, tL51, tL52, tL53, tL54, tL55, tL56, tL57, tL58, tL59, tL60, tL61, tL62, tL63, tL64, tL65, tL66, tL67, tL68, tL69, tL70, tL71, tL72, tL73, tL74, tL75, tL76, tL77, tL78, tL79, tL80, tL81, tL82, tL83, tL84, tL85, tL86, tL87]; omega))) (k := ?_)
  rintro r_ H6 ⟨e_, W6, K6⟩
  rw [e_]
  clear e_
  refine tL_drawn_285  (r := ?_)
  refine tL_drawn_287  (r := ?_)
  refine tL_drawn_289 (ha := ((((((K1.trans K2).trans K3).trans K4).trans K5).trans K6).at a1 (nd_r ⟨by decide, by decide⟩))) (hv := rfl) (r := ?_)
  refine tL_drawn_292 (t := 9) (ha := (((((((K1.trans K2).trans K3).trans K4).trans K5).trans K6)).at (k9.at qw1 (nd_a (by decide))) (nd_a (by decide)))) (ht := rfl) (hx := rfl) (hj := wy3) (hn := (by omega)) (hf := (qw2 wy wy3)) (r := ?_)
  refine tL_drawn_293 (hd := (by omega)) (ha := W6.at.choose_spec) (call := s_dApp (d := d - 1) (by omega) W6 (StR.old (i := 44 + wy) (by omega)) (by (simp only [List.length_append, List.length_nil, List.length_cons, txt_len, nam_len, tL40, tL41, tL42, tL43, tL44, tL45, tL46, tL47, tL48, tL49, tL50, tL51, tL52, tL53, tL54, tL55, tL56, tL57, tL58, tL59, tL60, tL61, tL62, tL63, tL64, tL65, tL66, tL67, tL68, tL69, tL70, tL71, tL72, tL73, tL74, tL75, tL76, tL77, tL78, tL79, tL80, tL81, tL82, tL83, tL84, tL85, tL86, tL87]; omega))) (k := ?_)
  rintro r_ H7 ⟨e_, W7, K7⟩
  rw [e_]
  clear e_
  refine tL_drawn_296  (r := ?_)
  refine tL_drawn_298 (hd := (by omega)) (ha := W7.at.choose_spec) (call := s_dApp (d := d - 1) (by omega) W7 (StR.old (i := 50) (by decide)) (by (simp only [List.length_append, List.length_nil, List.length_cons, txt_len, nam_len, tL40, tL41, tL42, tL43, tL44, tL45, tL46, tL47, tL48, tL49, tL50, tL51, tL52, tL53, tL54, tL55, tL56, tL57, tL58, tL59, tL60, tL61, tL62, tL63, tL64, tL65, tL66, tL67, tL68, tL69, tL70, tL71, tL72, tL73, tL74, tL75, tL76, tL77, tL78, tL79, tL80, tL81, tL82, tL83, tL84, tL85, tL86, tL87]; omega))) (k := ?_)
  rintro r_ H8 ⟨e_, W8, K8⟩
  rw [e_]
  clear e_
  refine tL_drawn_301  (r := ?_)
  refine tL_drawn_302  (r := ?_)
  refine tL_drawn_303  (r := ?_)
  refine tL_drawn_304  (r := ?_)
  refine tL_drawn_305  (r := ?_)
  refine tL_drawn_307  (r := ?_)
  rw [pk_sub (show lt ≤ la by omega)]
  refine tL_drawn_308 (hd := (by omega)) (ha := W8.dc.choose_spec) (call := s_dNext (d := d - 1) (by omega) W8 (n := la - lt) (by omega) (by omega)) (k := ?_)
  rintro r_ H9 ⟨⟨z1, hz1, e_⟩, W9, K9, g9⟩
  rw [e_]
  clear e_
  refine tL_drawn_311  (r := ?_)
  rw [nI_add]
  refine tL_drawn_312  (r := ?_)
  refine tL_drawn_314  (r := ?_)
  refine tL_drawn_315  (r := ?_)
  refine s_drJ4 (hb := hb) (T := lbsX true 0 (la - lt) ++ jsX 0 js ++ txt 47 ++ nam k ++ txt 48 ++ dgs se ++ txt 49 ++ txt (44 + wy) ++ txt 50) (ck := ck + 14) (sk := sk + 18414) hd l6 mo1 mo2 (by (simp only [List.length_append, List.length_nil, List.length_cons, txt_len, nam_len, tL40, tL41, tL42, tL43, tL44, tL45, tL46, tL47, tL48, tL49, tL50, tL51, tL52, tL53, tL54, tL55, tL56, tL57, tL58, tL59, tL60, tL61, tL62, tL63, tL64, tL65, tL66, tL67, tL68, tL69, tL70, tL71, tL72, tL73, tL74, tL75, tL76, tL77, tL78, tL79, tL80, tL81, tL82, tL83, tL84, tL85, tL86, tL87]; omega)) gb g0 (by omega) (fun h1 bs bf p1 p2 p3 p4 p5 p6 p7 => ?_) (1 + z1) 0 H9 [] (fun _ => 0) (by omega) (Nat.zero_le _) (k9.trans ((((((((K1.trans K2).trans K3).trans K4).trans K5).trans K6).trans K7).trans K8).trans K9)) (((((((((K1.trans K2).trans K3).trans K4).trans K5).trans K6).trans K7).trans K8).trans K9).at a1 (nd_r ⟨by decide, by decide⟩)) (((((((((K1.trans K2).trans K3).trans K4).trans K5).trans K6).trans K7).trans K8).trans K9).at a2 (nd_a (by decide))) (fun q hq => rfl) rfl (fun q hq => nomatch hq) ?_
  rotate_left
  · have e0 : lbsX true 0 (la - lt) ++ jsX 0 js ++ txt 47 ++ nam k ++ txt 48 ++ dgs se ++ txt 49 ++ txt (44 + wy) ++ txt 50 ++ bpX [] = lbsX true 0 (la - lt) ++ jsX 0 js ++ txt 47 ++ nam k ++ txt 48 ++ dgs se ++ txt 49 ++ txt (44 + wy) ++ txt 50 := List.append_nil _
    rw [e0]
    exact W9.sub (by omega) (by omega)
  have bl := bpX_le bs
  refine tL_drawn_384  (r := ?_)
  refine tL_drawn_385  (r := ?_)
  refine tL_drawn_387 (hd := (by omega)) (ha := p7.at.choose_spec) (call := s_dApp (d := d - 1) (by omega) p7 (StR.old (i := 42) (by decide)) (by (simp only [List.length_append, List.length_nil, List.length_cons, txt_len, nam_len, tL40, tL41, tL42, tL43, tL44, tL45, tL46, tL47, tL48, tL49, tL50, tL51, tL52, tL53, tL54, tL55, tL56, tL57, tL58, tL59, tL60, tL61, tL62, tL63, tL64, tL65, tL66, tL67, tL68, tL69, tL70, tL71, tL72, tL73, tL74, tL75, tL76, tL77, tL78, tL79, tL80, tL81, tL82, tL83, tL84, tL85, tL86, tL87]; omega))) (k := ?_)
  rintro r_ Hb1 ⟨e_, Wb1, Kb1⟩
  rw [e_]
  clear e_
  have k2 : KpD hb Hb1 := p1.trans Kb1
  have x2 := Kb1.at p2 (nd_r ⟨by decide, by decide⟩)
  have e2 := Kb1.at p3 (nd_a (by decide))
  obtain ⟨v3, cc⟩ := (q.kd k2).cc
  obtain ⟨xa, xb⟩ : 216 ≤ x ∧ 216 ≤ be := ⟨by omega, by omega⟩
  obtain ⟨jf, aj, ja6, jadd⟩ := q.add k2 (by omega) g216 gx gb ⟨xa, xb, x2, bf, e2, p4⟩
  refine tL_drawn_390  (r := ?_)
  refine tL_drawn_391  (r := ?_)
  refine tL_drawn_392 (ha := cc) (hv := rfl) (r := ?_)
  refine tL_drawn_395  (r := ?_)
  refine tL_drawn_397  (r := ?_)
  refine tL_drawn_399 (t := 5) (ci := 12) (hc := rfl) (ht := rfl) (ha := aj) (hb := x2) (hx := rfl) (hj := kJ) (hn := (by omega)) (r := ?_)
  refine tL_drawn_400  (r := ?_)
  rw [nI_add]
  refine tL_drawn_403 (r := ?_)
  rw [hk] at jadd
  refine r _ bs _ _ _ _ ⟨⟨se1.1, se1.2⟩, wy3, ⟨by show 1 ≤ bs.length; omega, by show bs.length ≤ _; omega⟩, p6⟩ jadd ?_ ?_
  · obtain ⟨wf, w1, w2⟩ := qw.kd k2
    exact ⟨wf, At.set_ne w1 (w1.ne aj (by simp)), w2⟩
  · have w9 := Wb1.set (c := .inl (5, J, .inr (.inr (.inr (.inr (va_up jf k (some x))))))) aj (nd_a (by decide)) gj
    have et : lbsX true 0 (la - lt) ++ jsX 0 (js ++ [(se, wy, bs)]) = lbsX true 0 (la - lt) ++ jsX 0 js ++ txt 47 ++ nam k ++ txt 48 ++ dgs se ++ txt 49 ++ txt (44 + wy) ++ txt 50 ++ bpX bs ++ txt 42 := by
      rw [jsX_app, Nat.zero_add, hk]
      unfold jaX
      match bs, p5 with
      | [], p5 =>
        have p5 : 0 = 1 + z1 := p5
        omega
      | v :: s, _ =>
        show _ ++ (_ ++ (txt 47 ++ (nam k ++ (txt 48 ++ (dgs se ++ (txt 49 ++ (txt (44 + wy) ++ (txt 50 ++ (dgs v ++ (beX s ++ txt 42))))))))) ) = _
        show _ = _ ++ (dgs v ++ beX s) ++ txt 42
        simp only [List.append_assoc]
    rw [et]
    exact w9.sub (by omega) (by omega)
set_option maxHeartbeats 4000000 in
theorem s_drJ2 (hd : 9 ≤ d) (l6 : la ≤ 6) (J4 : J ≤ 4) {x be se wy lt k mo : Nat} (mo1 : 0 < mo) (mo2 : mo ≤ 201) (se1 : 1 ≤ se ∧ se ≤ 9) (wy3 : wy < 3) (gx : hb.1 ≤ x) (gb : hb.1 ≤ be) (g0 : h0.1 ≤ hb.1) (gj : h0.1 ≤ ja) (q : JsA hb c fo ja la J js) (qw : WaR hb wa) (hk : js.length = k) (kJ : k < J) (l1 : 0 < la) (lt2 : lt ≤ la) (lz : lt = la → js = []) (g216 : 216 ≤ hb.1) (okj : ∀ y ∈ js, okJ (la - lt) y) {x10 x11 : Option Value} {h9 : AH} (k9 : KpD hb h9) (a1 : At h9 x (.inr (12, [.int (nI se), .int (nI wy), .ref be]))) (a2 : At h9 be (.inl (0, la, .inl (fun _ => 0)))) (w : Dw h0 h9 di b (lbsX true 0 (la - lt) ++ jsX 0 js) ck sk) {P : OC → AH → Prop} (r : ∀ (h1 : AH) (lt : Nat) (bs : List Nat) (x8 x9 x10 x11 : Option Value), lt < la → okJ (la - lt) (se, wy, bs) → JsA h1 c fo ja la J (js ++ [(se, wy, bs)]) → WaR h1 wa → Dw h0 h1 di b (lbsX true 0 (la - lt) ++ jsX 0 (js ++ [(se, wy, bs)])) (ck + 80) (sk + 80000) → (∀ y ∈ js, okJ (la - lt) y) → RQ G mL_drawn d 160 [some (.ref di), some (.ref b), some (.ref c), some (.int (nI la)), some (.int (nI lt)), some (.int (nI J)), some (.ref wa), some (.int (nI (k + 1))), x8, x9, x10, x11] [] h1 P) : RQ G mL_drawn d 225 [some (.ref di), some (.ref b), some (.ref c), some (.int (nI la)), some (.int (nI lt)), some (.int (nI J)), some (.ref wa), some (.int (nI k)), some (.ref x), some (.int (nI mo)), x10, x11] [] h9 P := by
  have ll := (lbK_le true (la - lt) 0).2
  by_cases hz : lt = la
  · have ej := lz hz
    subst ej
    have jl0 : (jsX 0 []).length = 0 := rfl
    refine tL_drawn_225  (r := ?_)
    refine tL_drawn_226  (r := ?_)
    refine tL_drawn_228  (kt := fun c_ => by exfalso; exact c_ (by rw [hz])) (kf := fun _ => ?_)
    refine tL_drawn_231  (r := ?_)
    refine tL_drawn_232  (r := ?_)
    refine tL_drawn_234 (hd := (by omega)) (ha := w.at.choose_spec) (call := s_dApp (d := d - 1) (by omega) w (StR.old (i := 41) (by decide)) (by (simp only [List.length_append, List.length_nil, List.length_cons, txt_len, nam_len, tL40, tL41, tL42, tL43, tL44, tL45, tL46, tL47, tL48, tL49, tL50, tL51, tL52, tL53, tL54, tL55, tL56, tL57, tL58, tL59, tL60, tL61, tL62, tL63, tL64, tL65, tL66, tL67, tL68, tL69, tL70, tL71, tL72, tL73, tL74, tL75, tL76, tL77, tL78, tL79, tL80, tL81, tL82, tL83, tL84, tL85, tL86, tL87]; omega))) (k := ?_)
    rintro r_ H1 ⟨e_, W1, K1⟩
    rw [e_]
    clear e_
    refine tL_drawn_237  (r := ?_)
    refine tL_drawn_238 (hd := (by omega)) (call := s_dName (d := d - 1) (by omega) W1 (k := 0) (by decide)) (k := ?_)
    rintro r_ H2 ⟨y2, W2, K2⟩
    refine tL_drawn_241 (hd := (by omega)) (ha := W2.at.choose_spec) (call := s_dApp (d := d - 1) (by omega) W2 y2 (by (simp only [List.length_append, List.length_nil, List.length_cons, txt_len, nam_len, tL40, tL41, tL42, tL43, tL44, tL45, tL46, tL47, tL48, tL49, tL50, tL51, tL52, tL53, tL54, tL55, tL56, tL57, tL58, tL59, tL60, tL61, tL62, tL63, tL64, tL65, tL66, tL67, tL68, tL69, tL70, tL71, tL72, tL73, tL74, tL75, tL76, tL77, tL78, tL79, tL80, tL81, tL82, tL83, tL84, tL85, tL86, tL87]; omega))) (k := ?_)
    rintro r_ H3 ⟨e_, W3, K3⟩
    rw [e_]
    clear e_
    refine tL_drawn_244  (r := ?_)
    refine tL_drawn_246 (hd := (by omega)) (ha := W3.at.choose_spec) (call := s_dApp (d := d - 1) (by omega) W3 (StR.old (i := 42) (by decide)) (by (simp only [List.length_append, List.length_nil, List.length_cons, txt_len, nam_len, tL40, tL41, tL42, tL43, tL44, tL45, tL46, tL47, tL48, tL49, tL50, tL51, tL52, tL53, tL54, tL55, tL56, tL57, tL58, tL59, tL60, tL61, tL62, tL63, tL64, tL65, tL66, tL67, tL68, tL69, tL70, tL71, tL72, tL73, tL74, tL75, tL76, tL77, tL78, tL79, tL80, tL81, tL82, tL83, tL84, tL85, tL86, tL87]; omega))) (k := ?_)
    rintro r_ H4 ⟨e_, W4, K4⟩
    rw [e_]
    clear e_
    refine tL_drawn_249  (r := ?_)
    refine tL_drawn_250  (r := ?_)
    rw [show nI lt + (-1) = nI (la - 1) by rw [hz]; exact nI_dc1 (by omega)]
    refine s_drJ3 (lt := la - 1) (js := []) (ck := ck + 10) (sk := sk + 8006) hd l6 J4 mo1 mo2 se1 wy3 gx gb g0 gj q qw hk kJ (by omega) g216 (fun y hy => nomatch hy) (k9.trans (((K1.trans K2).trans K3).trans K4)) ((((K1.trans K2).trans K3).trans K4).at a1 (nd_r ⟨by decide, by decide⟩)) ((((K1.trans K2).trans K3).trans K4).at a2 (nd_a (by decide))) ?_ (fun h1 bs x8 x9 x10 x11 p1 p2 p3 p4 => r h1 (la - 1) bs x8 x9 x10 x11 (by omega) p1 p2 p3 (p4.sub (by omega) (by omega)) (fun y hy => nomatch hy))
    have et : lbsX true 0 (la - (la - 1)) ++ jsX 0 [] = lbsX true 0 (la - lt) ++ jsX 0 [] ++ txt 41 ++ nam 0 ++ txt 42 := by
      rw [show la - (la - 1) = 1 by omega, show la - lt = 0 by omega]
      show (lbX true 0 ++ []) ++ [] = ([] ++ []) ++ txt 41 ++ nam 0 ++ txt 42
      unfold lbX
      rw [if_neg (fun z => by have := z.2; omega)]
      simp only [List.append_assoc, List.nil_append, List.append_nil]
    rw [et]
    exact W4.sub (by omega) (by omega)
  · skip
    refine tL_drawn_225  (r := ?_)
    refine tL_drawn_226  (r := ?_)
    refine tL_drawn_228  (kf := fun c_ => by exfalso; exact hz ((nI_eq (by omega) (by omega)).mp c_).symm) (kt := fun _ => ?_)
    exact s_drJ3 hd l6 J4 mo1 mo2 se1 wy3 gx gb g0 gj q qw hk kJ (by omega) g216 okj k9 a1 a2 w (fun h1 bs x8 x9 x10 x11 p1 p2 p3 p4 => r h1 lt bs x8 x9 x10 x11 (by omega) p1 p2 p3 (p4.sub (by omega) (by omega)) okj)
set_option maxHeartbeats 4000000 in
theorem s_drJ (hd : 9 ≤ d) (l1 : 0 < la) (l6 : la ≤ 6) (J4 : J ≤ 4) (gj : h0.1 ≤ ja) {P : OC → AH → Prop} (r : (∀ (h1 : AH) (lt : Nat) (js : List EJa) (x8 x9 x10 x11 : Option Value), js.length = J → JsA h1 c fo ja la J js → WaR h1 wa → Dw h0 h1 di b (lbsX true 0 (la - lt) ++ jsX 0 js) (ck + 100 * J) (sk + 90000 * J) → lt ≤ la → (lt = la → js = []) → (∀ y ∈ js, okJ (la - lt) y) → RQ G mL_drawn d 406 [some (.ref di), some (.ref b), some (.ref c), some (.int (nI la)), some (.int (nI lt)), some (.int (nI J)), some (.ref wa), some (.int (nI J)), x8, x9, x10, x11] [] h1 P)) : ∀ (n k : Nat) (h9 : AH) (lt : Nat) (js : List EJa) (x8 x9 x10 x11 : Option Value), J ≤ k + n → k ≤ J → js.length = k → JsA h9 c fo ja la J js → WaR h9 wa → Dw h0 h9 di b (lbsX true 0 (la - lt) ++ jsX 0 js) (ck + 100 * k) (sk + 90000 * k) → lt ≤ la → (lt = la → js = []) → (∀ y ∈ js, okJ (la - lt) y) → RQ G mL_drawn d 160 [some (.ref di), some (.ref b), some (.ref c), some (.int (nI la)), some (.int (nI lt)), some (.int (nI J)), some (.ref wa), some (.int (nI k)), x8, x9, x10, x11] [] h9 P := by
  have ex : ∀ (k : Nat) (h9 : AH) (lt : Nat) (js : List EJa) (x8 x9 x10 x11 : Option Value), k = J → js.length = k → JsA h9 c fo ja la J js → WaR h9 wa → Dw h0 h9 di b (lbsX true 0 (la - lt) ++ jsX 0 js) (ck + 100 * k) (sk + 90000 * k) → lt ≤ la → (lt = la → js = []) → (∀ y ∈ js, okJ (la - lt) y) → RQ G mL_drawn d 160 [some (.ref di), some (.ref b), some (.ref c), some (.int (nI la)), some (.int (nI lt)), some (.int (nI J)), some (.ref wa), some (.int (nI k)), x8, x9, x10, x11] [] h9 P := by
    intro k h9 lt js x8 x9 x10 x11 hi hl q qw w ll lz okj
    subst hi
    refine tL_drawn_160  (r := ?_)
    refine tL_drawn_162  (r := ?_)
    refine tL_drawn_164  (kf := fun c_ => by exfalso; (simp (disch := first | omega | decide) only [ci_lt, ci_le, ci_eq, ci_lt0, ci_ge0, ci_gt0, ci_le0, ci_eq0, ci_m1_lt, ci_m1_le, ci_lt_m1, ci_le_m1, ci_eq_m1, ci_m1_eq, not_true, not_false_iff, Nat.not_lt, Nat.not_le] at c_ <;> omega)) (kt := fun _ => ?_)
    exact r h9 lt js x8 x9 x10 x11 hl q qw w ll lz okj
  intro n
  induction n with
  | zero => exact fun k h9 lt js x8 x9 x10 x11 h1_ h2_ => ex k h9 lt js x8 x9 x10 x11 (by omega)
  | succ n ih =>
    intro k h9 lt js x8 x9 x10 x11 h1_ h2_ hl q qw w ll lz okj
    by_cases hie : k = J
    · exact ex k h9 lt js x8 x9 x10 x11 hie hl q qw w ll lz okj
    have hi2 : k < J := by omega
    have gh := w.ge
    have g6 := w.g216
    refine tL_drawn_160  (r := ?_)
    refine tL_drawn_162  (r := ?_)
    refine tL_drawn_164  (kt := fun c_ => by exfalso; (simp (disch := first | omega | decide) only [ci_lt, ci_le, ci_eq, ci_lt0, ci_ge0, ci_gt0, ci_le0, ci_eq0, ci_m1_lt, ci_m1_le, ci_lt_m1, ci_le_m1, ci_eq_m1, ci_m1_eq, not_true, not_false_iff, Nat.not_lt, Nat.not_le] at c_ <;> omega)) (kf := fun _ => ?_)
    refine tL_drawn_167  (r := ?_)
    have K0 : KpD h9 (hnew h9 3 (.inr (12, [.int 0, .int 0, .null]))) := KpD.new
    have w0 := w.new (n := 3) (c := .inr (12, [.int 0, .int 0, .null]))
    have b0 := At.new_eq h9 3 (.inr (12, [.int 0, .int 0, .null]))
    generalize hnew h9 3 (.inr (12, [.int 0, .int 0, .null])) = hA at K0 w0 b0 ⊢
    refine tL_drawn_170  (r := ?_)
    refine tL_drawn_171 (hd := (by omega)) (call := s_jInit (d := d - 1) (by omega)) (k := ?_)
    rintro h_ e9
    rw [e9]
    refine tL_drawn_174  (r := ?_)
    refine tL_drawn_176  (r := ?_)
    refine tL_drawn_178  (r := ?_)
    refine tL_drawn_179  (r := ?_)
    refine tL_drawn_180  (r := ?_)
    refine tL_drawn_182 (hd := (by omega)) (ha := w0.dc.choose_spec) (call := s_dNext (d := d - 1) (by omega) w0 (n := 9) (by omega) (by omega)) (k := ?_)
    rintro r_ H1 ⟨⟨z1, hz1, e_⟩, W1, K1, g1⟩
    rw [e_]
    clear e_
    refine tL_drawn_185  (r := ?_)
    rw [nI_add]
    refine tL_drawn_186 (ha := (K1.at b0 (nd_r ⟨by decide, by decide⟩))) (hlen := rfl) (r := ?_)
    have b1 := K1.at b0 (nd_r ⟨by decide, by decide⟩)
    have K1b : KpD h9 (hset H1 h9.1 (.inr (12, [.int (nI (1 + z1)), .int 0, .null]))) := (K0.trans K1).set (Nat.le_refl _)
    have W1b := W1.set (c := .inr (12, [.int (nI (1 + z1)), .int 0, .null])) b1 (nd_r ⟨by decide, by decide⟩) gh
    have b2 : At (hset H1 h9.1 (.inr (12, [.int (nI (1 + z1)), .int 0, .null]))) h9.1 (.inr (12, [.int (nI (1 + z1)), .int 0, .null])) := At.set_eq2 b1.1
    show RQ G mL_drawn d 189 _ _ (hset H1 h9.1 (.inr (12, [.int (nI (1 + z1)), .int 0, .null]))) P
    revert K1b W1b b2
    generalize hset H1 h9.1 (.inr (12, [.int (nI (1 + z1)), .int 0, .null])) = hB
    intro K1b W1b b2
    refine tL_drawn_189  (r := ?_)
    refine tL_drawn_191  (r := ?_)
    refine tL_drawn_192  (r := ?_)
    refine tL_drawn_193 (hd := (by omega)) (ha := W1b.dc.choose_spec) (call := s_dNext (d := d - 1) (by omega) W1b (n := 3) (by omega) (by omega)) (k := ?_)
    rintro r_ H2 ⟨⟨z2, hz2, e_⟩, W2, K2, g2⟩
    rw [e_]
    clear e_
    refine tL_drawn_196 (ha := (K2.at b2 (nd_r ⟨by decide, by decide⟩))) (hlen := rfl) (r := ?_)
    have b3 := K2.at b2 (nd_r ⟨by decide, by decide⟩)
    have K2b : KpD h9 (hset H2 h9.1 (.inr (12, [.int (nI (1 + z1)), .int (nI z2), .null]))) := (K1b.trans K2).set (Nat.le_refl _)
    have W2b := W2.set (c := .inr (12, [.int (nI (1 + z1)), .int (nI z2), .null])) b3 (nd_r ⟨by decide, by decide⟩) gh
    have b4 : At (hset H2 h9.1 (.inr (12, [.int (nI (1 + z1)), .int (nI z2), .null]))) h9.1 (.inr (12, [.int (nI (1 + z1)), .int (nI z2), .null])) := At.set_eq2 b3.1
    show RQ G mL_drawn d 199 _ _ (hset H2 h9.1 (.inr (12, [.int (nI (1 + z1)), .int (nI z2), .null]))) P
    revert K2b W2b b4
    generalize hset H2 h9.1 (.inr (12, [.int (nI (1 + z1)), .int (nI z2), .null])) = hC
    intro K2b W2b b4
    refine tL_drawn_199  (r := ?_)
    refine tL_drawn_201  (r := ?_)
    refine tL_drawn_202 (hx := rfl) (hn := (by omega)) (r := ?_)
    refine tL_drawn_204 (ha := (At.new_ne b4)) (hlen := rfl) (r := ?_)
    have K3b : KpD h9 (hset (hnew hC la (.inl (0, la, .inl (fun _ => 0)))) h9.1 (.inr (12, [.int (nI (1 + z1)), .int (nI z2), .ref hC.1]))) := (K2b.trans KpD.new).set (Nat.le_refl _)
    have W3b := (W2b.new (n := la) (c := .inl (0, la, .inl (fun _ => 0)))).set (c := .inr (12, [.int (nI (1 + z1)), .int (nI z2), .ref hC.1])) (At.new_ne b4) (nd_r ⟨by decide, by decide⟩) gh
    have b5 : At (hset (hnew hC la (.inl (0, la, .inl (fun _ => 0)))) h9.1 (.inr (12, [.int (nI (1 + z1)), .int (nI z2), .ref hC.1]))) h9.1 (.inr (12, [.int (nI (1 + z1)), .int (nI z2), .ref hC.1])) := At.set_eq2 (At.new_ne b4).1
    have b6 : At (hset (hnew hC la (.inl (0, la, .inl (fun _ => 0)))) h9.1 (.inr (12, [.int (nI (1 + z1)), .int (nI z2), .ref hC.1]))) hC.1 (.inl (0, la, .inl (fun _ => 0))) := At.set_ne (At.new_eq hC la _) (Nat.ne_of_gt b4.1)
    have gC : h9.1 ≤ hC.1 := K2b.1
    show RQ G mL_drawn d 207 _ _ (hset (hnew hC la (.inl (0, la, .inl (fun _ => 0)))) h9.1 (.inr (12, [.int (nI (1 + z1)), .int (nI z2), .ref hC.1]))) P
    revert K3b W3b b5 b6
    generalize hset (hnew hC la (.inl (0, la, .inl (fun _ => 0)))) h9.1 (.inr (12, [.int (nI (1 + z1)), .int (nI z2), .ref hC.1])) = hD
    intro K3b W3b b5 b6
    refine tL_drawn_207  (r := ?_)
    refine tL_drawn_208  (r := ?_)
    refine tL_drawn_209 (hd := (by omega)) (ha := W3b.dc.choose_spec) (call := s_dNext (d := d - 1) (by omega) W3b (n := 3) (by omega) (by omega)) (k := ?_)
    rintro r_ H3 ⟨⟨z3, hz3, e_⟩, W3, K3, g3⟩
    rw [e_]
    clear e_
    refine tL_drawn_212  (kt := fun c_212 => ?_) (kf := fun c_212 => ?_)
    · refine tL_drawn_220  (r := ?_)
      refine tL_drawn_223  (r := ?_)
      refine s_drJ2 (hb := h9) (mo := 201) hd l6 J4 (by decide) (by decide) ⟨by omega, by omega⟩ (by omega) (Nat.le_refl _) gC (by omega) gj q qw hl (by omega) l1 ll lz (by omega) okj (K3b.trans K3) (K3.at b5 (nd_r ⟨by decide, by decide⟩)) (K3.at b6 (nd_a (by decide))) W3 (fun h1 lt1 bs x8 x9 x10 x11 p1 p2 p3 p4 p5 p6 => ih (k + 1) h1 lt1 (js ++ [(1 + z1, z2, bs)]) x8 x9 x10 x11 (by omega) (by omega) (by rw [List.length_append, hl]; rfl) p3 p4 (p5.sub (by omega) (by omega)) (by omega) (fun z => by omega) (fun y hy => ?_))
      rcases List.mem_append.mp hy with z | z
      · exact p6 y z
      · rw [List.mem_singleton.mp z]
        exact p2
    · refine tL_drawn_215  (r := ?_)
      refine tL_drawn_217 (r := ?_)
      refine tL_drawn_223  (r := ?_)
      refine s_drJ2 (hb := h9) (mo := 8) hd l6 J4 (by decide) (by decide) ⟨by omega, by omega⟩ (by omega) (Nat.le_refl _) gC (by omega) gj q qw hl (by omega) l1 ll lz (by omega) okj (K3b.trans K3) (K3.at b5 (nd_r ⟨by decide, by decide⟩)) (K3.at b6 (nd_a (by decide))) W3 (fun h1 lt1 bs x8 x9 x10 x11 p1 p2 p3 p4 p5 p6 => ih (k + 1) h1 lt1 (js ++ [(1 + z1, z2, bs)]) x8 x9 x10 x11 (by omega) (by omega) (by rw [List.length_append, hl]; rfl) p3 p4 (p5.sub (by omega) (by omega)) (by omega) (fun z => by omega) (fun y hy => ?_))
      rcases List.mem_append.mp hy with z | z
      · exact p6 y z
      · rw [List.mem_singleton.mp z]
        exact p2
end D3
