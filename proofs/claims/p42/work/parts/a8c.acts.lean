/-! the texts of acts and rules; acts and rules are drawn -/
section TA
variable {G : GT} {d la ja : Nat} {h : AH}

theorem s_tx_win (hd : 14 ≤ d) (l6 : la ≤ 6) {a w z : Nat} {e : EVa} (ok1 : okV la e) (hw : w < 20) (q0 : 216 ≤ a) (q2 : At h a (.inr (9, [.int (nI 0), .int (nI w), va_rf (some z)]))) (qz : VaR h z e) : RQ G mX11_text d 0 [some (.ref a)] [] h (Rr fun r h1 => StR h1 r (acX (0, w, e)) ∧ Ch h h1 0 0 100 2500) := by
  have len1 := vaX_len ok1
  refine tX11_text_0  (r := ?_)
  refine tX11_text_1 (ha := q2) (hv := rfl) (r := ?_)
  refine tX11_text_4  (kt := fun c_ => by exfalso; exact c_ rfl) (kf := fun _ => ?_)
  refine tX11_text_7  (r := ?_)
  refine tX11_text_10  (r := ?_)
  refine tX11_text_11 (hd := (by omega)) (call := s_bInit (d := 6) (h0 := h) (by decide)) (k := ?_)
  rintro w1 x1
  obtain ⟨_, ab1⟩ := x1.at
  have kp1 := x1.kp
  refine tX11_text_14  (r := ?_)
  
  refine tX11_text_16 (hd := (by omega)) (ha := (by first | assumption | (repeat (first | assumption | exact At.set_eq2 (by first | omega | (simp only [hset, hnew]; omega) | rfl | decide) | exact At.new_eq2 _ _ (by first | omega | (simp only [hset, hnew]; omega) | rfl | decide) | refine At.set_ne ?_ (by first | omega | (simp only [hset, hnew]; omega) | rfl | decide) | refine At.new_ne ?_)))) (call := s_bApp 60 (d := 6) (by decide) x1 (StR.old (i := 65) (by decide)) (by first | decide | (simp only [List.length_append, List.length_nil, List.length_cons, txt_len, nam_len, tL40, tL41, tL42, tL43, tL44, tL45, tL46, tL47, tL48, tL49, tL50, tL51, tL52, tL53, tL54, tL55, tL56, tL57, tL58, tL59, tL60, tL61, tL62, tL63, tL64, tL65, tL66, tL67, tL68, tL69, tL70, tL71, tL72, tL73, tL74, tL75, tL76, tL77, tL78, tL79, tL80, tL81, tL82, tL83, tL84, tL85, tL86, tL87]; omega)) (by decide)) (k := ?_)
  rintro r_ w2 ⟨e_, x2⟩
  rw [e_]
  clear e_
  obtain ⟨_, ab2⟩ := x2.at
  have kp2 := x2.kp
  refine tX11_text_19  (r := ?_)
  refine tX11_text_20 (ha := (kp2 _ _ q0 q2 (imm9 _))) (hv := rfl) (r := ?_)
  obtain ⟨_, aq_⟩ := (qz.kp kp2).at
  refine tX11_text_23 (hd := (by omega)) (ha := aq_) (call := s_tx_val (d := 10) (by decide) l6 ok1 (qz.kp kp2)) (k := ?_)
  rintro r3 w3 ⟨y3, c3⟩
  have x3 := x2.keep c3
  obtain ⟨_, ab3⟩ := x3.at
  have kp3 := x3.kp
  
  refine tX11_text_26 (hd := (by omega)) (ha := (by first | assumption | (repeat (first | assumption | exact At.set_eq2 (by first | omega | (simp only [hset, hnew]; omega) | rfl | decide) | exact At.new_eq2 _ _ (by first | omega | (simp only [hset, hnew]; omega) | rfl | decide) | refine At.set_ne ?_ (by first | omega | (simp only [hset, hnew]; omega) | rfl | decide) | refine At.new_ne ?_)))) (call := s_bApp 60 (d := 6) (by decide) x3 y3 (by first | decide | (simp only [List.length_append, List.length_nil, List.length_cons, txt_len, nam_len, tL40, tL41, tL42, tL43, tL44, tL45, tL46, tL47, tL48, tL49, tL50, tL51, tL52, tL53, tL54, tL55, tL56, tL57, tL58, tL59, tL60, tL61, tL62, tL63, tL64, tL65, tL66, tL67, tL68, tL69, tL70, tL71, tL72, tL73, tL74, tL75, tL76, tL77, tL78, tL79, tL80, tL81, tL82, tL83, tL84, tL85, tL86, tL87]; omega)) (by decide)) (k := ?_)
  rintro r_ w4 ⟨e_, x4⟩
  rw [e_]
  clear e_
  obtain ⟨_, ab4⟩ := x4.at
  have kp4 := x4.kp
  refine tX11_text_29  (r := ?_)
  
  refine tX11_text_31 (hd := (by omega)) (ha := (by first | assumption | (repeat (first | assumption | exact At.set_eq2 (by first | omega | (simp only [hset, hnew]; omega) | rfl | decide) | exact At.new_eq2 _ _ (by first | omega | (simp only [hset, hnew]; omega) | rfl | decide) | refine At.set_ne ?_ (by first | omega | (simp only [hset, hnew]; omega) | rfl | decide) | refine At.new_ne ?_)))) (call := s_bApp 60 (d := 6) (by decide) x4 (StR.old (i := 66) (by decide)) (by first | decide | (simp only [List.length_append, List.length_nil, List.length_cons, txt_len, nam_len, tL40, tL41, tL42, tL43, tL44, tL45, tL46, tL47, tL48, tL49, tL50, tL51, tL52, tL53, tL54, tL55, tL56, tL57, tL58, tL59, tL60, tL61, tL62, tL63, tL64, tL65, tL66, tL67, tL68, tL69, tL70, tL71, tL72, tL73, tL74, tL75, tL76, tL77, tL78, tL79, tL80, tL81, tL82, tL83, tL84, tL85, tL86, tL87]; omega)) (by decide)) (k := ?_)
  rintro r_ w5 ⟨e_, x5⟩
  rw [e_]
  clear e_
  obtain ⟨_, ab5⟩ := x5.at
  have kp5 := x5.kp
  refine tX11_text_34  (r := ?_)
  refine tX11_text_35 (ha := (kp5 _ _ q0 q2 (imm9 _))) (hv := rfl) (r := ?_)
  refine tX11_text_38 (hd := (by omega)) (call := s_name (d := 7) (by decide) (k := w) (by omega)) (k := ?_)
  rintro r6 w6 ⟨y6, c6⟩
  have x6 := x5.keep c6
  obtain ⟨_, ab6⟩ := x6.at
  have kp6 := x6.kp
  
  refine tX11_text_41 (hd := (by omega)) (ha := (by first | assumption | (repeat (first | assumption | exact At.set_eq2 (by first | omega | (simp only [hset, hnew]; omega) | rfl | decide) | exact At.new_eq2 _ _ (by first | omega | (simp only [hset, hnew]; omega) | rfl | decide) | refine At.set_ne ?_ (by first | omega | (simp only [hset, hnew]; omega) | rfl | decide) | refine At.new_ne ?_)))) (call := s_bApp 60 (d := 6) (by decide) x6 y6 (by first | decide | (simp only [List.length_append, List.length_nil, List.length_cons, txt_len, nam_len, tL40, tL41, tL42, tL43, tL44, tL45, tL46, tL47, tL48, tL49, tL50, tL51, tL52, tL53, tL54, tL55, tL56, tL57, tL58, tL59, tL60, tL61, tL62, tL63, tL64, tL65, tL66, tL67, tL68, tL69, tL70, tL71, tL72, tL73, tL74, tL75, tL76, tL77, tL78, tL79, tL80, tL81, tL82, tL83, tL84, tL85, tL86, tL87]; omega)) (by decide)) (k := ?_)
  rintro r_ w7 ⟨e_, x7⟩
  rw [e_]
  clear e_
  obtain ⟨_, ab7⟩ := x7.at
  have kp7 := x7.kp
  refine tX11_text_44 (hd := (by omega)) (ha := (by first | assumption | (repeat (first | assumption | exact At.set_eq2 (by first | omega | (simp only [hset, hnew]; omega) | rfl | decide) | exact At.new_eq2 _ _ (by first | omega | (simp only [hset, hnew]; omega) | rfl | decide) | refine At.set_ne ?_ (by first | omega | (simp only [hset, hnew]; omega) | rfl | decide) | refine At.new_ne ?_)))) (call := s_bStr 60 (d := 6) (by decide) x7 (by first | decide | (simp only [List.length_append, List.length_nil, List.length_cons, txt_len, nam_len, tL40, tL41, tL42, tL43, tL44, tL45, tL46, tL47, tL48, tL49, tL50, tL51, tL52, tL53, tL54, tL55, tL56, tL57, tL58, tL59, tL60, tL61, tL62, tL63, tL64, tL65, tL66, tL67, tL68, tL69, tL70, tL71, tL72, tL73, tL74, tL75, tL76, tL77, tL78, tL79, tL80, tL81, tL82, tL83, tL84, tL85, tL86, tL87]; omega))) (k := ?_)
  rintro r_ w8 ⟨st_, -, c_⟩
  refine tX11_text_47 (r := ?_)
  refine tX11_text_137  (hP := ?_)
  have eX : acX (0, w, e) = [] ++ txt 65 ++ vaX e ++ txt 66 ++ nam w := by
    simp only [List.append_assoc, List.nil_append]
    rfl
  exact ⟨_, rfl, by rw [eX]; exact st_, c_.sub (Nat.le_refl _) (Nat.le_refl _) (by decide) (by decide)⟩
theorem s_tx_hop (hd : 14 ≤ d) {a w : Nat} {x : Option Nat} {e : EVa} (hw : w < 20) (q0 : 216 ≤ a) (q2 : At h a (.inr (9, [.int (nI 1), .int (nI w), va_rf x]))) : RQ G mX11_text d 0 [some (.ref a)] [] h (Rr fun r h1 => StR h1 r (acX (1, w, e)) ∧ Ch h h1 0 0 100 2500) := by
  refine tX11_text_0  (r := ?_)
  refine tX11_text_1 (ha := q2) (hv := rfl) (r := ?_)
  refine tX11_text_4  (kf := fun c_ => by exfalso; first | exact c_ (by decide) | exact absurd c_ (by decide)) (kt := fun _ => ?_)
  refine tX11_text_50  (r := ?_)
  refine tX11_text_51 (ha := q2) (hv := rfl) (r := ?_)
  refine tX11_text_54  (r := ?_)
  refine tX11_text_55  (kt := fun c_ => by exfalso; exact c_ rfl) (kf := fun _ => ?_)
  refine tX11_text_58  (r := ?_)
  refine tX11_text_61  (r := ?_)
  refine tX11_text_62 (hd := (by omega)) (call := s_bInit (d := 6) (h0 := h) (by decide)) (k := ?_)
  rintro w1 x1
  obtain ⟨_, ab1⟩ := x1.at
  have kp1 := x1.kp
  refine tX11_text_65  (r := ?_)
  
  refine tX11_text_67 (hd := (by omega)) (ha := (by first | assumption | (repeat (first | assumption | exact At.set_eq2 (by first | omega | (simp only [hset, hnew]; omega) | rfl | decide) | exact At.new_eq2 _ _ (by first | omega | (simp only [hset, hnew]; omega) | rfl | decide) | refine At.set_ne ?_ (by first | omega | (simp only [hset, hnew]; omega) | rfl | decide) | refine At.new_ne ?_)))) (call := s_bApp 20 (d := 6) (by decide) x1 (StR.old (i := 67) (by decide)) (by first | decide | (simp only [List.length_append, List.length_nil, List.length_cons, txt_len, nam_len, tL40, tL41, tL42, tL43, tL44, tL45, tL46, tL47, tL48, tL49, tL50, tL51, tL52, tL53, tL54, tL55, tL56, tL57, tL58, tL59, tL60, tL61, tL62, tL63, tL64, tL65, tL66, tL67, tL68, tL69, tL70, tL71, tL72, tL73, tL74, tL75, tL76, tL77, tL78, tL79, tL80, tL81, tL82, tL83, tL84, tL85, tL86, tL87]; omega)) (by decide)) (k := ?_)
  rintro r_ w2 ⟨e_, x2⟩
  rw [e_]
  clear e_
  obtain ⟨_, ab2⟩ := x2.at
  have kp2 := x2.kp
  refine tX11_text_70  (r := ?_)
  refine tX11_text_71 (ha := (kp2 _ _ q0 q2 (imm9 _))) (hv := rfl) (r := ?_)
  refine tX11_text_74 (hd := (by omega)) (call := s_name (d := 7) (by decide) (k := w) (by omega)) (k := ?_)
  rintro r3 w3 ⟨y3, c3⟩
  have x3 := x2.keep c3
  obtain ⟨_, ab3⟩ := x3.at
  have kp3 := x3.kp
  
  refine tX11_text_77 (hd := (by omega)) (ha := (by first | assumption | (repeat (first | assumption | exact At.set_eq2 (by first | omega | (simp only [hset, hnew]; omega) | rfl | decide) | exact At.new_eq2 _ _ (by first | omega | (simp only [hset, hnew]; omega) | rfl | decide) | refine At.set_ne ?_ (by first | omega | (simp only [hset, hnew]; omega) | rfl | decide) | refine At.new_ne ?_)))) (call := s_bApp 20 (d := 6) (by decide) x3 y3 (by first | decide | (simp only [List.length_append, List.length_nil, List.length_cons, txt_len, nam_len, tL40, tL41, tL42, tL43, tL44, tL45, tL46, tL47, tL48, tL49, tL50, tL51, tL52, tL53, tL54, tL55, tL56, tL57, tL58, tL59, tL60, tL61, tL62, tL63, tL64, tL65, tL66, tL67, tL68, tL69, tL70, tL71, tL72, tL73, tL74, tL75, tL76, tL77, tL78, tL79, tL80, tL81, tL82, tL83, tL84, tL85, tL86, tL87]; omega)) (by decide)) (k := ?_)
  rintro r_ w4 ⟨e_, x4⟩
  rw [e_]
  clear e_
  obtain ⟨_, ab4⟩ := x4.at
  have kp4 := x4.kp
  refine tX11_text_80 (hd := (by omega)) (ha := (by first | assumption | (repeat (first | assumption | exact At.set_eq2 (by first | omega | (simp only [hset, hnew]; omega) | rfl | decide) | exact At.new_eq2 _ _ (by first | omega | (simp only [hset, hnew]; omega) | rfl | decide) | refine At.set_ne ?_ (by first | omega | (simp only [hset, hnew]; omega) | rfl | decide) | refine At.new_ne ?_)))) (call := s_bStr 20 (d := 6) (by decide) x4 (by first | decide | (simp only [List.length_append, List.length_nil, List.length_cons, txt_len, nam_len, tL40, tL41, tL42, tL43, tL44, tL45, tL46, tL47, tL48, tL49, tL50, tL51, tL52, tL53, tL54, tL55, tL56, tL57, tL58, tL59, tL60, tL61, tL62, tL63, tL64, tL65, tL66, tL67, tL68, tL69, tL70, tL71, tL72, tL73, tL74, tL75, tL76, tL77, tL78, tL79, tL80, tL81, tL82, tL83, tL84, tL85, tL86, tL87]; omega))) (k := ?_)
  rintro r_ w5 ⟨st_, -, c_⟩
  refine tX11_text_83 (r := ?_)
  refine tX11_text_137  (hP := ?_)
  have eX : acX (1, w, e) = [] ++ txt 67 ++ nam w := rfl
  exact ⟨_, rfl, by rw [eX]; exact st_, c_.sub (Nat.le_refl _) (Nat.le_refl _) (by decide) (by decide)⟩
theorem s_tx_join (hd : 14 ≤ d) {a w : Nat} {x : Option Nat} {e : EVa} (hw : w < 20) (q0 : 216 ≤ a) (q2 : At h a (.inr (9, [.int (nI 3), .int (nI w), va_rf x]))) : RQ G mX11_text d 0 [some (.ref a)] [] h (Rr fun r h1 => StR h1 r (acX (3, w, e)) ∧ Ch h h1 0 0 100 2500) := by
  refine tX11_text_0  (r := ?_)
  refine tX11_text_1 (ha := q2) (hv := rfl) (r := ?_)
  refine tX11_text_4  (kf := fun c_ => by exfalso; first | exact c_ (by decide) | exact absurd c_ (by decide)) (kt := fun _ => ?_)
  refine tX11_text_50  (r := ?_)
  refine tX11_text_51 (ha := q2) (hv := rfl) (r := ?_)
  refine tX11_text_54  (r := ?_)
  refine tX11_text_55  (kf := fun c_ => by exfalso; first | exact c_ (by decide) | exact absurd c_ (by decide)) (kt := fun _ => ?_)
  refine tX11_text_86  (r := ?_)
  refine tX11_text_87 (ha := q2) (hv := rfl) (r := ?_)
  refine tX11_text_90  (r := ?_)
  refine tX11_text_91  (kf := fun c_ => by exfalso; first | exact c_ (by decide) | exact absurd c_ (by decide)) (kt := fun _ => ?_)
  refine tX11_text_99  (r := ?_)
  refine tX11_text_100 (ha := q2) (hv := rfl) (r := ?_)
  refine tX11_text_103  (r := ?_)
  refine tX11_text_104  (kt := fun c_ => by exfalso; exact c_ rfl) (kf := fun _ => ?_)
  refine tX11_text_107  (r := ?_)
  refine tX11_text_110  (r := ?_)
  refine tX11_text_111 (hd := (by omega)) (call := s_bInit (d := 6) (h0 := h) (by decide)) (k := ?_)
  rintro w1 x1
  obtain ⟨_, ab1⟩ := x1.at
  have kp1 := x1.kp
  refine tX11_text_114  (r := ?_)
  
  refine tX11_text_116 (hd := (by omega)) (ha := (by first | assumption | (repeat (first | assumption | exact At.set_eq2 (by first | omega | (simp only [hset, hnew]; omega) | rfl | decide) | exact At.new_eq2 _ _ (by first | omega | (simp only [hset, hnew]; omega) | rfl | decide) | refine At.set_ne ?_ (by first | omega | (simp only [hset, hnew]; omega) | rfl | decide) | refine At.new_ne ?_)))) (call := s_bApp 20 (d := 6) (by decide) x1 (StR.old (i := 69) (by decide)) (by first | decide | (simp only [List.length_append, List.length_nil, List.length_cons, txt_len, nam_len, tL40, tL41, tL42, tL43, tL44, tL45, tL46, tL47, tL48, tL49, tL50, tL51, tL52, tL53, tL54, tL55, tL56, tL57, tL58, tL59, tL60, tL61, tL62, tL63, tL64, tL65, tL66, tL67, tL68, tL69, tL70, tL71, tL72, tL73, tL74, tL75, tL76, tL77, tL78, tL79, tL80, tL81, tL82, tL83, tL84, tL85, tL86, tL87]; omega)) (by decide)) (k := ?_)
  rintro r_ w2 ⟨e_, x2⟩
  rw [e_]
  clear e_
  obtain ⟨_, ab2⟩ := x2.at
  have kp2 := x2.kp
  refine tX11_text_119  (r := ?_)
  refine tX11_text_120 (ha := (kp2 _ _ q0 q2 (imm9 _))) (hv := rfl) (r := ?_)
  refine tX11_text_123 (hd := (by omega)) (call := s_name (d := 7) (by decide) (k := w) (by omega)) (k := ?_)
  rintro r3 w3 ⟨y3, c3⟩
  have x3 := x2.keep c3
  obtain ⟨_, ab3⟩ := x3.at
  have kp3 := x3.kp
  
  refine tX11_text_126 (hd := (by omega)) (ha := (by first | assumption | (repeat (first | assumption | exact At.set_eq2 (by first | omega | (simp only [hset, hnew]; omega) | rfl | decide) | exact At.new_eq2 _ _ (by first | omega | (simp only [hset, hnew]; omega) | rfl | decide) | refine At.set_ne ?_ (by first | omega | (simp only [hset, hnew]; omega) | rfl | decide) | refine At.new_ne ?_)))) (call := s_bApp 20 (d := 6) (by decide) x3 y3 (by first | decide | (simp only [List.length_append, List.length_nil, List.length_cons, txt_len, nam_len, tL40, tL41, tL42, tL43, tL44, tL45, tL46, tL47, tL48, tL49, tL50, tL51, tL52, tL53, tL54, tL55, tL56, tL57, tL58, tL59, tL60, tL61, tL62, tL63, tL64, tL65, tL66, tL67, tL68, tL69, tL70, tL71, tL72, tL73, tL74, tL75, tL76, tL77, tL78, tL79, tL80, tL81, tL82, tL83, tL84, tL85, tL86, tL87]; omega)) (by decide)) (k := ?_)
  rintro r_ w4 ⟨e_, x4⟩
  rw [e_]
  clear e_
  obtain ⟨_, ab4⟩ := x4.at
  have kp4 := x4.kp
  refine tX11_text_129 (hd := (by omega)) (ha := (by first | assumption | (repeat (first | assumption | exact At.set_eq2 (by first | omega | (simp only [hset, hnew]; omega) | rfl | decide) | exact At.new_eq2 _ _ (by first | omega | (simp only [hset, hnew]; omega) | rfl | decide) | refine At.set_ne ?_ (by first | omega | (simp only [hset, hnew]; omega) | rfl | decide) | refine At.new_ne ?_)))) (call := s_bStr 20 (d := 6) (by decide) x4 (by first | decide | (simp only [List.length_append, List.length_nil, List.length_cons, txt_len, nam_len, tL40, tL41, tL42, tL43, tL44, tL45, tL46, tL47, tL48, tL49, tL50, tL51, tL52, tL53, tL54, tL55, tL56, tL57, tL58, tL59, tL60, tL61, tL62, tL63, tL64, tL65, tL66, tL67, tL68, tL69, tL70, tL71, tL72, tL73, tL74, tL75, tL76, tL77, tL78, tL79, tL80, tL81, tL82, tL83, tL84, tL85, tL86, tL87]; omega))) (k := ?_)
  rintro r_ w5 ⟨st_, -, c_⟩
  refine tX11_text_132 (r := ?_)
  refine tX11_text_137  (hP := ?_)
  have eX : acX (3, w, e) = [] ++ txt 69 ++ nam w := rfl
  exact ⟨_, rfl, by rw [eX]; exact st_, c_.sub (Nat.le_refl _) (Nat.le_refl _) (by decide) (by decide)⟩
theorem s_tx_shake (hd : 14 ≤ d) {a w : Nat} {x : Option Nat} {e : EVa} (q0 : 216 ≤ a) (q2 : At h a (.inr (9, [.int (nI 2), .int (nI w), va_rf x]))) : RQ G mX11_text d 0 [some (.ref a)] [] h (Rr fun r h1 => StR h1 r (acX (2, w, e)) ∧ Ch h h1 0 0 100 2500) := by
  refine tX11_text_0  (r := ?_)
  refine tX11_text_1 (ha := q2) (hv := rfl) (r := ?_)
  refine tX11_text_4  (kf := fun c_ => by exfalso; first | exact c_ (by decide) | exact absurd c_ (by decide)) (kt := fun _ => ?_)
  refine tX11_text_50  (r := ?_)
  refine tX11_text_51 (ha := q2) (hv := rfl) (r := ?_)
  refine tX11_text_54  (r := ?_)
  refine tX11_text_55  (kf := fun c_ => by exfalso; first | exact c_ (by decide) | exact absurd c_ (by decide)) (kt := fun _ => ?_)
  refine tX11_text_86  (r := ?_)
  refine tX11_text_87 (ha := q2) (hv := rfl) (r := ?_)
  refine tX11_text_90  (r := ?_)
  refine tX11_text_91  (kt := fun c_ => by exfalso; exact c_ rfl) (kf := fun _ => ?_)
  refine tX11_text_94  (r := ?_)
  refine tX11_text_96 (r := ?_)
  refine tX11_text_137  (hP := ?_)
  exact ⟨_, rfl, StR.old (i := 68) (by decide), Ch.rf _ _ _ _ _⟩
theorem s_tx_leave (hd : 14 ≤ d) {a w : Nat} {x : Option Nat} {e : EVa} (q0 : 216 ≤ a) (q2 : At h a (.inr (9, [.int (nI 4), .int (nI w), va_rf x]))) : RQ G mX11_text d 0 [some (.ref a)] [] h (Rr fun r h1 => StR h1 r (acX (4, w, e)) ∧ Ch h h1 0 0 100 2500) := by
  refine tX11_text_0  (r := ?_)
  refine tX11_text_1 (ha := q2) (hv := rfl) (r := ?_)
  refine tX11_text_4  (kf := fun c_ => by exfalso; first | exact c_ (by decide) | exact absurd c_ (by decide)) (kt := fun _ => ?_)
  refine tX11_text_50  (r := ?_)
  refine tX11_text_51 (ha := q2) (hv := rfl) (r := ?_)
  refine tX11_text_54  (r := ?_)
  refine tX11_text_55  (kf := fun c_ => by exfalso; first | exact c_ (by decide) | exact absurd c_ (by decide)) (kt := fun _ => ?_)
  refine tX11_text_86  (r := ?_)
  refine tX11_text_87 (ha := q2) (hv := rfl) (r := ?_)
  refine tX11_text_90  (r := ?_)
  refine tX11_text_91  (kf := fun c_ => by exfalso; first | exact c_ (by decide) | exact absurd c_ (by decide)) (kt := fun _ => ?_)
  refine tX11_text_99  (r := ?_)
  refine tX11_text_100 (ha := q2) (hv := rfl) (r := ?_)
  refine tX11_text_103  (r := ?_)
  refine tX11_text_104  (kf := fun c_ => by exfalso; first | exact c_ (by decide) | exact absurd c_ (by decide)) (kt := fun _ => ?_)
  refine tX11_text_135  (r := ?_)
  refine tX11_text_137  (hP := ?_)
  exact ⟨_, rfl, StR.old (i := 70) (by decide), Ch.rf _ _ _ _ _⟩
theorem s_tx_act (hd : 14 ≤ d) (l6 : la ≤ 6) (j8 : ja ≤ 8) {a : Nat} {e : EAc} (ok : okAc la ja e) (q : AcR h a e) : RQ G mX11_text d 0 [some (.ref a)] [] h (Rr fun r h1 => StR h1 r (acX e) ∧ Ch h h1 0 0 100 2500) := by
  obtain ⟨k, w, v⟩ := e
  obtain ⟨ok0, ok1, ok2, ok3⟩ := ok
  obtain ⟨q0, x, q2, q3⟩ := q
  dsimp only at ok0 ok1 ok2 ok3 q2 q3
  have hw : w < 20 := by
    by_cases z : k = 1
    · have := ok1 z
      omega
    · have := ok2 z
      omega
  have e5 : k = 0 ∨ k = 1 ∨ k = 2 ∨ k = 3 ∨ k = 4 := by omega
  rcases e5 with rfl | rfl | rfl | rfl | rfl
  · obtain ⟨z, rfl, q4⟩ := q3 rfl
    exact s_tx_win hd l6 ok3 hw q0 q2 q4
  · exact s_tx_hop hd hw q0 q2
  · exact s_tx_shake hd q0 q2
  · exact s_tx_join hd hw q0 q2
  · exact s_tx_leave hd q0 q2
set_option maxHeartbeats 4000000 in
theorem s_tx_rule_l (hd : 16 ≤ d) (l6 : la ≤ 6) (j8 : ja ≤ 8) {a b y : Nat} {r : ERu} {f : Nat → Option Nat} (ok : okRu la ja r) (q3 : 216 ≤ y) (q4 : At h y (.inl (8, r.2.length, .inr (.inr (.inr (.inr f)))))) (q5 : ∀ j (hj : j < r.2.length), ∃ z, f j = some z ∧ AcR h z r.2[j]) : ∀ (n i : Nat) (x5 : Option Value), r.2.length ≤ i + n → i ≤ r.2.length → ∀ h9, BldR h h9 b (txt 84 ++ t1X r.1 ++ txt 85 ++ asX (r.2.take i)) (240 + 102 * i) (8000 + 3500 * i) → RQ G mX17_text d 49 [some (.ref a), some (.ref b), some (.ref y), some (.int (nI r.2.length)), some (.int (nI i)), x5] [] h9 (Rr fun v h1 => StR h1 v (ruX r) ∧ Ch h h1 0 0 600 20000) := by
  have hr3 := ok.2.1
  have lt1 := t1X_len ok.1
  have ltk : ∀ i, (asX (r.2.take i)).length ≤ 108 := fun i => Nat.le_trans (asX_len (fun a h => ok.2.2 a (List.mem_of_mem_take h))) (by have : (r.2.take i).length ≤ r.2.length := List.length_take_le' ..; omega)
  have ex : ∀ (i : Nat) (x5 : Option Value), i = r.2.length → ∀ h9, BldR h h9 b (txt 84 ++ t1X r.1 ++ txt 85 ++ asX (r.2.take i)) (240 + 102 * i) (8000 + 3500 * i) → RQ G mX17_text d 49 [some (.ref a), some (.ref b), some (.ref y), some (.int (nI r.2.length)), some (.int (nI i)), x5] [] h9 (Rr fun v h1 => StR h1 v (ruX r) ∧ Ch h h1 0 0 600 20000) := by
    intro i x5 hi h9 xb
    subst hi
    have lti := ltk r.2.length
    obtain ⟨_, abb⟩ := xb.at
    have kpb := xb.kp
    refine tX17_text_49  (r := ?_)
    refine tX17_text_51  (r := ?_)
    refine tX17_text_52  (kf := fun c_ => by exfalso; exact c_ ((nI_leI (by omega) (by omega)).mpr (by omega))) (kt := fun _ => ?_)
    refine tX17_text_82  (r := ?_)
    refine tX17_text_83  (r := ?_)
    refine tX17_text_85 (hd := (by omega)) (ha := (by first | assumption | (repeat (first | assumption | exact At.set_eq2 (by first | omega | (simp only [hset, hnew]; omega) | rfl | decide) | exact At.new_eq2 _ _ (by first | omega | (simp only [hset, hnew]; omega) | rfl | decide) | refine At.set_ne ?_ (by first | omega | (simp only [hset, hnew]; omega) | rfl | decide) | refine At.new_ne ?_)))) (call := s_bApp 240 (d := 6) (by decide) xb (StR.old (i := 87) (by decide)) (by first | decide | (simp only [List.length_append, List.length_nil, List.length_cons, txt_len, nam_len, tL40, tL41, tL42, tL43, tL44, tL45, tL46, tL47, tL48, tL49, tL50, tL51, tL52, tL53, tL54, tL55, tL56, tL57, tL58, tL59, tL60, tL61, tL62, tL63, tL64, tL65, tL66, tL67, tL68, tL69, tL70, tL71, tL72, tL73, tL74, tL75, tL76, tL77, tL78, tL79, tL80, tL81, tL82, tL83, tL84, tL85, tL86, tL87]; omega)) (by decide)) (k := ?_)
    rintro r_ w1 ⟨e_, x1⟩
    rw [e_]
    clear e_
    obtain ⟨_, ab1⟩ := x1.at
    refine tX17_text_88 (hd := (by omega)) (ha := (by first | assumption | (repeat (first | assumption | exact At.set_eq2 (by first | omega | (simp only [hset, hnew]; omega) | rfl | decide) | exact At.new_eq2 _ _ (by first | omega | (simp only [hset, hnew]; omega) | rfl | decide) | refine At.set_ne ?_ (by first | omega | (simp only [hset, hnew]; omega) | rfl | decide) | refine At.new_ne ?_)))) (call := s_bStr 240 (d := 6) (by decide) x1 (by first | decide | (simp only [List.length_append, List.length_nil, List.length_cons, txt_len, nam_len, tL40, tL41, tL42, tL43, tL44, tL45, tL46, tL47, tL48, tL49, tL50, tL51, tL52, tL53, tL54, tL55, tL56, tL57, tL58, tL59, tL60, tL61, tL62, tL63, tL64, tL65, tL66, tL67, tL68, tL69, tL70, tL71, tL72, tL73, tL74, tL75, tL76, tL77, tL78, tL79, tL80, tL81, tL82, tL83, tL84, tL85, tL86, tL87]; omega))) (k := ?_)
    rintro r_ w4 ⟨st_, -, c_⟩
    refine tX17_text_91  (hP := ?_)
    have eX : ruX r = txt 84 ++ t1X r.1 ++ txt 85 ++ asX (r.2.take r.2.length) ++ txt 87 := by
      rw [List.take_length]
      simp only [ruX, List.append_assoc]
    exact ⟨_, rfl, by rw [eX]; exact st_, c_.sub (Nat.le_refl _) (Nat.le_refl _) (by omega) (by omega)⟩
  intro n
  induction n with
  | zero => exact fun i x5 h1_ h2_ => ex i x5 (by omega)
  | succ n ih =>
    intro i x5 h1_ h2_ h9 xb
    by_cases hie : i = r.2.length
    · exact ex i x5 hie h9 xb
    have hi : i < r.2.length := by omega
    have lti := ltk i
    obtain ⟨z, ef, qac⟩ := q5 i hi
    have okj := ok.2.2 _ (List.getElem_mem hi)
    have lac := acX_len okj
    obtain ⟨_, abb⟩ := xb.at
    have kpb := xb.kp
    refine tX17_text_49  (r := ?_)
    refine tX17_text_51  (r := ?_)
    refine tX17_text_52  (kt := fun c_ => by exfalso; exact absurd ((nI_leI (by omega) (by omega)).mp c_) (by omega)) (kf := fun _ => ?_)
    refine tX17_text_55  (r := ?_)
    refine tX17_text_56  (r := ?_)
    refine tX17_text_58 (t := 8) (ha := (kpb _ _ q3 q4 (imm8 _))) (ht := rfl) (hx := rfl) (hj := (by omega)) (hn := (by omega)) (hf := ef) (r := ?_)
    obtain ⟨qa0, xa, qa1, qa2⟩ := qac.kp kpb
    refine tX17_text_59  (r := ?_)
    refine tX17_text_61  (r := ?_)
    refine tX17_text_62  (r := ?_)
    refine tX17_text_64 (hd := (by omega)) (ha := (by first | assumption | (repeat (first | assumption | exact At.set_eq2 (by first | omega | (simp only [hset, hnew]; omega) | rfl | decide) | exact At.new_eq2 _ _ (by first | omega | (simp only [hset, hnew]; omega) | rfl | decide) | refine At.set_ne ?_ (by first | omega | (simp only [hset, hnew]; omega) | rfl | decide) | refine At.new_ne ?_)))) (call := s_bApp 240 (d := 6) (by decide) xb (StR.old (i := 86) (by decide)) (by first | decide | (simp only [List.length_append, List.length_nil, List.length_cons, txt_len, nam_len, tL40, tL41, tL42, tL43, tL44, tL45, tL46, tL47, tL48, tL49, tL50, tL51, tL52, tL53, tL54, tL55, tL56, tL57, tL58, tL59, tL60, tL61, tL62, tL63, tL64, tL65, tL66, tL67, tL68, tL69, tL70, tL71, tL72, tL73, tL74, tL75, tL76, tL77, tL78, tL79, tL80, tL81, tL82, tL83, tL84, tL85, tL86, tL87]; omega)) (by decide)) (k := ?_)
    rintro r_ w1 ⟨e_, x1⟩
    rw [e_]
    clear e_
    obtain ⟨_, ab1⟩ := x1.at
    have kp1 := x1.kp
    refine tX17_text_67  (r := ?_)
    refine tX17_text_69 (hd := (by omega)) (ha := (kp1 _ _ qac.1 qac.2.choose_spec.1 (imm9 _))) (call := s_tx_act (d := 14) (by decide) l6 j8 okj (qac.kp kp1)) (k := ?_)
    rintro r2 w2 ⟨y2, c2⟩
    have x2 := x1.keep c2
    obtain ⟨_, ab2⟩ := x2.at
    refine tX17_text_72 (hd := (by omega)) (ha := (by first | assumption | (repeat (first | assumption | exact At.set_eq2 (by first | omega | (simp only [hset, hnew]; omega) | rfl | decide) | exact At.new_eq2 _ _ (by first | omega | (simp only [hset, hnew]; omega) | rfl | decide) | refine At.set_ne ?_ (by first | omega | (simp only [hset, hnew]; omega) | rfl | decide) | refine At.new_ne ?_)))) (call := s_bApp 240 (d := 6) (by decide) x2 y2 (by first | decide | (simp only [List.length_append, List.length_nil, List.length_cons, txt_len, nam_len, tL40, tL41, tL42, tL43, tL44, tL45, tL46, tL47, tL48, tL49, tL50, tL51, tL52, tL53, tL54, tL55, tL56, tL57, tL58, tL59, tL60, tL61, tL62, tL63, tL64, tL65, tL66, tL67, tL68, tL69, tL70, tL71, tL72, tL73, tL74, tL75, tL76, tL77, tL78, tL79, tL80, tL81, tL82, tL83, tL84, tL85, tL86, tL87]; omega)) (by decide)) (k := ?_)
    rintro r_ w3 ⟨e_, x3⟩
    rw [e_]
    clear e_
    refine tX17_text_75  (r := ?_)
    refine tX17_text_76  (r := ?_)
    rw [nI_add]
    refine tX17_text_79 (r := ?_)
    have et : asX (r.2.take (i + 1)) = asX (r.2.take i) ++ (txt 86 ++ acX r.2[i]) := by
      rw [List.take_succ_eq_append_getElem hi, asX_app]
    refine ih (i + 1) _ (by omega) (by omega) w3 ?_
    rw [et, ← List.append_assoc, ← List.append_assoc]
    obtain ⟨v9, b1, b2, b3, b4⟩ := x3
    exact ⟨v9, b1, b2, b3, b4.sub (Nat.le_refl _) (Nat.le_refl _) (by omega) (by omega)⟩
theorem s_tx_rule (hd : 16 ≤ d) (l6 : la ≤ 6) (j8 : ja ≤ 8) {a : Nat} {r : ERu} (ok : okRu la ja r) (q : RuR h a r) : RQ G mX17_text d 0 [some (.ref a), none, none, none, none, none] [] h (Rr fun v h1 => StR h1 v (ruX r) ∧ Ch h h1 0 0 600 20000) := by
  have hr3 := ok.2.1
  have lt1 := t1X_len ok.1
  have q9 := q.2
  obtain ⟨x, y, f, q1, q2, q3, q4, q5⟩ := q9
  refine tX17_text_0  (r := ?_)
  refine tX17_text_3  (r := ?_)
  refine tX17_text_4  (r := ?_)
  refine tX17_text_7  (r := ?_)
  refine tX17_text_8 (hd := (by omega)) (call := s_bInit (d := 6) (h0 := hnew h 4 _) (by decide)) (k := ?_)
  rintro w1 x1
  obtain ⟨_, ab1⟩ := x1.at
  have kp1 := x1.kp
  refine tX17_text_11  (r := ?_)
  
  refine tX17_text_13 (hd := (by omega)) (ha := (by first | assumption | (repeat (first | assumption | exact At.set_eq2 (by first | omega | (simp only [hset, hnew]; omega) | rfl | decide) | exact At.new_eq2 _ _ (by first | omega | (simp only [hset, hnew]; omega) | rfl | decide) | refine At.set_ne ?_ (by first | omega | (simp only [hset, hnew]; omega) | rfl | decide) | refine At.new_ne ?_)))) (call := s_bApp 100 (d := 6) (by decide) x1 (StR.old (i := 84) (by decide)) (by first | decide | (simp only [List.length_append, List.length_nil, List.length_cons, txt_len, nam_len, tL40, tL41, tL42, tL43, tL44, tL45, tL46, tL47, tL48, tL49, tL50, tL51, tL52, tL53, tL54, tL55, tL56, tL57, tL58, tL59, tL60, tL61, tL62, tL63, tL64, tL65, tL66, tL67, tL68, tL69, tL70, tL71, tL72, tL73, tL74, tL75, tL76, tL77, tL78, tL79, tL80, tL81, tL82, tL83, tL84, tL85, tL86, tL87]; omega)) (by decide)) (k := ?_)
  rintro r_ w2 ⟨e_, x2⟩
  rw [e_]
  clear e_
  obtain ⟨_, ab2⟩ := x2.at
  have kp2 := x2.kp
  refine tX17_text_16  (r := ?_)
  have kp2n : KpI h w2 := fun j c e x i => kp2 j c e (At.new_ne x) i
  refine tX17_text_17 (ha := (kp2 _ _ q.1 (At.new_ne q1) (imm15 _))) (hv := rfl) (r := ?_)
  obtain ⟨_, aq_⟩ := (q2.kp kp2n).at
  refine tX17_text_20 (hd := (by omega)) (ha := aq_) (call := s_tx_test (d := 14) (by decide) l6 ok.1 (q2.kp kp2n)) (k := ?_)
  rintro r3 w3 ⟨y3, c3⟩
  have x3 := x2.keep c3
  obtain ⟨_, ab3⟩ := x3.at
  have kp3 := x3.kp
  
  refine tX17_text_23 (hd := (by omega)) (ha := (by first | assumption | (repeat (first | assumption | exact At.set_eq2 (by first | omega | (simp only [hset, hnew]; omega) | rfl | decide) | exact At.new_eq2 _ _ (by first | omega | (simp only [hset, hnew]; omega) | rfl | decide) | refine At.set_ne ?_ (by first | omega | (simp only [hset, hnew]; omega) | rfl | decide) | refine At.new_ne ?_)))) (call := s_bApp 100 (d := 6) (by decide) x3 y3 (by first | decide | (simp only [List.length_append, List.length_nil, List.length_cons, txt_len, nam_len, tL40, tL41, tL42, tL43, tL44, tL45, tL46, tL47, tL48, tL49, tL50, tL51, tL52, tL53, tL54, tL55, tL56, tL57, tL58, tL59, tL60, tL61, tL62, tL63, tL64, tL65, tL66, tL67, tL68, tL69, tL70, tL71, tL72, tL73, tL74, tL75, tL76, tL77, tL78, tL79, tL80, tL81, tL82, tL83, tL84, tL85, tL86, tL87]; omega)) (by decide)) (k := ?_)
  rintro r_ w4 ⟨e_, x4⟩
  rw [e_]
  clear e_
  obtain ⟨_, ab4⟩ := x4.at
  have kp4 := x4.kp
  refine tX17_text_26  (r := ?_)
  
  refine tX17_text_28 (hd := (by omega)) (ha := (by first | assumption | (repeat (first | assumption | exact At.set_eq2 (by first | omega | (simp only [hset, hnew]; omega) | rfl | decide) | exact At.new_eq2 _ _ (by first | omega | (simp only [hset, hnew]; omega) | rfl | decide) | refine At.set_ne ?_ (by first | omega | (simp only [hset, hnew]; omega) | rfl | decide) | refine At.new_ne ?_)))) (call := s_bApp 100 (d := 6) (by decide) x4 (StR.old (i := 85) (by decide)) (by first | decide | (simp only [List.length_append, List.length_nil, List.length_cons, txt_len, nam_len, tL40, tL41, tL42, tL43, tL44, tL45, tL46, tL47, tL48, tL49, tL50, tL51, tL52, tL53, tL54, tL55, tL56, tL57, tL58, tL59, tL60, tL61, tL62, tL63, tL64, tL65, tL66, tL67, tL68, tL69, tL70, tL71, tL72, tL73, tL74, tL75, tL76, tL77, tL78, tL79, tL80, tL81, tL82, tL83, tL84, tL85, tL86, tL87]; omega)) (by decide)) (k := ?_)
  rintro r_ w5 ⟨e_, x5⟩
  rw [e_]
  clear e_
  obtain ⟨_, ab5⟩ := x5.at
  have kp5 := x5.kp
  refine tX17_text_31 (hd := (by omega)) (ha := (by first | assumption | (repeat (first | assumption | exact At.set_eq2 (by first | omega | (simp only [hset, hnew]; omega) | rfl | decide) | exact At.new_eq2 _ _ (by first | omega | (simp only [hset, hnew]; omega) | rfl | decide) | refine At.set_ne ?_ (by first | omega | (simp only [hset, hnew]; omega) | rfl | decide) | refine At.new_ne ?_)))) (call := s_bStr 100 (d := 6) (by decide) x5 (by first | decide | (simp only [List.length_append, List.length_nil, List.length_cons, txt_len, nam_len, tL40, tL41, tL42, tL43, tL44, tL45, tL46, tL47, tL48, tL49, tL50, tL51, tL52, tL53, tL54, tL55, tL56, tL57, tL58, tL59, tL60, tL61, tL62, tL63, tL64, tL65, tL66, tL67, tL68, tL69, tL70, tL71, tL72, tL73, tL74, tL75, tL76, tL77, tL78, tL79, tL80, tL81, tL82, tL83, tL84, tL85, tL86, tL87]; omega))) (k := ?_)
  rintro r_ w6 ⟨st_, -, c_⟩
  have c9 : Ch h w6 0 0 (1 + 230) (4 + 7300) := by
    obtain ⟨k1, k2, k3, k4, k5⟩ := c_
    have k1 : h.1 + 1 ≤ w6.1 := k1
    have k2 : w6.1 ≤ h.1 + 1 + _ := k2
    have k3 : w6.2.1 ≤ h.2.1 + 4 + _ := k3
    exact ⟨by omega, by omega, by omega, fun i c1 c2 => absurd c2 (Nat.not_lt_zero i), fun i c1 c2 => (k5 i c1 (Nat.lt_succ_of_lt c2)).trans (if_neg (by omega))⟩
  have ab0 : At w6 h.1 (.inr (17, [.null, .int 0, .int 0, .int 0])) := (At.new_eq h 4 _).keep c_.1 (c_.2.2.2.2 _ (Nat.zero_le _) (Nat.lt_succ_self _))
  refine tX17_text_34 (hd := (by omega)) (call := s_bInitS 100 (d := 8) (by decide) ab0 (Nat.le_refl _) st_ (by first | decide | (simp only [List.length_append, List.length_nil, List.length_cons, txt_len, nam_len, tL40, tL41, tL42, tL43, tL44, tL45, tL46, tL47, tL48, tL49, tL50, tL51, tL52, tL53, tL54, tL55, tL56, tL57, tL58, tL59, tL60, tL61, tL62, tL63, tL64, tL65, tL66, tL67, tL68, tL69, tL70, tL71, tL72, tL73, tL74, tL75, tL76, tL77, tL78, tL79, tL80, tL81, tL82, tL83, tL84, tL85, tL86, tL87]; omega)) c9) (k := ?_)
  rintro w7 x7
  have kp7 := x7.kp
  refine tX17_text_37  (r := ?_)
  refine tX17_text_38  (r := ?_)
  refine tX17_text_39 (ha := (kp7 _ _ q.1 q1 (imm15 _))) (hv := rfl) (r := ?_)
  refine tX17_text_42  (r := ?_)
  refine tX17_text_43  (r := ?_)
  refine tX17_text_44 (t := 8) (ha := (kp7 _ _ q3 q4 (imm8 _))) (ht := rfl) (r := ?_)
  refine tX17_text_45  (r := ?_)
  refine tX17_text_46  (r := ?_)
  refine tX17_text_47  (r := ?_)
  refine s_tx_rule_l hd l6 j8 ok q3 q4 q5 r.2.length 0 _ (by omega) (Nat.zero_le _) w7 ?_
  have et : txt 84 ++ t1X r.1 ++ txt 85 ++ asX (r.2.take 0) = [] ++ txt 84 ++ t1X r.1 ++ txt 85 := by
    simp only [List.take_zero, asX, List.append_nil, List.nil_append]
  rw [et]
  obtain ⟨v, b1, b2, b3, b4⟩ := x7
  exact ⟨v, b1, b2, b3, b4.sub (Nat.le_refl _) (Nat.le_refl _) (by decide) (by decide)⟩
end TA
