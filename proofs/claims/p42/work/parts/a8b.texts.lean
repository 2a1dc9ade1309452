/-! the texts of leaves, values, tests, acts, rules -/
theorem tL40 : tln 40 = 1 := by decide +kernel
theorem tL41 : tln 41 = 7 := by decide +kernel
theorem tL42 : tln 42 = 1 := by decide +kernel
theorem tL43 : tln 43 = 3 := by decide +kernel
theorem tL44 : tln 44 = 4 := by decide +kernel
theorem tL45 : tln 45 = 6 := by decide +kernel
theorem tL46 : tln 46 = 5 := by decide +kernel
theorem tL47 : tln 47 = 5 := by decide +kernel
theorem tL48 : tln 48 = 7 := by decide +kernel
theorem tL49 : tln 49 = 4 := by decide +kernel
theorem tL50 : tln 50 = 7 := by decide +kernel
theorem tL51 : tln 51 = 0 := by decide +kernel
theorem tL52 : tln 52 = 1 := by decide +kernel
theorem tL53 : tln 53 = 5 := by decide +kernel
theorem tL54 : tln 54 = 5 := by decide +kernel
theorem tL55 : tln 55 = 6 := by decide +kernel
theorem tL56 : tln 56 = 1 := by decide +kernel
theorem tL57 : tln 57 = 1 := by decide +kernel
theorem tL58 : tln 58 = 1 := by decide +kernel
theorem tL59 : tln 59 = 1 := by decide +kernel
theorem tL60 : tln 60 = 1 := by decide +kernel
theorem tL61 : tln 61 = 1 := by decide +kernel
theorem tL62 : tln 62 = 3 := by decide +kernel
theorem tL63 : tln 63 = 6 := by decide +kernel
theorem tL64 : tln 64 = 7 := by decide +kernel
theorem tL65 : tln 65 = 4 := by decide +kernel
theorem tL66 : tln 66 = 7 := by decide +kernel
theorem tL67 : tln 67 = 5 := by decide +kernel
theorem tL68 : tln 68 = 5 := by decide +kernel
theorem tL69 : tln 69 = 6 := by decide +kernel
theorem tL70 : tln 70 = 5 := by decide +kernel
theorem tL71 : tln 71 = 0 := by decide +kernel
theorem tL72 : tln 72 = 7 := by decide +kernel
theorem tL73 : tln 73 = 7 := by decide +kernel
theorem tL74 : tln 74 = 7 := by decide +kernel
theorem tL75 : tln 75 = 8 := by decide +kernel
theorem tL76 : tln 76 = 4 := by decide +kernel
theorem tL77 : tln 77 = 1 := by decide +kernel
theorem tL78 : tln 78 = 5 := by decide +kernel
theorem tL79 : tln 79 = 1 := by decide +kernel
theorem tL80 : tln 80 = 4 := by decide +kernel
theorem tL81 : tln 81 = 1 := by decide +kernel
theorem tL82 : tln 82 = 1 := by decide +kernel
theorem tL83 : tln 83 = 1 := by decide +kernel
theorem tL84 : tln 84 = 6 := by decide +kernel
theorem tL85 : tln 85 = 2 := by decide +kernel
theorem tL86 : tln 86 = 1 := by decide +kernel
theorem tL87 : tln 87 = 1 := by decide +kernel
def lfX (l : ELf) : List Nat := if l.1 = 0 then dgs l.2 else if l.1 = 1 then txt (WRn l.2) else if l.1 = 2 then txt 72 ++ nam l.2 else txt 73 ++ nam l.2
def vaX : EVa → List Nat
  | .inl l => lfX l
  | .inr (s, a, b) => txt 81 ++ (lfX a ++ (txt 82 ++ (txt (SGn (s - 4)) ++ (lfX b ++ txt 83))))
def t0X : ET0 → List Nat
  | .inl (k, l) => (if k = 10 then txt 74 else txt 75) ++ nam l
  | .inr (s, e, l) => vaX e ++ (txt (SGn (s - 4)) ++ lfX l)
def t1X : ET1 → List Nat
  | .inl t => t0X t
  | .inr (s, t, u) => if s = 12 then txt 76 ++ t0X t else txt 77 ++ (t0X t ++ ((if s = 13 then txt 78 else txt 80) ++ (t0X u ++ txt 79)))
def acX (a : EAc) : List Nat := if a.1 = 0 then txt 65 ++ (vaX a.2.2 ++ (txt 66 ++ nam a.2.1)) else if a.1 = 1 then txt 67 ++ nam a.2.1 else if a.1 = 2 then txt 68 else if a.1 = 3 then txt 69 ++ nam a.2.1 else txt 70
def asX : List EAc → List Nat
  | [] => []
  | a :: s => txt 86 ++ (acX a ++ asX s)
def ruX (r : ERu) : List Nat := txt 84 ++ (t1X r.1 ++ (txt 85 ++ (asX r.2 ++ txt 87)))
theorem WRn_or (k : Nat) : k < 3 → WRn k < 88 ∧ tln (WRn k) ≤ 7 := by
  have : ∀ k, k < 3 → WRn k < 88 ∧ tln (WRn k) ≤ 7 := by decide +kernel
  exact this k
theorem SGn_or (k : Nat) : k < 6 → SGn k < 88 ∧ tln (SGn k) = 1 := by
  have : ∀ k, k < 6 → SGn k < 88 ∧ tln (SGn k) = 1 := by decide +kernel
  exact this k
theorem nam_len (k : Nat) : (nam k).length = 2 := rfl
theorem dgs_le (n : Nat) : (dgs n).length ≤ 4 := by
  rw [dgs_len]
  split
  · omega
  · split
    · omega
    · split <;> omega
theorem lfX_len {la : Nat} {l : ELf} (h : okL la l) : (lfX l).length ≤ 9 := by
  unfold lfX
  have := dgs_le l.2
  rcases h with ⟨e, -⟩ | ⟨e, h2⟩ | ⟨e | e, -⟩
  · rw [if_pos e]; omega
  · rw [if_neg (by omega), if_pos e, txt_len]
    have := (WRn_or _ h2).2
    omega
  · rw [if_neg (by omega), if_neg (by omega), if_pos e, List.length_append, txt_len, tL72, nam_len]
    decide
  · rw [if_neg (by omega), if_neg (by omega), if_neg (by omega), List.length_append, txt_len, tL73, nam_len]
    decide
theorem vaX_len {la : Nat} {e : EVa} (h : okV la e) : (vaX e).length ≤ 22 := by
  match e, h with
  | .inl l, h => exact Nat.le_trans (lfX_len h) (by decide)
  | .inr (s, a, b), ⟨h1, h2, h3⟩ =>
    have := lfX_len h2
    have := lfX_len h3
    have := (SGn_or (s - 4) (by omega)).2
    simp only [vaX, List.length_append, txt_len, tL81, tL82, tL83]
    omega
theorem t0X_len {la : Nat} {e : ET0} (h : ok0 la e) : (t0X e).length ≤ 32 := by
  match e, h with
  | .inl (k, l), h =>
    simp only [t0X, List.length_append, nam_len]
    split <;> simp only [txt_len, tL74, tL75] <;> decide
  | .inr (s, a, b), ⟨h1, h2, h3⟩ =>
    have := vaX_len h2
    have := lfX_len h3
    have := (SGn_or (s - 4) (by omega)).2
    simp only [t0X, List.length_append, txt_len]
    omega
theorem t1X_len {la : Nat} {e : ET1} (h : ok1T la e) : (t1X e).length ≤ 71 := by
  match e, h with
  | .inl t, h => exact Nat.le_trans (t0X_len h) (by decide)
  | .inr (s, t, u), ⟨h1, h2, h3⟩ =>
    have := t0X_len h2
    have := t0X_len h3
    simp only [t1X]
    split
    · simp only [List.length_append, txt_len, tL76]
      omega
    · have : (if s = 13 then txt 78 else txt 80).length ≤ 5 := by
        split <;> simp only [txt_len, tL78, tL80] <;> decide
      simp only [List.length_append, txt_len, tL77, tL79]
      omega
theorem acX_len {la ja : Nat} {e : EAc} (h : okAc la ja e) : (acX e).length ≤ 35 := by
  have := vaX_len h.2.2.2
  unfold acX
  split
  · simp only [List.length_append, txt_len, nam_len, tL65, tL66]
    omega
  · split
    · simp only [List.length_append, txt_len, nam_len, tL67]
      decide
    · split
      · simp only [txt_len, tL68]
        decide
      · split
        · simp only [List.length_append, txt_len, nam_len, tL69]
          decide
        · simp only [txt_len, tL70]
          decide
theorem asX_len {la ja : Nat} : ∀ {s : List EAc}, (∀ a ∈ s, okAc la ja a) → (asX s).length ≤ 36 * s.length
  | [], _ => Nat.le_refl _
  | a :: s, h => by
    have h1 := acX_len (h a List.mem_cons_self)
    have h2 := asX_len (s := s) (fun b hb => h b (List.mem_cons_of_mem _ hb))
    simp only [asX, List.length_append, txt_len, tL86, List.length_cons]
    omega
theorem asX_app (s : List EAc) (a : EAc) : asX (s ++ [a]) = asX s ++ (txt 86 ++ acX a) := by
  induction s with
  | nil => simp only [asX, List.nil_append, List.append_nil]
  | cons b s ih => simp only [List.cons_append, asX, ih, List.append_assoc]
theorem ruX_len {la ja : Nat} {r : ERu} (h : okRu la ja r) : (ruX r).length ≤ 188 := by
  have h1 := t1X_len h.1
  have h2 := asX_len h.2.2
  have h3 := h.2.1
  simp only [ruX, List.length_append, txt_len, tL84, tL85, tL87]
  omega
section TX
variable {G : GT} {d la : Nat} {h : AH}

theorem s_tx_num (hd : 8 ≤ d) {a n : Nat} (hn : n < 10000) (q : NdR h a 0 n none none) : RQ G mX16_text d 0 [some (.ref a)] [] h (Rr fun r h1 => StR h1 r (lfX (0, n)) ∧ Ch h h1 0 0 20 400) := by
  have q2 := q.2
  refine tX16_text_0  (r := ?_)
  refine tX16_text_1 (ha := (by first | assumption | (repeat (first | assumption | exact At.set_eq2 (by first | omega | (simp only [hset, hnew]; omega) | rfl | decide) | exact At.new_eq2 _ _ (by first | omega | (simp only [hset, hnew]; omega) | rfl | decide) | refine At.set_ne ?_ (by first | omega | (simp only [hset, hnew]; omega) | rfl | decide) | refine At.new_ne ?_)))) (hv := rfl) (r := ?_)
  refine tX16_text_4 (n := 0) (hn := (by decide)) (r := ?_)
  show RQ _ _ _ 80 _ _ _ _
  refine tX16_text_80  (r := ?_)
  refine tX16_text_83  (r := ?_)
  refine tX16_text_84 (hd := (by omega)) (call := s_bInit (d := 6) (h0 := h) (by decide)) (k := ?_)
  rintro w1 x1
  obtain ⟨_, ab1⟩ := x1.at
  have kp1 := x1.kp
  refine tX16_text_87  (r := ?_)
  
  refine tX16_text_89 (hd := (by omega)) (ha := (by first | assumption | (repeat (first | assumption | exact At.set_eq2 (by first | omega | (simp only [hset, hnew]; omega) | rfl | decide) | exact At.new_eq2 _ _ (by first | omega | (simp only [hset, hnew]; omega) | rfl | decide) | refine At.set_ne ?_ (by first | omega | (simp only [hset, hnew]; omega) | rfl | decide) | refine At.new_ne ?_)))) (call := s_bApp 20 (d := 6) (by decide) x1 (StR.old (i := 71) (by decide)) (by first | decide | (simp only [List.length_append, List.length_nil, List.length_cons, txt_len, nam_len, tL40, tL41, tL42, tL43, tL44, tL45, tL46, tL47, tL48, tL49, tL50, tL51, tL52, tL53, tL54, tL55, tL56, tL57, tL58, tL59, tL60, tL61, tL62, tL63, tL64, tL65, tL66, tL67, tL68, tL69, tL70, tL71, tL72, tL73, tL74, tL75, tL76, tL77, tL78, tL79, tL80, tL81, tL82, tL83, tL84, tL85, tL86, tL87]; omega)) (by decide)) (k := ?_)
  rintro r_ w2 ⟨e_, x2⟩
  rw [e_]
  clear e_
  obtain ⟨_, ab2⟩ := x2.at
  have kp2 := x2.kp
  refine tX16_text_92  (r := ?_)
  refine tX16_text_93 (ha := (kp2 _ _ q.1 q.2 (imm14 _))) (hv := rfl) (r := ?_)
  refine tX16_text_96 (hd := (by omega)) (ha := (by first | assumption | (repeat (first | assumption | exact At.set_eq2 (by first | omega | (simp only [hset, hnew]; omega) | rfl | decide) | exact At.new_eq2 _ _ (by first | omega | (simp only [hset, hnew]; omega) | rfl | decide) | refine At.set_ne ?_ (by first | omega | (simp only [hset, hnew]; omega) | rfl | decide) | refine At.new_ne ?_)))) (call := s_bAppI 20 (d := 6) (by decide) x2 hn (by first | decide | (simp only [List.length_append, List.length_nil, List.length_cons, txt_len, nam_len, tL40, tL41, tL42, tL43, tL44, tL45, tL46, tL47, tL48, tL49, tL50, tL51, tL52, tL53, tL54, tL55, tL56, tL57, tL58, tL59, tL60, tL61, tL62, tL63, tL64, tL65, tL66, tL67, tL68, tL69, tL70, tL71, tL72, tL73, tL74, tL75, tL76, tL77, tL78, tL79, tL80, tL81, tL82, tL83, tL84, tL85, tL86, tL87]; omega)) (by decide)) (k := ?_)
  rintro r_ w3 ⟨e_, x3⟩
  rw [e_]
  clear e_
  obtain ⟨_, ab3⟩ := x3.at
  refine tX16_text_99 (hd := (by omega)) (ha := (by first | assumption | (repeat (first | assumption | exact At.set_eq2 (by first | omega | (simp only [hset, hnew]; omega) | rfl | decide) | exact At.new_eq2 _ _ (by first | omega | (simp only [hset, hnew]; omega) | rfl | decide) | refine At.set_ne ?_ (by first | omega | (simp only [hset, hnew]; omega) | rfl | decide) | refine At.new_ne ?_)))) (call := s_bStr 20 (d := 6) (by decide) x3 (by have := dgs_le n; first | decide | (simp only [List.length_append, List.length_nil, List.length_cons, txt_len, nam_len, tL40, tL41, tL42, tL43, tL44, tL45, tL46, tL47, tL48, tL49, tL50, tL51, tL52, tL53, tL54, tL55, tL56, tL57, tL58, tL59, tL60, tL61, tL62, tL63, tL64, tL65, tL66, tL67, tL68, tL69, tL70, tL71, tL72, tL73, tL74, tL75, tL76, tL77, tL78, tL79, tL80, tL81, tL82, tL83, tL84, tL85, tL86, tL87]; omega))) (k := ?_)
  rintro r_ w4 ⟨st_, -, c_⟩
  refine tX16_text_102  (hP := ?_)
  have eX : lfX (0, n) = [] ++ txt 71 ++ dgs n := by
    show dgs n = _
    rfl
  exact ⟨_, rfl, by rw [eX]; exact st_, c_.sub (Nat.le_refl _) (Nat.le_refl _) (by decide) (by decide)⟩
theorem s_tx_beans (hd : 8 ≤ d) {a n : Nat} (hn : n < 20) (q : NdR h a 2 n none none) : RQ G mX16_text d 0 [some (.ref a)] [] h (Rr fun r h1 => StR h1 r (lfX (2, n)) ∧ Ch h h1 0 0 20 400) := by
  have q2 := q.2
  refine tX16_text_0  (r := ?_)
  refine tX16_text_1 (ha := (by first | assumption | (repeat (first | assumption | exact At.set_eq2 (by first | omega | (simp only [hset, hnew]; omega) | rfl | decide) | exact At.new_eq2 _ _ (by first | omega | (simp only [hset, hnew]; omega) | rfl | decide) | refine At.set_ne ?_ (by first | omega | (simp only [hset, hnew]; omega) | rfl | decide) | refine At.new_ne ?_)))) (hv := rfl) (r := ?_)
  refine tX16_text_4 (n := 2) (hn := (by decide)) (r := ?_)
  show RQ _ _ _ 112 _ _ _ _
  refine tX16_text_112  (r := ?_)
  refine tX16_text_115  (r := ?_)
  refine tX16_text_116 (hd := (by omega)) (call := s_bInit (d := 6) (h0 := h) (by decide)) (k := ?_)
  rintro w1 x1
  obtain ⟨_, ab1⟩ := x1.at
  have kp1 := x1.kp
  refine tX16_text_119  (r := ?_)
  
  refine tX16_text_121 (hd := (by omega)) (ha := (by first | assumption | (repeat (first | assumption | exact At.set_eq2 (by first | omega | (simp only [hset, hnew]; omega) | rfl | decide) | exact At.new_eq2 _ _ (by first | omega | (simp only [hset, hnew]; omega) | rfl | decide) | refine At.set_ne ?_ (by first | omega | (simp only [hset, hnew]; omega) | rfl | decide) | refine At.new_ne ?_)))) (call := s_bApp 20 (d := 6) (by decide) x1 (StR.old (i := 72) (by decide)) (by first | decide | (simp only [List.length_append, List.length_nil, List.length_cons, txt_len, nam_len, tL40, tL41, tL42, tL43, tL44, tL45, tL46, tL47, tL48, tL49, tL50, tL51, tL52, tL53, tL54, tL55, tL56, tL57, tL58, tL59, tL60, tL61, tL62, tL63, tL64, tL65, tL66, tL67, tL68, tL69, tL70, tL71, tL72, tL73, tL74, tL75, tL76, tL77, tL78, tL79, tL80, tL81, tL82, tL83, tL84, tL85, tL86, tL87]; omega)) (by decide)) (k := ?_)
  rintro r_ w2 ⟨e_, x2⟩
  rw [e_]
  clear e_
  obtain ⟨_, ab2⟩ := x2.at
  have kp2 := x2.kp
  refine tX16_text_124  (r := ?_)
  refine tX16_text_125 (ha := (kp2 _ _ q.1 q.2 (imm14 _))) (hv := rfl) (r := ?_)
  refine tX16_text_128 (hd := (by omega)) (call := s_name (d := 7) (by decide) (k := n) (by omega)) (k := ?_)
  rintro r3 w3 ⟨y3, c3⟩
  have x3 := x2.keep c3
  obtain ⟨_, ab3⟩ := x3.at
  have kp3 := x3.kp
  
  refine tX16_text_131 (hd := (by omega)) (ha := (by first | assumption | (repeat (first | assumption | exact At.set_eq2 (by first | omega | (simp only [hset, hnew]; omega) | rfl | decide) | exact At.new_eq2 _ _ (by first | omega | (simp only [hset, hnew]; omega) | rfl | decide) | refine At.set_ne ?_ (by first | omega | (simp only [hset, hnew]; omega) | rfl | decide) | refine At.new_ne ?_)))) (call := s_bApp 20 (d := 6) (by decide) x3 y3 (by first | decide | (simp only [List.length_append, List.length_nil, List.length_cons, txt_len, nam_len, tL40, tL41, tL42, tL43, tL44, tL45, tL46, tL47, tL48, tL49, tL50, tL51, tL52, tL53, tL54, tL55, tL56, tL57, tL58, tL59, tL60, tL61, tL62, tL63, tL64, tL65, tL66, tL67, tL68, tL69, tL70, tL71, tL72, tL73, tL74, tL75, tL76, tL77, tL78, tL79, tL80, tL81, tL82, tL83, tL84, tL85, tL86, tL87]; omega)) (by decide)) (k := ?_)
  rintro r_ w4 ⟨e_, x4⟩
  rw [e_]
  clear e_
  obtain ⟨_, ab4⟩ := x4.at
  have kp4 := x4.kp
  refine tX16_text_134 (hd := (by omega)) (ha := (by first | assumption | (repeat (first | assumption | exact At.set_eq2 (by first | omega | (simp only [hset, hnew]; omega) | rfl | decide) | exact At.new_eq2 _ _ (by first | omega | (simp only [hset, hnew]; omega) | rfl | decide) | refine At.set_ne ?_ (by first | omega | (simp only [hset, hnew]; omega) | rfl | decide) | refine At.new_ne ?_)))) (call := s_bStr 20 (d := 6) (by decide) x4 (by first | decide | (simp only [List.length_append, List.length_nil, List.length_cons, txt_len, nam_len, tL40, tL41, tL42, tL43, tL44, tL45, tL46, tL47, tL48, tL49, tL50, tL51, tL52, tL53, tL54, tL55, tL56, tL57, tL58, tL59, tL60, tL61, tL62, tL63, tL64, tL65, tL66, tL67, tL68, tL69, tL70, tL71, tL72, tL73, tL74, tL75, tL76, tL77, tL78, tL79, tL80, tL81, tL82, tL83, tL84, tL85, tL86, tL87]; omega))) (k := ?_)
  rintro r_ w5 ⟨st_, -, c_⟩
  refine tX16_text_137  (hP := ?_)
  have eX : lfX (2, n) = [] ++ txt 72 ++ nam n := rfl
  exact ⟨_, rfl, by rw [eX]; exact st_, c_.sub (Nat.le_refl _) (Nat.le_refl _) (by decide) (by decide)⟩
theorem s_tx_seats (hd : 8 ≤ d) {a n : Nat} (hn : n < 20) (q : NdR h a 3 n none none) : RQ G mX16_text d 0 [some (.ref a)] [] h (Rr fun r h1 => StR h1 r (lfX (3, n)) ∧ Ch h h1 0 0 20 400) := by
  have q2 := q.2
  refine tX16_text_0  (r := ?_)
  refine tX16_text_1 (ha := (by first | assumption | (repeat (first | assumption | exact At.set_eq2 (by first | omega | (simp only [hset, hnew]; omega) | rfl | decide) | exact At.new_eq2 _ _ (by first | omega | (simp only [hset, hnew]; omega) | rfl | decide) | refine At.set_ne ?_ (by first | omega | (simp only [hset, hnew]; omega) | rfl | decide) | refine At.new_ne ?_)))) (hv := rfl) (r := ?_)
  refine tX16_text_4 (n := 3) (hn := (by decide)) (r := ?_)
  show RQ _ _ _ 138 _ _ _ _
  refine tX16_text_138  (r := ?_)
  refine tX16_text_141  (r := ?_)
  refine tX16_text_142 (hd := (by omega)) (call := s_bInit (d := 6) (h0 := h) (by decide)) (k := ?_)
  rintro w1 x1
  obtain ⟨_, ab1⟩ := x1.at
  have kp1 := x1.kp
  refine tX16_text_145  (r := ?_)
  
  refine tX16_text_147 (hd := (by omega)) (ha := (by first | assumption | (repeat (first | assumption | exact At.set_eq2 (by first | omega | (simp only [hset, hnew]; omega) | rfl | decide) | exact At.new_eq2 _ _ (by first | omega | (simp only [hset, hnew]; omega) | rfl | decide) | refine At.set_ne ?_ (by first | omega | (simp only [hset, hnew]; omega) | rfl | decide) | refine At.new_ne ?_)))) (call := s_bApp 20 (d := 6) (by decide) x1 (StR.old (i := 73) (by decide)) (by first | decide | (simp only [List.length_append, List.length_nil, List.length_cons, txt_len, nam_len, tL40, tL41, tL42, tL43, tL44, tL45, tL46, tL47, tL48, tL49, tL50, tL51, tL52, tL53, tL54, tL55, tL56, tL57, tL58, tL59, tL60, tL61, tL62, tL63, tL64, tL65, tL66, tL67, tL68, tL69, tL70, tL71, tL72, tL73, tL74, tL75, tL76, tL77, tL78, tL79, tL80, tL81, tL82, tL83, tL84, tL85, tL86, tL87]; omega)) (by decide)) (k := ?_)
  rintro r_ w2 ⟨e_, x2⟩
  rw [e_]
  clear e_
  obtain ⟨_, ab2⟩ := x2.at
  have kp2 := x2.kp
  refine tX16_text_150  (r := ?_)
  refine tX16_text_151 (ha := (kp2 _ _ q.1 q.2 (imm14 _))) (hv := rfl) (r := ?_)
  refine tX16_text_154 (hd := (by omega)) (call := s_name (d := 7) (by decide) (k := n) (by omega)) (k := ?_)
  rintro r3 w3 ⟨y3, c3⟩
  have x3 := x2.keep c3
  obtain ⟨_, ab3⟩ := x3.at
  have kp3 := x3.kp
  
  refine tX16_text_157 (hd := (by omega)) (ha := (by first | assumption | (repeat (first | assumption | exact At.set_eq2 (by first | omega | (simp only [hset, hnew]; omega) | rfl | decide) | exact At.new_eq2 _ _ (by first | omega | (simp only [hset, hnew]; omega) | rfl | decide) | refine At.set_ne ?_ (by first | omega | (simp only [hset, hnew]; omega) | rfl | decide) | refine At.new_ne ?_)))) (call := s_bApp 20 (d := 6) (by decide) x3 y3 (by first | decide | (simp only [List.length_append, List.length_nil, List.length_cons, txt_len, nam_len, tL40, tL41, tL42, tL43, tL44, tL45, tL46, tL47, tL48, tL49, tL50, tL51, tL52, tL53, tL54, tL55, tL56, tL57, tL58, tL59, tL60, tL61, tL62, tL63, tL64, tL65, tL66, tL67, tL68, tL69, tL70, tL71, tL72, tL73, tL74, tL75, tL76, tL77, tL78, tL79, tL80, tL81, tL82, tL83, tL84, tL85, tL86, tL87]; omega)) (by decide)) (k := ?_)
  rintro r_ w4 ⟨e_, x4⟩
  rw [e_]
  clear e_
  obtain ⟨_, ab4⟩ := x4.at
  have kp4 := x4.kp
  refine tX16_text_160 (hd := (by omega)) (ha := (by first | assumption | (repeat (first | assumption | exact At.set_eq2 (by first | omega | (simp only [hset, hnew]; omega) | rfl | decide) | exact At.new_eq2 _ _ (by first | omega | (simp only [hset, hnew]; omega) | rfl | decide) | refine At.set_ne ?_ (by first | omega | (simp only [hset, hnew]; omega) | rfl | decide) | refine At.new_ne ?_)))) (call := s_bStr 20 (d := 6) (by decide) x4 (by first | decide | (simp only [List.length_append, List.length_nil, List.length_cons, txt_len, nam_len, tL40, tL41, tL42, tL43, tL44, tL45, tL46, tL47, tL48, tL49, tL50, tL51, tL52, tL53, tL54, tL55, tL56, tL57, tL58, tL59, tL60, tL61, tL62, tL63, tL64, tL65, tL66, tL67, tL68, tL69, tL70, tL71, tL72, tL73, tL74, tL75, tL76, tL77, tL78, tL79, tL80, tL81, tL82, tL83, tL84, tL85, tL86, tL87]; omega))) (k := ?_)
  rintro r_ w5 ⟨st_, -, c_⟩
  refine tX16_text_163  (hP := ?_)
  have eX : lfX (3, n) = [] ++ txt 73 ++ nam n := rfl
  exact ⟨_, rfl, by rw [eX]; exact st_, c_.sub (Nat.le_refl _) (Nat.le_refl _) (by decide) (by decide)⟩
theorem s_tx_first (hd : 8 ≤ d) {a n : Nat} (hn : n < 20) (q : NdR h a 10 n none none) : RQ G mX16_text d 0 [some (.ref a)] [] h (Rr fun r h1 => StR h1 r (t0X (.inl (10, n))) ∧ Ch h h1 0 0 20 400) := by
  have q2 := q.2
  refine tX16_text_0  (r := ?_)
  refine tX16_text_1 (ha := (by first | assumption | (repeat (first | assumption | exact At.set_eq2 (by first | omega | (simp only [hset, hnew]; omega) | rfl | decide) | exact At.new_eq2 _ _ (by first | omega | (simp only [hset, hnew]; omega) | rfl | decide) | refine At.set_ne ?_ (by first | omega | (simp only [hset, hnew]; omega) | rfl | decide) | refine At.new_ne ?_)))) (hv := rfl) (r := ?_)
  refine tX16_text_4 (n := 10) (hn := (by decide)) (r := ?_)
  show RQ _ _ _ 164 _ _ _ _
  refine tX16_text_164  (r := ?_)
  refine tX16_text_167  (r := ?_)
  refine tX16_text_168 (hd := (by omega)) (call := s_bInit (d := 6) (h0 := h) (by decide)) (k := ?_)
  rintro w1 x1
  obtain ⟨_, ab1⟩ := x1.at
  have kp1 := x1.kp
  refine tX16_text_171  (r := ?_)
  
  refine tX16_text_173 (hd := (by omega)) (ha := (by first | assumption | (repeat (first | assumption | exact At.set_eq2 (by first | omega | (simp only [hset, hnew]; omega) | rfl | decide) | exact At.new_eq2 _ _ (by first | omega | (simp only [hset, hnew]; omega) | rfl | decide) | refine At.set_ne ?_ (by first | omega | (simp only [hset, hnew]; omega) | rfl | decide) | refine At.new_ne ?_)))) (call := s_bApp 20 (d := 6) (by decide) x1 (StR.old (i := 74) (by decide)) (by first | decide | (simp only [List.length_append, List.length_nil, List.length_cons, txt_len, nam_len, tL40, tL41, tL42, tL43, tL44, tL45, tL46, tL47, tL48, tL49, tL50, tL51, tL52, tL53, tL54, tL55, tL56, tL57, tL58, tL59, tL60, tL61, tL62, tL63, tL64, tL65, tL66, tL67, tL68, tL69, tL70, tL71, tL72, tL73, tL74, tL75, tL76, tL77, tL78, tL79, tL80, tL81, tL82, tL83, tL84, tL85, tL86, tL87]; omega)) (by decide)) (k := ?_)
  rintro r_ w2 ⟨e_, x2⟩
  rw [e_]
  clear e_
  obtain ⟨_, ab2⟩ := x2.at
  have kp2 := x2.kp
  refine tX16_text_176  (r := ?_)
  refine tX16_text_177 (ha := (kp2 _ _ q.1 q.2 (imm14 _))) (hv := rfl) (r := ?_)
  refine tX16_text_180 (hd := (by omega)) (call := s_name (d := 7) (by decide) (k := n) (by omega)) (k := ?_)
  rintro r3 w3 ⟨y3, c3⟩
  have x3 := x2.keep c3
  obtain ⟨_, ab3⟩ := x3.at
  have kp3 := x3.kp
  
  refine tX16_text_183 (hd := (by omega)) (ha := (by first | assumption | (repeat (first | assumption | exact At.set_eq2 (by first | omega | (simp only [hset, hnew]; omega) | rfl | decide) | exact At.new_eq2 _ _ (by first | omega | (simp only [hset, hnew]; omega) | rfl | decide) | refine At.set_ne ?_ (by first | omega | (simp only [hset, hnew]; omega) | rfl | decide) | refine At.new_ne ?_)))) (call := s_bApp 20 (d := 6) (by decide) x3 y3 (by first | decide | (simp only [List.length_append, List.length_nil, List.length_cons, txt_len, nam_len, tL40, tL41, tL42, tL43, tL44, tL45, tL46, tL47, tL48, tL49, tL50, tL51, tL52, tL53, tL54, tL55, tL56, tL57, tL58, tL59, tL60, tL61, tL62, tL63, tL64, tL65, tL66, tL67, tL68, tL69, tL70, tL71, tL72, tL73, tL74, tL75, tL76, tL77, tL78, tL79, tL80, tL81, tL82, tL83, tL84, tL85, tL86, tL87]; omega)) (by decide)) (k := ?_)
  rintro r_ w4 ⟨e_, x4⟩
  rw [e_]
  clear e_
  obtain ⟨_, ab4⟩ := x4.at
  have kp4 := x4.kp
  refine tX16_text_186 (hd := (by omega)) (ha := (by first | assumption | (repeat (first | assumption | exact At.set_eq2 (by first | omega | (simp only [hset, hnew]; omega) | rfl | decide) | exact At.new_eq2 _ _ (by first | omega | (simp only [hset, hnew]; omega) | rfl | decide) | refine At.set_ne ?_ (by first | omega | (simp only [hset, hnew]; omega) | rfl | decide) | refine At.new_ne ?_)))) (call := s_bStr 20 (d := 6) (by decide) x4 (by first | decide | (simp only [List.length_append, List.length_nil, List.length_cons, txt_len, nam_len, tL40, tL41, tL42, tL43, tL44, tL45, tL46, tL47, tL48, tL49, tL50, tL51, tL52, tL53, tL54, tL55, tL56, tL57, tL58, tL59, tL60, tL61, tL62, tL63, tL64, tL65, tL66, tL67, tL68, tL69, tL70, tL71, tL72, tL73, tL74, tL75, tL76, tL77, tL78, tL79, tL80, tL81, tL82, tL83, tL84, tL85, tL86, tL87]; omega))) (k := ?_)
  rintro r_ w5 ⟨st_, -, c_⟩
  refine tX16_text_189  (hP := ?_)
  have eX : t0X (.inl (10, n)) = [] ++ txt 74 ++ nam n := rfl
  exact ⟨_, rfl, by rw [eX]; exact st_, c_.sub (Nat.le_refl _) (Nat.le_refl _) (by decide) (by decide)⟩
theorem s_tx_allied (hd : 8 ≤ d) {a n : Nat} (hn : n < 20) (q : NdR h a 11 n none none) : RQ G mX16_text d 0 [some (.ref a)] [] h (Rr fun r h1 => StR h1 r (t0X (.inl (11, n))) ∧ Ch h h1 0 0 20 400) := by
  have q2 := q.2
  refine tX16_text_0  (r := ?_)
  refine tX16_text_1 (ha := (by first | assumption | (repeat (first | assumption | exact At.set_eq2 (by first | omega | (simp only [hset, hnew]; omega) | rfl | decide) | exact At.new_eq2 _ _ (by first | omega | (simp only [hset, hnew]; omega) | rfl | decide) | refine At.set_ne ?_ (by first | omega | (simp only [hset, hnew]; omega) | rfl | decide) | refine At.new_ne ?_)))) (hv := rfl) (r := ?_)
  refine tX16_text_4 (n := 11) (hn := (by decide)) (r := ?_)
  show RQ _ _ _ 190 _ _ _ _
  refine tX16_text_190  (r := ?_)
  refine tX16_text_193  (r := ?_)
  refine tX16_text_194 (hd := (by omega)) (call := s_bInit (d := 6) (h0 := h) (by decide)) (k := ?_)
  rintro w1 x1
  obtain ⟨_, ab1⟩ := x1.at
  have kp1 := x1.kp
  refine tX16_text_197  (r := ?_)
  
  refine tX16_text_199 (hd := (by omega)) (ha := (by first | assumption | (repeat (first | assumption | exact At.set_eq2 (by first | omega | (simp only [hset, hnew]; omega) | rfl | decide) | exact At.new_eq2 _ _ (by first | omega | (simp only [hset, hnew]; omega) | rfl | decide) | refine At.set_ne ?_ (by first | omega | (simp only [hset, hnew]; omega) | rfl | decide) | refine At.new_ne ?_)))) (call := s_bApp 20 (d := 6) (by decide) x1 (StR.old (i := 75) (by decide)) (by first | decide | (simp only [List.length_append, List.length_nil, List.length_cons, txt_len, nam_len, tL40, tL41, tL42, tL43, tL44, tL45, tL46, tL47, tL48, tL49, tL50, tL51, tL52, tL53, tL54, tL55, tL56, tL57, tL58, tL59, tL60, tL61, tL62, tL63, tL64, tL65, tL66, tL67, tL68, tL69, tL70, tL71, tL72, tL73, tL74, tL75, tL76, tL77, tL78, tL79, tL80, tL81, tL82, tL83, tL84, tL85, tL86, tL87]; omega)) (by decide)) (k := ?_)
  rintro r_ w2 ⟨e_, x2⟩
  rw [e_]
  clear e_
  obtain ⟨_, ab2⟩ := x2.at
  have kp2 := x2.kp
  refine tX16_text_202  (r := ?_)
  refine tX16_text_203 (ha := (kp2 _ _ q.1 q.2 (imm14 _))) (hv := rfl) (r := ?_)
  refine tX16_text_206 (hd := (by omega)) (call := s_name (d := 7) (by decide) (k := n) (by omega)) (k := ?_)
  rintro r3 w3 ⟨y3, c3⟩
  have x3 := x2.keep c3
  obtain ⟨_, ab3⟩ := x3.at
  have kp3 := x3.kp
  
  refine tX16_text_209 (hd := (by omega)) (ha := (by first | assumption | (repeat (first | assumption | exact At.set_eq2 (by first | omega | (simp only [hset, hnew]; omega) | rfl | decide) | exact At.new_eq2 _ _ (by first | omega | (simp only [hset, hnew]; omega) | rfl | decide) | refine At.set_ne ?_ (by first | omega | (simp only [hset, hnew]; omega) | rfl | decide) | refine At.new_ne ?_)))) (call := s_bApp 20 (d := 6) (by decide) x3 y3 (by first | decide | (simp only [List.length_append, List.length_nil, List.length_cons, txt_len, nam_len, tL40, tL41, tL42, tL43, tL44, tL45, tL46, tL47, tL48, tL49, tL50, tL51, tL52, tL53, tL54, tL55, tL56, tL57, tL58, tL59, tL60, tL61, tL62, tL63, tL64, tL65, tL66, tL67, tL68, tL69, tL70, tL71, tL72, tL73, tL74, tL75, tL76, tL77, tL78, tL79, tL80, tL81, tL82, tL83, tL84, tL85, tL86, tL87]; omega)) (by decide)) (k := ?_)
  rintro r_ w4 ⟨e_, x4⟩
  rw [e_]
  clear e_
  obtain ⟨_, ab4⟩ := x4.at
  have kp4 := x4.kp
  refine tX16_text_212 (hd := (by omega)) (ha := (by first | assumption | (repeat (first | assumption | exact At.set_eq2 (by first | omega | (simp only [hset, hnew]; omega) | rfl | decide) | exact At.new_eq2 _ _ (by first | omega | (simp only [hset, hnew]; omega) | rfl | decide) | refine At.set_ne ?_ (by first | omega | (simp only [hset, hnew]; omega) | rfl | decide) | refine At.new_ne ?_)))) (call := s_bStr 20 (d := 6) (by decide) x4 (by first | decide | (simp only [List.length_append, List.length_nil, List.length_cons, txt_len, nam_len, tL40, tL41, tL42, tL43, tL44, tL45, tL46, tL47, tL48, tL49, tL50, tL51, tL52, tL53, tL54, tL55, tL56, tL57, tL58, tL59, tL60, tL61, tL62, tL63, tL64, tL65, tL66, tL67, tL68, tL69, tL70, tL71, tL72, tL73, tL74, tL75, tL76, tL77, tL78, tL79, tL80, tL81, tL82, tL83, tL84, tL85, tL86, tL87]; omega))) (k := ?_)
  rintro r_ w5 ⟨st_, -, c_⟩
  refine tX16_text_215  (hP := ?_)
  have eX : t0X (.inl (11, n)) = [] ++ txt 75 ++ nam n := rfl
  exact ⟨_, rfl, by rw [eX]; exact st_, c_.sub (Nat.le_refl _) (Nat.le_refl _) (by decide) (by decide)⟩
theorem s_tx_word (hd : 8 ≤ d) {a n : Nat} (hn : n < 3) (q : NdR h a 1 n none none) : RQ G mX16_text d 0 [some (.ref a)] [] h (Rr fun r h1 => StR h1 r (lfX (1, n)) ∧ Ch h h1 0 0 20 400) := by
  have q2 := q.2
  refine tX16_text_0  (r := ?_)
  refine tX16_text_1 (ha := (by first | assumption | (repeat (first | assumption | exact At.set_eq2 (by first | omega | (simp only [hset, hnew]; omega) | rfl | decide) | exact At.new_eq2 _ _ (by first | omega | (simp only [hset, hnew]; omega) | rfl | decide) | refine At.set_ne ?_ (by first | omega | (simp only [hset, hnew]; omega) | rfl | decide) | refine At.new_ne ?_)))) (hv := rfl) (r := ?_)
  refine tX16_text_4 (n := 1) (hn := (by decide)) (r := ?_)
  show RQ _ _ _ 103 _ _ _ _
  refine tX16_text_103  (r := ?_)
  refine tX16_text_106  (r := ?_)
  refine tX16_text_107 (ha := (by first | assumption | (repeat (first | assumption | exact At.set_eq2 (by first | omega | (simp only [hset, hnew]; omega) | rfl | decide) | exact At.new_eq2 _ _ (by first | omega | (simp only [hset, hnew]; omega) | rfl | decide) | refine At.set_ne ?_ (by first | omega | (simp only [hset, hnew]; omega) | rfl | decide) | refine At.new_ne ?_)))) (hv := rfl) (r := ?_)
  refine tX16_text_110w (hx := rfl) (hj := hn) (r := ?_)
  refine tX16_text_111  (hP := ?_)
  exact ⟨_, rfl, StR.old (WRn_or n hn).1, Ch.rf _ _ _ _ _⟩
theorem s_tx_leaf (hd : 8 ≤ d) (l6 : la ≤ 6) {a : Nat} {l : ELf} (ok : okL la l) (q : LfR h a l) : RQ G mX16_text d 0 [some (.ref a)] [] h (Rr fun r h1 => StR h1 r (lfX l) ∧ Ch h h1 0 0 20 400) := by
  obtain ⟨s, n⟩ := l
  rcases ok with ⟨e, h2⟩ | ⟨e, h2⟩ | ⟨e | e, h2⟩ <;> (dsimp only at e h2; subst e)
  · exact s_tx_num hd h2 q
  · exact s_tx_word hd h2 q
  · exact s_tx_beans hd (by omega) q
  · exact s_tx_seats hd (by omega) q
theorem s_tx_sign (hd : 10 ≤ d) (l6 : la ≤ 6) {a s x y : Nat} {l m : ELf} (hs : 4 ≤ s ∧ s ≤ 6) (ok1 : okL la l) (ok2 : okL la m) (q : NdR h a s 0 (some x) (some y)) (qx : LfR h x l) (qy : LfR h y m) : RQ G mX16_text d 0 [some (.ref a)] [] h (Rr fun r h1 => StR h1 r (vaX (.inr (s, l, m))) ∧ Ch h h1 0 0 60 1500) := by
  have q2 := q.2
  have len1 := lfX_len ok1
  have len2 := lfX_len ok2
  have lsg := (SGn_or (s - 4) (by omega)).2
  have hsw : sw_X16_text s = 334 := by
    have e3 : s = 4 ∨ s = 5 ∨ s = 6 := by omega
    rcases e3 with rfl | rfl | rfl <;> rfl
  refine tX16_text_0  (r := ?_)
  refine tX16_text_1 (ha := (by first | assumption | (repeat (first | assumption | exact At.set_eq2 (by first | omega | (simp only [hset, hnew]; omega) | rfl | decide) | exact At.new_eq2 _ _ (by first | omega | (simp only [hset, hnew]; omega) | rfl | decide) | refine At.set_ne ?_ (by first | omega | (simp only [hset, hnew]; omega) | rfl | decide) | refine At.new_ne ?_)))) (hv := rfl) (r := ?_)
  refine tX16_text_4 (n := s) (hn := (by omega)) (r := ?_)
  rw [show sw_X16_text s = 334 from hsw]
  refine tX16_text_334  (r := ?_)
  refine tX16_text_335 (ha := (by first | assumption | (repeat (first | assumption | exact At.set_eq2 (by first | omega | (simp only [hset, hnew]; omega) | rfl | decide) | exact At.new_eq2 _ _ (by first | omega | (simp only [hset, hnew]; omega) | rfl | decide) | refine At.set_ne ?_ (by first | omega | (simp only [hset, hnew]; omega) | rfl | decide) | refine At.new_ne ?_)))) (hv := rfl) (r := ?_)
  refine tX16_text_338  (r := ?_)
  refine tX16_text_340  (kt := fun c_ => by exfalso; exact absurd ((nI_leI (by decide) (by omega)).mp c_) (by omega)) (kf := fun _ => ?_)
  refine tX16_text_343  (r := ?_)
  refine tX16_text_346  (r := ?_)
  refine tX16_text_347 (hd := (by omega)) (call := s_bInit (d := 6) (h0 := h) (by decide)) (k := ?_)
  rintro w1 x1
  obtain ⟨_, ab1⟩ := x1.at
  have kp1 := x1.kp
  refine tX16_text_350  (r := ?_)
  
  refine tX16_text_352 (hd := (by omega)) (ha := (by first | assumption | (repeat (first | assumption | exact At.set_eq2 (by first | omega | (simp only [hset, hnew]; omega) | rfl | decide) | exact At.new_eq2 _ _ (by first | omega | (simp only [hset, hnew]; omega) | rfl | decide) | refine At.set_ne ?_ (by first | omega | (simp only [hset, hnew]; omega) | rfl | decide) | refine At.new_ne ?_)))) (call := s_bApp 40 (d := 6) (by decide) x1 (StR.old (i := 81) (by decide)) (by first | decide | (simp only [List.length_append, List.length_nil, List.length_cons, txt_len, nam_len, tL40, tL41, tL42, tL43, tL44, tL45, tL46, tL47, tL48, tL49, tL50, tL51, tL52, tL53, tL54, tL55, tL56, tL57, tL58, tL59, tL60, tL61, tL62, tL63, tL64, tL65, tL66, tL67, tL68, tL69, tL70, tL71, tL72, tL73, tL74, tL75, tL76, tL77, tL78, tL79, tL80, tL81, tL82, tL83, tL84, tL85, tL86, tL87]; omega)) (by decide)) (k := ?_)
  rintro r_ w2 ⟨e_, x2⟩
  rw [e_]
  clear e_
  obtain ⟨_, ab2⟩ := x2.at
  have kp2 := x2.kp
  refine tX16_text_355  (r := ?_)
  refine tX16_text_356 (ha := (kp2 _ _ q.1 q.2 (imm14 _))) (hv := rfl) (r := ?_)
  refine tX16_text_359 (hd := (by omega)) (ha := (qx.kp kp2).2) (call := s_tx_leaf (d := 8) (by decide) l6 ok1 (qx.kp kp2)) (k := ?_)
  rintro r3 w3 ⟨y3, c3⟩
  have x3 := x2.keep c3
  obtain ⟨_, ab3⟩ := x3.at
  have kp3 := x3.kp
  
  refine tX16_text_362 (hd := (by omega)) (ha := (by first | assumption | (repeat (first | assumption | exact At.set_eq2 (by first | omega | (simp only [hset, hnew]; omega) | rfl | decide) | exact At.new_eq2 _ _ (by first | omega | (simp only [hset, hnew]; omega) | rfl | decide) | refine At.set_ne ?_ (by first | omega | (simp only [hset, hnew]; omega) | rfl | decide) | refine At.new_ne ?_)))) (call := s_bApp 40 (d := 6) (by decide) x3 y3 (by first | decide | (simp only [List.length_append, List.length_nil, List.length_cons, txt_len, nam_len, tL40, tL41, tL42, tL43, tL44, tL45, tL46, tL47, tL48, tL49, tL50, tL51, tL52, tL53, tL54, tL55, tL56, tL57, tL58, tL59, tL60, tL61, tL62, tL63, tL64, tL65, tL66, tL67, tL68, tL69, tL70, tL71, tL72, tL73, tL74, tL75, tL76, tL77, tL78, tL79, tL80, tL81, tL82, tL83, tL84, tL85, tL86, tL87]; omega)) (by decide)) (k := ?_)
  rintro r_ w4 ⟨e_, x4⟩
  rw [e_]
  clear e_
  obtain ⟨_, ab4⟩ := x4.at
  have kp4 := x4.kp
  refine tX16_text_365  (r := ?_)
  
  refine tX16_text_367 (hd := (by omega)) (ha := (by first | assumption | (repeat (first | assumption | exact At.set_eq2 (by first | omega | (simp only [hset, hnew]; omega) | rfl | decide) | exact At.new_eq2 _ _ (by first | omega | (simp only [hset, hnew]; omega) | rfl | decide) | refine At.set_ne ?_ (by first | omega | (simp only [hset, hnew]; omega) | rfl | decide) | refine At.new_ne ?_)))) (call := s_bApp 40 (d := 6) (by decide) x4 (StR.old (i := 82) (by decide)) (by first | decide | (simp only [List.length_append, List.length_nil, List.length_cons, txt_len, nam_len, tL40, tL41, tL42, tL43, tL44, tL45, tL46, tL47, tL48, tL49, tL50, tL51, tL52, tL53, tL54, tL55, tL56, tL57, tL58, tL59, tL60, tL61, tL62, tL63, tL64, tL65, tL66, tL67, tL68, tL69, tL70, tL71, tL72, tL73, tL74, tL75, tL76, tL77, tL78, tL79, tL80, tL81, tL82, tL83, tL84, tL85, tL86, tL87]; omega)) (by decide)) (k := ?_)
  rintro r_ w5 ⟨e_, x5⟩
  rw [e_]
  clear e_
  obtain ⟨_, ab5⟩ := x5.at
  have kp5 := x5.kp
  refine tX16_text_370  (r := ?_)
  refine tX16_text_373  (r := ?_)
  refine tX16_text_374 (ha := (kp5 _ _ q.1 q.2 (imm14 _))) (hv := rfl) (r := ?_)
  refine tX16_text_377  (r := ?_)
  refine tX16_text_378  (r := ?_)
  rw [show nI s - nI 4 = nI (s - 4) from pk_sub (by omega)]
  refine tX16_text_379s (hx := rfl) (hj := (by omega)) (r := ?_)
  
  refine tX16_text_380 (hd := (by omega)) (ha := (by first | assumption | (repeat (first | assumption | exact At.set_eq2 (by first | omega | (simp only [hset, hnew]; omega) | rfl | decide) | exact At.new_eq2 _ _ (by first | omega | (simp only [hset, hnew]; omega) | rfl | decide) | refine At.set_ne ?_ (by first | omega | (simp only [hset, hnew]; omega) | rfl | decide) | refine At.new_ne ?_)))) (call := s_bApp 40 (d := 6) (by decide) x5 (StR.old (SGn_or (s - 4) (by omega)).1) (by first | decide | (simp only [List.length_append, List.length_nil, List.length_cons, txt_len, nam_len, tL40, tL41, tL42, tL43, tL44, tL45, tL46, tL47, tL48, tL49, tL50, tL51, tL52, tL53, tL54, tL55, tL56, tL57, tL58, tL59, tL60, tL61, tL62, tL63, tL64, tL65, tL66, tL67, tL68, tL69, tL70, tL71, tL72, tL73, tL74, tL75, tL76, tL77, tL78, tL79, tL80, tL81, tL82, tL83, tL84, tL85, tL86, tL87]; omega)) (by decide)) (k := ?_)
  rintro r_ w6 ⟨e_, x6⟩
  rw [e_]
  clear e_
  obtain ⟨_, ab6⟩ := x6.at
  have kp6 := x6.kp
  refine tX16_text_383  (r := ?_)
  refine tX16_text_384 (ha := (kp6 _ _ q.1 q.2 (imm14 _))) (hv := rfl) (r := ?_)
  refine tX16_text_387 (hd := (by omega)) (ha := (qy.kp kp6).2) (call := s_tx_leaf (d := 8) (by decide) l6 ok2 (qy.kp kp6)) (k := ?_)
  rintro r7 w7 ⟨y7, c7⟩
  have x7 := x6.keep c7
  obtain ⟨_, ab7⟩ := x7.at
  have kp7 := x7.kp
  
  refine tX16_text_390 (hd := (by omega)) (ha := (by first | assumption | (repeat (first | assumption | exact At.set_eq2 (by first | omega | (simp only [hset, hnew]; omega) | rfl | decide) | exact At.new_eq2 _ _ (by first | omega | (simp only [hset, hnew]; omega) | rfl | decide) | refine At.set_ne ?_ (by first | omega | (simp only [hset, hnew]; omega) | rfl | decide) | refine At.new_ne ?_)))) (call := s_bApp 40 (d := 6) (by decide) x7 y7 (by first | decide | (simp only [List.length_append, List.length_nil, List.length_cons, txt_len, nam_len, tL40, tL41, tL42, tL43, tL44, tL45, tL46, tL47, tL48, tL49, tL50, tL51, tL52, tL53, tL54, tL55, tL56, tL57, tL58, tL59, tL60, tL61, tL62, tL63, tL64, tL65, tL66, tL67, tL68, tL69, tL70, tL71, tL72, tL73, tL74, tL75, tL76, tL77, tL78, tL79, tL80, tL81, tL82, tL83, tL84, tL85, tL86, tL87]; omega)) (by decide)) (k := ?_)
  rintro r_ w8 ⟨e_, x8⟩
  rw [e_]
  clear e_
  obtain ⟨_, ab8⟩ := x8.at
  have kp8 := x8.kp
  refine tX16_text_393  (r := ?_)
  
  refine tX16_text_395 (hd := (by omega)) (ha := (by first | assumption | (repeat (first | assumption | exact At.set_eq2 (by first | omega | (simp only [hset, hnew]; omega) | rfl | decide) | exact At.new_eq2 _ _ (by first | omega | (simp only [hset, hnew]; omega) | rfl | decide) | refine At.set_ne ?_ (by first | omega | (simp only [hset, hnew]; omega) | rfl | decide) | refine At.new_ne ?_)))) (call := s_bApp 40 (d := 6) (by decide) x8 (StR.old (i := 83) (by decide)) (by first | decide | (simp only [List.length_append, List.length_nil, List.length_cons, txt_len, nam_len, tL40, tL41, tL42, tL43, tL44, tL45, tL46, tL47, tL48, tL49, tL50, tL51, tL52, tL53, tL54, tL55, tL56, tL57, tL58, tL59, tL60, tL61, tL62, tL63, tL64, tL65, tL66, tL67, tL68, tL69, tL70, tL71, tL72, tL73, tL74, tL75, tL76, tL77, tL78, tL79, tL80, tL81, tL82, tL83, tL84, tL85, tL86, tL87]; omega)) (by decide)) (k := ?_)
  rintro r_ w9 ⟨e_, x9⟩
  rw [e_]
  clear e_
  obtain ⟨_, ab9⟩ := x9.at
  have kp9 := x9.kp
  refine tX16_text_398 (hd := (by omega)) (ha := (by first | assumption | (repeat (first | assumption | exact At.set_eq2 (by first | omega | (simp only [hset, hnew]; omega) | rfl | decide) | exact At.new_eq2 _ _ (by first | omega | (simp only [hset, hnew]; omega) | rfl | decide) | refine At.set_ne ?_ (by first | omega | (simp only [hset, hnew]; omega) | rfl | decide) | refine At.new_ne ?_)))) (call := s_bStr 40 (d := 6) (by decide) x9 (by first | decide | (simp only [List.length_append, List.length_nil, List.length_cons, txt_len, nam_len, tL40, tL41, tL42, tL43, tL44, tL45, tL46, tL47, tL48, tL49, tL50, tL51, tL52, tL53, tL54, tL55, tL56, tL57, tL58, tL59, tL60, tL61, tL62, tL63, tL64, tL65, tL66, tL67, tL68, tL69, tL70, tL71, tL72, tL73, tL74, tL75, tL76, tL77, tL78, tL79, tL80, tL81, tL82, tL83, tL84, tL85, tL86, tL87]; omega))) (k := ?_)
  rintro r_ w10 ⟨st_, -, c_⟩
  refine tX16_text_401 (r := ?_)
  refine tX16_text_447  (hP := ?_)
  have eX : vaX (.inr (s, l, m)) = [] ++ txt 81 ++ lfX l ++ txt 82 ++ txt (SGn (s - 4)) ++ lfX m ++ txt 83 := by
    simp only [vaX, List.append_assoc, List.nil_append]
  exact ⟨_, rfl, by rw [eX]; exact st_, c_.sub (Nat.le_refl _) (Nat.le_refl _) (by decide) (by decide)⟩
theorem s_tx_val (hd : 10 ≤ d) (l6 : la ≤ 6) {a : Nat} {e : EVa} (ok : okV la e) (q : VaR h a e) : RQ G mX16_text d 0 [some (.ref a)] [] h (Rr fun r h1 => StR h1 r (vaX e) ∧ Ch h h1 0 0 60 1500) := by
  match e, ok, q with
  | .inl l, ok, q => exact RQ.imp (s_tx_leaf (by omega) l6 ok q) (fun _ _ ⟨r, e, s, c⟩ => ⟨r, e, s, c.sub (Nat.le_refl _) (Nat.le_refl _) (by decide) (by decide)⟩)
  | .inr (s, l, m), ⟨hs, ok1, ok2⟩, ⟨x, y, q1, q2, q3⟩ => exact s_tx_sign hd l6 hs ok1 ok2 q1 q2 q3
theorem VaR.at {h : AH} {a : Nat} {e : EVa} (q : VaR h a e) : ∃ vs, At h a (.inr (14, vs)) := by
  match e, q with
  | .inl l, q => exact ⟨_, q.2⟩
  | .inr (s, l, m), ⟨x, y, q1, _, _⟩ => exact ⟨_, q1.2⟩
theorem T0R.at {h : AH} {a : Nat} {e : ET0} (q : T0R h a e) : ∃ vs, At h a (.inr (14, vs)) := by
  match e, q with
  | .inl (k, l), q => exact ⟨_, q.2⟩
  | .inr (s, l, m), ⟨x, y, q1, _, _⟩ => exact ⟨_, q1.2⟩
theorem T1R.at {h : AH} {a : Nat} {e : ET1} (q : T1R h a e) : ∃ vs, At h a (.inr (14, vs)) := by
  match e, q with
  | .inl t, q => exact T0R.at q
  | .inr (s, t, u), ⟨x, y, q1, _, _⟩ => exact ⟨_, q1.2⟩
theorem s_tx_cmp (hd : 12 ≤ d) (l6 : la ≤ 6) {a s x y : Nat} {l : EVa} {m : ELf} (hs : 7 ≤ s ∧ s ≤ 9) (ok1 : okV la l) (ok2 : okL la m) (q : NdR h a s 0 (some x) (some y)) (qx : VaR h x l) (qy : LfR h y m) : RQ G mX16_text d 0 [some (.ref a)] [] h (Rr fun r h1 => StR h1 r (t0X (.inr (s, l, m))) ∧ Ch h h1 0 0 100 2500) := by
  have q2 := q.2
  have len1 := vaX_len ok1
  have len2 := lfX_len ok2
  have lsg := (SGn_or (s - 4) (by omega)).2
  have hsw : sw_X16_text s = 334 := by
    have e3 : s = 7 ∨ s = 8 ∨ s = 9 := by omega
    rcases e3 with rfl | rfl | rfl <;> rfl
  refine tX16_text_0  (r := ?_)
  refine tX16_text_1 (ha := (by first | assumption | (repeat (first | assumption | exact At.set_eq2 (by first | omega | (simp only [hset, hnew]; omega) | rfl | decide) | exact At.new_eq2 _ _ (by first | omega | (simp only [hset, hnew]; omega) | rfl | decide) | refine At.set_ne ?_ (by first | omega | (simp only [hset, hnew]; omega) | rfl | decide) | refine At.new_ne ?_)))) (hv := rfl) (r := ?_)
  refine tX16_text_4 (n := s) (hn := (by omega)) (r := ?_)
  rw [show sw_X16_text s = 334 from hsw]
  refine tX16_text_334  (r := ?_)
  refine tX16_text_335 (ha := (by first | assumption | (repeat (first | assumption | exact At.set_eq2 (by first | omega | (simp only [hset, hnew]; omega) | rfl | decide) | exact At.new_eq2 _ _ (by first | omega | (simp only [hset, hnew]; omega) | rfl | decide) | refine At.set_ne ?_ (by first | omega | (simp only [hset, hnew]; omega) | rfl | decide) | refine At.new_ne ?_)))) (hv := rfl) (r := ?_)
  refine tX16_text_338  (r := ?_)
  refine tX16_text_340  (kf := fun c_ => by exfalso; exact c_ ((nI_leI (by decide) (by omega)).mpr (by omega))) (kt := fun _ => ?_)
  refine tX16_text_404  (r := ?_)
  refine tX16_text_407  (r := ?_)
  refine tX16_text_408 (hd := (by omega)) (call := s_bInit (d := 6) (h0 := h) (by decide)) (k := ?_)
  rintro w1 x1
  obtain ⟨_, ab1⟩ := x1.at
  have kp1 := x1.kp
  refine tX16_text_411  (r := ?_)
  refine tX16_text_412 (ha := (kp1 _ _ q.1 q.2 (imm14 _))) (hv := rfl) (r := ?_)
  obtain ⟨_, aq_⟩ := (qx.kp kp1).at
  refine tX16_text_415 (hd := (by omega)) (ha := aq_) (call := s_tx_val (d := 10) (by decide) l6 ok1 (qx.kp kp1)) (k := ?_)
  rintro r2 w2 ⟨y2, c2⟩
  have x2 := x1.keep c2
  obtain ⟨_, ab2⟩ := x2.at
  have kp2 := x2.kp
  
  refine tX16_text_418 (hd := (by omega)) (ha := (by first | assumption | (repeat (first | assumption | exact At.set_eq2 (by first | omega | (simp only [hset, hnew]; omega) | rfl | decide) | exact At.new_eq2 _ _ (by first | omega | (simp only [hset, hnew]; omega) | rfl | decide) | refine At.set_ne ?_ (by first | omega | (simp only [hset, hnew]; omega) | rfl | decide) | refine At.new_ne ?_)))) (call := s_bApp 60 (d := 6) (by decide) x2 y2 (by first | decide | (simp only [List.length_append, List.length_nil, List.length_cons, txt_len, nam_len, tL40, tL41, tL42, tL43, tL44, tL45, tL46, tL47, tL48, tL49, tL50, tL51, tL52, tL53, tL54, tL55, tL56, tL57, tL58, tL59, tL60, tL61, tL62, tL63, tL64, tL65, tL66, tL67, tL68, tL69, tL70, tL71, tL72, tL73, tL74, tL75, tL76, tL77, tL78, tL79, tL80, tL81, tL82, tL83, tL84, tL85, tL86, tL87]; omega)) (by decide)) (k := ?_)
  rintro r_ w3 ⟨e_, x3⟩
  rw [e_]
  clear e_
  obtain ⟨_, ab3⟩ := x3.at
  have kp3 := x3.kp
  refine tX16_text_421  (r := ?_)
  refine tX16_text_424  (r := ?_)
  refine tX16_text_425 (ha := (kp3 _ _ q.1 q.2 (imm14 _))) (hv := rfl) (r := ?_)
  refine tX16_text_428  (r := ?_)
  refine tX16_text_429  (r := ?_)
  rw [show nI s - nI 4 = nI (s - 4) from pk_sub (by omega)]
  refine tX16_text_430s (hx := rfl) (hj := (by omega)) (r := ?_)
  
  refine tX16_text_431 (hd := (by omega)) (ha := (by first | assumption | (repeat (first | assumption | exact At.set_eq2 (by first | omega | (simp only [hset, hnew]; omega) | rfl | decide) | exact At.new_eq2 _ _ (by first | omega | (simp only [hset, hnew]; omega) | rfl | decide) | refine At.set_ne ?_ (by first | omega | (simp only [hset, hnew]; omega) | rfl | decide) | refine At.new_ne ?_)))) (call := s_bApp 60 (d := 6) (by decide) x3 (StR.old (SGn_or (s - 4) (by omega)).1) (by first | decide | (simp only [List.length_append, List.length_nil, List.length_cons, txt_len, nam_len, tL40, tL41, tL42, tL43, tL44, tL45, tL46, tL47, tL48, tL49, tL50, tL51, tL52, tL53, tL54, tL55, tL56, tL57, tL58, tL59, tL60, tL61, tL62, tL63, tL64, tL65, tL66, tL67, tL68, tL69, tL70, tL71, tL72, tL73, tL74, tL75, tL76, tL77, tL78, tL79, tL80, tL81, tL82, tL83, tL84, tL85, tL86, tL87]; omega)) (by decide)) (k := ?_)
  rintro r_ w4 ⟨e_, x4⟩
  rw [e_]
  clear e_
  obtain ⟨_, ab4⟩ := x4.at
  have kp4 := x4.kp
  refine tX16_text_434  (r := ?_)
  refine tX16_text_435 (ha := (kp4 _ _ q.1 q.2 (imm14 _))) (hv := rfl) (r := ?_)
  refine tX16_text_438 (hd := (by omega)) (ha := (qy.kp kp4).2) (call := s_tx_leaf (d := 8) (by decide) l6 ok2 (qy.kp kp4)) (k := ?_)
  rintro r5 w5 ⟨y5, c5⟩
  have x5 := x4.keep c5
  obtain ⟨_, ab5⟩ := x5.at
  have kp5 := x5.kp
  
  refine tX16_text_441 (hd := (by omega)) (ha := (by first | assumption | (repeat (first | assumption | exact At.set_eq2 (by first | omega | (simp only [hset, hnew]; omega) | rfl | decide) | exact At.new_eq2 _ _ (by first | omega | (simp only [hset, hnew]; omega) | rfl | decide) | refine At.set_ne ?_ (by first | omega | (simp only [hset, hnew]; omega) | rfl | decide) | refine At.new_ne ?_)))) (call := s_bApp 60 (d := 6) (by decide) x5 y5 (by first | decide | (simp only [List.length_append, List.length_nil, List.length_cons, txt_len, nam_len, tL40, tL41, tL42, tL43, tL44, tL45, tL46, tL47, tL48, tL49, tL50, tL51, tL52, tL53, tL54, tL55, tL56, tL57, tL58, tL59, tL60, tL61, tL62, tL63, tL64, tL65, tL66, tL67, tL68, tL69, tL70, tL71, tL72, tL73, tL74, tL75, tL76, tL77, tL78, tL79, tL80, tL81, tL82, tL83, tL84, tL85, tL86, tL87]; omega)) (by decide)) (k := ?_)
  rintro r_ w6 ⟨e_, x6⟩
  rw [e_]
  clear e_
  obtain ⟨_, ab6⟩ := x6.at
  have kp6 := x6.kp
  refine tX16_text_444 (hd := (by omega)) (ha := (by first | assumption | (repeat (first | assumption | exact At.set_eq2 (by first | omega | (simp only [hset, hnew]; omega) | rfl | decide) | exact At.new_eq2 _ _ (by first | omega | (simp only [hset, hnew]; omega) | rfl | decide) | refine At.set_ne ?_ (by first | omega | (simp only [hset, hnew]; omega) | rfl | decide) | refine At.new_ne ?_)))) (call := s_bStr 60 (d := 6) (by decide) x6 (by first | decide | (simp only [List.length_append, List.length_nil, List.length_cons, txt_len, nam_len, tL40, tL41, tL42, tL43, tL44, tL45, tL46, tL47, tL48, tL49, tL50, tL51, tL52, tL53, tL54, tL55, tL56, tL57, tL58, tL59, tL60, tL61, tL62, tL63, tL64, tL65, tL66, tL67, tL68, tL69, tL70, tL71, tL72, tL73, tL74, tL75, tL76, tL77, tL78, tL79, tL80, tL81, tL82, tL83, tL84, tL85, tL86, tL87]; omega))) (k := ?_)
  rintro r_ w7 ⟨st_, -, c_⟩
  refine tX16_text_447  (hP := ?_)
  have eX : t0X (.inr (s, l, m)) = [] ++ vaX l ++ txt (SGn (s - 4)) ++ lfX m := by
    simp only [t0X, List.append_assoc, List.nil_append]
  exact ⟨_, rfl, by rw [eX]; exact st_, c_.sub (Nat.le_refl _) (Nat.le_refl _) (by decide) (by decide)⟩
theorem s_tx_t0 (hd : 12 ≤ d) (l6 : la ≤ 6) {a : Nat} {e : ET0} (ok : ok0 la e) (q : T0R h a e) : RQ G mX16_text d 0 [some (.ref a)] [] h (Rr fun r h1 => StR h1 r (t0X e) ∧ Ch h h1 0 0 100 2500) := by
  match e, ok, q with
  | .inl (k, l), ⟨e, hl⟩, q =>
    rcases e with rfl | rfl
    · exact RQ.imp (s_tx_first (by omega) (by omega) q) (fun _ _ ⟨r, e, s, c⟩ => ⟨r, e, s, c.sub (Nat.le_refl _) (Nat.le_refl _) (by decide) (by decide)⟩)
    · exact RQ.imp (s_tx_allied (by omega) (by omega) q) (fun _ _ ⟨r, e, s, c⟩ => ⟨r, e, s, c.sub (Nat.le_refl _) (Nat.le_refl _) (by decide) (by decide)⟩)
  | .inr (s, l, m), ⟨hs, ok1, ok2⟩, ⟨x, y, q1, q2, q3⟩ => exact s_tx_cmp hd l6 hs ok1 ok2 q1 q2 q3
theorem s_tx_not (hd : 14 ≤ d) (l6 : la ≤ 6) {a x : Nat} {y : Option Nat} {t u : ET0} (ok1 : ok0 la t) (q : NdR h a 12 0 (some x) y) (qx : T0R h x t) : RQ G mX16_text d 0 [some (.ref a)] [] h (Rr fun r h1 => StR h1 r (t1X (.inr (12, t, u))) ∧ Ch h h1 0 0 220 6500) := by
  have q2 := q.2
  have len1 := t0X_len ok1
  refine tX16_text_0  (r := ?_)
  refine tX16_text_1 (ha := (by first | assumption | (repeat (first | assumption | exact At.set_eq2 (by first | omega | (simp only [hset, hnew]; omega) | rfl | decide) | exact At.new_eq2 _ _ (by first | omega | (simp only [hset, hnew]; omega) | rfl | decide) | refine At.set_ne ?_ (by first | omega | (simp only [hset, hnew]; omega) | rfl | decide) | refine At.new_ne ?_)))) (hv := rfl) (r := ?_)
  refine tX16_text_4 (n := 12) (hn := (by decide)) (r := ?_)
  show RQ _ _ _ 216 _ _ _ _
  refine tX16_text_216  (r := ?_)
  refine tX16_text_219  (r := ?_)
  refine tX16_text_220 (hd := (by omega)) (call := s_bInit (d := 6) (h0 := h) (by decide)) (k := ?_)
  rintro w1 x1
  obtain ⟨_, ab1⟩ := x1.at
  have kp1 := x1.kp
  refine tX16_text_223  (r := ?_)
  
  refine tX16_text_225 (hd := (by omega)) (ha := (by first | assumption | (repeat (first | assumption | exact At.set_eq2 (by first | omega | (simp only [hset, hnew]; omega) | rfl | decide) | exact At.new_eq2 _ _ (by first | omega | (simp only [hset, hnew]; omega) | rfl | decide) | refine At.set_ne ?_ (by first | omega | (simp only [hset, hnew]; omega) | rfl | decide) | refine At.new_ne ?_)))) (call := s_bApp 100 (d := 6) (by decide) x1 (StR.old (i := 76) (by decide)) (by first | decide | (simp only [List.length_append, List.length_nil, List.length_cons, txt_len, nam_len, tL40, tL41, tL42, tL43, tL44, tL45, tL46, tL47, tL48, tL49, tL50, tL51, tL52, tL53, tL54, tL55, tL56, tL57, tL58, tL59, tL60, tL61, tL62, tL63, tL64, tL65, tL66, tL67, tL68, tL69, tL70, tL71, tL72, tL73, tL74, tL75, tL76, tL77, tL78, tL79, tL80, tL81, tL82, tL83, tL84, tL85, tL86, tL87]; omega)) (by decide)) (k := ?_)
  rintro r_ w2 ⟨e_, x2⟩
  rw [e_]
  clear e_
  obtain ⟨_, ab2⟩ := x2.at
  have kp2 := x2.kp
  refine tX16_text_228  (r := ?_)
  refine tX16_text_229 (ha := (kp2 _ _ q.1 q.2 (imm14 _))) (hv := rfl) (r := ?_)
  obtain ⟨_, aq_⟩ := (qx.kp kp2).at
  refine tX16_text_232 (hd := (by omega)) (ha := aq_) (call := s_tx_t0 (d := 12) (by decide) l6 ok1 (qx.kp kp2)) (k := ?_)
  rintro r3 w3 ⟨y3, c3⟩
  have x3 := x2.keep c3
  obtain ⟨_, ab3⟩ := x3.at
  have kp3 := x3.kp
  
  refine tX16_text_235 (hd := (by omega)) (ha := (by first | assumption | (repeat (first | assumption | exact At.set_eq2 (by first | omega | (simp only [hset, hnew]; omega) | rfl | decide) | exact At.new_eq2 _ _ (by first | omega | (simp only [hset, hnew]; omega) | rfl | decide) | refine At.set_ne ?_ (by first | omega | (simp only [hset, hnew]; omega) | rfl | decide) | refine At.new_ne ?_)))) (call := s_bApp 100 (d := 6) (by decide) x3 y3 (by first | decide | (simp only [List.length_append, List.length_nil, List.length_cons, txt_len, nam_len, tL40, tL41, tL42, tL43, tL44, tL45, tL46, tL47, tL48, tL49, tL50, tL51, tL52, tL53, tL54, tL55, tL56, tL57, tL58, tL59, tL60, tL61, tL62, tL63, tL64, tL65, tL66, tL67, tL68, tL69, tL70, tL71, tL72, tL73, tL74, tL75, tL76, tL77, tL78, tL79, tL80, tL81, tL82, tL83, tL84, tL85, tL86, tL87]; omega)) (by decide)) (k := ?_)
  rintro r_ w4 ⟨e_, x4⟩
  rw [e_]
  clear e_
  obtain ⟨_, ab4⟩ := x4.at
  have kp4 := x4.kp
  refine tX16_text_238 (hd := (by omega)) (ha := (by first | assumption | (repeat (first | assumption | exact At.set_eq2 (by first | omega | (simp only [hset, hnew]; omega) | rfl | decide) | exact At.new_eq2 _ _ (by first | omega | (simp only [hset, hnew]; omega) | rfl | decide) | refine At.set_ne ?_ (by first | omega | (simp only [hset, hnew]; omega) | rfl | decide) | refine At.new_ne ?_)))) (call := s_bStr 100 (d := 6) (by decide) x4 (by first | decide | (simp only [List.length_append, List.length_nil, List.length_cons, txt_len, nam_len, tL40, tL41, tL42, tL43, tL44, tL45, tL46, tL47, tL48, tL49, tL50, tL51, tL52, tL53, tL54, tL55, tL56, tL57, tL58, tL59, tL60, tL61, tL62, tL63, tL64, tL65, tL66, tL67, tL68, tL69, tL70, tL71, tL72, tL73, tL74, tL75, tL76, tL77, tL78, tL79, tL80, tL81, tL82, tL83, tL84, tL85, tL86, tL87]; omega))) (k := ?_)
  rintro r_ w5 ⟨st_, -, c_⟩
  refine tX16_text_241  (hP := ?_)
  have eX : t1X (.inr (12, t, u)) = [] ++ txt 76 ++ t0X t := rfl
  exact ⟨_, rfl, by rw [eX]; exact st_, c_.sub (Nat.le_refl _) (Nat.le_refl _) (by decide) (by decide)⟩
theorem s_tx_and (hd : 14 ≤ d) (l6 : la ≤ 6) {a x y : Nat} {t u : ET0} (ok1 : ok0 la t) (ok2 : ok0 la u) (q : NdR h a 13 0 (some x) (some y)) (qx : T0R h x t) (qy : T0R h y u) : RQ G mX16_text d 0 [some (.ref a)] [] h (Rr fun r h1 => StR h1 r (t1X (.inr (13, t, u))) ∧ Ch h h1 0 0 220 6500) := by
  have q2 := q.2
  have len1 := t0X_len ok1
  have len2 := t0X_len ok2
  refine tX16_text_0  (r := ?_)
  refine tX16_text_1 (ha := (by first | assumption | (repeat (first | assumption | exact At.set_eq2 (by first | omega | (simp only [hset, hnew]; omega) | rfl | decide) | exact At.new_eq2 _ _ (by first | omega | (simp only [hset, hnew]; omega) | rfl | decide) | refine At.set_ne ?_ (by first | omega | (simp only [hset, hnew]; omega) | rfl | decide) | refine At.new_ne ?_)))) (hv := rfl) (r := ?_)
  refine tX16_text_4 (n := 13) (hn := (by decide)) (r := ?_)
  show RQ _ _ _ 242 _ _ _ _
  refine tX16_text_242  (r := ?_)
  refine tX16_text_245  (r := ?_)
  refine tX16_text_246 (hd := (by omega)) (call := s_bInit (d := 6) (h0 := h) (by decide)) (k := ?_)
  rintro w1 x1
  obtain ⟨_, ab1⟩ := x1.at
  have kp1 := x1.kp
  refine tX16_text_249  (r := ?_)
  
  refine tX16_text_251 (hd := (by omega)) (ha := (by first | assumption | (repeat (first | assumption | exact At.set_eq2 (by first | omega | (simp only [hset, hnew]; omega) | rfl | decide) | exact At.new_eq2 _ _ (by first | omega | (simp only [hset, hnew]; omega) | rfl | decide) | refine At.set_ne ?_ (by first | omega | (simp only [hset, hnew]; omega) | rfl | decide) | refine At.new_ne ?_)))) (call := s_bApp 100 (d := 6) (by decide) x1 (StR.old (i := 77) (by decide)) (by first | decide | (simp only [List.length_append, List.length_nil, List.length_cons, txt_len, nam_len, tL40, tL41, tL42, tL43, tL44, tL45, tL46, tL47, tL48, tL49, tL50, tL51, tL52, tL53, tL54, tL55, tL56, tL57, tL58, tL59, tL60, tL61, tL62, tL63, tL64, tL65, tL66, tL67, tL68, tL69, tL70, tL71, tL72, tL73, tL74, tL75, tL76, tL77, tL78, tL79, tL80, tL81, tL82, tL83, tL84, tL85, tL86, tL87]; omega)) (by decide)) (k := ?_)
  rintro r_ w2 ⟨e_, x2⟩
  rw [e_]
  clear e_
  obtain ⟨_, ab2⟩ := x2.at
  have kp2 := x2.kp
  refine tX16_text_254  (r := ?_)
  refine tX16_text_255 (ha := (kp2 _ _ q.1 q.2 (imm14 _))) (hv := rfl) (r := ?_)
  obtain ⟨_, aq_⟩ := (qx.kp kp2).at
  refine tX16_text_258 (hd := (by omega)) (ha := aq_) (call := s_tx_t0 (d := 12) (by decide) l6 ok1 (qx.kp kp2)) (k := ?_)
  rintro r3 w3 ⟨y3, c3⟩
  have x3 := x2.keep c3
  obtain ⟨_, ab3⟩ := x3.at
  have kp3 := x3.kp
  
  refine tX16_text_261 (hd := (by omega)) (ha := (by first | assumption | (repeat (first | assumption | exact At.set_eq2 (by first | omega | (simp only [hset, hnew]; omega) | rfl | decide) | exact At.new_eq2 _ _ (by first | omega | (simp only [hset, hnew]; omega) | rfl | decide) | refine At.set_ne ?_ (by first | omega | (simp only [hset, hnew]; omega) | rfl | decide) | refine At.new_ne ?_)))) (call := s_bApp 100 (d := 6) (by decide) x3 y3 (by first | decide | (simp only [List.length_append, List.length_nil, List.length_cons, txt_len, nam_len, tL40, tL41, tL42, tL43, tL44, tL45, tL46, tL47, tL48, tL49, tL50, tL51, tL52, tL53, tL54, tL55, tL56, tL57, tL58, tL59, tL60, tL61, tL62, tL63, tL64, tL65, tL66, tL67, tL68, tL69, tL70, tL71, tL72, tL73, tL74, tL75, tL76, tL77, tL78, tL79, tL80, tL81, tL82, tL83, tL84, tL85, tL86, tL87]; omega)) (by decide)) (k := ?_)
  rintro r_ w4 ⟨e_, x4⟩
  rw [e_]
  clear e_
  obtain ⟨_, ab4⟩ := x4.at
  have kp4 := x4.kp
  refine tX16_text_264  (r := ?_)
  
  refine tX16_text_266 (hd := (by omega)) (ha := (by first | assumption | (repeat (first | assumption | exact At.set_eq2 (by first | omega | (simp only [hset, hnew]; omega) | rfl | decide) | exact At.new_eq2 _ _ (by first | omega | (simp only [hset, hnew]; omega) | rfl | decide) | refine At.set_ne ?_ (by first | omega | (simp only [hset, hnew]; omega) | rfl | decide) | refine At.new_ne ?_)))) (call := s_bApp 100 (d := 6) (by decide) x4 (StR.old (i := 78) (by decide)) (by first | decide | (simp only [List.length_append, List.length_nil, List.length_cons, txt_len, nam_len, tL40, tL41, tL42, tL43, tL44, tL45, tL46, tL47, tL48, tL49, tL50, tL51, tL52, tL53, tL54, tL55, tL56, tL57, tL58, tL59, tL60, tL61, tL62, tL63, tL64, tL65, tL66, tL67, tL68, tL69, tL70, tL71, tL72, tL73, tL74, tL75, tL76, tL77, tL78, tL79, tL80, tL81, tL82, tL83, tL84, tL85, tL86, tL87]; omega)) (by decide)) (k := ?_)
  rintro r_ w5 ⟨e_, x5⟩
  rw [e_]
  clear e_
  obtain ⟨_, ab5⟩ := x5.at
  have kp5 := x5.kp
  refine tX16_text_269  (r := ?_)
  refine tX16_text_270 (ha := (kp5 _ _ q.1 q.2 (imm14 _))) (hv := rfl) (r := ?_)
  obtain ⟨_, aq_⟩ := (qy.kp kp5).at
  refine tX16_text_273 (hd := (by omega)) (ha := aq_) (call := s_tx_t0 (d := 12) (by decide) l6 ok2 (qy.kp kp5)) (k := ?_)
  rintro r6 w6 ⟨y6, c6⟩
  have x6 := x5.keep c6
  obtain ⟨_, ab6⟩ := x6.at
  have kp6 := x6.kp
  
  refine tX16_text_276 (hd := (by omega)) (ha := (by first | assumption | (repeat (first | assumption | exact At.set_eq2 (by first | omega | (simp only [hset, hnew]; omega) | rfl | decide) | exact At.new_eq2 _ _ (by first | omega | (simp only [hset, hnew]; omega) | rfl | decide) | refine At.set_ne ?_ (by first | omega | (simp only [hset, hnew]; omega) | rfl | decide) | refine At.new_ne ?_)))) (call := s_bApp 100 (d := 6) (by decide) x6 y6 (by first | decide | (simp only [List.length_append, List.length_nil, List.length_cons, txt_len, nam_len, tL40, tL41, tL42, tL43, tL44, tL45, tL46, tL47, tL48, tL49, tL50, tL51, tL52, tL53, tL54, tL55, tL56, tL57, tL58, tL59, tL60, tL61, tL62, tL63, tL64, tL65, tL66, tL67, tL68, tL69, tL70, tL71, tL72, tL73, tL74, tL75, tL76, tL77, tL78, tL79, tL80, tL81, tL82, tL83, tL84, tL85, tL86, tL87]; omega)) (by decide)) (k := ?_)
  rintro r_ w7 ⟨e_, x7⟩
  rw [e_]
  clear e_
  obtain ⟨_, ab7⟩ := x7.at
  have kp7 := x7.kp
  refine tX16_text_279  (r := ?_)
  
  refine tX16_text_281 (hd := (by omega)) (ha := (by first | assumption | (repeat (first | assumption | exact At.set_eq2 (by first | omega | (simp only [hset, hnew]; omega) | rfl | decide) | exact At.new_eq2 _ _ (by first | omega | (simp only [hset, hnew]; omega) | rfl | decide) | refine At.set_ne ?_ (by first | omega | (simp only [hset, hnew]; omega) | rfl | decide) | refine At.new_ne ?_)))) (call := s_bApp 100 (d := 6) (by decide) x7 (StR.old (i := 79) (by decide)) (by first | decide | (simp only [List.length_append, List.length_nil, List.length_cons, txt_len, nam_len, tL40, tL41, tL42, tL43, tL44, tL45, tL46, tL47, tL48, tL49, tL50, tL51, tL52, tL53, tL54, tL55, tL56, tL57, tL58, tL59, tL60, tL61, tL62, tL63, tL64, tL65, tL66, tL67, tL68, tL69, tL70, tL71, tL72, tL73, tL74, tL75, tL76, tL77, tL78, tL79, tL80, tL81, tL82, tL83, tL84, tL85, tL86, tL87]; omega)) (by decide)) (k := ?_)
  rintro r_ w8 ⟨e_, x8⟩
  rw [e_]
  clear e_
  obtain ⟨_, ab8⟩ := x8.at
  have kp8 := x8.kp
  refine tX16_text_284 (hd := (by omega)) (ha := (by first | assumption | (repeat (first | assumption | exact At.set_eq2 (by first | omega | (simp only [hset, hnew]; omega) | rfl | decide) | exact At.new_eq2 _ _ (by first | omega | (simp only [hset, hnew]; omega) | rfl | decide) | refine At.set_ne ?_ (by first | omega | (simp only [hset, hnew]; omega) | rfl | decide) | refine At.new_ne ?_)))) (call := s_bStr 100 (d := 6) (by decide) x8 (by first | decide | (simp only [List.length_append, List.length_nil, List.length_cons, txt_len, nam_len, tL40, tL41, tL42, tL43, tL44, tL45, tL46, tL47, tL48, tL49, tL50, tL51, tL52, tL53, tL54, tL55, tL56, tL57, tL58, tL59, tL60, tL61, tL62, tL63, tL64, tL65, tL66, tL67, tL68, tL69, tL70, tL71, tL72, tL73, tL74, tL75, tL76, tL77, tL78, tL79, tL80, tL81, tL82, tL83, tL84, tL85, tL86, tL87]; omega))) (k := ?_)
  rintro r_ w9 ⟨st_, -, c_⟩
  refine tX16_text_287  (hP := ?_)
  have eX : t1X (.inr (13, t, u)) = [] ++ txt 77 ++ t0X t ++ txt 78 ++ t0X u ++ txt 79 := by
    simp only [List.append_assoc, List.nil_append]
    rfl
  exact ⟨_, rfl, by rw [eX]; exact st_, c_.sub (Nat.le_refl _) (Nat.le_refl _) (by decide) (by decide)⟩
theorem s_tx_or (hd : 14 ≤ d) (l6 : la ≤ 6) {a x y : Nat} {t u : ET0} (ok1 : ok0 la t) (ok2 : ok0 la u) (q : NdR h a 14 0 (some x) (some y)) (qx : T0R h x t) (qy : T0R h y u) : RQ G mX16_text d 0 [some (.ref a)] [] h (Rr fun r h1 => StR h1 r (t1X (.inr (14, t, u))) ∧ Ch h h1 0 0 220 6500) := by
  have q2 := q.2
  have len1 := t0X_len ok1
  have len2 := t0X_len ok2
  refine tX16_text_0  (r := ?_)
  refine tX16_text_1 (ha := (by first | assumption | (repeat (first | assumption | exact At.set_eq2 (by first | omega | (simp only [hset, hnew]; omega) | rfl | decide) | exact At.new_eq2 _ _ (by first | omega | (simp only [hset, hnew]; omega) | rfl | decide) | refine At.set_ne ?_ (by first | omega | (simp only [hset, hnew]; omega) | rfl | decide) | refine At.new_ne ?_)))) (hv := rfl) (r := ?_)
  refine tX16_text_4 (n := 14) (hn := (by decide)) (r := ?_)
  show RQ _ _ _ 288 _ _ _ _
  refine tX16_text_288  (r := ?_)
  refine tX16_text_291  (r := ?_)
  refine tX16_text_292 (hd := (by omega)) (call := s_bInit (d := 6) (h0 := h) (by decide)) (k := ?_)
  rintro w1 x1
  obtain ⟨_, ab1⟩ := x1.at
  have kp1 := x1.kp
  refine tX16_text_295  (r := ?_)
  
  refine tX16_text_297 (hd := (by omega)) (ha := (by first | assumption | (repeat (first | assumption | exact At.set_eq2 (by first | omega | (simp only [hset, hnew]; omega) | rfl | decide) | exact At.new_eq2 _ _ (by first | omega | (simp only [hset, hnew]; omega) | rfl | decide) | refine At.set_ne ?_ (by first | omega | (simp only [hset, hnew]; omega) | rfl | decide) | refine At.new_ne ?_)))) (call := s_bApp 100 (d := 6) (by decide) x1 (StR.old (i := 77) (by decide)) (by first | decide | (simp only [List.length_append, List.length_nil, List.length_cons, txt_len, nam_len, tL40, tL41, tL42, tL43, tL44, tL45, tL46, tL47, tL48, tL49, tL50, tL51, tL52, tL53, tL54, tL55, tL56, tL57, tL58, tL59, tL60, tL61, tL62, tL63, tL64, tL65, tL66, tL67, tL68, tL69, tL70, tL71, tL72, tL73, tL74, tL75, tL76, tL77, tL78, tL79, tL80, tL81, tL82, tL83, tL84, tL85, tL86, tL87]; omega)) (by decide)) (k := ?_)
  rintro r_ w2 ⟨e_, x2⟩
  rw [e_]
  clear e_
  obtain ⟨_, ab2⟩ := x2.at
  have kp2 := x2.kp
  refine tX16_text_300  (r := ?_)
  refine tX16_text_301 (ha := (kp2 _ _ q.1 q.2 (imm14 _))) (hv := rfl) (r := ?_)
  obtain ⟨_, aq_⟩ := (qx.kp kp2).at
  refine tX16_text_304 (hd := (by omega)) (ha := aq_) (call := s_tx_t0 (d := 12) (by decide) l6 ok1 (qx.kp kp2)) (k := ?_)
  rintro r3 w3 ⟨y3, c3⟩
  have x3 := x2.keep c3
  obtain ⟨_, ab3⟩ := x3.at
  have kp3 := x3.kp
  
  refine tX16_text_307 (hd := (by omega)) (ha := (by first | assumption | (repeat (first | assumption | exact At.set_eq2 (by first | omega | (simp only [hset, hnew]; omega) | rfl | decide) | exact At.new_eq2 _ _ (by first | omega | (simp only [hset, hnew]; omega) | rfl | decide) | refine At.set_ne ?_ (by first | omega | (simp only [hset, hnew]; omega) | rfl | decide) | refine At.new_ne ?_)))) (call := s_bApp 100 (d := 6) (by decide) x3 y3 (by first | decide | (simp only [List.length_append, List.length_nil, List.length_cons, txt_len, nam_len, tL40, tL41, tL42, tL43, tL44, tL45, tL46, tL47, tL48, tL49, tL50, tL51, tL52, tL53, tL54, tL55, tL56, tL57, tL58, tL59, tL60, tL61, tL62, tL63, tL64, tL65, tL66, tL67, tL68, tL69, tL70, tL71, tL72, tL73, tL74, tL75, tL76, tL77, tL78, tL79, tL80, tL81, tL82, tL83, tL84, tL85, tL86, tL87]; omega)) (by decide)) (k := ?_)
  rintro r_ w4 ⟨e_, x4⟩
  rw [e_]
  clear e_
  obtain ⟨_, ab4⟩ := x4.at
  have kp4 := x4.kp
  refine tX16_text_310  (r := ?_)
  
  refine tX16_text_312 (hd := (by omega)) (ha := (by first | assumption | (repeat (first | assumption | exact At.set_eq2 (by first | omega | (simp only [hset, hnew]; omega) | rfl | decide) | exact At.new_eq2 _ _ (by first | omega | (simp only [hset, hnew]; omega) | rfl | decide) | refine At.set_ne ?_ (by first | omega | (simp only [hset, hnew]; omega) | rfl | decide) | refine At.new_ne ?_)))) (call := s_bApp 100 (d := 6) (by decide) x4 (StR.old (i := 80) (by decide)) (by first | decide | (simp only [List.length_append, List.length_nil, List.length_cons, txt_len, nam_len, tL40, tL41, tL42, tL43, tL44, tL45, tL46, tL47, tL48, tL49, tL50, tL51, tL52, tL53, tL54, tL55, tL56, tL57, tL58, tL59, tL60, tL61, tL62, tL63, tL64, tL65, tL66, tL67, tL68, tL69, tL70, tL71, tL72, tL73, tL74, tL75, tL76, tL77, tL78, tL79, tL80, tL81, tL82, tL83, tL84, tL85, tL86, tL87]; omega)) (by decide)) (k := ?_)
  rintro r_ w5 ⟨e_, x5⟩
  rw [e_]
  clear e_
  obtain ⟨_, ab5⟩ := x5.at
  have kp5 := x5.kp
  refine tX16_text_315  (r := ?_)
  refine tX16_text_316 (ha := (kp5 _ _ q.1 q.2 (imm14 _))) (hv := rfl) (r := ?_)
  obtain ⟨_, aq_⟩ := (qy.kp kp5).at
  refine tX16_text_319 (hd := (by omega)) (ha := aq_) (call := s_tx_t0 (d := 12) (by decide) l6 ok2 (qy.kp kp5)) (k := ?_)
  rintro r6 w6 ⟨y6, c6⟩
  have x6 := x5.keep c6
  obtain ⟨_, ab6⟩ := x6.at
  have kp6 := x6.kp
  
  refine tX16_text_322 (hd := (by omega)) (ha := (by first | assumption | (repeat (first | assumption | exact At.set_eq2 (by first | omega | (simp only [hset, hnew]; omega) | rfl | decide) | exact At.new_eq2 _ _ (by first | omega | (simp only [hset, hnew]; omega) | rfl | decide) | refine At.set_ne ?_ (by first | omega | (simp only [hset, hnew]; omega) | rfl | decide) | refine At.new_ne ?_)))) (call := s_bApp 100 (d := 6) (by decide) x6 y6 (by first | decide | (simp only [List.length_append, List.length_nil, List.length_cons, txt_len, nam_len, tL40, tL41, tL42, tL43, tL44, tL45, tL46, tL47, tL48, tL49, tL50, tL51, tL52, tL53, tL54, tL55, tL56, tL57, tL58, tL59, tL60, tL61, tL62, tL63, tL64, tL65, tL66, tL67, tL68, tL69, tL70, tL71, tL72, tL73, tL74, tL75, tL76, tL77, tL78, tL79, tL80, tL81, tL82, tL83, tL84, tL85, tL86, tL87]; omega)) (by decide)) (k := ?_)
  rintro r_ w7 ⟨e_, x7⟩
  rw [e_]
  clear e_
  obtain ⟨_, ab7⟩ := x7.at
  have kp7 := x7.kp
  refine tX16_text_325  (r := ?_)
  
  refine tX16_text_327 (hd := (by omega)) (ha := (by first | assumption | (repeat (first | assumption | exact At.set_eq2 (by first | omega | (simp only [hset, hnew]; omega) | rfl | decide) | exact At.new_eq2 _ _ (by first | omega | (simp only [hset, hnew]; omega) | rfl | decide) | refine At.set_ne ?_ (by first | omega | (simp only [hset, hnew]; omega) | rfl | decide) | refine At.new_ne ?_)))) (call := s_bApp 100 (d := 6) (by decide) x7 (StR.old (i := 79) (by decide)) (by first | decide | (simp only [List.length_append, List.length_nil, List.length_cons, txt_len, nam_len, tL40, tL41, tL42, tL43, tL44, tL45, tL46, tL47, tL48, tL49, tL50, tL51, tL52, tL53, tL54, tL55, tL56, tL57, tL58, tL59, tL60, tL61, tL62, tL63, tL64, tL65, tL66, tL67, tL68, tL69, tL70, tL71, tL72, tL73, tL74, tL75, tL76, tL77, tL78, tL79, tL80, tL81, tL82, tL83, tL84, tL85, tL86, tL87]; omega)) (by decide)) (k := ?_)
  rintro r_ w8 ⟨e_, x8⟩
  rw [e_]
  clear e_
  obtain ⟨_, ab8⟩ := x8.at
  have kp8 := x8.kp
  refine tX16_text_330 (hd := (by omega)) (ha := (by first | assumption | (repeat (first | assumption | exact At.set_eq2 (by first | omega | (simp only [hset, hnew]; omega) | rfl | decide) | exact At.new_eq2 _ _ (by first | omega | (simp only [hset, hnew]; omega) | rfl | decide) | refine At.set_ne ?_ (by first | omega | (simp only [hset, hnew]; omega) | rfl | decide) | refine At.new_ne ?_)))) (call := s_bStr 100 (d := 6) (by decide) x8 (by first | decide | (simp only [List.length_append, List.length_nil, List.length_cons, txt_len, nam_len, tL40, tL41, tL42, tL43, tL44, tL45, tL46, tL47, tL48, tL49, tL50, tL51, tL52, tL53, tL54, tL55, tL56, tL57, tL58, tL59, tL60, tL61, tL62, tL63, tL64, tL65, tL66, tL67, tL68, tL69, tL70, tL71, tL72, tL73, tL74, tL75, tL76, tL77, tL78, tL79, tL80, tL81, tL82, tL83, tL84, tL85, tL86, tL87]; omega))) (k := ?_)
  rintro r_ w9 ⟨st_, -, c_⟩
  refine tX16_text_333  (hP := ?_)
  have eX : t1X (.inr (14, t, u)) = [] ++ txt 77 ++ t0X t ++ txt 80 ++ t0X u ++ txt 79 := by
    simp only [List.append_assoc, List.nil_append]
    rfl
  exact ⟨_, rfl, by rw [eX]; exact st_, c_.sub (Nat.le_refl _) (Nat.le_refl _) (by decide) (by decide)⟩
theorem s_tx_test (hd : 14 ≤ d) (l6 : la ≤ 6) {a : Nat} {e : ET1} (ok : ok1T la e) (q : T1R h a e) : RQ G mX16_text d 0 [some (.ref a)] [] h (Rr fun r h1 => StR h1 r (t1X e) ∧ Ch h h1 0 0 220 6500) := by
  match e, ok, q with
  | .inl t, ok, q => exact RQ.imp (s_tx_t0 (by omega) l6 ok q) (fun _ _ ⟨r, e, s, c⟩ => ⟨r, e, s, c.sub (Nat.le_refl _) (Nat.le_refl _) (by decide) (by decide)⟩)
  | .inr (s, t, u), ⟨hs, ok1, ok2⟩, ⟨x, y, q1, q2, q3⟩ =>
    rcases hs with rfl | rfl | rfl
    · exact s_tx_not hd l6 ok1 q1 q2
    · obtain ⟨z, rfl, q4⟩ := q3 (by decide)
      exact s_tx_and hd l6 ok1 ok2 q1 q2 q4
    · obtain ⟨z, rfl, q4⟩ := q3 (by decide)
      exact s_tx_or hd l6 ok1 ok2 q1 q2 q4
end TX
