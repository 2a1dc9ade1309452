/-! THE ABSTRACT WORLD: numbered cells, and judgements over it. Values are the machine's own, but a reference's number is the cell's number here: the k-th new cell lies at gB + k, old things (statics, constants) are numbered from OLD on. -/
abbrev AC : Type := (Nat × vp_A) ⊕ (Nat × List Value)
/-- cells, slots made, what they hold -/
abbrev AH : Type := Nat × Nat × (Nat → AC)
/-- launch, classes' numbers, slots, array classes, first new address, old things' addresses, the script's length and ints -/
abbrev GT : Type := Launch × (Nat → ClassId) × (Nat → Nat → Nat) × (Nat → ClassId) × Nat × (Nat → Nat) × Nat × (Nat → Int32)
/-- what comes out: an answer, or the class of what is thrown -/
abbrev OC : Type := Option Value ⊕ String
abbrev OLD : Nat := 1000000
abbrev gL (G : GT) : Launch := G.1
abbrev gD (G : GT) : va_G := (G.2.1, G.2.2.1)
abbrev gA (G : GT) : Nat → ClassId := G.2.2.2.1
abbrev gB (G : GT) : Nat := G.2.2.2.2.1
abbrev gO (G : GT) : Nat → Nat := G.2.2.2.2.2.1
abbrev gN (G : GT) : Nat := G.2.2.2.2.2.2.1
abbrev gX (G : GT) : Nat → Int32 := G.2.2.2.2.2.2.2
def gad (G : GT) (k : Nat) : Nat := if k < OLD then gB G + k else gO G (k - OLD)
theorem gad_new (G : GT) {k : Nat} (h : k < OLD) : gad G k = gB G + k := if_pos h
theorem gad_old (G : GT) (k : Nat) : gad G (OLD + k) = gO G k := by
  unfold gad
  rw [if_neg (by omega), Nat.add_sub_cancel_left]
def exT : u_T := fun _ => ("", "", "", false)
/-- the classes whose objects the worlds hold; behind them those of what is thrown -/
def CL : List vw_C := [(RX1, TX1, 11), (RX2, TX2, 3), (RX3, TX3, 5), (RX4, TX4, 10), (RX6, TX6, 7), (RX7, TX7, 8), (RX8, TX8, 2), (RX9, TX9, 4), (RX10, TX10, 7), (RX11, TX11, 3), (RX12, TX12, 4), (RX13, TX13, 1), (RX14, TX14, 3), (RX15, TX15, 3), (RX16, TX16, 4), (RX17, TX17, 2), (RJ0, TJ0, 4), (RJ4, TJ4, 4), ("java/lang/IndexOutOfBoundsException", exT, 0), ("java/lang/IllegalArgumentException", exT, 0), ("java/lang/IllegalStateException", exT, 0)]
def cv (G : GT) : Value → Value
  | .ref k => .ref (gad G k)
  | v => v
theorem cv_cat (G : GT) (v : Value) : (cv G v).category = v.category := by cases v <;> rfl
theorem cv_rf (G : GT) (r : Option Nat) : cv G (va_rf r) = va_rf (r.map (gad G)) := by cases r <;> rfl
theorem cv_cats (G : GT) (S : List Value) : ((S.map (cv G)).map fun v => v.category).sum = (S.map fun v => v.category).sum := by
  rw [List.map_map]
  exact congrArg (fun f => (S.map f).sum) (funext fun v => cv_cat G v)
def cA (G : GT) (a : vp_A) : vp_A := match a with
  | (n, .inr (.inr (.inr (.inr f)))) => (n, .inr (.inr (.inr (.inr (fun i => (f i).map (gad G))))))
  | (n, .inl f) => (n, .inl f)
  | (n, .inr (.inl f)) => (n, .inr (.inl f))
  | (n, .inr (.inr (.inl f))) => (n, .inr (.inr (.inl f)))
  | (n, .inr (.inr (.inr (.inl f)))) => (n, .inr (.inr (.inr (.inl f))))
theorem cA_len (G : GT) (a : vp_A) : (cA G a).1 = a.1 := by
  obtain ⟨n, f | f | f | f | f⟩ := a <;> rfl
def cE (G : GT) : AC → va_E
  | .inl (t, a) => .inl (gA G t, cA G a)
  | .inr (c, vs) => .inr (c, vs.map (cv G))
def cw (G : GT) (h : AH) : va_W := (List.range h.1).map (fun i => (gB G + i, cE G (h.2.2 i)))
theorem cw_at (G : GT) (h : AH) {i : Nat} (hi : i < h.1) : (cw G h)[i]? = some (gB G + i, cE G (h.2.2 i)) := by
  simp [cw, hi]
theorem cw_lt {G : GT} {h : AH} {k : Nat} {q : Nat × va_E} (hk : (cw G h)[k]? = some q) : k < h.1 := by
  have := (List.getElem?_eq_some_iff.mp hk).1
  simpa [cw] using this
theorem cw_len (G : GT) (h : AH) : (cw G h).length = h.1 := by simp [cw]
def Aq (G : GT) : Nat → Prop := fun q => gB G ≤ q
theorem cw_D (G : GT) (h : AH) : va_D (Aq G) (cw G h) := by
  refine ⟨fun i j p q hi hj e => ?_, fun k q hk => ?_⟩
  · rw [cw_at G h (cw_lt hi)] at hi
    rw [cw_at G h (cw_lt hj)] at hj
    cases hi
    cases hj
    have e : gB G + i = gB G + j := e
    omega
  · rw [cw_at G h (cw_lt hk)] at hk
    cases hk
    exact Nat.le_add_right _ _
def TY (G : GT) : List (ClassId × FieldType) := [(gA G 0, .int), (gA G 1, .byte), (gA G 2, .long), (gA G 3, .object "CupboardPoll$Jar"), (gA G 4, .object "CupboardPoll$Kind"), (gA G 5, .object "CupboardPollLaw$Jar"), (gA G 6, .object "CupboardPollLaw$Lid"), (gA G 7, .object "CupboardPollLaw$Rule"), (gA G 8, .object "CupboardPollLaw$Act"), (gA G 9, .object "java/lang/String")]
/-- one cell changed -/
def hset (h : AH) (i : Nat) (c : AC) : AH := (h.1, h.2.1, fun j => if j = i then c else h.2.2 j)
/-- one cell more, of so many slots -/
def hnew (h : AH) (n : Nat) (c : AC) : AH := (h.1 + 1, h.2.1 + n, fun j => if j = h.1 then c else h.2.2 j)
def Wd (G : GT) (h : AH) (H : Heap) : Prop := va_P (gD G) CL (cw G h) H
theorem cw_set (G : GT) (h : AH) {i : Nat} (c : AC) (hi : i < h.1) : (cw G h).set i (gB G + i, cE G c) = cw G (hset h i c) := by
  apply List.ext_getElem?
  intro k
  by_cases hk : k < h.1
  · rw [cw_at G (hset h i c) (show k < (hset h i c).1 from hk)]
    by_cases e : i = k
    · subst e
      rw [List.getElem?_set_self (by rw [cw_len]; exact hi)]
      simp [hset]
    · rw [List.getElem?_set_ne e, cw_at G h hk]
      simp [hset, Ne.symm e]
  · rw [List.getElem?_eq_none (by simp [cw_len]; omega), List.getElem?_eq_none (by rw [cw_len]; show h.1 ≤ k; omega)]
theorem cw_new (G : GT) (h : AH) (n : Nat) (c : AC) : cw G h ++ [(gB G + h.1, cE G c)] = cw G (hnew h n c) := by
  unfold cw
  rw [show (hnew h n c).1 = h.1 + 1 from rfl, List.range_succ, List.map_append]
  congr 1
  · apply List.map_congr_left
    intro k hk
    have hk := List.mem_range.mp hk
    show _ = (gB G + k, cE G (if k = h.1 then c else h.2.2 k))
    rw [if_neg (by omega)]
  · show _ = [(gB G + h.1, cE G (if h.1 = h.1 then c else h.2.2 h.1))]
    rw [if_pos rfl]
def KN : List String := ["LABEL", "JAR", "SEATS", "BY", "HOLDS", "LID", "ON", "FOR", "WHEN", "WIN", "FROM", "HOP", "SHAKE", "JOIN", "LEAVE", "NOT", "AND", "OR", "FIRST", "ALLIED", "DAY", "BEANS", "MARGIN", "TURNOUT", "MOST", "DIVIDE", "QUOTA", "OPEN", "CLOSE", "OPEN_TEST", "CLOSE_TEST", "SEMICOLON", "COMMA", "LESS", "GREATER", "EQUAL", "PLUS", "MINUS", "TIMES", "NAME", "NUMBER", "END", "BAD"]
def KD : String := "LCupboardPoll$Kind;"
def KF : List (String × String × String × List Int32) := [("java/lang/Enum", "ordinal", "I", [0, 1, 2, 3, 4, 5, 6, 7, 8, 9, 10, 11, 12, 13, 14, 15, 16, 17, 18, 19, 20, 21, 22, 23, 24, 25, 26, 27, 28, 29, 30, 31, 32, 33, 34, 35, 36, 37, 38, 39, 40, 41, 42])]
/-- old things that are looked up: static fields of the JDK that a throw asks for; the constants of Kind (their numbers: OLD + ordinal) -/
def Od (G : GT) (U : State) (H : Heap) : Prop := vx_Zq Bundle.tN "UNASSIGNED_STACK" Bundle.steD (Aq G) U H ∧ vx_Zq Bundle.tN "SUPPRESSED_SENTINEL" Bundle.listD (Aq G) U H ∧ va_En "CupboardPoll$Kind" KD KN KF (gO G) (Aq G) U H ∧ (va_X (gO G 999) (gN G) (gX G) U H ∧ ¬ Aq G (gO G 999) ∧ gO G 999 < H.size)
theorem Od.moved {G : GT} {u U : State} {H : Heap} (hvm : u.vm.Alike U.vm) (h : Od G u H) : Od G U H := ⟨vx_Zq.moved hvm h.1, vx_Zq.moved hvm h.2.1, va_En.moved hvm h.2.2.1, va_X.moved hvm h.2.2.2.1, h.2.2.2.2⟩
theorem Od.kept {G : GT} {U : State} {H H1 : Heap} (h : Od G U H) (hq : ∀ a : Nat, a < H.size → ¬ Aq G a → H1[a]? = H[a]?) : Od G U H1 := ⟨vx_Zq.kept h.1 hq, vx_Zq.kept h.2.1 hq, va_En.kept h.2.2.1 hq, va_X.kept h.2.2.2.1 (hq _ h.2.2.2.2.2 h.2.2.2.2.1), h.2.2.2.2.1, by obtain ⟨scr, h1, -⟩ := va_X.kept h.2.2.2.1 (hq _ h.2.2.2.2.2 h.2.2.2.2.1); exact (Array.getElem?_eq_some_iff.mp h1).1⟩
/-- the table of the class's switches over kinds -/
def SMl : List Int32 := [0, 0, 10, 0, 0, 0, 0, 0, 0, 1, 0, 2, 3, 4, 5, 6, 21, 0, 13, 14, 8, 9, 11, 12, 0, 0, 0, 0, 0, 0, 0, 0, 0, 18, 19, 20, 15, 16, 17, 0, 7, 0, 0]
/-- words' and signs' bytes: 0 to 26 words, 27 to 38 signs, 39 none -/
def SBy : List (List Int32) := [[108, 97, 98, 101, 108], [106, 97, 114], [115, 101, 97, 116, 115], [98, 121], [104, 111, 108, 100, 115], [108, 105, 100], [111, 110], [102, 111, 114], [119, 104, 101, 110], [119, 105, 110], [102, 114, 111, 109], [104, 111, 112], [115, 104, 97, 107, 101], [106, 111, 105, 110], [108, 101, 97, 118, 101], [110, 111, 116], [97, 110, 100], [111, 114], [102, 105, 114, 115, 116], [97, 108, 108, 105, 101, 100], [100, 97, 121], [98, 101, 97, 110, 115], [109, 97, 114, 103, 105, 110], [116, 117, 114, 110, 111, 117, 116], [109, 111, 115, 116], [100, 105, 118, 105, 100, 101], [113, 117, 111, 116, 97], [40], [41], [91], [93], [59], [44], [60], [62], [61], [43], [45], [42], [], [113], [108, 97, 98, 101, 108, 32, 108], [59], [32, 59, 10], [109, 111, 115, 116], [100, 105, 118, 105, 100, 101], [113, 117, 111, 116, 97], [106, 97, 114, 32, 106], [32, 115, 101, 97, 116, 115, 32], [32, 98, 121, 32], [32, 104, 111, 108, 100, 115, 32], [], [44], [108, 105, 100, 32, 100], [32, 111, 110, 32, 106], [32, 102, 111, 114, 32, 108], [43], [45], [42], [60], [62], [61], [100, 97, 121], [109, 97, 114, 103, 105, 110], [116, 117, 114, 110, 111, 117, 116], [119, 105, 110, 32], [32, 102, 114, 111, 109, 32, 108], [104, 111, 112, 32, 106], [115, 104, 97, 107, 101], [106, 111, 105, 110, 32, 108], [108, 101, 97, 118, 101], [], [98, 101, 97, 110, 115, 32, 108], [115, 101, 97, 116, 115, 32, 108], [102, 105, 114, 115, 116, 32, 108], [97, 108, 108, 105, 101, 100, 32, 108], [110, 111, 116, 32], [91], [32, 97, 110, 100, 32], [93], [32, 111, 114, 32], [40], [32], [41], [32, 119, 104, 101, 110, 32], [32, 40], [32], [41]]
/-- the law's texts: where each constant stands -/
def SRf : List (String × Nat × String) := [("CupboardPollLaw", 35, "q"), ("CupboardPollLaw", 60, "label l"), ("CupboardPollLaw", 68, ";"), ("CupboardPollLaw", 70, " ;\n"), ("CupboardPollLaw", 78, "most"), ("CupboardPollLaw", 80, "divide"), ("CupboardPollLaw", 82, "quota"), ("CupboardPollLaw", 95, "jar j"), ("CupboardPollLaw", 97, " seats "), ("CupboardPollLaw", 102, " by "), ("CupboardPollLaw", 104, " holds "), ("CupboardPollLaw", 106, ""), ("CupboardPollLaw", 108, ","), ("CupboardPollLaw", 129, "lid d"), ("CupboardPollLaw", 131, " on j"), ("CupboardPollLaw", 133, " for l"), ("CupboardPollLaw", 276, "+"), ("CupboardPollLaw", 278, "-"), ("CupboardPollLaw", 280, "*"), ("CupboardPollLaw", 282, "<"), ("CupboardPollLaw", 284, ">"), ("CupboardPollLaw", 286, "="), ("CupboardPollLaw", 292, "day"), ("CupboardPollLaw", 294, "margin"), ("CupboardPollLaw", 296, "turnout"), ("CupboardPollLaw$Act", 34, "win "), ("CupboardPollLaw$Act", 44, " from l"), ("CupboardPollLaw$Act", 55, "hop j"), ("CupboardPollLaw$Act", 57, "shake"), ("CupboardPollLaw$Act", 59, "join l"), ("CupboardPollLaw$Act", 61, "leave"), ("CupboardPollLaw$Node", 42, ""), ("CupboardPollLaw$Node", 61, "beans l"), ("CupboardPollLaw$Node", 67, "seats l"), ("CupboardPollLaw$Node", 69, "first l"), ("CupboardPollLaw$Node", 71, "allied l"), ("CupboardPollLaw$Node", 73, "not "), ("CupboardPollLaw$Node", 78, "["), ("CupboardPollLaw$Node", 80, " and "), ("CupboardPollLaw$Node", 82, "]"), ("CupboardPollLaw$Node", 84, " or "), ("CupboardPollLaw$Node", 86, "("), ("CupboardPollLaw$Node", 88, " "), ("CupboardPollLaw$Node", 93, ")"), ("CupboardPollLaw$Rule", 36, " when "), ("CupboardPollLaw$Rule", 46, " ("), ("CupboardPollLaw$Rule", 54, " "), ("CupboardPollLaw$Rule", 57, ")")]
abbrev NTX : Nat := 88
abbrev NSR : Nat := 48
def TXl (i : Nat) : Nat := if i < 39 then i else 39
abbrev SMn : String := "$SwitchMap$CupboardPoll$Kind"
abbrev STR : String := "Ljava/lang/String;"
/-- one text: the object and its bytes -/
def Ot (G : GT) (i : Nat) (U : State) (H : Heap) : Prop := va_O "java/lang/String" (gO G (100 + i)) (Aq G) U H ∧ va_OF "java/lang/String" "coder" "B" (.int 0) (gO G (100 + i)) (Aq G) U H ∧ va_OF "java/lang/String" "value" "[B" (.ref (gO G (200 + i))) (gO G (100 + i)) (Aq G) U H ∧ va_T .byte (gO G (200 + i)) (SBy.getD i []).length (fun j => .int ((SBy.getD i []).getD j 0)) (Aq G) U H
/-- what a static of the JDK holds that nobody asks: null or a reference -/
def foV (G : GT) : Value := if gO G 904 = 0 then .null else .ref (gO G 903)
/-- the law's WORDS and SIGNS, by their texts' numbers -/
def WRn (j : Nat) : Nat := [62, 63, 64].getD j 40
def SGn (j : Nat) : Nat := [56, 57, 58, 59, 60, 61].getD j 40
/-- and: WORDS (902), SIGNS (905), the digits' tables (906 tens, 907 ones), the law's texts as constants, arrays of its classes -/
def Ox (G : GT) (U : State) (H : Heap) : Prop := (va_Z "CupboardPollLaw" "SIGNS" "[Ljava/lang/String;" (.ref (gO G 905)) (Aq G) U H ∧ va_T (.object "java/lang/String") (gO G 905) 6 (fun j => .ref (gO G (100 + SGn j))) (Aq G) U H) ∧ (va_Z "java/lang/Integer" "DigitTens" "[B" (.ref (gO G 906)) (Aq G) U H ∧ va_T .byte (gO G 906) 100 (fun j => .int (nI (48 + j / 10))) (Aq G) U H) ∧ (va_Z "java/lang/Integer" "DigitOnes" "[B" (.ref (gO G 907)) (Aq G) U H ∧ va_T .byte (gO G 907) 100 (fun j => .int (nI (48 + j % 10))) (Aq G) U H) ∧ (∀ i, i < NSR → vk_R (SRf.getD i ("", 0, "")).1 (SRf.getD i ("", 0, "")).2.1 (SRf.getD i ("", 0, "")).2.2 (gO G (140 + i)) U) ∧ va_AO "CupboardPollLaw$Jar" U ∧ va_AO "CupboardPollLaw$Lid" U ∧ va_AO "CupboardPollLaw$Rule" U ∧ va_AO "CupboardPollLaw$Act" U ∧ va_AO "java/lang/String" U
/-- more old things: the table of the switches (OLD + 900), KINDS (901), TOLD (902), kinds' texts (100 and on; their bytes: 200 and on) -/
def Oe (G : GT) (U : State) (H : Heap) : Prop := (va_Z "CupboardPoll$1" SMn "[I" (.ref (gO G 900)) (Aq G) U H ∧ va_T .int (gO G 900) 43 (fun j => .int (SMl.getD j 0)) (Aq G) U H) ∧ (va_Z "CupboardPoll" "KINDS" "[LCupboardPoll$Kind;" (.ref (gO G 901)) (Aq G) U H ∧ va_T (.object "CupboardPoll$Kind") (gO G 901) 43 (fun j => .ref (gO G j)) (Aq G) U H) ∧ (va_Z "CupboardPollLaw" "WORDS" "[Ljava/lang/String;" (.ref (gO G 902)) (Aq G) U H ∧ va_T (.object "java/lang/String") (gO G 902) 3 (fun j => .ref (gO G (100 + WRn j))) (Aq G) U H) ∧ (∀ i, i < 43 → va_OF "CupboardPoll$Kind" "text" STR (.ref (gO G (100 + TXl i))) (gO G i) (Aq G) U H) ∧ (∀ i, i < NTX → Ot G i U H) ∧ va_Z "java/lang/String" "COMPACT_STRINGS" "Z" (.int 1) (Aq G) U H ∧ va_Z "jdk/internal/util/Preconditions" "SIOOBE_FORMATTER" "Ljava/util/function/BiFunction;" (foV G) (Aq G) U H ∧ Ox G U H
theorem Ot.moved {G : GT} {i : Nat} {u U : State} {H : Heap} (hvm : u.vm.Alike U.vm) (h : Ot G i u H) : Ot G i U H := ⟨va_O.moved hvm h.1, va_OF.moved hvm h.2.1, va_OF.moved hvm h.2.2.1, va_T.moved hvm h.2.2.2⟩
theorem Ot.kept {G : GT} {i : Nat} {U : State} {H H1 : Heap} (h : Ot G i U H) (hq : ∀ a : Nat, a < H.size → ¬ Aq G a → H1[a]? = H[a]?) : Ot G i U H1 := ⟨h.1.kept hq, h.2.1.kept hq, h.2.2.1.kept hq, h.2.2.2.kept hq⟩
theorem Ox.kept {G : GT} {U : State} {H H1 : Heap} (h : Ox G U H) (hq : ∀ a : Nat, a < H.size → ¬ Aq G a → H1[a]? = H[a]?) : Ox G U H1 := ⟨⟨h.1.1.kept hq, h.1.2.kept hq⟩, ⟨h.2.1.1.kept hq, h.2.1.2.kept hq⟩, ⟨h.2.2.1.1.kept hq, h.2.2.1.2.kept hq⟩, h.2.2.2⟩
theorem Ox.warm {G : GT} {u U : State} {H : Heap} (hW : u.WarmedH U.vm) (h : Ox G u H) : Ox G U H := by
  have hvm := hW.alike
  obtain ⟨h1, h2, h3, h4, h5, h6, h7, h8, h9⟩ := h
  exact ⟨⟨va_Z.moved hvm h1.1, va_T.moved hvm h1.2⟩, ⟨va_Z.moved hvm h2.1, va_T.moved hvm h2.2⟩, ⟨va_Z.moved hvm h3.1, va_T.moved hvm h3.2⟩, fun i hi => vk_R.warm hW (h4 i hi), va_AO.moved hvm h5, va_AO.moved hvm h6, va_AO.moved hvm h7, va_AO.moved hvm h8, va_AO.moved hvm h9⟩
theorem Ox.same {G : GT} {u U : State} {H : Heap} (hv : U.vm = u.vm) (h : Ox G u H) : Ox G U H := by
  have hvm : u.vm.Alike U.vm := by rw [hv]; exact Vm.Alike.refl u.vm
  obtain ⟨h1, h2, h3, h4, h5, h6, h7, h8, h9⟩ := h
  exact ⟨⟨va_Z.moved hvm h1.1, va_T.moved hvm h1.2⟩, ⟨va_Z.moved hvm h2.1, va_T.moved hvm h2.2⟩, ⟨va_Z.moved hvm h3.1, va_T.moved hvm h3.2⟩, fun i hi => vk_R.same hv (h4 i hi), va_AO.moved hvm h5, va_AO.moved hvm h6, va_AO.moved hvm h7, va_AO.moved hvm h8, va_AO.moved hvm h9⟩
theorem Oe.movedW {G : GT} {u U : State} {H : Heap} (hvm : u.vm.Alike U.vm) (hx : Ox G u H → Ox G U H) (h : Oe G u H) : Oe G U H := ⟨⟨va_Z.moved hvm h.1.1, va_T.moved hvm h.1.2⟩, ⟨va_Z.moved hvm h.2.1.1, va_T.moved hvm h.2.1.2⟩, ⟨va_Z.moved hvm h.2.2.1.1, va_T.moved hvm h.2.2.1.2⟩, fun i hi => va_OF.moved hvm (h.2.2.2.1 i hi), fun i hi => Ot.moved hvm (h.2.2.2.2.1 i hi), va_Z.moved hvm h.2.2.2.2.2.1, va_Z.moved hvm h.2.2.2.2.2.2.1, hx h.2.2.2.2.2.2.2⟩
theorem Oe.kept {G : GT} {U : State} {H H1 : Heap} (h : Oe G U H) (hq : ∀ a : Nat, a < H.size → ¬ Aq G a → H1[a]? = H[a]?) : Oe G U H1 := ⟨⟨h.1.1.kept hq, h.1.2.kept hq⟩, ⟨h.2.1.1.kept hq, h.2.1.2.kept hq⟩, ⟨h.2.2.1.1.kept hq, h.2.2.1.2.kept hq⟩, fun i hi => (h.2.2.2.1 i hi).kept hq, fun i hi => (h.2.2.2.2.1 i hi).kept hq, h.2.2.2.2.2.1.kept hq, h.2.2.2.2.2.2.1.kept hq, h.2.2.2.2.2.2.2.kept hq⟩
/-- what stands of a method's start -/
def Gs (G : GT) (U : State) : Prop := va_K (gD G) CL (TY G) U ∧ (gL G).stackTraces = false ∧ gB G ≤ U.heap.size ∧ (∀ w ∈ NW, va_Nw w U) ∧ va_AO "CupboardPoll$Jar" U ∧ va_AO "CupboardPoll$Kind" U ∧ Od G U U.heap ∧ True ∧ True ∧ Oe G U U.heap
theorem Gs.to {G : GT} {s U : State} {H : Heap} {locs : List Loc} (h : Gs G s) (hU : U.heap = H) (hW : s.WarmedH U.vm) (hS : va_S (Aq G) s.heap H locs) : Gs G U := by
  obtain ⟨h1, h2, h3, h4, h5, h6, h7, h8, h9, h10⟩ := h
  refine ⟨va_K.moved hW.alike h1, h2, by rw [hU]; exact Nat.le_trans h3 hS.1, fun w hw => NW_warm hw hW (h4 w hw), va_AO.moved hW.alike h5, va_AO.moved hW.alike h6, ?_, h8, h9, ?_⟩
  · rw [hU]
    exact (Od.kept h7 hS.2.1).moved hW.alike
  · rw [hU]
    exact Oe.movedW hW.alike (Ox.warm hW) (Oe.kept h10 hS.2.1)
theorem Gs.blind {G : GT} {U : State} {g : JFrame} {mk : MethodId} {a : Array Value} (h : Gs G U) : Gs G (U.calling g mk a) := by
  obtain ⟨h1, h2, h3, h4, h5, h6, h7, h8, h9, h10⟩ := h
  have hv : U.vm.Alike (U.calling g mk a).vm := Vm.Alike.refl U.vm
  exact ⟨va_K.moved hv h1, h2, h3, fun w hw => NW_warm hw (State.WarmedH.refl U) (h4 w hw), va_AO.moved hv h5, va_AO.moved hv h6, Od.moved hv h7, h8, h9, Oe.movedW hv (Ox.same rfl) h10⟩
def Cx (G : GT) (M : MI) (d : Nat) (p : Program) (Rm : Room) (s : State) (m : MethodId) (args : Array Value) (meth : Method) (c : Code) : Prop :=
  p.tables.exec = Jvm.exec ∧ c.code = M.2.1 ∧ c.maxLocals = M.2.2.1 ∧ meth.sig.returnType = M.2.2.2.1 ∧ meth.locks = false ∧ s.vm.findClass M.1.cls = some m.cls ∧ (∀ w ∈ AW, w.before args s = true) ∧ Gs G s ∧ meth.name = M.1.name ∧ c.exceptionTable.toList = tableOf M.2.2.2.2 ∧ d ≤ Rm.frames ∧ 40 * d ≤ Rm.locals
def Rl (G : GT) (n : Nat) (ls : Array Slot) (L : List (Option Value)) : Prop := ls.size = n ∧ L.length = n ∧ lv_wf ls ∧ ∀ (i : Nat) (v : Value), L[i]? = some (some v) → ls[i]? = some (.val (cv G v))
def QR (G : GT) (o : OC) (h' : AH) : Array Value → State → Outcome → State → Prop := fun _ st oc t => (∃ v, o = .inl v ∧ oc = .returned (v.map (cv G)) ∧ Wd G h' t.heap) ∧ va_F (Aq G) st t
def XR (G : GT) (o : OC) (h' : AH) : String → State → State → Prop := fun E st t => (o = .inr E ∧ Wd G h' t.heap) ∧ va_F (Aq G) st t
/-- THE JUDGEMENT: method M, with d frames to spare, at pc with locals L and operands S over the world h, comes to its end with the outcome o over the world h' -/
def R (G : GT) (M : MI) (d pc : Nat) (L : List (Option Value)) (S : List Value) (h : AH) (o : OC) (h' : AH) : Prop :=
  (h.1 ≤ h'.1 ∧ h.2.1 ≤ h'.2.1) ∧
  ∀ (p : Program) (e : Env) (Rm : Room) (s : State) (m : MethodId) (args : Array Value) (below : List Frame) (meth : Method) (c : Code) (H : Heap) (locs : List Loc) (cells slots : Nat) (ls : Array Slot),
    Cx G M d p Rm s m args meth c → s.heap.size + cells = gB G + h.1 → cells + (h'.1 - h.1) ≤ Rm.cells → slots + (h'.2.1 - h.2.1) ≤ Rm.slots → h'.1 < OLD → Wd G h H → va_S (Aq G) s.heap H locs → Rl G M.2.2.1 ls L →
    W p (gL G) e Rm s m args below meth c H locs cells slots (vx_MQ below (QR G o h') (XR G o h') args s (cells + (h'.1 - h.1)) (slots + (h'.2.1 - h.2.1)) (Aq G)) (F0 m pc ls (S.map (cv G)))
/-- .. with an outcome and a world behind it of which P holds -/
def RQ (G : GT) (M : MI) (d pc : Nat) (L : List (Option Value)) (S : List Value) (h : AH) (P : OC → AH → Prop) : Prop := ∃ o h', R G M d pc L S h o h' ∧ P o h'
theorem RQ.map {G : GT} {M M2 : MI} {d d2 pc pc2 : Nat} {L L2 : List (Option Value)} {S S2 : List Value} {h h2 : AH} {P : OC → AH → Prop} (f : ∀ o h', R G M2 d2 pc2 L2 S2 h2 o h' → R G M d pc L S h o h') (r : RQ G M2 d2 pc2 L2 S2 h2 P) : RQ G M d pc L S h P := by
  obtain ⟨o, h', r1, r2⟩ := r
  exact ⟨o, h', f o h' r1, r2⟩
theorem RQ.imp {G : GT} {M : MI} {d pc : Nat} {L : List (Option Value)} {S : List Value} {h : AH} {P P2 : OC → AH → Prop} (r : RQ G M d pc L S h P) (f : ∀ o h', P o h' → P2 o h') : RQ G M d pc L S h P2 := by
  obtain ⟨o, h', r1, r2⟩ := r
  exact ⟨o, h', r1, f o h' r2⟩
theorem W.mono {p : Program} {l : Launch} {e : Env} {Rm : Room} {s : State} {m : MethodId} {args : Array Value} {below : List Frame} {meth : Method} {c : Code} {H : Heap} {locs : List Loc} {cells slots : Nat} {Q Q2 : State → Prop} {g : JFrame} (hQ : ∀ t, Q t → Q2 t) (k : W p l e Rm s m args below meth c H locs cells slots Q g) : W p l e Rm s m args below meth c H locs cells slots Q2 g := by
  intro T hT X
  obtain ⟨t, a, b⟩ := k T hT X
  exact ⟨t, a, hQ t b⟩
/-- a step that leaves the world -/
theorem RQ.one {G : GT} {M : MI} {d pc pc2 : Nat} {L L2 : List (Option Value)} {S S2 : List Value} {h : AH} {P : OC → AH → Prop}
    (hk : ∀ (p : Program) (e : Env) (Rm : Room) (s : State) (m : MethodId) (args : Array Value) (below : List Frame) (meth : Method) (c : Code) (H : Heap) (locs : List Loc) (cells slots : Nat) (ls : Array Slot) (Q : State → Prop),
      Cx G M d p Rm s m args meth c → s.heap.size + cells = gB G + h.1 → cells ≤ Rm.cells → slots ≤ Rm.slots → h.1 < OLD → Wd G h H → va_S (Aq G) s.heap H locs → Rl G M.2.2.1 ls L →
      (∀ ls2, Rl G M.2.2.1 ls2 L2 → W p (gL G) e Rm s m args below meth c H locs cells slots Q (F0 m pc2 ls2 (S2.map (cv G)))) → W p (gL G) e Rm s m args below meth c H locs cells slots Q (F0 m pc ls (S.map (cv G))))
    (r : RQ G M d pc2 L2 S2 h P) : RQ G M d pc L S h P := by
  refine RQ.map (fun o h' r => ⟨r.1, fun p e Rm s m args below meth c H locs cells slots ls hC hz hc hs ho hW hS hl => ?_⟩) r
  have h0 := r.1.1
  exact hk p e Rm s m args below meth c H locs cells slots ls _ hC hz (by omega) (by omega) (by omega) hW hS hl (fun ls2 hl2 => r.2 p e Rm s m args below meth c H locs cells slots ls2 hC hz hc hs ho hW hS hl2)
/-- a step that changes a cell -/
theorem RQ.put {G : GT} {M : MI} {d pc pc2 : Nat} {L : List (Option Value)} {S S2 : List Value} {h : AH} {i : Nat} {cn : AC} {P : OC → AH → Prop}
    (hk : ∀ (p : Program) (e : Env) (Rm : Room) (s : State) (m : MethodId) (args : Array Value) (below : List Frame) (meth : Method) (c : Code) (H : Heap) (locs : List Loc) (cells slots : Nat) (ls : Array Slot) (Q : State → Prop),
      Cx G M d p Rm s m args meth c → s.heap.size + cells = gB G + h.1 → h.1 < OLD → Wd G h H → va_S (Aq G) s.heap H locs → Rl G M.2.2.1 ls L →
      (∀ H2 locs2, Wd G (hset h i cn) H2 → va_S (Aq G) s.heap H2 locs2 → W p (gL G) e Rm s m args below meth c H2 locs2 cells slots Q (F0 m pc2 ls (S2.map (cv G)))) → W p (gL G) e Rm s m args below meth c H locs cells slots Q (F0 m pc ls (S.map (cv G))))
    (r : RQ G M d pc2 L S2 (hset h i cn) P) : RQ G M d pc L S h P := by
  refine RQ.map (h2 := hset h i cn) (fun o h' r => ⟨r.1, fun p e Rm s m args below meth c H locs cells slots ls hC hz hc hs ho hW hS hl => ?_⟩) r
  have h0 : h.1 ≤ h'.1 := r.1.1
  exact hk p e Rm s m args below meth c H locs cells slots ls _ hC hz (by omega) hW hS hl (fun H2 locs2 hW2 hS2 => r.2 p e Rm s m args below meth c H2 locs2 cells slots ls hC hz hc hs ho hW2 hS2 hl)
/-- a step that makes a cell of n slots -/
theorem RQ.new {G : GT} {M : MI} {d pc pc2 : Nat} {L : List (Option Value)} {S S2 : List Value} {h : AH} {n : Nat} {cn : AC} {P : OC → AH → Prop}
    (hk : ∀ (p : Program) (e : Env) (Rm : Room) (s : State) (m : MethodId) (args : Array Value) (below : List Frame) (meth : Method) (c : Code) (H : Heap) (locs : List Loc) (cells slots : Nat) (ls : Array Slot) (Q : State → Prop),
      Cx G M d p Rm s m args meth c → s.heap.size + cells = gB G + h.1 → cells + 1 ≤ Rm.cells → slots + n ≤ Rm.slots → h.1 < OLD → Wd G h H → va_S (Aq G) s.heap H locs → Rl G M.2.2.1 ls L →
      (∀ H2, Wd G (hnew h n cn) H2 → va_S (Aq G) s.heap H2 locs → W p (gL G) e Rm s m args below meth c H2 locs (cells + 1) (slots + n) Q (F0 m pc2 ls (S2.map (cv G)))) → W p (gL G) e Rm s m args below meth c H locs cells slots Q (F0 m pc ls (S.map (cv G))))
    (r : RQ G M d pc2 L S2 (hnew h n cn) P) : RQ G M d pc L S h P := by
  refine RQ.map (fun o h' r => ?_) r
  obtain ⟨⟨r1, r2⟩, r3⟩ := r
  have r1 : h.1 + 1 ≤ h'.1 := r1
  have r2 : h.2.1 + n ≤ h'.2.1 := r2
  refine ⟨⟨by omega, by omega⟩, fun p e Rm s m args below meth c H locs cells slots ls hC hz hc hs ho hW hS hl => ?_⟩
  refine hk p e Rm s m args below meth c H locs cells slots ls _ hC hz (by omega) (by omega) (by omega) hW hS hl (fun H2 hW2 hS2 => ?_)
  have e1 : cells + 1 + (h'.1 - (hnew h n cn).1) = cells + (h'.1 - h.1) := by show cells + 1 + (h'.1 - (h.1 + 1)) = _; omega
  have e2 : slots + n + (h'.2.1 - (hnew h n cn).2.1) = slots + (h'.2.1 - h.2.1) := by show slots + n + (h'.2.1 - (h.2.1 + n)) = _; omega
  have k := r3 p e Rm s m args below meth c H2 locs (cells + 1) (slots + n) ls hC (by show s.heap.size + (cells + 1) = gB G + (h.1 + 1); omega) (by rw [e1]; exact hc) (by rw [e2]; exact hs) ho hW2 hS2 hl
  rw [e1, e2] at k
  exact k
