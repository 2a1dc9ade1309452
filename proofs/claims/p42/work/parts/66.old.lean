/-! old things: what a getstatic, a getfield, a row of an array of theirs gives; String.length, charAt, Enum.ordinal -/
abbrev mjLen : MI := (⟨"java/lang/String", "length", "()I"⟩, prog_32_method_54_code, 1, (some .int), [])
theorem djLen_0 : decode prog_32_method_54_code 0 = .ok (.aload_n 0, 1) := by decide +kernel
theorem djLen_1 : decode prog_32_method_54_code 1 = .ok (.getfield 9, 3) := by decide +kernel
theorem djLen_4 : decode prog_32_method_54_code 4 = .ok (.arraylength, 1) := by decide +kernel
theorem djLen_5 : decode prog_32_method_54_code 5 = .ok (.aload_n 0, 1) := by decide +kernel
theorem djLen_6 : decode prog_32_method_54_code 6 = .ok (.invokevirtual 335, 3) := by decide +kernel
theorem djLen_9 : decode prog_32_method_54_code 9 = .ok (.ishr, 1) := by decide +kernel
theorem djLen_10 : decode prog_32_method_54_code 10 = .ok (.ireturn, 1) := by decide +kernel
abbrev mjCod : MI := (⟨"java/lang/String", "coder", "()B"⟩, prog_32_method_152_code, 1, (some .byte), [])
theorem djCod_0 : decode prog_32_method_152_code 0 = .ok (.getstatic 38, 3) := by decide +kernel
theorem djCod_3 : decode prog_32_method_152_code 3 = .ok (.ifCond .eq 10, 3) := by decide +kernel
theorem djCod_6 : decode prog_32_method_152_code 6 = .ok (.aload_n 0, 1) := by decide +kernel
theorem djCod_7 : decode prog_32_method_152_code 7 = .ok (.getfield 15, 3) := by decide +kernel
theorem djCod_10 : decode prog_32_method_152_code 10 = .ok (.goto 4, 3) := by decide +kernel
theorem djCod_13 : decode prog_32_method_152_code 13 = .ok (.iconst 1, 1) := by decide +kernel
theorem djCod_14 : decode prog_32_method_152_code 14 = .ok (.ireturn, 1) := by decide +kernel
abbrev mjLat : MI := (⟨"java/lang/String", "isLatin1", "()Z"⟩, prog_32_method_154_code, 1, (some .boolean), [])
theorem djLat_0 : decode prog_32_method_154_code 0 = .ok (.getstatic 38, 3) := by decide +kernel
theorem djLat_3 : decode prog_32_method_154_code 3 = .ok (.ifCond .eq 14, 3) := by decide +kernel
theorem djLat_6 : decode prog_32_method_154_code 6 = .ok (.aload_n 0, 1) := by decide +kernel
theorem djLat_7 : decode prog_32_method_154_code 7 = .ok (.getfield 15, 3) := by decide +kernel
theorem djLat_10 : decode prog_32_method_154_code 10 = .ok (.ifCond .ne 7, 3) := by decide +kernel
theorem djLat_13 : decode prog_32_method_154_code 13 = .ok (.iconst 1, 1) := by decide +kernel
theorem djLat_14 : decode prog_32_method_154_code 14 = .ok (.goto 4, 3) := by decide +kernel
theorem djLat_17 : decode prog_32_method_154_code 17 = .ok (.iconst 0, 1) := by decide +kernel
theorem djLat_18 : decode prog_32_method_154_code 18 = .ok (.ireturn, 1) := by decide +kernel
abbrev mjChr : MI := (⟨"java/lang/String", "charAt", "(I)C"⟩, prog_32_method_56_code, 2, (some .char), [])
theorem djChr_0 : decode prog_32_method_56_code 0 = .ok (.aload_n 0, 1) := by decide +kernel
theorem djChr_1 : decode prog_32_method_56_code 1 = .ok (.invokevirtual 492, 3) := by decide +kernel
theorem djChr_4 : decode prog_32_method_56_code 4 = .ok (.ifCond .eq 12, 3) := by decide +kernel
theorem djChr_7 : decode prog_32_method_56_code 7 = .ok (.aload_n 0, 1) := by decide +kernel
theorem djChr_8 : decode prog_32_method_56_code 8 = .ok (.getfield 9, 3) := by decide +kernel
theorem djChr_11 : decode prog_32_method_56_code 11 = .ok (.iload_n 1, 1) := by decide +kernel
theorem djChr_12 : decode prog_32_method_56_code 12 = .ok (.invokestatic 495, 3) := by decide +kernel
theorem djChr_15 : decode prog_32_method_56_code 15 = .ok (.ireturn, 1) := by decide +kernel
theorem djChr_16 : decode prog_32_method_56_code 16 = .ok (.aload_n 0, 1) := by decide +kernel
theorem djChr_17 : decode prog_32_method_56_code 17 = .ok (.getfield 9, 3) := by decide +kernel
theorem djChr_20 : decode prog_32_method_56_code 20 = .ok (.iload_n 1, 1) := by decide +kernel
theorem djChr_21 : decode prog_32_method_56_code 21 = .ok (.invokestatic 498, 3) := by decide +kernel
theorem djChr_24 : decode prog_32_method_56_code 24 = .ok (.ireturn, 1) := by decide +kernel
abbrev mjCh1 : MI := (⟨"java/lang/StringLatin1", "charAt", "([BI)C"⟩, prog_34_method_2_code, 2, (some .char), [])
theorem djCh1_0 : decode prog_34_method_2_code 0 = .ok (.iload_n 1, 1) := by decide +kernel
theorem djCh1_1 : decode prog_34_method_2_code 1 = .ok (.aload_n 0, 1) := by decide +kernel
theorem djCh1_2 : decode prog_34_method_2_code 2 = .ok (.arraylength, 1) := by decide +kernel
theorem djCh1_3 : decode prog_34_method_2_code 3 = .ok (.invokestatic 9, 3) := by decide +kernel
theorem djCh1_6 : decode prog_34_method_2_code 6 = .ok (.aload_n 0, 1) := by decide +kernel
theorem djCh1_7 : decode prog_34_method_2_code 7 = .ok (.iload_n 1, 1) := by decide +kernel
theorem djCh1_8 : decode prog_34_method_2_code 8 = .ok (.baload, 1) := by decide +kernel
theorem djCh1_9 : decode prog_34_method_2_code 9 = .ok (.sipush 255, 3) := by decide +kernel
theorem djCh1_12 : decode prog_34_method_2_code 12 = .ok (.iand, 1) := by decide +kernel
theorem djCh1_13 : decode prog_34_method_2_code 13 = .ok (.i2c, 1) := by decide +kernel
theorem djCh1_14 : decode prog_34_method_2_code 14 = .ok (.ireturn, 1) := by decide +kernel
abbrev mjChk : MI := (⟨"java/lang/String", "checkIndex", "(II)V"⟩, prog_32_method_155_code, 2, none, [])
theorem djChk_0 : decode prog_32_method_155_code 0 = .ok (.iload_n 0, 1) := by decide +kernel
theorem djChk_1 : decode prog_32_method_155_code 1 = .ok (.iload_n 1, 1) := by decide +kernel
theorem djChk_2 : decode prog_32_method_155_code 2 = .ok (.getstatic 1053, 3) := by decide +kernel
theorem djChk_5 : decode prog_32_method_155_code 5 = .ok (.invokestatic 1059, 3) := by decide +kernel
theorem djChk_8 : decode prog_32_method_155_code 8 = .ok (.pop, 1) := by decide +kernel
theorem djChk_9 : decode prog_32_method_155_code 9 = .ok (.return_, 1) := by decide +kernel
abbrev mjPre : MI := (⟨"jdk/internal/util/Preconditions", "checkIndex", "(IILjava/util/function/BiFunction;)I"⟩, prog_40_method_11_code, 3, (some .int), [])
theorem djPre_0 : decode prog_40_method_11_code 0 = .ok (.iload_n 0, 1) := by decide +kernel
theorem djPre_1 : decode prog_40_method_11_code 1 = .ok (.ifCond .lt 8, 3) := by decide +kernel
theorem djPre_4 : decode prog_40_method_11_code 4 = .ok (.iload_n 0, 1) := by decide +kernel
theorem djPre_5 : decode prog_40_method_11_code 5 = .ok (.iload_n 1, 1) := by decide +kernel
theorem djPre_6 : decode prog_40_method_11_code 6 = .ok (.if_icmp .lt 10, 3) := by decide +kernel
theorem djPre_9 : decode prog_40_method_11_code 9 = .ok (.aload_n 2, 1) := by decide +kernel
theorem djPre_10 : decode prog_40_method_11_code 10 = .ok (.iload_n 0, 1) := by decide +kernel
theorem djPre_11 : decode prog_40_method_11_code 11 = .ok (.iload_n 1, 1) := by decide +kernel
theorem djPre_12 : decode prog_40_method_11_code 12 = .ok (.invokestatic 95, 3) := by decide +kernel
theorem djPre_15 : decode prog_40_method_11_code 15 = .ok (.athrow, 1) := by decide +kernel
theorem djPre_16 : decode prog_40_method_11_code 16 = .ok (.iload_n 0, 1) := by decide +kernel
theorem djPre_17 : decode prog_40_method_11_code 17 = .ok (.ireturn, 1) := by decide +kernel
abbrev mjOrd : MI := (⟨"java/lang/Enum", "ordinal", "()I"⟩, prog_24_method_2_code, 1, (some .int), [])
theorem djOrd_0 : decode prog_24_method_2_code 0 = .ok (.aload_n 0, 1) := by decide +kernel
theorem djOrd_1 : decode prog_24_method_2_code 1 = .ok (.getfield 7, 3) := by decide +kernel
theorem djOrd_4 : decode prog_24_method_2_code 4 = .ok (.ireturn, 1) := by decide +kernel
theorem ow1059 : Cond.sameMethod "CupboardPoll$Kind" "java/lang/Enum" "ordinal" "()I" ∈ AW := AW_in 601 (by decide +kernel) (by decide +kernel)
theorem ow1061 : Cond.selects "CupboardPoll$Kind" (⟨"CupboardPoll$Kind", "ordinal", "()I"⟩ : MethodName) mjOrd.1 ∈ AW := AW_in 603 (by decide +kernel) (by decide +kernel)
theorem ow1062 : Cond.instanceMethod mjOrd.1 ∈ AW := AW_in 604 (by decide +kernel) (by decide +kernel)
theorem ow1063 : codeW mjOrd ∈ AW := AW_in 605 (by decide +kernel) (by decide +kernel)
theorem ow116 : Cond.initialized "java/lang/Enum" ∈ AW := AW_in 48 (by decide +kernel) (by decide +kernel)
theorem ow128 : Cond.initialized "java/lang/String" ∈ AW := AW_in 55 (by decide +kernel) (by decide +kernel)
theorem ow129 : Cond.initialized "java/lang/StringLatin1" ∈ AW := AW_in 63 (by decide +kernel) (by decide +kernel)
theorem ow130 : Cond.initialized "jdk/internal/util/Preconditions" ∈ AW := AW_in 62 (by decide +kernel) (by decide +kernel)
theorem ow1964 : Cond.fieldLink "java/lang/String" 9 "java/lang/String" "value" "[B" ∈ AW := AW_in 1459 (by decide +kernel) (by decide +kernel)
theorem ow1965 : Cond.fieldLink "java/lang/String" 15 "java/lang/String" "coder" "B" ∈ AW := AW_in 1460 (by decide +kernel) (by decide +kernel)
theorem ow1966 : Cond.fieldLink "java/lang/Enum" 7 "java/lang/Enum" "ordinal" "I" ∈ AW := AW_in 1731 (by decide +kernel) (by decide +kernel)
theorem ow489 : Cond.instanceMethod mjLen.1 ∈ AW := AW_in 859 (by decide +kernel) (by decide +kernel)
theorem ow490 : Cond.selects "java/lang/String" mjLen.1 mjLen.1 ∈ AW := AW_in 860 (by decide +kernel) (by decide +kernel)
theorem ow491 : codeW mjLen ∈ AW := AW_in 861 (by decide +kernel) (by decide +kernel)
theorem ow492 : Cond.methodLink "java/lang/String" 335 mjCod.1 ∈ AW := AW_in 862 (by decide +kernel) (by decide +kernel)
theorem ow493 : Cond.instanceMethod mjCod.1 ∈ AW := AW_in 863 (by decide +kernel) (by decide +kernel)
theorem ow494 : Cond.selects "java/lang/String" mjCod.1 mjCod.1 ∈ AW := AW_in 864 (by decide +kernel) (by decide +kernel)
theorem ow495 : codeW mjCod ∈ AW := AW_in 865 (by decide +kernel) (by decide +kernel)
theorem ow496 : Cond.fieldLink "java/lang/String" 38 "java/lang/String" "COMPACT_STRINGS" "Z" ∈ AW := AW_in 866 (by decide +kernel) (by decide +kernel)
theorem ow499 : Cond.instanceMethod mjChr.1 ∈ AW := AW_in 869 (by decide +kernel) (by decide +kernel)
theorem ow500 : Cond.selects "java/lang/String" mjChr.1 mjChr.1 ∈ AW := AW_in 870 (by decide +kernel) (by decide +kernel)
theorem ow501 : codeW mjChr ∈ AW := AW_in 871 (by decide +kernel) (by decide +kernel)
theorem ow502 : Cond.methodLink "java/lang/String" 492 mjLat.1 ∈ AW := AW_in 872 (by decide +kernel) (by decide +kernel)
theorem ow503 : Cond.instanceMethod mjLat.1 ∈ AW := AW_in 873 (by decide +kernel) (by decide +kernel)
theorem ow504 : Cond.selects "java/lang/String" mjLat.1 mjLat.1 ∈ AW := AW_in 874 (by decide +kernel) (by decide +kernel)
theorem ow505 : codeW mjLat ∈ AW := AW_in 875 (by decide +kernel) (by decide +kernel)
theorem ow506 : Cond.methodLink "java/lang/String" 495 mjCh1.1 ∈ AW := AW_in 876 (by decide +kernel) (by decide +kernel)
theorem ow507 : Cond.static mjCh1.1 ∈ AW := AW_in 877 (by decide +kernel) (by decide +kernel)
theorem ow508 : codeW mjCh1 ∈ AW := AW_in 878 (by decide +kernel) (by decide +kernel)
theorem ow509 : Cond.methodLink "java/lang/StringLatin1" 9 mjChk.1 ∈ AW := AW_in 879 (by decide +kernel) (by decide +kernel)
theorem ow510 : Cond.static mjChk.1 ∈ AW := AW_in 880 (by decide +kernel) (by decide +kernel)
theorem ow511 : codeW mjChk ∈ AW := AW_in 881 (by decide +kernel) (by decide +kernel)
theorem ow512 : Cond.fieldLink "java/lang/String" 1053 "jdk/internal/util/Preconditions" "SIOOBE_FORMATTER" "Ljava/util/function/BiFunction;" ∈ AW := AW_in 882 (by decide +kernel) (by decide +kernel)
theorem ow514 : Cond.methodLink "java/lang/String" 1059 mjPre.1 ∈ AW := AW_in 884 (by decide +kernel) (by decide +kernel)
theorem ow515 : Cond.static mjPre.1 ∈ AW := AW_in 885 (by decide +kernel) (by decide +kernel)
theorem ow516 : codeW mjPre ∈ AW := AW_in 886 (by decide +kernel) (by decide +kernel)
/-- the switches' table in numbers -/
def SMk (j : Nat) : Nat := [0, 0, 10, 0, 0, 0, 0, 0, 0, 1, 0, 2, 3, 4, 5, 6, 21, 0, 13, 14, 8, 9, 11, 12, 0, 0, 0, 0, 0, 0, 0, 0, 0, 18, 19, 20, 15, 16, 17, 0, 7, 0, 0].getD j 0
theorem SMk_eq : ∀ j, j < 43 → SMl.getD j 0 = nI (SMk j) := by decide +kernel
theorem SMk_lt : ∀ j, j < 43 → SMk j < 22 := by decide +kernel
theorem KF_at : ∀ i, i < 43 → ([0, 1, 2, 3, 4, 5, 6, 7, 8, 9, 10, 11, 12, 13, 14, 15, 16, 17, 18, 19, 20, 21, 22, 23, 24, 25, 26, 27, 28, 29, 30, 31, 32, 33, 34, 35, 36, 37, 38, 39, 40, 41, 42] : List Int32).getD i 0 = nI i := by decide +kernel
/-- byte j of text i -/
def tby (i j : Nat) : Nat := ((SBy.getD i []).getD j 0).toInt.toNat
def tln (i : Nat) : Nat := (SBy.getD i []).length
theorem tby_eq : ∀ i, i < 88 → ∀ j, j < tln i → (SBy.getD i []).getD j 0 = nI (tby i j) ∧ tby i j < 128 := by decide +kernel
theorem tby_c : ∀ n, n < 128 → ((nI n &&& nI 255).toUInt32 % 65536).toInt32 = nI n ∧ narrow .char (.int (nI n)) = .int (nI n) := by decide +kernel
theorem Cx.oe {G : GT} {M : MI} {d : Nat} {p : Program} {Rm : Room} {s : State} {m : MethodId} {args : Array Value} {meth : Method} {c : Code} (hC : Cx G M d p Rm s m args meth c) : Oe G s s.heap := hC.2.2.2.2.2.2.2.1.2.2.2.2.2.2.2.2.2
theorem Cx.od {G : GT} {M : MI} {d : Nat} {p : Program} {Rm : Room} {s : State} {m : MethodId} {args : Array Value} {meth : Method} {c : Code} (hC : Cx G M d p Rm s m args meth c) : Od G s s.heap := hC.2.2.2.2.2.2.2.1.2.2.2.2.2.2.1
section OLDX
variable {G : GT} {M M2 : MI} {d d2 pc : Nat} {L : List (Option Value)} {S : List Value} {h : AH} {P P1 : OC → AH → Prop}
theorem q_gsw {index : Nat} (hd : decode M.2.1 pc = .ok (.getstatic index, 3)) (hlink : Cond.fieldLink M.1.cls index "CupboardPoll$1" SMn "[I" ∈ AW) (r : RQ G M d (pc + 3) L (.ref (OLD + 900) :: S) h P) : RQ G M d pc L S h P := by
  refine RQ.one (fun p e Rm s m args below meth c H locs cells slots ls Q hC hz hcs hss h0 hW hS hl k => ?_) r
  refine va_gets (C := "CupboardPoll$1") (n := SMn) (d := "[I") (v := .ref (gO G 900)) hC.1 hC.2.1 hC.oe.1.1 hS hC.2.2.2.2.2.1 (hC.2.2.2.2.2.2.1 _ hlink) (fun _ hx => hx) hd ?_
  rw [← cv_old]
  exact k ls hl
theorem q_gkn {index : Nat} (hd : decode M.2.1 pc = .ok (.getstatic index, 3)) (hlink : Cond.fieldLinkNest M.1.cls index "CupboardPoll" "KINDS" "[LCupboardPoll$Kind;" "CupboardPoll" ∈ NW) (r : RQ G M d (pc + 3) L (.ref (OLD + 901) :: S) h P) : RQ G M d pc L S h P := by
  refine RQ.one (fun p e Rm s m args below meth c H locs cells slots ls Q hC hz hcs hss h0 hW hS hl k => ?_) r
  refine va_getsN (C := "CupboardPoll") (n := "KINDS") (d := "[LCupboardPoll$Kind;") (v := .ref (gO G 901)) hC.1 hC.2.1 hC.oe.2.1.1 hS hC.2.2.2.2.2.1 (va_Nw.use rfl (hC.2.2.2.2.2.2.2.1.2.2.2.1 _ hlink)) (fun _ hx => hx) hd ?_
  rw [← cv_old]
  exact k ls hl
theorem q_gcs {index : Nat} (hd : decode M.2.1 pc = .ok (.getstatic index, 3)) (hlink : Cond.fieldLink M.1.cls index "java/lang/String" "COMPACT_STRINGS" "Z" ∈ AW) (r : RQ G M d (pc + 3) L (.int 1 :: S) h P) : RQ G M d pc L S h P := by
  refine RQ.one (fun p e Rm s m args below meth c H locs cells slots ls Q hC hz hcs hss h0 hW hS hl k => ?_) r
  refine va_gets (C := "java/lang/String") (n := "COMPACT_STRINGS") (d := "Z") (v := .int 1) hC.1 hC.2.1 hC.oe.2.2.2.2.2.1 hS hC.2.2.2.2.2.1 (hC.2.2.2.2.2.2.1 _ hlink) (fun _ hx => hx) hd ?_
  skip
  exact k ls hl
/-- what a static of the JDK holds, as a value here -/
def foA (G : GT) : Value := if gO G 904 = 0 then .null else .ref (OLD + 903)
theorem foA_cv (G : GT) : cv G (foA G) = foV G := by
  unfold foA foV
  by_cases z : gO G 904 = 0
  · rw [if_pos z, if_pos z]
    rfl
  · rw [if_neg z, if_neg z, cv_old]
theorem q_gfo {index : Nat} (hd : decode M.2.1 pc = .ok (.getstatic index, 3)) (hlink : Cond.fieldLink M.1.cls index "jdk/internal/util/Preconditions" "SIOOBE_FORMATTER" "Ljava/util/function/BiFunction;" ∈ AW) (r : RQ G M d (pc + 3) L (foA G :: S) h P) : RQ G M d pc L S h P := by
  refine RQ.one (fun p e Rm s m args below meth c H locs cells slots ls Q hC hz hcs hss h0 hW hS hl k => ?_) r
  refine va_gets (C := "jdk/internal/util/Preconditions") (n := "SIOOBE_FORMATTER") (d := "Ljava/util/function/BiFunction;") (v := foV G) hC.1 hC.2.1 hC.oe.2.2.2.2.2.2.1 hS hC.2.2.2.2.2.1 (hC.2.2.2.2.2.2.1 _ hlink) (fun _ hx => hx) hd ?_
  rw [← foA_cv]
  exact k ls hl
theorem q_lkn (hd : decode M.2.1 pc = .ok (.arraylength, 1)) (r : RQ G M d (pc + 1) L (.int (nI (43)) :: S) h P) : RQ G M d pc L (.ref (OLD + 901) :: S) h P := by
  refine RQ.one (fun p e Rm s m args below meth c H locs cells slots ls Q hC hz hcs hss h0 hW hS hl k => ?_) r
  show W _ _ _ _ _ _ _ _ _ _ _ _ _ _ _ (F0 m pc ls (cv G (.ref (OLD + 901)) :: S.map (cv G)))
  rw [cv_old]
  exact va_tlen hC.1 hC.2.1 hC.oe.2.1.2 hS rfl hd (k ls hl)
theorem q_lby {i : Nat} (hi : i < 88) (hd : decode M.2.1 pc = .ok (.arraylength, 1)) (r : RQ G M d (pc + 1) L (.int (nI (tln i)) :: S) h P) : RQ G M d pc L (.ref (OLD + (200 + i)) :: S) h P := by
  refine RQ.one (fun p e Rm s m args below meth c H locs cells slots ls Q hC hz hcs hss h0 hW hS hl k => ?_) r
  show W _ _ _ _ _ _ _ _ _ _ _ _ _ _ _ (F0 m pc ls (cv G (.ref (OLD + (200 + i))) :: S.map (cv G)))
  rw [cv_old]
  exact va_tlen hC.1 hC.2.1 (hC.oe.2.2.2.2.1 i hi).2.2.2 hS rfl hd (k ls hl)
theorem q_asw {j : Nat} {x : Int32} (hd : decode M.2.1 pc = .ok (.iaload, 1)) (hx : x = nI j) (hj : j < 43) (r : RQ G M d (pc + 1) L (.int (nI (SMk j)) :: S) h P) : RQ G M d pc L (.int x :: .ref (OLD + 900) :: S) h P := by
  subst hx
  refine RQ.one (fun p e Rm s m args below meth c H locs cells slots ls Q hC hz hcs hss h0 hW hS hl k => ?_) r
  show W _ _ _ _ _ _ _ _ _ _ _ _ _ _ _ (F0 m pc ls (.int (nI j) :: cv G (.ref (OLD + 900)) :: S.map (cv G)))
  rw [cv_old]
  refine va_ti (v := .int (nI (SMk j))) hC.1 hC.2.1 hC.oe.1.2 hS (vp_in_nI hj ?_) ?_ hd ?_
  · decide
  · rw [nI_clamp (show j < 2 ^ 31 by omega)]
    show Value.int _ = _
    rw [SMk_eq j hj]
  skip
  exact k ls hl
theorem q_akn {j : Nat} {x : Int32} (hd : decode M.2.1 pc = .ok (.aaload, 1)) (hx : x = nI j) (hj : j < 43) (r : RQ G M d (pc + 1) L (.ref (OLD + j) :: S) h P) : RQ G M d pc L (.int x :: .ref (OLD + 901) :: S) h P := by
  subst hx
  refine RQ.one (fun p e Rm s m args below meth c H locs cells slots ls Q hC hz hcs hss h0 hW hS hl k => ?_) r
  show W _ _ _ _ _ _ _ _ _ _ _ _ _ _ _ (F0 m pc ls (.int (nI j) :: cv G (.ref (OLD + 901)) :: S.map (cv G)))
  rw [cv_old]
  refine vb_tq (v := .ref (gO G j)) hC.1 hC.2.1 hC.oe.2.1.2 hS (vp_in_nI hj ?_) ?_ hd ?_
  · decide
  · rw [nI_clamp (show j < 2 ^ 31 by omega)]
  rw [← cv_old]
  exact k ls hl
theorem tln_lt : ∀ i, i < 88 → tln i < 2 ^ 31 := by decide +kernel
theorem q_aby {i : Nat} (hi : i < 88) {j : Nat} {x : Int32} (hd : decode M.2.1 pc = .ok (.baload, 1)) (hx : x = nI j) (hj : j < tln i) (r : RQ G M d (pc + 1) L (.int (nI (tby i j)) :: S) h P) : RQ G M d pc L (.int x :: .ref (OLD + (200 + i)) :: S) h P := by
  subst hx
  refine RQ.one (fun p e Rm s m args below meth c H locs cells slots ls Q hC hz hcs hss h0 hW hS hl k => ?_) r
  show W _ _ _ _ _ _ _ _ _ _ _ _ _ _ _ (F0 m pc ls (.int (nI j) :: cv G (.ref (OLD + (200 + i))) :: S.map (cv G)))
  rw [cv_old]
  refine va_tb (v := .int (nI (tby i j))) hC.1 hC.2.1 (hC.oe.2.2.2.2.1 i hi).2.2.2 hS (vp_in_nI hj ?_) ?_ hd ?_
  · exact tln_lt i hi
  · rw [nI_clamp (show j < 2 ^ 31 by have := tln_lt i hi; omega)]
    show Value.int _ = _
    rw [(tby_eq i hi j hj).1]
  skip
  exact k ls hl
theorem q_val {index : Nat} {i : Nat} (hi : i < 88) (hd : decode M.2.1 pc = .ok (.getfield index, 3)) (hlink : Cond.fieldLink M.1.cls index "java/lang/String" "value" "[B" ∈ AW) (r : RQ G M d (pc + 3) L (.ref (OLD + (200 + i)) :: S) h P) : RQ G M d pc L (.ref (OLD + (100 + i)) :: S) h P := by
  refine RQ.one (fun p e Rm s m args below meth c H locs cells slots ls Q hC hz hcs hss h0 hW hS hl k => ?_) r
  show W _ _ _ _ _ _ _ _ _ _ _ _ _ _ _ (F0 m pc ls (cv G (.ref (OLD + (100 + i))) :: S.map (cv G)))
  rw [cv_old]
  refine vk_getf (o := "java/lang/String") (n := "value") (d := "[B") (v := .ref (gO G (200 + i))) hC.1 hC.2.1 (hC.oe.2.2.2.2.1 i hi).2.2.1 hS hC.2.2.2.2.2.1 (hC.2.2.2.2.2.2.1 _ hlink) (fun _ hx => hx) hd ?_
  rw [← cv_old]
  exact k ls hl
theorem q_cod {index : Nat} {i : Nat} (hi : i < 88) (hd : decode M.2.1 pc = .ok (.getfield index, 3)) (hlink : Cond.fieldLink M.1.cls index "java/lang/String" "coder" "B" ∈ AW) (r : RQ G M d (pc + 3) L (.int 0 :: S) h P) : RQ G M d pc L (.ref (OLD + (100 + i)) :: S) h P := by
  refine RQ.one (fun p e Rm s m args below meth c H locs cells slots ls Q hC hz hcs hss h0 hW hS hl k => ?_) r
  show W _ _ _ _ _ _ _ _ _ _ _ _ _ _ _ (F0 m pc ls (cv G (.ref (OLD + (100 + i))) :: S.map (cv G)))
  rw [cv_old]
  refine vk_getf (o := "java/lang/String") (n := "coder") (d := "B") (v := .int 0) hC.1 hC.2.1 (hC.oe.2.2.2.2.1 i hi).2.1 hS hC.2.2.2.2.2.1 (hC.2.2.2.2.2.2.1 _ hlink) (fun _ hx => hx) hd ?_
  skip
  exact k ls hl
theorem q_orf {index : Nat} {i : Nat} (hi : i < 43) (hd : decode M.2.1 pc = .ok (.getfield index, 3)) (hlink : Cond.fieldLink M.1.cls index "java/lang/Enum" "ordinal" "I" ∈ AW) (r : RQ G M d (pc + 3) L (.int (nI i) :: S) h P) : RQ G M d pc L (.ref (OLD + i) :: S) h P := by
  refine RQ.one (fun p e Rm s m args below meth c H locs cells slots ls Q hC hz hcs hss h0 hW hS hl k => ?_) r
  show W _ _ _ _ _ _ _ _ _ _ _ _ _ _ _ (F0 m pc ls (cv G (.ref (OLD + i)) :: S.map (cv G)))
  rw [cv_old]
  have hf := (hC.od.2.2.1.1 i hi).2.2 _ (List.mem_singleton.mpr rfl)
  have hf : va_OF "java/lang/Enum" "ordinal" "I" (.int (([0, 1, 2, 3, 4, 5, 6, 7, 8, 9, 10, 11, 12, 13, 14, 15, 16, 17, 18, 19, 20, 21, 22, 23, 24, 25, 26, 27, 28, 29, 30, 31, 32, 33, 34, 35, 36, 37, 38, 39, 40, 41, 42] : List Int32).getD i 0)) (gO G i) (Aq G) s s.heap := hf
  rw [KF_at i hi] at hf
  exact vk_getf (o := "java/lang/Enum") (n := "ordinal") (d := "I") (v := .int (nI i)) hC.1 hC.2.1 hf hS hC.2.2.2.2.2.1 (hC.2.2.2.2.2.2.1 _ hlink) (fun _ hx => hx) hd (k ls hl)
theorem q_txt {index : Nat} {i : Nat} (hi : i < 43) (hd : decode M.2.1 pc = .ok (.getfield index, 3)) (hlink : Cond.fieldLinkNest M.1.cls index "CupboardPoll$Kind" "text" STR "CupboardPoll" ∈ NW) (r : RQ G M d (pc + 3) L (.ref (OLD + (100 + TXl i)) :: S) h P) : RQ G M d pc L (.ref (OLD + i) :: S) h P := by
  refine RQ.one (fun p e Rm s m args below meth c H locs cells slots ls Q hC hz hcs hss h0 hW hS hl k => ?_) r
  show W _ _ _ _ _ _ _ _ _ _ _ _ _ _ _ (F0 m pc ls (cv G (.ref (OLD + i)) :: S.map (cv G)))
  rw [cv_old]
  obtain ⟨cf, kq, fi, f, cell, h1, h2, h3, h4, h5, h6⟩ := (hC.oe.2.2.2.1 i hi).kept hS.2.1
  refine va_Wgetf (v := .ref (gO G (100 + TXl i))) hC.1 hC.2.1 hC.2.2.2.2.2.1 (va_Nw.use rfl (hC.2.2.2.2.2.2.2.1.2.2.2.1 _ hlink)) h1 h2 h3 h4 h5 rfl rfl hd ?_
  have kk := k ls hl
  rw [List.map_cons, cv_old] at kk
  exact kk
/-- a method of a text -/
theorem q_callT {index i n : Nat} {As : List Value} (hi : i < 88) (hd : decode M.2.1 pc = .ok (.invokevirtual index, 3)) (hyC : M2.1.cls = "java/lang/String") (hy : plainName M2.1.cls = true ∧ M2.1.cls ≠ "java/lang/invoke/MethodHandle" ∧ M2.1.cls ≠ "java/lang/invoke/VarHandle" ∧ (parseMethodDescriptor M2.1.desc).map (fun d => d.parameters.length) = some n) (hh : M2.2.2.2.2 = [])
    (hl : Cond.methodLink M.1.cls index M2.1 ∈ AW) (hin : Cond.instanceMethod M2.1 ∈ AW) (hs : Cond.selects "java/lang/String" M2.1 M2.1 ∈ AW) (hni : Cond.initialized "java/lang/String" ∈ AW) (hcode : codeW M2 ∈ AW) (hdd : d2 + 1 ≤ d) (hml : M2.2.2.1 ≤ 20)
    (hlen : (entS (.ref (OLD + (100 + i)) :: As)).length ≤ M2.2.2.1) (hn : As.length = n) (hst : (S.map fun v => v.category).sum ≤ 8)
    (call : RQ G M2 d2 0 (entL (.ref (OLD + (100 + i)) :: As) M2.2.2.1) [] h P1) (k : ∀ o h1, P1 o h1 → ∃ v, o = .inl v ∧ RQ G M d (pc + 3) L (v.toList ++ S) h1 P) : RQ G M d pc L (As.reverse ++ .ref (OLD + (100 + i)) :: S) h P := by
  refine RQ.call hy.1 hh hcode hlen call (fun v h1 p e Rm s m args below meth c H locs cells slots ls hC hLl hW h0 hPc hcs hss hM => ?_) k
  have hG := (hPc ({ s with heap := H } : State) rfl (State.WarmedH.refl s)).2.2.2
  obtain ⟨cell, g1, g2, g3, g4⟩ := (hG.2.2.2.2.2.2.2.2.2.2.2.2.2.1 i hi).1
  exact va_runV (Ts := AW) (own := M.1.cls) (C := "java/lang/String") (b := gad G (OLD + (100 + i))) (As := As.map (cv G)) ⟨hC.1, hC.2.1, hC.2.2.1, hC.2.2.2.2.2.1, hC.2.2.2.2.2.2.1⟩ hM
    (cwV n hC.2.2.2.2.2.2.1 (goodV hl hin hs hni hcode) rfl rfl rfl ⟨hyC, hy.2.1, hy.2.2.1, hy.2.2.2⟩ ⟨by have := hC.2.2.2.2.2.2.2.2.2.2.1; show d2 + 1 ≤ Rm.frames; omega, by have := hC.2.2.2.2.2.2.2.2.2.2.2; show 8 + (M2.2.2.1 + 11) + 40 * d2 ≤ Rm.locals; omega⟩)
    ⟨PcR.blind G _ h, ⟨cell, by rw [gad_old]; exact g1, g2, g3⟩, hPc⟩ rfl (by rw [List.length_map]; exact hn) hLl.1
    (by show (As.reverse ++ Value.ref (OLD + (100 + i)) :: S).map (cv G) = _; rw [List.map_append, List.map_reverse, List.map_cons]; rfl) (room_cv hst) hd ⟨hcs, hss⟩
theorem goodU {own C owner : String} {idx : Nat} {x : MethodName} (h1 : Cond.methodLink own idx x ∈ AW) (h2 : Cond.sameMethod x.cls owner x.name x.desc ∈ AW) (h3 : Cond.selects C x M2.1 ∈ AW) (h4 : Cond.instanceMethod M2.1 ∈ AW) (h5 : Cond.initialized M2.1.cls ∈ AW) (hc : codeW M2 ∈ AW) : GoodIn AW (va_wsU own idx C owner x M2.1 (codeW M2 :: AW)) := by
  intro w hw
  simp only [va_wsU, List.cons_append, List.nil_append, List.mem_cons] at hw
  rcases hw with rfl | rfl | rfl | rfl | rfl | rfl | hw
  · exact AW_goodIn _ h1
  · exact AW_goodIn _ h2
  · exact AW_goodIn _ h3
  · exact AW_goodIn _ h4
  · exact AW_goodIn _ h5
  · exact AW_goodIn _ hc
  · exact AW_goodIn _ hw
theorem sj_ord {i : Nat} (hi : i < 43) : RQ G mjOrd d 0 [some (.ref (OLD + i))] [] h (Ri fun v h1 => v = nI i ∧ h1 = h) := by
  refine q_aload_n (M := mjOrd) (pc := 0) (r0 := some (OLD + i)) djOrd_0 rfl rfl ?_
  refine q_orf (M := mjOrd) (pc := 1) hi djOrd_1 ow1966 ?_
  exact q_ireturn (M := mjOrd) (pc := 4) (ty := .int) djOrd_4 rfl rfl ⟨_, rfl, rfl, rfl⟩
/-- ordinal() of a kind -/
theorem q_ord {index i : Nat} (hi : i < 43) (hd : decode M.2.1 pc = .ok (.invokevirtual index, 3)) (hl : Cond.methodLink M.1.cls index (⟨"CupboardPoll$Kind", "ordinal", "()I"⟩ : MethodName) ∈ AW) (hdd : 1 ≤ d) (hst : (S.map fun v => v.category).sum ≤ 8) (r : RQ G M d (pc + 3) L (.int (nI i) :: S) h P) : RQ G M d pc L (.ref (OLD + i) :: S) h P := by
  refine RQ.call (M2 := mjOrd) (S := S) (d2 := 0) (As := [.ref (OLD + i)]) (ST := .ref (OLD + i) :: S) (by decide) rfl ow1063 (Nat.le_of_ble_eq_true rfl) (sj_ord hi) (fun v h1 p e Rm s m args below meth c H locs cells slots ls hC hLl hW h0 hPc hcs hss hM => ?_) (callk_i (fun x h1 q => ?_))
  · have hG := (hPc ({ s with heap := H } : State) rfl (State.WarmedH.refl s)).2.2.2
    obtain ⟨cell, g1, g2, g3, g4⟩ := (hG.2.2.2.2.2.2.1.2.2.1.1 i hi).2.1
    exact va_runU (Ts := AW) (own := M.1.cls) (C := "CupboardPoll$Kind") (owner := "java/lang/Enum") (x := (⟨"CupboardPoll$Kind", "ordinal", "()I"⟩ : MethodName)) (b := gad G (OLD + i)) (As := []) ⟨hC.1, hC.2.1, hC.2.2.1, hC.2.2.2.2.2.1, hC.2.2.2.2.2.2.1⟩ hM
      (va_cwU 0 hC.2.2.2.2.2.2.1 (goodU (M2 := mjOrd) hl ow1059 ow1061 ow1062 ow116 ow1063) rfl rfl rfl rfl ⟨by decide, by decide, rfl⟩ ⟨by have := hC.2.2.2.2.2.2.2.2.2.2.1; show 0 + 1 ≤ Rm.frames; omega, by have := hC.2.2.2.2.2.2.2.2.2.2.2; show 8 + (1 + 11) + 40 * 0 ≤ Rm.locals; omega⟩)
      ⟨PcR.blind G _ h, ⟨cell, by rw [gad_old]; exact g1, g2, g3⟩, hPc⟩ rfl rfl hLl.1 rfl (room_cv hst) hd ⟨hcs, hss⟩
  · obtain ⟨rfl, rfl⟩ := q
    exact r

theorem sj_cod {i : Nat} (hi : i < 88) : RQ G mjCod d 0 [some (.ref (OLD + (100 + i)))] [] h (Ri fun v h1 => v = 0 ∧ h1 = h) := by
  refine q_gcs (M := mjCod) (pc := 0) djCod_0 ow496 ?_
  refine q_if_eq (M := mjCod) (pc := 3) (tgt := 13) djCod_3 (by decide) (fun z => absurd z (by decide)) (fun _ => ?_)
  refine q_aload_n (M := mjCod) (pc := 6) (r0 := some (OLD + (100 + i))) djCod_6 rfl rfl ?_
  refine q_cod (M := mjCod) (pc := 7) hi djCod_7 ow1965 ?_
  refine q_goto (M := mjCod) (pc := 10) (tgt := 14) djCod_10 (by decide) ?_
  exact q_ireturn (M := mjCod) (pc := 14) (ty := .byte) djCod_14 rfl (by decide) ⟨_, rfl, rfl, rfl⟩
theorem sj_lat {i : Nat} (hi : i < 88) : RQ G mjLat d 0 [some (.ref (OLD + (100 + i)))] [] h (Ri fun v h1 => v = nI 1 ∧ h1 = h) := by
  refine q_gcs (M := mjLat) (pc := 0) djLat_0 ow496 ?_
  refine q_if_eq (M := mjLat) (pc := 3) (tgt := 17) djLat_3 (by decide) (fun z => absurd z (by decide)) (fun _ => ?_)
  refine q_aload_n (M := mjLat) (pc := 6) (r0 := some (OLD + (100 + i))) djLat_6 rfl rfl ?_
  refine q_cod (M := mjLat) (pc := 7) hi djLat_7 ow1965 ?_
  refine q_if_ne (M := mjLat) (pc := 10) (tgt := 17) djLat_10 (by decide) (fun z => absurd rfl z) (fun _ => ?_)
  refine q_iconst (M := mjLat) (pc := 13) (v := nI 1) djLat_13 (by decide) ?_
  refine q_goto (M := mjLat) (pc := 14) (tgt := 18) djLat_14 (by decide) ?_
  exact q_ireturn (M := mjLat) (pc := 18) (ty := .boolean) djLat_18 rfl (by decide) ⟨_, rfl, rfl, rfl⟩
theorem sj_len {i : Nat} (hi : i < 88) (hd9 : 1 ≤ d) : RQ G mjLen d 0 [some (.ref (OLD + (100 + i)))] [] h (Ri fun v h1 => v = nI (tln i) ∧ h1 = h) := by
  refine q_aload_n (M := mjLen) (pc := 0) (r0 := some (OLD + (100 + i))) djLen_0 rfl rfl ?_
  refine q_val (M := mjLen) (pc := 1) hi djLen_1 ow1964 ?_
  refine q_lby (M := mjLen) (pc := 4) hi djLen_4 ?_
  refine q_aload_n (M := mjLen) (pc := 5) (r0 := some (OLD + (100 + i))) djLen_5 rfl rfl ?_
  refine q_callT (M := mjLen) (pc := 6) (M2 := mjCod) (As := []) (n := 0) (d2 := 0) hi djLen_6 rfl ⟨by decide, by decide, by decide, rfl⟩ rfl ow492 ow493 ow494 ow128 ow495 (by omega) (by decide) (Nat.le_of_ble_eq_true rfl) rfl (Nat.le_of_ble_eq_true rfl) (sj_cod (d := 0) hi) (callk_i (fun x h1 q => ?_))
  obtain ⟨rfl, rfl⟩ := q
  refine q_ishr (M := mjLen) (pc := 9) djLen_9 ?_
  refine q_ireturn (M := mjLen) (pc := 10) (ty := .int) djLen_10 rfl rfl ⟨_, rfl, ?_, rfl⟩
  have hz : ∀ z : Int32, z >>> ((0 : Int32) &&& 31) = z := fun z => by simp
  exact hz _
theorem sj_pre {i n : Nat} (hin : i < n) (hn : n < 2147483648) {v : Value} (hv : v = .null ∨ ∃ k, v = .ref k) : RQ G mjPre d 0 [some (.int (nI i)), some (.int (nI n)), some v] [] h (Ri fun x h1 => x = nI i ∧ h1 = h) := by
  refine q_iload_n (M := mjPre) (pc := 0) djPre_0 rfl rfl ?_
  refine q_if_lt (M := mjPre) (pc := 1) (tgt := 9) djPre_1 (by decide) (fun z => absurd z (nI_pos (by omega))) (fun _ => ?_)
  refine q_iload_n (M := mjPre) (pc := 4) djPre_4 rfl rfl ?_
  refine q_iload_n (M := mjPre) (pc := 5) djPre_5 rfl rfl ?_
  refine q_icmp_lt (M := mjPre) (pc := 6) (tgt := 16) djPre_6 (by decide) (fun _ => ?_) (fun z => absurd ((nI_ltI (by omega) (by omega)).mpr hin) z)
  refine q_iload_n (M := mjPre) (pc := 16) djPre_16 rfl rfl ?_
  exact q_ireturn (M := mjPre) (pc := 17) (ty := .int) djPre_17 rfl rfl ⟨_, rfl, rfl, rfl⟩
theorem foA_or (G : GT) : foA G = .null ∨ ∃ k, foA G = .ref k := by
  unfold foA
  by_cases z : gO G 904 = 0
  · exact Or.inl (if_pos z)
  · exact Or.inr ⟨_, if_neg z⟩
theorem sj_chk {i n : Nat} (hin : i < n) (hn : n < 2147483648) (hd9 : 1 ≤ d) : RQ G mjChk d 0 [some (.int (nI i)), some (.int (nI n))] [] h (Rv fun h1 => h1 = h) := by
  refine q_iload_n (M := mjChk) (pc := 0) djChk_0 rfl rfl ?_
  refine q_iload_n (M := mjChk) (pc := 1) djChk_1 rfl rfl ?_
  refine q_gfo (M := mjChk) (pc := 2) djChk_2 ow512 ?_
  have key : ∀ v : Value, (v = .null ∨ ∃ k, v = .ref k) → RQ G mjChk d 5 [some (.int (nI i)), some (.int (nI n))] [v, .int (nI n), .int (nI i)] h (Rv fun h1 => h1 = h) := by
    intro v hv
    have hent : entL [.int (nI i), .int (nI n), v] 3 = [some (.int (nI i)), some (.int (nI n)), some v] := by
      rcases hv with rfl | ⟨k, rfl⟩ <;> rfl
    have hlen : (entS [.int (nI i), .int (nI n), v]).length ≤ 3 := by
      rcases hv with rfl | ⟨k, rfl⟩ <;> exact Nat.le_refl _
    refine q_callS (M := mjChk) (pc := 5) (M2 := mjPre) (S := []) (As := [.int (nI i), .int (nI n), v]) (n := 3) (d2 := 0) djChk_5 ⟨by decide, by decide, by decide, rfl⟩ rfl ow514 ow515 ow130 ow516 (by omega) (by decide) hlen rfl (by decide) (by rw [hent]; exact sj_pre hin hn hv) (callk_i (fun x h1 q => ?_))
    obtain ⟨rfl, rfl⟩ := q
    refine q_pop (M := mjChk) (pc := 8) djChk_8 rfl ?_
    exact q_return (M := mjChk) (pc := 9) djChk_9 rfl ⟨rfl, rfl⟩
  exact key _ (foA_or G)
theorem sj_ch1 {i j : Nat} (hi : i < 88) (hj : j < tln i) (hd9 : 2 ≤ d) : RQ G mjCh1 d 0 [some (.ref (OLD + (200 + i))), some (.int (nI j))] [] h (Ri fun v h1 => v = nI (tby i j) ∧ h1 = h) := by
  refine q_iload_n (M := mjCh1) (pc := 0) djCh1_0 rfl rfl ?_
  refine q_aload_n (M := mjCh1) (pc := 1) (r0 := some (OLD + (200 + i))) djCh1_1 rfl rfl ?_
  refine q_lby (M := mjCh1) (pc := 2) hi djCh1_2 ?_
  refine q_callS (M := mjCh1) (pc := 3) (M2 := mjChk) (S := []) (As := [.int (nI j), .int (nI (tln i))]) (n := 2) (d2 := 1) djCh1_3 ⟨by decide, by decide, by decide, rfl⟩ rfl ow509 ow510 ow128 ow511 (by omega) (by decide) (Nat.le_of_ble_eq_true rfl) rfl (by decide) (sj_chk hj (tln_lt i hi) (by decide)) (callk_v (fun h1 q => ?_))
  subst q
  refine q_aload_n (M := mjCh1) (pc := 6) (r0 := some (OLD + (200 + i))) djCh1_6 rfl rfl ?_
  refine q_iload_n (M := mjCh1) (pc := 7) djCh1_7 rfl rfl ?_
  refine q_aby (M := mjCh1) (pc := 8) hi djCh1_8 rfl hj ?_
  refine q_sipush (M := mjCh1) (pc := 9) (v := nI 255) djCh1_9 (by decide) ?_
  refine q_iand (M := mjCh1) (pc := 12) djCh1_12 ?_
  have hb := (tby_eq i hi j hj).2
  refine RQ.one (pc2 := 14) (S2 := [.int (nI (tby i j))]) (fun p e Rm s m args below meth c H locs cells slots ls Q hC hz hcs hss h0 hW hS hl k => lv_i2c hC.1 hC.2.1 djCh1_13 (tby_c _ hb).1 (k ls hl)) ?_
  exact q_ireturn (M := mjCh1) (pc := 14) (ty := .char) djCh1_14 rfl (tby_c _ hb).2 ⟨_, rfl, rfl, rfl⟩
theorem sj_chr {i j : Nat} (hi : i < 88) (hj : j < tln i) (hd9 : 3 ≤ d) : RQ G mjChr d 0 [some (.ref (OLD + (100 + i))), some (.int (nI j))] [] h (Ri fun v h1 => v = nI (tby i j) ∧ h1 = h) := by
  refine q_aload_n (M := mjChr) (pc := 0) (r0 := some (OLD + (100 + i))) djChr_0 rfl rfl ?_
  refine q_callT (M := mjChr) (pc := 1) (S := []) (M2 := mjLat) (As := []) (n := 0) (d2 := 0) hi djChr_1 rfl ⟨by decide, by decide, by decide, rfl⟩ rfl ow502 ow503 ow504 ow128 ow505 (by omega) (by decide) (Nat.le_of_ble_eq_true rfl) rfl (by decide) (sj_lat (d := 0) hi) (callk_i (fun x h1 q => ?_))
  obtain ⟨rfl, rfl⟩ := q
  refine q_if_eq (M := mjChr) (pc := 4) (tgt := 16) djChr_4 (by decide) (fun z => absurd z (by decide)) (fun _ => ?_)
  refine q_aload_n (M := mjChr) (pc := 7) (r0 := some (OLD + (100 + i))) djChr_7 rfl rfl ?_
  refine q_val (M := mjChr) (pc := 8) hi djChr_8 ow1964 ?_
  refine q_iload_n (M := mjChr) (pc := 11) djChr_11 rfl rfl ?_
  refine q_callS (M := mjChr) (pc := 12) (M2 := mjCh1) (S := []) (As := [.ref (OLD + (200 + i)), .int (nI j)]) (n := 2) (d2 := 2) djChr_12 ⟨by decide, by decide, by decide, rfl⟩ rfl ow506 ow507 ow129 ow508 (by omega) (by decide) (Nat.le_of_ble_eq_true rfl) rfl (by decide) (sj_ch1 hi hj (by decide)) (callk_i (fun x h1 q => ?_))
  obtain ⟨rfl, rfl⟩ := q
  have hb := (tby_eq i hi j hj).2
  exact q_ireturn (M := mjChr) (pc := 15) (ty := .char) djChr_15 rfl (tby_c _ hb).2 ⟨_, rfl, rfl, rfl⟩
theorem q_len {index i : Nat} (hi : i < 88) (hd : decode M.2.1 pc = .ok (.invokevirtual index, 3)) (hl : Cond.methodLink M.1.cls index mjLen.1 ∈ AW) (hdd : 2 ≤ d) (hst : (S.map fun v => v.category).sum ≤ 8) (r : RQ G M d (pc + 3) L (.int (nI (tln i)) :: S) h P) : RQ G M d pc L (.ref (OLD + (100 + i)) :: S) h P :=
  q_callT (M2 := mjLen) (As := []) (n := 0) (d2 := 1) hi hd rfl ⟨by decide, by decide, by decide, rfl⟩ rfl hl ow489 ow490 ow128 ow491 (by omega) (by decide) (Nat.le_of_ble_eq_true rfl) rfl hst (sj_len hi (by decide)) (callk_i (fun x h1 q => by obtain ⟨rfl, rfl⟩ := q; exact r))
theorem q_chr {index i j : Nat} {x : Int32} (hi : i < 88) (hx : x = nI j) (hj : j < tln i) (hd : decode M.2.1 pc = .ok (.invokevirtual index, 3)) (hl : Cond.methodLink M.1.cls index mjChr.1 ∈ AW) (hdd : 4 ≤ d) (hst : (S.map fun v => v.category).sum ≤ 8) (r : RQ G M d (pc + 3) L (.int (nI (tby i j)) :: S) h P) : RQ G M d pc L (.int x :: .ref (OLD + (100 + i)) :: S) h P := by
  subst hx
  exact q_callT (M2 := mjChr) (As := [.int (nI j)]) (n := 1) (d2 := 3) hi hd rfl ⟨by decide, by decide, by decide, rfl⟩ rfl hl ow499 ow500 ow128 ow501 (by omega) (by decide) (Nat.le_of_ble_eq_true rfl) rfl hst (sj_chr hi hj (by decide)) (callk_i (fun x h1 q => by obtain ⟨rfl, rfl⟩ := q; exact r))
end OLDX
