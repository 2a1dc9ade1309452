/-! THE START: the world's ground out of what the Statement gives -/
theorem st_all {Ws : List Cond} {N : Nat} {f : Nat → Cond} (ps : List Nat) (h : (List.range N).map f = ps.filterMap (fun i => Ws[i]?)) : ∀ i, i < N → f i ∈ Ws := fun i hi => by
  have h1 : f i ∈ (List.range N).map f := List.mem_map.mpr ⟨i, List.mem_range.mpr hi, rfl⟩
  rw [h] at h1
  obtain ⟨j, -, hj⟩ := List.mem_filterMap.mp h1
  exact List.mem_of_getElem? hj
def FW : List Cond := flatC (Jvm.Cond.and given_1 narrow_1)
def KO : List Int32 := [0, 1, 2, 3, 4, 5, 6, 7, 8, 9, 10, 11, 12, 13, 14, 15, 16, 17, 18, 19, 20, 21, 22, 23, 24, 25, 26, 27, 28, 29, 30, 31, 32, 33, 34, 35, 36, 37, 38, 39, 40, 41, 42]
theorem KO_ne : ∀ i, i < 43 → ∀ j, j < 43 → i ≠ j → KO.getD i 0 ≠ KO.getD j 0 := by decide +kernel

theorem st_kl : ∀ i, i < 43 → Cond.laysStatic "CupboardPoll$Kind" (KN.getD i "") KD ∈ lw_tbl := st_all [572, 607, 617, 620, 631, 647, 649, 656, 666, 762, 764, 766, 770, 768, 772, 692, 750, 752, 702, 704, 732, 730, 734, 736, 208, 623, 625, 726, 728, 698, 700, 778, 641, 744, 746, 748, 740, 742, 738, 537, 539, 375, 541] (by decide +kernel)
theorem st_kx : ∀ i, i < 43 → Cond.exactly (.static "CupboardPoll$Kind" (KN.getD i "") KD) "CupboardPoll$Kind" ∈ FW := st_all [72, 75, 78, 81, 90, 96, 99, 102, 105, 165, 168, 171, 177, 174, 180, 108, 159, 162, 117, 120, 132, 129, 135, 138, 4, 84, 87, 123, 126, 111, 114, 183, 93, 150, 153, 156, 144, 147, 141, 63, 66, 7, 69] (by decide +kernel)
theorem st_ko : ∀ i, i < 43 → Cond.eq (.field (.static "CupboardPoll$Kind" (KN.getD i "") KD) "java/lang/Enum" "ordinal" "I") (.int (KO.getD i 0)) ∈ FW := st_all [73, 76, 79, 82, 91, 97, 100, 103, 106, 166, 169, 172, 178, 175, 181, 109, 160, 163, 118, 121, 133, 130, 136, 139, 5, 85, 88, 124, 127, 112, 115, 184, 94, 151, 154, 157, 145, 148, 142, 64, 67, 8, 70] (by decide +kernel)
theorem st_ne {args : Array Value} {s : State} {E n1 n2 d C : String} {i j : Int32} (e1 : (Cond.exactly (.static E n1 d) C).before args s = true) (e2 : (Cond.exactly (.static E n2 d) C).before args s = true) (f1 : (Cond.eq (.field (.static E n1 d) "java/lang/Enum" "ordinal" "I") (.int i)).before args s = true) (f2 : (Cond.eq (.field (.static E n2 d) "java/lang/Enum" "ordinal" "I") (.int j)).before args s = true) (hij : i ≠ j) : (Cond.not (.eq (.static E n1 d) (.static E n2 d))).before args s = true := by
  obtain ⟨a, c, cell, k, q1, -⟩ := Cond.exactly_spec e1
  obtain ⟨a2, c2, cell2, k2, r1, -⟩ := Cond.exactly_spec e2
  have h1 := va_eqt f1
  have h2 := va_eqt f2
  have hne : a ≠ a2 := by
    rintro rfl
    rw [va_fe q1] at h1
    rw [va_fe r1] at h2
    rw [h1] at h2
    injection h2 with h2
    injection h2 with h2
    exact hij h2
  simp [Cond.before, Cond.holds, Cond.value, q1, r1, hne]
theorem st_prim {args : Array Value} {s : State} {ty : FieldType} (hno : ∀ C, ty ≠ .object C) (h : (Cond.arrayClass ty).before args s = true) : ∃ cA : ClassId, ArrOfT s cA ty ∧ va_RA s cA ty := by
  obtain ⟨cA, kA, comp, h1, h2, h3⟩ := Cond.arrayClass_spec h
  refine ⟨cA, fun n z => ⟨fun k h => (by cases h), kA, h2, comp, h3⟩, ?_⟩
  cases ty with
  | object C => exact absurd rfl (hno C)
  | _ => exact h1
theorem st_obj {args : Array Value} {s : State} {C : String} (h : (Cond.arrayOver (.object C)).before args s = true) : ∃ cA : ClassId, ArrOfT s cA (.object C) ∧ va_RA s cA (.object C) := by
  obtain ⟨comp, cA, kA, h1, -, h2, h3, h4⟩ := Cond.arrayOver_spec h
  exact ⟨cA, fun n z => ⟨fun k h => (by cases h), kA, h2, comp, h3⟩, kA, comp, h2, h3, h1, h4⟩

def SKl : List Nat := [157, 163, 166, 169, 172, 175, 178, 181, 184, 187, 190, 193, 196, 199, 202, 205, 208, 211, 214, 217, 220, 223, 226, 229, 232, 235, 238, 241, 244, 247, 250, 253, 256, 259, 262, 265, 268, 271, 274, 277]
def TKl : List Nat := [428, 429, 430, 431, 433, 435, 436, 438, 440, 442, 444, 446, 448, 450, 452, 454, 456, 458, 460, 462, 464, 466, 467, 468, 470, 472, 474]
theorem st_sm : ∀ i, i < 43 → Cond.eq (.elem (.static "CupboardPoll$1" SMn "[I") (.int (Int32.ofNat i))) (.int (SMl.getD i 0)) ∈ FW := st_all [191, 192, 193, 194, 195, 196, 197, 198, 199, 200, 201, 202, 203, 204, 205, 206, 207, 208, 209, 210, 211, 212, 213, 214, 215, 216, 217, 218, 219, 220, 221, 222, 223, 224, 225, 226, 227, 228, 229, 230, 231, 232, 233] (by decide +kernel)
theorem st_kn : ∀ i, i < 43 → Cond.eq (.elem (.static "CupboardPoll" "KINDS" "[LCupboardPoll$Kind;") (.int (Int32.ofNat i))) (.static "CupboardPoll$Kind" (KN.getD i "") KD) ∈ FW := st_all [15, 16, 17, 18, 19, 20, 21, 22, 23, 24, 25, 26, 27, 28, 29, 30, 31, 32, 33, 34, 35, 36, 37, 38, 39, 40, 41, 42, 43, 44, 45, 46, 47, 48, 49, 50, 51, 52, 53, 54, 55, 56, 57] (by decide +kernel)
theorem st_tl : ∀ i, i < 27 → Cond.eq (.elem (.static "CupboardPollModel" "TOLD" "[Ljava/lang/String;") (.int (Int32.ofNat i))) (.string "CupboardPollModel" (TKl.getD i 0)) ∈ FW := st_all [237, 238, 239, 240, 241, 242, 243, 244, 245, 246, 247, 248, 249, 250, 251, 252, 253, 254, 255, 256, 257, 258, 259, 260, 261, 262, 263] (by decide +kernel)
theorem st_ts : ∀ i, i < 27 → Cond.eq (.string "CupboardPoll$Kind" (SKl.getD i 0)) (.string "CupboardPollModel" (TKl.getD i 0)) ∈ FW := st_all [628, 636, 646, 653, 663, 671, 678, 686, 695, 703, 712, 720, 730, 739, 749, 757, 765, 772, 782, 793, 801, 811, 822, 834, 843, 854, 864] (by decide +kernel)
theorem st_tx : ∀ i, i < 43 → Cond.eq (.field (.static "CupboardPoll$Kind" (KN.getD i "") KD) "CupboardPoll$Kind" "text" STR) (.string "CupboardPoll$Kind" (SKl.getD (TXl i) 0)) ∈ FW := st_all [74, 77, 80, 83, 92, 98, 101, 104, 107, 167, 170, 173, 179, 176, 182, 110, 161, 164, 119, 122, 134, 131, 137, 140, 6, 86, 89, 125, 128, 113, 116, 185, 95, 152, 155, 158, 146, 149, 143, 65, 68, 9, 71] (by decide +kernel)
theorem st_sx : ∀ i, i < 40 → Cond.exactly (.string "CupboardPoll$Kind" (SKl.getD i 0)) "java/lang/String" ∈ FW := st_all [348, 357, 364, 373, 398, 412, 419, 425, 432, 566, 573, 581, 596, 588, 605, 440, 553, 560, 457, 466, 495, 486, 502, 512, 336, 379, 389, 476, 481, 447, 452, 614, 407, 538, 543, 548, 528, 533, 523, 344] (by decide +kernel)
theorem st_sc : ∀ i, i < 40 → Cond.eq (.field (.string "CupboardPoll$Kind" (SKl.getD i 0)) "java/lang/String" "coder" "B") (.int 0) ∈ FW := st_all [349, 358, 365, 374, 399, 413, 420, 426, 433, 567, 574, 582, 597, 589, 606, 441, 554, 561, 458, 467, 496, 487, 503, 513, 337, 380, 390, 477, 482, 448, 453, 615, 408, 539, 544, 549, 529, 534, 524, 345] (by decide +kernel)
theorem st_sa : ∀ i, i < 40 → Cond.arrayOf (.field (.string "CupboardPoll$Kind" (SKl.getD i 0)) "java/lang/String" "value" "[B") .byte ∈ FW := st_all [350, 359, 366, 375, 400, 414, 421, 427, 434, 568, 575, 583, 598, 590, 607, 442, 555, 562, 459, 468, 497, 488, 504, 514, 338, 381, 391, 478, 483, 449, 454, 616, 409, 540, 545, 550, 530, 535, 525, 346] (by decide +kernel)
theorem st_sl : ∀ i, i < 40 → Cond.eq (.length (.field (.string "CupboardPoll$Kind" (SKl.getD i 0)) "java/lang/String" "value" "[B")) (.int (Int32.ofNat (SBy.getD i []).length)) ∈ FW := st_all [351, 360, 367, 376, 401, 415, 422, 428, 435, 569, 576, 584, 599, 591, 608, 443, 556, 563, 460, 469, 498, 489, 505, 515, 339, 382, 392, 479, 484, 450, 455, 617, 410, 541, 546, 551, 531, 536, 526, 347] (by decide +kernel)
def SPl : List (Nat × Nat) := [(0, 0), (0, 1), (0, 2), (0, 3), (0, 4), (1, 0), (1, 1), (1, 2), (2, 0), (2, 1), (2, 2), (2, 3), (2, 4), (3, 0), (3, 1), (4, 0), (4, 1), (4, 2), (4, 3), (4, 4), (5, 0), (5, 1), (5, 2), (6, 0), (6, 1), (7, 0), (7, 1), (7, 2), (8, 0), (8, 1), (8, 2), (8, 3), (9, 0), (9, 1), (9, 2), (10, 0), (10, 1), (10, 2), (10, 3), (11, 0), (11, 1), (11, 2), (12, 0), (12, 1), (12, 2), (12, 3), (12, 4), (13, 0), (13, 1), (13, 2), (13, 3), (14, 0), (14, 1), (14, 2), (14, 3), (14, 4), (15, 0), (15, 1), (15, 2), (16, 0), (16, 1), (16, 2), (17, 0), (17, 1), (18, 0), (18, 1), (18, 2), (18, 3), (18, 4), (19, 0), (19, 1), (19, 2), (19, 3), (19, 4), (19, 5), (20, 0), (20, 1), (20, 2), (21, 0), (21, 1), (21, 2), (21, 3), (21, 4), (22, 0), (22, 1), (22, 2), (22, 3), (22, 4), (22, 5), (23, 0), (23, 1), (23, 2), (23, 3), (23, 4), (23, 5), (23, 6), (24, 0), (24, 1), (24, 2), (24, 3), (25, 0), (25, 1), (25, 2), (25, 3), (25, 4), (25, 5), (26, 0), (26, 1), (26, 2), (26, 3), (26, 4), (27, 0), (28, 0), (29, 0), (30, 0), (31, 0), (32, 0), (33, 0), (34, 0), (35, 0), (36, 0), (37, 0), (38, 0)]
def SOl : List Nat := [0, 5, 8, 13, 15, 20, 23, 25, 28, 32, 35, 39, 42, 47, 51, 56, 59, 62, 64, 69, 75, 78, 83, 89, 96, 100, 106, 111, 112, 113, 114, 115, 116, 117, 118, 119, 120, 121, 122, 123]
theorem st_sb0 : ∀ n, n < 123 → Cond.eq (.elem (.field (.string "CupboardPoll$Kind" (SKl.getD (SPl.getD n (0, 0)).1 0)) "java/lang/String" "value" "[B") (.int (Int32.ofNat (SPl.getD n (0, 0)).2))) (.int ((SBy.getD (SPl.getD n (0, 0)).1 []).getD (SPl.getD n (0, 0)).2 0)) ∈ FW := st_all [352, 353, 354, 355, 356, 361, 362, 363, 368, 369, 370, 371, 372, 377, 378, 402, 403, 404, 405, 406, 416, 417, 418, 423, 424, 429, 430, 431, 436, 437, 438, 439, 570, 571, 572, 577, 578, 579, 580, 585, 586, 587, 600, 601, 602, 603, 604, 592, 593, 594, 595, 609, 610, 611, 612, 613, 444, 445, 446, 557, 558, 559, 564, 565, 461, 462, 463, 464, 465, 470, 471, 472, 473, 474, 475, 499, 500, 501, 490, 491, 492, 493, 494, 506, 507, 508, 509, 510, 511, 516, 517, 518, 519, 520, 521, 522, 340, 341, 342, 343, 383, 384, 385, 386, 387, 388, 393, 394, 395, 396, 397, 480, 485, 451, 456, 618, 411, 542, 547, 552, 532, 537, 527] (by decide +kernel)
theorem st_sb1 : ∀ i, i < 40 → ∀ j, j < (SBy.getD i []).length → SOl.getD i 0 + j < 123 ∧ SPl.getD (SOl.getD i 0 + j) (0, 0) = (i, j) := by decide +kernel
theorem st_sb {i j : Nat} (hi : i < 40) (hj : j < (SBy.getD i []).length) : Cond.eq (.elem (.field (.string "CupboardPoll$Kind" (SKl.getD i 0)) "java/lang/String" "value" "[B") (.int (Int32.ofNat j))) (.int ((SBy.getD i []).getD j 0)) ∈ FW := by
  obtain ⟨h1, h2⟩ := st_sb1 i hi j hj
  have h3 := st_sb0 _ h1
  rw [h2] at h3
  exact h3
theorem st_eqv {args : Array Value} {s : State} {t1 t2 : Term} {a : Nat} (h : (Cond.eq t1 t2).before args s = true) (h2 : t2.eval args s none [] s = some (.ref a)) : t1.eval args s none [] s = some (.ref a) := by
  cases hv : t1.eval args s none [] s with
  | none => simp [Cond.before, Cond.holds, Cond.value, hv] at h
  | some w =>
    simp only [Cond.before, Cond.holds, Cond.value, hv, h2] at h
    cases w <;> simp_all
theorem st_eqw {args : Array Value} {s : State} {t1 t2 : Term} {a : Nat} (h : (Cond.eq t1 t2).before args s = true) (h1 : t1.eval args s none [] s = some (.ref a)) : t2.eval args s none [] s = some (.ref a) := by
  cases hv : t2.eval args s none [] s with
  | none => simp [Cond.before, Cond.holds, Cond.value, hv, h1] at h
  | some w =>
    simp only [Cond.before, Cond.holds, Cond.value, hv, h1] at h
    cases w <;> simp_all
theorem st_len : ∀ i, i < 40 → (SBy.getD i []).length < 2 ^ 31 := by decide +kernel
theorem st_Str {args : Array Value} {s : State} {A : Nat → Prop} (hF : ∀ w ∈ FW, w.before args s = true) (hA : ∀ a : Nat, a < s.heap.size → ¬ A a) : ∃ adK adV : Nat → Nat, ∀ i, i < 40 → (Term.string "CupboardPoll$Kind" (SKl.getD i 0)).eval args s none [] s = some (.ref (adK i)) ∧ va_O "java/lang/String" (adK i) A s s.heap ∧ va_OF "java/lang/String" "coder" "B" (.int 0) (adK i) A s s.heap ∧ va_OF "java/lang/String" "value" "[B" (.ref (adV i)) (adK i) A s s.heap ∧ va_T .byte (adV i) (SBy.getD i []).length (fun j => .int ((SBy.getD i []).getD j 0)) A s s.heap := by
  have one : ∀ i : Nat, ∃ q : Nat × Nat, i < 40 → (Term.string "CupboardPoll$Kind" (SKl.getD i 0)).eval args s none [] s = some (.ref q.1) ∧ va_O "java/lang/String" q.1 A s s.heap ∧ va_OF "java/lang/String" "coder" "B" (.int 0) q.1 A s s.heap ∧ va_OF "java/lang/String" "value" "[B" (.ref q.2) q.1 A s s.heap ∧ va_T .byte q.2 (SBy.getD i []).length (fun j => .int ((SBy.getD i []).getD j 0)) A s s.heap := by
    intro i
    by_cases hi : i < 40
    · obtain ⟨a, cc, cell, kk, q1, q2, q3, q4, q5, q6, -⟩ := Cond.exactly_spec (args := args) (first := s) (o := none) (s := s) (idx := []) (hF _ (st_sx i hi))
      obtain ⟨t, ht, hT⟩ := va_Tof (f := fun j => .int ((SBy.getD i []).getD j 0)) (A := A) (st_len i hi) (hF _ (st_sa i hi)) (va_eqt (hF _ (st_sl i hi))) (fun j hj => va_eqt (hF _ (st_sb hi hj))) hA
      exact ⟨(a, t), fun _ => ⟨q1, ⟨cell, q3, q5, by rw [q6]; exact q2, hA a (Array.getElem?_eq_some_iff.mp q3).1⟩, vk_OFof q1 (va_eqt (hF _ (st_sc i hi))) hA, vk_OFof q1 ht hA, hT⟩⟩
    · exact ⟨(0, 0), fun h => absurd h hi⟩
  obtain ⟨ad, had⟩ := Classical.axiomOfChoice one
  exact ⟨fun i => (ad i).1, fun i => (ad i).2, fun i hi => had i hi⟩
/-- where the old things lie -/
def stO (ad adK adV : Nat → Nat) (sm kn tl fo fl b : Nat) (k : Nat) : Nat := if k < 43 then ad k else if k < 140 then adK (k - 100) else if k < 240 then adV (k - 200) else if k = 900 then sm else if k = 901 then kn else if k = 902 then tl else if k = 903 then fo else if k = 904 then fl else b
section SO
variable {ad adK adV : Nat → Nat} {sm kn tl fo fl b : Nat}
theorem stO_k {k : Nat} (h : k < 43) : stO ad adK adV sm kn tl fo fl b k = ad k := if_pos h
theorem stO_s {i : Nat} (h : i < 40) : stO ad adK adV sm kn tl fo fl b (100 + i) = adK i := by
  unfold stO
  rw [if_neg (by omega), if_pos (by omega), Nat.add_sub_cancel_left]
theorem stO_v {i : Nat} (h : i < 40) : stO ad adK adV sm kn tl fo fl b (200 + i) = adV i := by
  unfold stO
  rw [if_neg (by omega), if_neg (by omega), if_pos (by omega), Nat.add_sub_cancel_left]
theorem stO_0 : stO ad adK adV sm kn tl fo fl b 900 = sm := by
  unfold stO
  rw [if_neg (by omega), if_neg (by omega), if_neg (by omega), if_pos rfl]
theorem stO_1 : stO ad adK adV sm kn tl fo fl b 901 = kn := by
  unfold stO
  rw [if_neg (by omega), if_neg (by omega), if_neg (by omega), if_neg (by omega), if_pos rfl]
theorem stO_2 : stO ad adK adV sm kn tl fo fl b 902 = tl := by
  unfold stO
  rw [if_neg (by omega), if_neg (by omega), if_neg (by omega), if_neg (by omega), if_neg (by omega), if_pos rfl]
theorem stO_3 : stO ad adK adV sm kn tl fo fl b 903 = fo := by
  unfold stO
  rw [if_neg (by omega), if_neg (by omega), if_neg (by omega), if_neg (by omega), if_neg (by omega), if_neg (by omega), if_pos rfl]
theorem stO_4 : stO ad adK adV sm kn tl fo fl b 904 = fl := by
  unfold stO
  rw [if_neg (by omega), if_neg (by omega), if_neg (by omega), if_neg (by omega), if_neg (by omega), if_neg (by omega), if_neg (by omega), if_pos rfl]
theorem stO_9 : stO ad adK adV sm kn tl fo fl b 999 = b := by
  unfold stO
  rw [if_neg (by omega), if_neg (by omega), if_neg (by omega), if_neg (by omega), if_neg (by omega), if_neg (by omega), if_neg (by omega), if_neg (by omega)]
end SO
theorem TXl_lt {i : Nat} : TXl i < 40 := by
  unfold TXl
  split <;> omega

set_option maxHeartbeats 4000000 in
set_option maxRecDepth 100000 in
theorem st_K {args : Array Value} {s : State} (hT : ∀ w ∈ lw_tbl, w.before args s = true) : ∃ (D : va_G) (A : Nat → ClassId), ∀ (l : Launch) (B : Nat) (f : Nat → Nat) (n : Nat) (xs : Nat → Int32), va_K D CL (TY (l, D.1, D.2, A, B, f, n, xs)) s := by
  have hA : ∀ w ∈ AW, w.before args s = true := fun w hw => hT w (List.mem_filter.mp hw).1
  obtain ⟨c0, i0, k0⟩ := u_known (N := 11) hA inA1 (hT _ (List.mem_of_getElem? (i := 189) (by decide +kernel) : Cond.instantiable RX1 11 ∈ lw_tbl))
  obtain ⟨c1, i1, k1⟩ := u_known (N := 3) hA inA2 (hT _ (List.mem_of_getElem? (i := 402) (by decide +kernel) : Cond.instantiable RX2 3 ∈ lw_tbl))
  obtain ⟨c2, i2, k2⟩ := u_known (N := 5) hA inA3 (hT _ (List.mem_of_getElem? (i := 195) (by decide +kernel) : Cond.instantiable RX3 5 ∈ lw_tbl))
  obtain ⟨c3, i3, k3⟩ := u_known (N := 10) hA inA4 (hT _ (List.mem_of_getElem? (i := 202) (by decide +kernel) : Cond.instantiable RX4 10 ∈ lw_tbl))
  obtain ⟨c4, i4, k4⟩ := u_known (N := 7) hA inA6 (hT _ (List.mem_of_getElem? (i := 160) (by decide +kernel) : Cond.instantiable RX6 7 ∈ lw_tbl))
  obtain ⟨c5, i5, k5⟩ := u_known (N := 8) hA inA7 (hT _ (List.mem_of_getElem? (i := 285) (by decide +kernel) : Cond.instantiable RX7 8 ∈ lw_tbl))
  obtain ⟨c6, i6, k6⟩ := u_known (N := 2) hA inA8 (hT _ (List.mem_of_getElem? (i := 144) (by decide +kernel) : Cond.instantiable RX8 2 ∈ lw_tbl))
  obtain ⟨c7, i7, k7⟩ := u_known (N := 4) hA inA9 (hT _ (List.mem_of_getElem? (i := 166) (by decide +kernel) : Cond.instantiable RX9 4 ∈ lw_tbl))
  obtain ⟨c8, i8, k8⟩ := u_known (N := 7) hA inA10 (hT _ (List.mem_of_getElem? (i := 136) (by decide +kernel) : Cond.instantiable RX10 7 ∈ lw_tbl))
  obtain ⟨c9, i9, k9⟩ := u_known (N := 24) hA inA11 (hT _ (List.mem_of_getElem? (i := 1314) (by decide +kernel) : Cond.instantiable RX11 24 ∈ lw_tbl))
  obtain ⟨c10, i10, k10⟩ := u_known (N := 25) hA inA12 (hT _ (List.mem_of_getElem? (i := 1308) (by decide +kernel) : Cond.instantiable RX12 25 ∈ lw_tbl))
  obtain ⟨c11, i11, k11⟩ := u_known (T := exT) (N := 0) hA (fun w hw => absurd hw List.not_mem_nil) (hT _ (List.mem_of_getElem? (i := 881) (by decide +kernel) : Cond.instantiable "java/lang/IndexOutOfBoundsException" 6 ∈ lw_tbl))
  obtain ⟨c12, i12, k12⟩ := u_known (T := exT) (N := 0) hA (fun w hw => absurd hw List.not_mem_nil) (hT _ (List.mem_of_getElem? (i := 1142) (by decide +kernel) : Cond.instantiable "java/lang/IllegalArgumentException" 6 ∈ lw_tbl))
  obtain ⟨c13, i13, k13⟩ := u_known (T := exT) (N := 0) hA (fun w hw => absurd hw List.not_mem_nil) (hT _ (List.mem_of_getElem? (i := 1115) (by decide +kernel) : Cond.instantiable "java/lang/IllegalStateException" 6 ∈ lw_tbl))
  obtain ⟨a0, ha0⟩ := st_prim (ty := .int) (fun C q => nomatch q) (hT _ (List.mem_of_getElem? (i := 186) (by decide +kernel) : Cond.arrayClass .int ∈ lw_tbl))
  obtain ⟨a1, ha1⟩ := st_prim (ty := .byte) (fun C q => nomatch q) (hT _ (List.mem_of_getElem? (i := 158) (by decide +kernel) : Cond.arrayClass .byte ∈ lw_tbl))
  obtain ⟨a2, ha2⟩ := st_prim (ty := .long) (fun C q => nomatch q) (hT _ (List.mem_of_getElem? (i := 187) (by decide +kernel) : Cond.arrayClass .long ∈ lw_tbl))
  obtain ⟨a3, ha3⟩ := st_obj (hT _ (List.mem_of_getElem? (i := 201) (by decide +kernel) : Cond.arrayOver (.object "CupboardPoll$Jar") ∈ lw_tbl))
  obtain ⟨a4, ha4⟩ := st_obj (hT _ (List.mem_of_getElem? (i := 172) (by decide +kernel) : Cond.arrayOver (.object "CupboardPoll$Kind") ∈ lw_tbl))
  refine ⟨(fun c => [c0, c1, c2, c3, c4, c5, c6, c7, c8, c9, c10, c11, c12, c13].getD c c0, fun c => [i0, i1, i2, i3, i4, i5, i6, i7, i8, i9, i10, i11, i12, i13].getD c i0), fun j => [a0, a1, a2, a3, a4].getD j a0, fun l B f n xs => ⟨fun c q hq => ?_, fun k q hq => ?_⟩⟩
  · have hc : c < 14 := (List.getElem?_eq_some_iff.mp hq).1
    match c, hc with
    | 0, _ => cases hq; exact k0
    | 1, _ => cases hq; exact k1
    | 2, _ => cases hq; exact k2
    | 3, _ => cases hq; exact k3
    | 4, _ => cases hq; exact k4
    | 5, _ => cases hq; exact k5
    | 6, _ => cases hq; exact k6
    | 7, _ => cases hq; exact k7
    | 8, _ => cases hq; exact k8
    | 9, _ => cases hq; exact k9
    | 10, _ => cases hq; exact k10
    | 11, _ => cases hq; exact k11
    | 12, _ => cases hq; exact k12
    | 13, _ => cases hq; exact k13
  · have hc : k < 5 := (List.getElem?_eq_some_iff.mp hq).1
    match k, hc with
    | 0, _ => cases hq; exact ha0
    | 1, _ => cases hq; exact ha1
    | 2, _ => cases hq; exact ha2
    | 3, _ => cases hq; exact ha3
    | 4, _ => cases hq; exact ha4

set_option maxHeartbeats 4000000 in
set_option maxRecDepth 100000 in
theorem st_G {l : Launch} {s : State} {b L : Nat} {xs : Nat → Int32} (hfl : l.flags = flags0) (hT : ∀ w ∈ lw_tbl, w.before #[Value.ref b] s = true) (hX : va_X b L xs s s.heap) (hb : b < s.heap.size) (hg : (Jvm.Cond.and given_1 narrow_1).before #[Value.ref b] s = true) : ∃ G : GT, gL G = l ∧ gB G = s.heap.size ∧ gN G = L ∧ gX G = xs ∧ gO G 999 = b ∧ Gs G s := by
  have hF : ∀ w ∈ FW, w.before #[Value.ref b] s = true := flat_of_before _ hg
  obtain ⟨D, A, hK⟩ := st_K hT
  have hA9 : ∀ a : Nat, a < s.heap.size → ¬ (s.heap.size ≤ a) := fun a h1 h2 => absurd h1 (Nat.not_lt.mpr h2)
  obtain ⟨ad, hE, hAd⟩ := va_Enof2 (E := "CupboardPoll$Kind") (d := KD) (nm := KN) (F := KF) (A := fun q => s.heap.size ≤ q) (fun i hi => hT _ (st_kl i hi)) (hT _ (List.mem_of_getElem? (i := 117) (by decide +kernel) : Cond.initialized "CupboardPoll$Kind" ∈ lw_tbl)) (fun i hi => hF _ (st_kx i hi)) (fun q hq i hi => by
    cases List.mem_singleton.mp hq
    exact hF _ (st_ko i hi)) (fun i j hi hj hij => Or.inl (st_ne (hF _ (st_kx i hi)) (hF _ (st_kx j hj)) (hF _ (st_ko i hi)) (hF _ (st_ko j hj)) (KO_ne i hi j hj hij))) hA9
  obtain ⟨adK, adV, hS⟩ := st_Str (A := fun q => s.heap.size ≤ q) hF hA9
  obtain ⟨fo, fl, hfo⟩ : ∃ fo fl : Nat, va_Z "jdk/internal/util/Preconditions" "SIOOBE_FORMATTER" "Ljava/util/function/BiFunction;" (if fl = 0 then .null else .ref fo) (fun q => s.heap.size ≤ q) s s.heap := by
    rcases vx_Zqof (hT _ (List.mem_of_getElem? (i := 513) (by decide +kernel) : Cond.laysStatic "jdk/internal/util/Preconditions" "SIOOBE_FORMATTER" "Ljava/util/function/BiFunction;" ∈ lw_tbl)) (hT _ (List.mem_of_getElem? (i := 130) (by decide +kernel) : Cond.initialized "jdk/internal/util/Preconditions" ∈ lw_tbl)) (hF _ (List.mem_of_getElem? (i := 59) (by decide +kernel) : Cond.isRef (.static "jdk/internal/util/Preconditions" "SIOOBE_FORMATTER" "Ljava/util/function/BiFunction;") ∈ FW)) hA9 with h9 | ⟨t9, h9⟩
    · exact ⟨0, 0, h9⟩
    · exact ⟨t9, 1, h9⟩
  obtain ⟨sm, hsm, hsmT⟩ := va_Tof (tm := .static "CupboardPoll$1" SMn "[I") (ty := .int) (N := 43) (f := fun j => .int (SMl.getD j 0)) (A := fun q => s.heap.size ≤ q) (by decide) (hF _ (List.mem_of_getElem? (i := 189) (by decide +kernel) : Cond.arrayOf (.static "CupboardPoll$1" SMn "[I") .int ∈ FW)) (va_eqt (hF _ (List.mem_of_getElem? (i := 190) (by decide +kernel) : Cond.eq (.length (.static "CupboardPoll$1" SMn "[I")) (.int (Int32.ofNat 43)) ∈ FW))) (fun j hj => va_eqt (hF _ (st_sm j hj))) hA9
  obtain ⟨kn, hkn, hknT⟩ := va_Tof (tm := .static "CupboardPoll" "KINDS" "[LCupboardPoll$Kind;") (ty := .object "CupboardPoll$Kind") (N := 43) (f := fun j => .ref (ad j)) (A := fun q => s.heap.size ≤ q) (by decide) (hF _ (List.mem_of_getElem? (i := 12) (by decide +kernel) : Cond.arrayOf (.static "CupboardPoll" "KINDS" "[LCupboardPoll$Kind;") (.object "CupboardPoll$Kind") ∈ FW)) (va_eqt (hF _ (List.mem_of_getElem? (i := 13) (by decide +kernel) : Cond.eq (.length (.static "CupboardPoll" "KINDS" "[LCupboardPoll$Kind;")) (.int (Int32.ofNat 43)) ∈ FW))) (fun j hj => st_eqv (hF _ (st_kn j hj)) (hAd j hj)) hA9
  obtain ⟨tl, htl, htlT⟩ := va_Tof (tm := .static "CupboardPollModel" "TOLD" "[Ljava/lang/String;") (ty := .object "java/lang/String") (N := 27) (f := fun j => .ref (adK j)) (A := fun q => s.heap.size ≤ q) (by decide) (hF _ (List.mem_of_getElem? (i := 235) (by decide +kernel) : Cond.arrayOf (.static "CupboardPollModel" "TOLD" "[Ljava/lang/String;") (.object "java/lang/String") ∈ FW)) (va_eqt (hF _ (List.mem_of_getElem? (i := 236) (by decide +kernel) : Cond.eq (.length (.static "CupboardPollModel" "TOLD" "[Ljava/lang/String;")) (.int (Int32.ofNat 27)) ∈ FW))) (fun j hj => st_eqv (hF _ (st_tl j hj)) (st_eqw (hF _ (st_ts j hj)) (hS j (by omega)).1)) hA9
  refine ⟨(l, D.1, D.2, A, s.heap.size, stO ad adK adV sm kn tl fo fl b, L, xs), rfl, rfl, rfl, rfl, (stO_9 (ad := ad) (adK := adK) (adV := adV) (sm := sm) (kn := kn) (tl := tl) (fo := fo) (fl := fl) (b := b)), hK _ _ _ _ _, ?_, Nat.le_refl _, fun w hw => ?_, va_AO.of (hT _ (List.mem_of_getElem? (i := 201) (by decide +kernel) : Cond.arrayOver (.object "CupboardPoll$Jar") ∈ lw_tbl)), va_AO.of (hT _ (List.mem_of_getElem? (i := 172) (by decide +kernel) : Cond.arrayOver (.object "CupboardPoll$Kind") ∈ lw_tbl)), ⟨?_, ?_, ?_, ?_⟩, ?_, ?_, ?_⟩
  · show (!l.flags.contains Jvm.noTraceFlag) = false
    rw [hfl]
    decide
  · have h1 := List.mem_filter.mp hw
    refine va_Nw.of ?_ (hT w h1.1)
    have h2 := h1.2
    cases w <;> first | rfl | (simp only [nestWord] at h2; cases h2; done)
  · exact vx_Zqof (hT _ (List.mem_of_getElem? (i := 907) (by decide +kernel) : Cond.laysStatic Bundle.tN "UNASSIGNED_STACK" Bundle.steD ∈ lw_tbl)) (hT _ (List.mem_of_getElem? (i := 123) (by decide +kernel) : Cond.initialized Bundle.tN ∈ lw_tbl)) (hF _ (List.mem_of_getElem? (i := 186) (by decide +kernel) : Cond.isRef (.static Bundle.tN "UNASSIGNED_STACK" Bundle.steD) ∈ FW)) hA9
  · exact vx_Zqof (hT _ (List.mem_of_getElem? (i := 909) (by decide +kernel) : Cond.laysStatic Bundle.tN "SUPPRESSED_SENTINEL" Bundle.listD ∈ lw_tbl)) (hT _ (List.mem_of_getElem? (i := 123) (by decide +kernel) : Cond.initialized Bundle.tN ∈ lw_tbl)) (hF _ (List.mem_of_getElem? (i := 187) (by decide +kernel) : Cond.isRef (.static Bundle.tN "SUPPRESSED_SENTINEL" Bundle.listD) ∈ FW)) hA9
  · have e : ∀ k, k < KN.length → stO ad adK adV sm kn tl fo fl b k = ad k := fun k hk => stO_k hk
    refine ⟨fun i hi => ?_, fun i j hi hj q => ?_⟩
    · show va_Z _ _ _ (.ref (stO ad adK adV sm kn tl fo fl b i)) _ _ _ ∧ va_O _ (stO ad adK adV sm kn tl fo fl b i) _ _ _ ∧ ∀ q ∈ KF, va_OF q.1 q.2.1 q.2.2.1 _ (stO ad adK adV sm kn tl fo fl b i) _ _ _
      rw [e i hi]
      exact hE.1 i hi
    · exact hE.2 i j hi hj ((e i hi).symm.trans (q.trans (e j hj)))
  · show va_X (stO ad adK adV sm kn tl fo fl b 999) L xs s s.heap ∧ ¬ s.heap.size ≤ stO ad adK adV sm kn tl fo fl b 999 ∧ stO ad adK adV sm kn tl fo fl b 999 < s.heap.size
    rw [stO_9]
    exact ⟨hX, hA9 b hb, hb⟩
  · exact va_Nc.of (hF _ (List.mem_of_getElem? (i := 305) (by decide +kernel) : Cond.not (.castable "java/lang/IllegalArgumentException" "java/lang/IndexOutOfBoundsException") ∈ FW))
  · exact va_Nc.of (hF _ (List.mem_of_getElem? (i := 304) (by decide +kernel) : Cond.not (.castable "java/lang/IllegalStateException" "java/lang/IndexOutOfBoundsException") ∈ FW))
  · refine ⟨⟨?_, ?_⟩, ⟨?_, ?_⟩, ⟨?_, ?_⟩, fun i hi => ?_, fun i hi => ?_, ?_, ?_⟩
    · show va_Z _ _ _ (.ref (stO ad adK adV sm kn tl fo fl b 900)) _ _ _
      rw [stO_0]
      exact va_Zof (hT _ (List.mem_of_getElem? (i := 1057) (by decide +kernel) : Cond.laysStatic "CupboardPoll$1" SMn "[I" ∈ lw_tbl)) (hT _ (List.mem_of_getElem? (i := 134) (by decide +kernel) : Cond.initialized "CupboardPoll$1" ∈ lw_tbl)) hsm hA9
    · show va_T .int (stO ad adK adV sm kn tl fo fl b 900) _ _ _ _ _
      rw [stO_0]
      exact hsmT
    · show va_Z _ _ _ (.ref (stO ad adK adV sm kn tl fo fl b 901)) _ _ _
      rw [stO_1]
      exact va_Zof (hT _ (List.mem_of_getElem? (i := 483) (by decide +kernel) : Cond.laysStatic "CupboardPoll" "KINDS" "[LCupboardPoll$Kind;" ∈ lw_tbl)) (hT _ (List.mem_of_getElem? (i := 109) (by decide +kernel) : Cond.initialized "CupboardPoll" ∈ lw_tbl)) hkn hA9
    · show va_T _ (stO ad adK adV sm kn tl fo fl b 901) 43 (fun j => .ref (stO ad adK adV sm kn tl fo fl b j)) _ _ _
      rw [stO_1]
      obtain ⟨cell, h1, h2, h3, h4, h5, h6, h7⟩ := hknT
      exact ⟨cell, h1, h2, h3, h4, h5, fun j hj => by show cell.slots[j]? = some (Value.ref (stO ad adK adV sm kn tl fo fl b j)); rw [stO_k hj]; exact h6 j hj, h7⟩
    · show va_Z _ _ _ (.ref (stO ad adK adV sm kn tl fo fl b 902)) _ _ _
      rw [stO_2]
      exact va_Zof (hT _ (List.mem_of_getElem? (i := 1550) (by decide +kernel) : Cond.laysStatic "CupboardPollModel" "TOLD" "[Ljava/lang/String;" ∈ lw_tbl)) (hT _ (List.mem_of_getElem? (i := 120) (by decide +kernel) : Cond.initialized "CupboardPollModel" ∈ lw_tbl)) htl hA9
    · show va_T _ (stO ad adK adV sm kn tl fo fl b 902) 27 (fun j => .ref (stO ad adK adV sm kn tl fo fl b (100 + j))) _ _ _
      rw [stO_2]
      obtain ⟨cell, h1, h2, h3, h4, h5, h6, h7⟩ := htlT
      exact ⟨cell, h1, h2, h3, h4, h5, fun j hj => by show cell.slots[j]? = some (Value.ref (stO ad adK adV sm kn tl fo fl b (100 + j))); rw [stO_s (by omega)]; exact h6 j hj, h7⟩
    · show va_OF _ _ _ (.ref (stO ad adK adV sm kn tl fo fl b (100 + TXl i))) (stO ad adK adV sm kn tl fo fl b i) _ _ _
      rw [stO_s TXl_lt, stO_k hi]
      exact vk_OFof (hAd i hi) (st_eqv (hF _ (st_tx i hi)) (hS _ TXl_lt).1) hA9
    · show va_O _ (stO ad adK adV sm kn tl fo fl b (100 + i)) _ _ _ ∧ va_OF _ _ _ _ (stO ad adK adV sm kn tl fo fl b (100 + i)) _ _ _ ∧ va_OF _ _ _ (.ref (stO ad adK adV sm kn tl fo fl b (200 + i))) (stO ad adK adV sm kn tl fo fl b (100 + i)) _ _ _ ∧ va_T _ (stO ad adK adV sm kn tl fo fl b (200 + i)) _ _ _ _ _
      rw [stO_s hi, stO_v hi]
      exact (hS i hi).2
    · exact va_Zof (hT _ (List.mem_of_getElem? (i := 497) (by decide +kernel) : Cond.laysStatic "java/lang/String" "COMPACT_STRINGS" "Z" ∈ lw_tbl)) (hT _ (List.mem_of_getElem? (i := 128) (by decide +kernel) : Cond.initialized "java/lang/String" ∈ lw_tbl)) (va_eqt (hF _ (List.mem_of_getElem? (i := 58) (by decide +kernel) : Cond.eq (.static "java/lang/String" "COMPACT_STRINGS" "Z") (.int 1) ∈ FW))) hA9
    · show va_Z _ _ _ (if stO ad adK adV sm kn tl fo fl b 904 = 0 then .null else .ref (stO ad adK adV sm kn tl fo fl b 903)) _ _ _
      rw [stO_3, stO_4]
      exact hfo

def lw_P (b : Addr) (xs : List Int32) (args : Array Value) (s : State) : Prop := args = #[.ref b] ∧ s.IntsAt b xs ∧ xs.length ≤ 3072 ∧ (Jvm.Cond.and given_1 narrow_1).before args s = true
/-- what a walk over the start with the record d0 says of its end, said of the start itself -/
theorem lw_closed {s t : State} {o : Outcome} {d0 : Drawn} {L : List Loc} {k n : Nat} (hd0 : s.drawn.sameBut d0 lw_cs) (hv : ∃ v, o = .returned v) (hW : (s.setDrawn d0).WarmedH t.vm) (hs : (s.setDrawn d0).sameButNew ({ t with vm := s.vm } : State) L k n) : State.butDraws s t lw_cs (fun t1 => Framed s o t1 L k n) := by
  have h2 : t.drawn = d0 := congrArg State.drawn hs.1
  refine ⟨⟨hv, hW, State.sameButNew.setDrawn hs s.drawn⟩, ?_, by decide⟩
  rw [h2]
  exact hd0
def lw_Q (_ : Array Value) (s : State) (o : Outcome) (t : State) : Prop := o = .returned (some (.int 1)) ∧ State.butDraws s t lw_cs (fun t1 => Framed s o t1 [] 601024 7293034)
def lw_Z (below : List Frame) (a : Array Value) (s : State) : State → Prop := fun t => ∃ o, t.status = .running ∧ Ended t below o ∧ lw_Q a s o t
/-- what holds at the law's entry: as the skeleton has it, with the law's name and its table of handlers (none) -/
def st_At (p : Program) (s : State) (m : MethodId) (meth : Method) (c : Code) (b L : Nat) (xs : Nat → Int32) : Prop :=
  p.tables.exec = Jvm.exec ∧ c.code = code ∧ meth.sig.returnType = ret ∧ c.maxLocals = 9 ∧ s.vm.findClass "CupboardPollLaw" = some m.cls ∧ (∀ w ∈ lw_tbl, w.before #[Value.ref b] s = true) ∧ va_X b L xs s s.heap ∧ b < s.heap.size ∧ meth.locks = false ∧ (Jvm.Cond.and given_1 narrow_1).before #[Value.ref b] s = true ∧ meth.name = "law" ∧ c.exceptionTable.toList = []

set_option maxHeartbeats 4000000 in
set_option maxRecDepth 100000 in
/-- from a run in the abstract world to the claim's own end -/
theorem st_end {p : Program} {e : Env} {s : State} {m : MethodId} {below : List Frame} {meth : Method} {c : Code} (l : Launch) (hflags : l.flags = flags0) {b L : Nat} {xs : Nat → Int32} (C0 : st_At p s m meth c b L xs)
    (run : ∀ G : GT, gN G = L → RQ G mL_law 2048 0 [some (.ref (OLD + 999)), none, none, none, none, none, none, none, none] [] (0, 0, fun _ => .inr (0, [])) (fun o h2 => o = .inl (some (.int (nI 1))) ∧ h2.1 ≤ 601024 ∧ h2.2.1 ≤ 7293034)) : W p l e room_1 s m #[Value.ref b] below meth c s.heap [] 0 0 (lw_Z below #[Value.ref b] s) (entryFrame m ([Value.ref b] : List Value).toArray 9) := by
  obtain ⟨c1, c2, c3, c4, c5, c6, c7, c8, c9, c10, hin, htab⟩ := C0
  obtain ⟨G, g1, g2, g3, g4, g5, hG⟩ := st_G hflags c6 c7 c8 c10
  obtain ⟨o, h2, r, rfl, r1, r2⟩ := run G g3
  subst g1
  have e9 : cv G (.ref (OLD + 999)) = .ref b := by
    show Value.ref (gad G (OLD + 999)) = _
    rw [gad_old, g5]
  have hR := Rl.entry G (As := [.ref (OLD + 999)]) (n := 9) (by decide)
  rw [show ([.ref (OLD + 999)] : List Value).map (cv G) = [.ref b] from by rw [List.map_cons, e9]; rfl] at hR
  have k := r.2 p e room_1 s m #[Value.ref b] below meth c s.heap [] 0 0 _
    ⟨c1, c2, c4, c3, c9, c5, fun w hw => c6 w (List.mem_filter.mp hw).1, hG, hin, htab, by decide, by decide⟩
    (by rw [g2]) (by show 0 + (h2.1 - 0) ≤ 601024; omega) (by show 0 + (h2.2.1 - 0) ≤ 7293034; omega) (by show h2.1 < 1000000; omega) (fun k q hk => by cases hk) va_S.rf hR
  rw [lg_entry_eq]
  refine W.mono (fun t ht => ?_) k
  obtain ⟨o, t1, t2, t3⟩ := ht
  rcases t3 with ⟨⟨⟨v, q1, q2, q3⟩, q4⟩, Ls, q5, q6⟩ | ⟨q, q1, q2⟩
  · cases q1
    refine ⟨_, t1, t2, ?_, ?_⟩
    · exact q2
    · refine lw_closed (Drawn.sameBut.refl s.drawn lw_cs) q5.1 q5.2.1 ?_
      exact (State.sameButNew.drop_fresh (L := []) (J := Ls) q5.2.2 (fun x hx => by rw [← g2]; exact q6 x hx)).mono (by show 0 + (h2.1 - 0) ≤ 601024; omega) (by show 0 + (h2.2.1 - 0) ≤ 7293034; omega)
  · obtain ⟨E, ce, L9, ⟨⟨hE, -⟩, -⟩, -⟩ := q2
    cases hE

