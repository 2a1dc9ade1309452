/-! THE START: the world's ground out of what the Statement gives -/
theorem st_all {Ws : List Cond} {N : Nat} {f : Nat → Cond} (ps : List Nat) (h : (List.range N).map f = ps.filterMap (fun i => Ws[i]?)) : ∀ i, i < N → f i ∈ Ws := fun i hi => by
  have h1 : f i ∈ (List.range N).map f := List.mem_map.mpr ⟨i, List.mem_range.mpr hi, rfl⟩
  rw [h] at h1
  obtain ⟨j, -, hj⟩ := List.mem_filterMap.mp h1
  exact List.mem_of_getElem? hj
def FW : List Cond := flatC (Jvm.Cond.and given_1 narrow_1)
def KO : List Int32 := [0, 1, 2, 3, 4, 5, 6, 7, 8, 9, 10, 11, 12, 13, 14, 15, 16, 17, 18, 19, 20, 21, 22, 23, 24, 25, 26, 27, 28, 29, 30, 31, 32, 33, 34, 35, 36, 37, 38, 39, 40, 41, 42]
theorem KO_ne : ∀ i, i < 43 → ∀ j, j < 43 → i ≠ j → KO.getD i 0 ≠ KO.getD j 0 := by decide +kernel
def SKl : List Nat := [157, 163, 166, 169, 172, 175, 178, 181, 184, 187, 190, 193, 196, 199, 202, 205, 208, 211, 214, 217, 220, 223, 226, 229, 232, 235, 238, 241, 244, 247, 250, 253, 256, 259, 262, 265, 268, 271, 274, 277]
/-- where text i stands: its class, its number there -/
def TCo (i : Nat) : String := if i < 40 then "CupboardPoll$Kind" else (SRf.getD (i - 40) ("", 0, "")).1
def TCk (i : Nat) : Nat := if i < 40 then SKl.getD i 0 else (SRf.getD (i - 40) ("", 0, "")).2.1
theorem TCo_k {i : Nat} (h : i < 40) : TCo i = "CupboardPoll$Kind" := if_pos h
theorem TCk_k {i : Nat} (h : i < 40) : TCk i = SKl.getD i 0 := if_pos h
theorem TCo_l (i : Nat) : TCo (40 + i) = (SRf.getD i ("", 0, "")).1 := by
  unfold TCo
  rw [if_neg (by omega), Nat.add_sub_cancel_left]
theorem TCk_l (i : Nat) : TCk (40 + i) = (SRf.getD i ("", 0, "")).2.1 := by
  unfold TCk
  rw [if_neg (by omega), Nat.add_sub_cancel_left]

theorem st_kl : ∀ i, i < 43 → Cond.laysStatic "CupboardPoll$Kind" (KN.getD i "") KD ∈ lw_tbl := st_all [1021, 1056, 1066, 1069, 1079, 1095, 1097, 1104, 1114, 1210, 1212, 1214, 1218, 1216, 1220, 1140, 1198, 1200, 1150, 1152, 1180, 1178, 1182, 1184, 150, 487, 1073, 1174, 1176, 1146, 1148, 1226, 1089, 1192, 1194, 1196, 1188, 1190, 1186, 987, 989, 317, 593] (by decide +kernel)
theorem st_kx : ∀ i, i < 43 → Cond.exactly (.static "CupboardPoll$Kind" (KN.getD i "") KD) "CupboardPoll$Kind" ∈ FW := st_all [123, 126, 129, 132, 138, 144, 147, 150, 153, 213, 216, 219, 225, 222, 228, 156, 207, 210, 165, 168, 180, 177, 183, 186, 4, 12, 135, 171, 174, 159, 162, 231, 141, 198, 201, 204, 192, 195, 189, 117, 120, 7, 15] (by decide +kernel)
theorem st_ko : ∀ i, i < 43 → Cond.eq (.field (.static "CupboardPoll$Kind" (KN.getD i "") KD) "java/lang/Enum" "ordinal" "I") (.int (KO.getD i 0)) ∈ FW := st_all [124, 127, 130, 133, 139, 145, 148, 151, 154, 214, 217, 220, 226, 223, 229, 157, 208, 211, 166, 169, 181, 178, 184, 187, 5, 13, 136, 172, 175, 160, 163, 232, 142, 199, 202, 205, 193, 196, 190, 118, 121, 8, 16] (by decide +kernel)
theorem st_ne {args : Array Value} {s : State} {E n1 n2 d C : String} {i j : Int32} (e1 : (Cond.exactly (.static E n1 d) C).before args s = true) (e2 : (Cond.exactly (.static E n2 d) C).before args s = true) (f1 : (Cond.eq (.field (.static E n1 d) "java/lang/Enum" "ordinal" "I") (.int i)).before args s = true) (f2 : (Cond.eq (.field (.static E n2 d) "java/lang/Enum" "ordinal" "I") (.int j)).before args s = true) (hij : i ≠ j) : (Cond.not (.eq (.static E n1 d) (.static E n2 d))).before args s = true := by
  obtain ⟨a, c, cell, k, q1, -⟩ := Cond.exactly_spec e1
  obtain ⟨a2, c2, cell2, k2, r1, -⟩ := Cond.exactly_spec e2
  have h1 := va_eqt f1
  have h2 := va_eqt f2
  have hne : a ≠ a2 := by
    rintro rfl
    rw [va_fe q1] at h1
    rw [va_fe r1] at h2
    rw [h1] at h2
    injection h2 with h2
    injection h2 with h2
    exact hij h2
  simp [Cond.before, Cond.holds, Cond.value, q1, r1, hne]
theorem st_prim {args : Array Value} {s : State} {ty : FieldType} (hno : ∀ C, ty ≠ .object C) (h : (Cond.arrayClass ty).before args s = true) : ∃ cA : ClassId, ArrOfT s cA ty ∧ va_RA s cA ty := by
  obtain ⟨cA, kA, comp, h1, h2, h3⟩ := Cond.arrayClass_spec h
  refine ⟨cA, fun n z => ⟨fun k h => (by cases h), kA, h2, comp, h3⟩, ?_⟩
  cases ty with
  | object C => exact absurd rfl (hno C)
  | _ => exact h1
theorem st_obj {args : Array Value} {s : State} {C : String} (h : (Cond.arrayOver (.object C)).before args s = true) : ∃ cA : ClassId, ArrOfT s cA (.object C) ∧ va_RA s cA (.object C) := by
  obtain ⟨comp, cA, kA, h1, -, h2, h3, h4⟩ := Cond.arrayOver_spec h
  exact ⟨cA, fun n z => ⟨fun k h => (by cases h), kA, h2, comp, h3⟩, kA, comp, h2, h3, h1, h4⟩

theorem st_sm : ∀ i, i < 43 → Cond.eq (.elem (.static "CupboardPoll$1" SMn "[I") (.int (Int32.ofNat i))) (.int (SMl.getD i 0)) ∈ FW := st_all [21, 22, 23, 24, 25, 26, 27, 28, 29, 30, 31, 32, 33, 34, 35, 36, 37, 38, 39, 40, 41, 42, 43, 44, 45, 46, 47, 48, 49, 50, 51, 52, 53, 54, 55, 56, 57, 58, 59, 60, 61, 62, 63] (by decide +kernel)
theorem st_kn : ∀ i, i < 43 → Cond.eq (.elem (.static "CupboardPoll" "KINDS" "[LCupboardPoll$Kind;") (.int (Int32.ofNat i))) (.static "CupboardPoll$Kind" (KN.getD i "") KD) ∈ FW := st_all [74, 75, 76, 77, 78, 79, 80, 81, 82, 83, 84, 85, 86, 87, 88, 89, 90, 91, 92, 93, 94, 95, 96, 97, 98, 99, 100, 101, 102, 103, 104, 105, 106, 107, 108, 109, 110, 111, 112, 113, 114, 115, 116] (by decide +kernel)
theorem st_wd : ∀ i, i < 3 → Cond.eq (.elem (.static "CupboardPollLaw" "WORDS" "[Ljava/lang/String;") (.int (Int32.ofNat i))) (.string (TCo (WRn i)) (TCk (WRn i))) ∈ FW := st_all [443, 444, 445] (by decide +kernel)
theorem st_sg : ∀ i, i < 6 → Cond.eq (.elem (.static "CupboardPollLaw" "SIGNS" "[Ljava/lang/String;") (.int (Int32.ofNat i))) (.string (TCo (SGn i)) (TCk (SGn i))) ∈ FW := st_all [449, 450, 451, 452, 453, 454] (by decide +kernel)
theorem WRn_lt : ∀ i, i < 3 → WRn i < 88 := by decide +kernel
theorem SGn_lt : ∀ i, i < 6 → SGn i < 88 := by decide +kernel
theorem st_dt : ∀ i, i < 100 → Cond.eq (.elem (.static "java/lang/Integer" "DigitTens" "[B") (.int (Int32.ofNat i))) (.int (nI (48 + i / 10))) ∈ FW := st_all [340, 341, 342, 343, 344, 345, 346, 347, 348, 349, 350, 351, 352, 353, 354, 355, 356, 357, 358, 359, 360, 361, 362, 363, 364, 365, 366, 367, 368, 369, 370, 371, 372, 373, 374, 375, 376, 377, 378, 379, 380, 381, 382, 383, 384, 385, 386, 387, 388, 389, 390, 391, 392, 393, 394, 395, 396, 397, 398, 399, 400, 401, 402, 403, 404, 405, 406, 407, 408, 409, 410, 411, 412, 413, 414, 415, 416, 417, 418, 419, 420, 421, 422, 423, 424, 425, 426, 427, 428, 429, 430, 431, 432, 433, 434, 435, 436, 437, 438, 439] (by decide +kernel)
theorem st_do : ∀ i, i < 100 → Cond.eq (.elem (.static "java/lang/Integer" "DigitOnes" "[B") (.int (Int32.ofNat i))) (.int (nI (48 + i % 10))) ∈ FW := st_all [237, 238, 239, 240, 241, 242, 243, 244, 245, 246, 247, 248, 249, 250, 251, 252, 253, 254, 255, 256, 257, 258, 259, 260, 261, 262, 263, 264, 265, 266, 267, 268, 269, 270, 271, 272, 273, 274, 275, 276, 277, 278, 279, 280, 281, 282, 283, 284, 285, 286, 287, 288, 289, 290, 291, 292, 293, 294, 295, 296, 297, 298, 299, 300, 301, 302, 303, 304, 305, 306, 307, 308, 309, 310, 311, 312, 313, 314, 315, 316, 317, 318, 319, 320, 321, 322, 323, 324, 325, 326, 327, 328, 329, 330, 331, 332, 333, 334, 335, 336] (by decide +kernel)
theorem st_tx : ∀ i, i < 43 → Cond.eq (.field (.static "CupboardPoll$Kind" (KN.getD i "") KD) "CupboardPoll$Kind" "text" STR) (.string (TCo (TXl i)) (TCk (TXl i))) ∈ FW := st_all [125, 128, 131, 134, 140, 146, 149, 152, 155, 215, 218, 221, 227, 224, 230, 158, 209, 212, 167, 170, 182, 179, 185, 188, 6, 14, 137, 173, 176, 161, 164, 233, 143, 200, 203, 206, 194, 197, 191, 119, 122, 9, 17] (by decide +kernel)
theorem st_sx : ∀ i, i < 88 → Cond.exactly (.string (TCo i) (TCk i)) "java/lang/String" ∈ FW := st_all [949, 958, 965, 974, 990, 1005, 1012, 1018, 1025, 1164, 1171, 1179, 1194, 1186, 1204, 1033, 1151, 1158, 1052, 1061, 1093, 1084, 1100, 1110, 923, 938, 980, 1071, 1077, 1040, 1046, 1214, 999, 1136, 1141, 1146, 1126, 1131, 1121, 932, 619, 608, 624, 629, 636, 644, 654, 663, 672, 683, 691, 702, 706, 711, 720, 729, 1251, 1257, 1263, 1269, 1275, 1281, 1220, 1228, 1239, 861, 869, 880, 889, 898, 908, 749, 754, 765, 776, 787, 799, 807, 812, 821, 826, 834, 839, 844, 739, 849, 855, 917] (by decide +kernel)
theorem st_sc : ∀ i, i < 88 → Cond.eq (.field (.string (TCo i) (TCk i)) "java/lang/String" "coder" "B") (.int 0) ∈ FW := st_all [950, 959, 966, 975, 991, 1006, 1013, 1019, 1026, 1165, 1172, 1180, 1195, 1187, 1205, 1034, 1152, 1159, 1053, 1062, 1094, 1085, 1101, 1111, 924, 939, 981, 1072, 1078, 1041, 1047, 1215, 1000, 1137, 1142, 1147, 1127, 1132, 1122, 933, 620, 609, 625, 630, 637, 645, 655, 664, 673, 684, 692, 703, 707, 712, 721, 730, 1252, 1258, 1264, 1270, 1276, 1282, 1221, 1229, 1240, 862, 870, 881, 890, 899, 909, 750, 755, 766, 777, 788, 800, 808, 813, 822, 827, 835, 840, 845, 740, 850, 856, 918] (by decide +kernel)
theorem st_sa : ∀ i, i < 88 → Cond.arrayOf (.field (.string (TCo i) (TCk i)) "java/lang/String" "value" "[B") .byte ∈ FW := st_all [951, 960, 967, 976, 992, 1007, 1014, 1020, 1027, 1166, 1173, 1181, 1196, 1188, 1206, 1035, 1153, 1160, 1054, 1063, 1095, 1086, 1102, 1112, 925, 940, 982, 1073, 1079, 1042, 1048, 1216, 1001, 1138, 1143, 1148, 1128, 1133, 1123, 934, 621, 610, 626, 631, 638, 646, 656, 665, 674, 685, 693, 704, 708, 713, 722, 731, 1253, 1259, 1265, 1271, 1277, 1283, 1222, 1230, 1241, 863, 871, 882, 891, 900, 910, 751, 756, 767, 778, 789, 801, 809, 814, 823, 828, 836, 841, 846, 741, 851, 857, 919] (by decide +kernel)
theorem st_sl : ∀ i, i < 88 → Cond.eq (.length (.field (.string (TCo i) (TCk i)) "java/lang/String" "value" "[B")) (.int (Int32.ofNat (SBy.getD i []).length)) ∈ FW := st_all [952, 961, 968, 977, 993, 1008, 1015, 1021, 1028, 1167, 1174, 1182, 1197, 1189, 1207, 1036, 1154, 1161, 1055, 1064, 1096, 1087, 1103, 1113, 926, 941, 983, 1074, 1080, 1043, 1049, 1217, 1002, 1139, 1144, 1149, 1129, 1134, 1124, 935, 622, 611, 627, 632, 639, 647, 657, 666, 675, 686, 694, 705, 709, 714, 723, 732, 1254, 1260, 1266, 1272, 1278, 1284, 1223, 1231, 1242, 864, 872, 883, 892, 901, 911, 752, 757, 768, 779, 790, 802, 810, 815, 824, 829, 837, 842, 847, 742, 852, 858, 920] (by decide +kernel)
def SPl : List (Nat × Nat) := [(0, 0), (0, 1), (0, 2), (0, 3), (0, 4), (1, 0), (1, 1), (1, 2), (2, 0), (2, 1), (2, 2), (2, 3), (2, 4), (3, 0), (3, 1), (4, 0), (4, 1), (4, 2), (4, 3), (4, 4), (5, 0), (5, 1), (5, 2), (6, 0), (6, 1), (7, 0), (7, 1), (7, 2), (8, 0), (8, 1), (8, 2), (8, 3), (9, 0), (9, 1), (9, 2), (10, 0), (10, 1), (10, 2), (10, 3), (11, 0), (11, 1), (11, 2), (12, 0), (12, 1), (12, 2), (12, 3), (12, 4), (13, 0), (13, 1), (13, 2), (13, 3), (14, 0), (14, 1), (14, 2), (14, 3), (14, 4), (15, 0), (15, 1), (15, 2), (16, 0), (16, 1), (16, 2), (17, 0), (17, 1), (18, 0), (18, 1), (18, 2), (18, 3), (18, 4), (19, 0), (19, 1), (19, 2), (19, 3), (19, 4), (19, 5), (20, 0), (20, 1), (20, 2), (21, 0), (21, 1), (21, 2), (21, 3), (21, 4), (22, 0), (22, 1), (22, 2), (22, 3), (22, 4), (22, 5), (23, 0), (23, 1), (23, 2), (23, 3), (23, 4), (23, 5), (23, 6), (24, 0), (24, 1), (24, 2), (24, 3), (25, 0), (25, 1), (25, 2), (25, 3), (25, 4), (25, 5), (26, 0), (26, 1), (26, 2), (26, 3), (26, 4), (27, 0), (28, 0), (29, 0), (30, 0), (31, 0), (32, 0), (33, 0), (34, 0), (35, 0), (36, 0), (37, 0), (38, 0), (40, 0), (41, 0), (41, 1), (41, 2), (41, 3), (41, 4), (41, 5), (41, 6), (42, 0), (43, 0), (43, 1), (43, 2), (44, 0), (44, 1), (44, 2), (44, 3), (45, 0), (45, 1), (45, 2), (45, 3), (45, 4), (45, 5), (46, 0), (46, 1), (46, 2), (46, 3), (46, 4), (47, 0), (47, 1), (47, 2), (47, 3), (47, 4), (48, 0), (48, 1), (48, 2), (48, 3), (48, 4), (48, 5), (48, 6), (49, 0), (49, 1), (49, 2), (49, 3), (50, 0), (50, 1), (50, 2), (50, 3), (50, 4), (50, 5), (50, 6), (52, 0), (53, 0), (53, 1), (53, 2), (53, 3), (53, 4), (54, 0), (54, 1), (54, 2), (54, 3), (54, 4), (55, 0), (55, 1), (55, 2), (55, 3), (55, 4), (55, 5), (56, 0), (57, 0), (58, 0), (59, 0), (60, 0), (61, 0), (62, 0), (62, 1), (62, 2), (63, 0), (63, 1), (63, 2), (63, 3), (63, 4), (63, 5), (64, 0), (64, 1), (64, 2), (64, 3), (64, 4), (64, 5), (64, 6), (65, 0), (65, 1), (65, 2), (65, 3), (66, 0), (66, 1), (66, 2), (66, 3), (66, 4), (66, 5), (66, 6), (67, 0), (67, 1), (67, 2), (67, 3), (67, 4), (68, 0), (68, 1), (68, 2), (68, 3), (68, 4), (69, 0), (69, 1), (69, 2), (69, 3), (69, 4), (69, 5), (70, 0), (70, 1), (70, 2), (70, 3), (70, 4), (72, 0), (72, 1), (72, 2), (72, 3), (72, 4), (72, 5), (72, 6), (73, 0), (73, 1), (73, 2), (73, 3), (73, 4), (73, 5), (73, 6), (74, 0), (74, 1), (74, 2), (74, 3), (74, 4), (74, 5), (74, 6), (75, 0), (75, 1), (75, 2), (75, 3), (75, 4), (75, 5), (75, 6), (75, 7), (76, 0), (76, 1), (76, 2), (76, 3), (77, 0), (78, 0), (78, 1), (78, 2), (78, 3), (78, 4), (79, 0), (80, 0), (80, 1), (80, 2), (80, 3), (81, 0), (82, 0), (83, 0), (84, 0), (84, 1), (84, 2), (84, 3), (84, 4), (84, 5), (85, 0), (85, 1), (86, 0), (87, 0)]
def SOl : List Nat := [0, 5, 8, 13, 15, 20, 23, 25, 28, 32, 35, 39, 42, 47, 51, 56, 59, 62, 64, 69, 75, 78, 83, 89, 96, 100, 106, 111, 112, 113, 114, 115, 116, 117, 118, 119, 120, 121, 122, 123, 123, 124, 131, 132, 135, 139, 145, 150, 155, 162, 166, 173, 173, 174, 179, 184, 190, 191, 192, 193, 194, 195, 196, 199, 205, 212, 216, 223, 228, 233, 239, 244, 244, 251, 258, 265, 273, 277, 278, 283, 284, 288, 289, 290, 291, 297, 299, 300]
theorem st_sb0 : ∀ n, n < 301 → Cond.eq (.elem (.field (.string (TCo (SPl.getD n (0, 0)).1) (TCk (SPl.getD n (0, 0)).1)) "java/lang/String" "value" "[B") (.int (Int32.ofNat (SPl.getD n (0, 0)).2))) (.int ((SBy.getD (SPl.getD n (0, 0)).1 []).getD (SPl.getD n (0, 0)).2 0)) ∈ FW := st_all [953, 954, 955, 956, 957, 962, 963, 964, 969, 970, 971, 972, 973, 978, 979, 994, 995, 996, 997, 998, 1009, 1010, 1011, 1016, 1017, 1022, 1023, 1024, 1029, 1030, 1031, 1032, 1168, 1169, 1170, 1175, 1176, 1177, 1178, 1183, 1184, 1185, 1198, 1199, 1200, 1201, 1202, 1190, 1191, 1192, 1193, 1208, 1209, 1210, 1211, 1212, 1037, 1038, 1039, 1155, 1156, 1157, 1162, 1163, 1056, 1057, 1058, 1059, 1060, 1065, 1066, 1067, 1068, 1069, 1070, 1097, 1098, 1099, 1088, 1089, 1090, 1091, 1092, 1104, 1105, 1106, 1107, 1108, 1109, 1114, 1115, 1116, 1117, 1118, 1119, 1120, 927, 928, 929, 930, 942, 943, 944, 945, 946, 947, 984, 985, 986, 987, 988, 1075, 1081, 1044, 1050, 1218, 1003, 1140, 1145, 1150, 1130, 1135, 1125, 623, 612, 613, 614, 615, 616, 617, 618, 628, 633, 634, 635, 640, 641, 642, 643, 648, 649, 650, 651, 652, 653, 658, 659, 660, 661, 662, 667, 668, 669, 670, 671, 676, 677, 678, 679, 680, 681, 682, 687, 688, 689, 690, 695, 696, 697, 698, 699, 700, 701, 710, 715, 716, 717, 718, 719, 724, 725, 726, 727, 728, 733, 734, 735, 736, 737, 738, 1255, 1261, 1267, 1273, 1279, 1285, 1224, 1225, 1226, 1232, 1233, 1234, 1235, 1236, 1237, 1243, 1244, 1245, 1246, 1247, 1248, 1249, 865, 866, 867, 868, 873, 874, 875, 876, 877, 878, 879, 884, 885, 886, 887, 888, 893, 894, 895, 896, 897, 902, 903, 904, 905, 906, 907, 912, 913, 914, 915, 916, 758, 759, 760, 761, 762, 763, 764, 769, 770, 771, 772, 773, 774, 775, 780, 781, 782, 783, 784, 785, 786, 791, 792, 793, 794, 795, 796, 797, 798, 803, 804, 805, 806, 811, 816, 817, 818, 819, 820, 825, 830, 831, 832, 833, 838, 843, 848, 743, 744, 745, 746, 747, 748, 853, 854, 859, 921] (by decide +kernel)
theorem st_sb1 : ∀ i, i < 88 → ∀ j, j < (SBy.getD i []).length → SOl.getD i 0 + j < 301 ∧ SPl.getD (SOl.getD i 0 + j) (0, 0) = (i, j) := by decide +kernel
theorem st_sr : ∀ i, i < 48 → Cond.stringRef (SRf.getD i ("", 0, "")).1 (SRf.getD i ("", 0, "")).2.1 (SRf.getD i ("", 0, "")).2.2 ∈ lw_tbl := st_all [1399, 1268, 1470, 1471, 1475, 1476, 1477, 1497, 1498, 1524, 1525, 1526, 1527, 1553, 1554, 1555, 1775, 1776, 1777, 1778, 1779, 1780, 1772, 1773, 1774, 1673, 1676, 1679, 1680, 1681, 1682, 1631, 1637, 1639, 1640, 1641, 1642, 1644, 1645, 1646, 1647, 1648, 1649, 1652, 1623, 1653, 1666, 1683] (by decide +kernel)
theorem st_sb {i j : Nat} (hi : i < 88) (hj : j < (SBy.getD i []).length) : Cond.eq (.elem (.field (.string (TCo i) (TCk i)) "java/lang/String" "value" "[B") (.int (Int32.ofNat j))) (.int ((SBy.getD i []).getD j 0)) ∈ FW := by
  obtain ⟨h1, h2⟩ := st_sb1 i hi j hj
  have h3 := st_sb0 _ h1
  rw [h2] at h3
  exact h3
theorem st_eqv {args : Array Value} {s : State} {t1 t2 : Term} {a : Nat} (h : (Cond.eq t1 t2).before args s = true) (h2 : t2.eval args s none [] s = some (.ref a)) : t1.eval args s none [] s = some (.ref a) := by
  cases hv : t1.eval args s none [] s with
  | none => simp [Cond.before, Cond.holds, Cond.value, hv] at h
  | some w =>
    simp only [Cond.before, Cond.holds, Cond.value, hv, h2] at h
    cases w <;> simp_all
theorem st_eqw {args : Array Value} {s : State} {t1 t2 : Term} {a : Nat} (h : (Cond.eq t1 t2).before args s = true) (h1 : t1.eval args s none [] s = some (.ref a)) : t2.eval args s none [] s = some (.ref a) := by
  cases hv : t2.eval args s none [] s with
  | none => simp [Cond.before, Cond.holds, Cond.value, hv, h1] at h
  | some w =>
    simp only [Cond.before, Cond.holds, Cond.value, hv, h1] at h
    cases w <;> simp_all
theorem st_len : ∀ i, i < 88 → (SBy.getD i []).length < 2 ^ 31 := by decide +kernel
theorem st_Str {args : Array Value} {s : State} {A : Nat → Prop} (hF : ∀ w ∈ FW, w.before args s = true) (hA : ∀ a : Nat, a < s.heap.size → ¬ A a) : ∃ adK adV : Nat → Nat, ∀ i, i < 88 → (Term.string (TCo i) (TCk i)).eval args s none [] s = some (.ref (adK i)) ∧ va_O "java/lang/String" (adK i) A s s.heap ∧ va_OF "java/lang/String" "coder" "B" (.int 0) (adK i) A s s.heap ∧ va_OF "java/lang/String" "value" "[B" (.ref (adV i)) (adK i) A s s.heap ∧ va_T .byte (adV i) (SBy.getD i []).length (fun j => .int ((SBy.getD i []).getD j 0)) A s s.heap := by
  have one : ∀ i : Nat, ∃ q : Nat × Nat, i < 88 → (Term.string (TCo i) (TCk i)).eval args s none [] s = some (.ref q.1) ∧ va_O "java/lang/String" q.1 A s s.heap ∧ va_OF "java/lang/String" "coder" "B" (.int 0) q.1 A s s.heap ∧ va_OF "java/lang/String" "value" "[B" (.ref q.2) q.1 A s s.heap ∧ va_T .byte q.2 (SBy.getD i []).length (fun j => .int ((SBy.getD i []).getD j 0)) A s s.heap := by
    intro i
    by_cases hi : i < 88
    · obtain ⟨a, cc, cell, kk, q1, q2, q3, q4, q5, q6, -⟩ := Cond.exactly_spec (args := args) (first := s) (o := none) (s := s) (idx := []) (hF _ (st_sx i hi))
      obtain ⟨t, ht, hT⟩ := va_Tof (f := fun j => .int ((SBy.getD i []).getD j 0)) (A := A) (st_len i hi) (hF _ (st_sa i hi)) (va_eqt (hF _ (st_sl i hi))) (fun j hj => va_eqt (hF _ (st_sb hi hj))) hA
      exact ⟨(a, t), fun _ => ⟨q1, ⟨cell, q3, q5, by rw [q6]; exact q2, hA a (Array.getElem?_eq_some_iff.mp q3).1⟩, vk_OFof q1 (va_eqt (hF _ (st_sc i hi))) hA, vk_OFof q1 ht hA, hT⟩⟩
    · exact ⟨(0, 0), fun h => absurd h hi⟩
  obtain ⟨ad, had⟩ := Classical.axiomOfChoice one
  exact ⟨fun i => (ad i).1, fun i => (ad i).2, fun i hi => had i hi⟩

/-- where the old things lie -/
def stOld (ad adK adV : Nat → Nat) (sm kn wd fo fl sg dt dn b : Nat) (k : Nat) : Nat := if k < 43 then ad k else if k < 190 then adK (k - 100) else if k < 290 then adV (k - 200) else if k = 900 then sm else if k = 901 then kn else if k = 902 then wd else if k = 903 then fo else if k = 904 then fl else if k = 905 then sg else if k = 906 then dt else if k = 907 then dn else b
section SO
variable {ad adK adV : Nat → Nat} {sm kn wd fo fl sg dt dn b : Nat}
theorem stOld_k {k : Nat} (h : k < 43) : stOld ad adK adV sm kn wd fo fl sg dt dn b k = ad k := if_pos h
theorem stOld_s {i : Nat} (h : i < 88) : stOld ad adK adV sm kn wd fo fl sg dt dn b (100 + i) = adK i := by
  unfold stOld
  rw [if_neg (by omega), if_pos (by omega), Nat.add_sub_cancel_left]
theorem stOld_v {i : Nat} (h : i < 88) : stOld ad adK adV sm kn wd fo fl sg dt dn b (200 + i) = adV i := by
  unfold stOld
  rw [if_neg (by omega), if_neg (by omega), if_pos (by omega), Nat.add_sub_cancel_left]
theorem stOld_900 : stOld ad adK adV sm kn wd fo fl sg dt dn b 900 = sm := by
  unfold stOld
  rw [if_neg (by omega), if_neg (by omega), if_neg (by omega), if_pos rfl]
theorem stOld_901 : stOld ad adK adV sm kn wd fo fl sg dt dn b 901 = kn := by
  unfold stOld
  rw [if_neg (by omega), if_neg (by omega), if_neg (by omega), if_neg (by omega), if_pos rfl]
theorem stOld_902 : stOld ad adK adV sm kn wd fo fl sg dt dn b 902 = wd := by
  unfold stOld
  rw [if_neg (by omega), if_neg (by omega), if_neg (by omega), if_neg (by omega), if_neg (by omega), if_pos rfl]
theorem stOld_903 : stOld ad adK adV sm kn wd fo fl sg dt dn b 903 = fo := by
  unfold stOld
  rw [if_neg (by omega), if_neg (by omega), if_neg (by omega), if_neg (by omega), if_neg (by omega), if_neg (by omega), if_pos rfl]
theorem stOld_904 : stOld ad adK adV sm kn wd fo fl sg dt dn b 904 = fl := by
  unfold stOld
  rw [if_neg (by omega), if_neg (by omega), if_neg (by omega), if_neg (by omega), if_neg (by omega), if_neg (by omega), if_neg (by omega), if_pos rfl]
theorem stOld_905 : stOld ad adK adV sm kn wd fo fl sg dt dn b 905 = sg := by
  unfold stOld
  rw [if_neg (by omega), if_neg (by omega), if_neg (by omega), if_neg (by omega), if_neg (by omega), if_neg (by omega), if_neg (by omega), if_neg (by omega), if_pos rfl]
theorem stOld_906 : stOld ad adK adV sm kn wd fo fl sg dt dn b 906 = dt := by
  unfold stOld
  rw [if_neg (by omega), if_neg (by omega), if_neg (by omega), if_neg (by omega), if_neg (by omega), if_neg (by omega), if_neg (by omega), if_neg (by omega), if_neg (by omega), if_pos rfl]
theorem stOld_907 : stOld ad adK adV sm kn wd fo fl sg dt dn b 907 = dn := by
  unfold stOld
  rw [if_neg (by omega), if_neg (by omega), if_neg (by omega), if_neg (by omega), if_neg (by omega), if_neg (by omega), if_neg (by omega), if_neg (by omega), if_neg (by omega), if_neg (by omega), if_pos rfl]
theorem stOld_999 : stOld ad adK adV sm kn wd fo fl sg dt dn b 999 = b := by
  unfold stOld
  rw [if_neg (by omega), if_neg (by omega), if_neg (by omega), if_neg (by omega), if_neg (by omega), if_neg (by omega), if_neg (by omega), if_neg (by omega), if_neg (by omega), if_neg (by omega), if_neg (by omega)]
end SO
theorem TXl_lt {i : Nat} : TXl i < 40 := by
  unfold TXl
  split <;> omega

set_option maxHeartbeats 4000000 in
set_option maxRecDepth 100000 in
theorem st_T {args : Array Value} {s : State} (hT : ∀ w ∈ lw_tbl, w.before args s = true) : ∀ w ∈ lwT, w.before args s = true := fun w hw => by
  rcases List.mem_append.mp hw with h | h
  · exact hT w h
  have h4 : w = Cond.selects RJ4 yJ5_ensureCapacityInternal_d00df yJ5_ensureCapacityInternal_d00df ∨ w = Cond.selects RJ4 yJ5_newCapacity_0f7a4 yJ5_newCapacity_0f7a4 ∨ w = Cond.selects RJ4 yJ5_putStringAt_47b60 yJ5_putStringAt_47b60 ∨ w = Cond.selects RJ4 yJ5_inflateIfNeededFor_a7421 yJ5_inflateIfNeededFor_a7421 := by
    rcases List.mem_cons.mp h with e | h
    · exact Or.inl e
    rcases List.mem_cons.mp h with e | h
    · exact Or.inr (Or.inl e)
    rcases List.mem_cons.mp h with e | h
    · exact Or.inr (Or.inr (Or.inl e))
    · exact Or.inr (Or.inr (Or.inr (List.mem_singleton.mp h)))
  rcases h4 with e | e | e | e <;> rw [e]
  · exact selP (y := yJ5_ensureCapacityInternal_d00df) (z := yJ5_isLatin1_aae02) (n := 4) ⟨by decide, by decide⟩ rfl (hT _ (List.mem_of_getElem? (i := 1379) (by decide +kernel) : Cond.instantiable RJ4 4 ∈ lw_tbl)) (hT _ (List.mem_of_getElem? (i := 1282) (by decide +kernel) : Cond.privateMethod yJ5_ensureCapacityInternal_d00df ∈ lw_tbl)) (hT _ (List.mem_of_getElem? (i := 1283) (by decide +kernel) : Cond.instanceMethod yJ5_ensureCapacityInternal_d00df ∈ lw_tbl)) (hT _ (List.mem_of_getElem? (i := 1315) (by decide +kernel) : Cond.selects RJ4 yJ5_isLatin1_aae02 yJ5_isLatin1_aae02 ∈ lw_tbl))
  · exact selP (y := yJ5_newCapacity_0f7a4) (z := yJ5_isLatin1_aae02) (n := 4) ⟨by decide, by decide⟩ rfl (hT _ (List.mem_of_getElem? (i := 1379) (by decide +kernel) : Cond.instantiable RJ4 4 ∈ lw_tbl)) (hT _ (List.mem_of_getElem? (i := 1286) (by decide +kernel) : Cond.privateMethod yJ5_newCapacity_0f7a4 ∈ lw_tbl)) (hT _ (List.mem_of_getElem? (i := 1287) (by decide +kernel) : Cond.instanceMethod yJ5_newCapacity_0f7a4 ∈ lw_tbl)) (hT _ (List.mem_of_getElem? (i := 1315) (by decide +kernel) : Cond.selects RJ4 yJ5_isLatin1_aae02 yJ5_isLatin1_aae02 ∈ lw_tbl))
  · exact selP (y := yJ5_putStringAt_47b60) (z := yJ5_isLatin1_aae02) (n := 4) ⟨by decide, by decide⟩ rfl (hT _ (List.mem_of_getElem? (i := 1379) (by decide +kernel) : Cond.instantiable RJ4 4 ∈ lw_tbl)) (hT _ (List.mem_of_getElem? (i := 1335) (by decide +kernel) : Cond.privateMethod yJ5_putStringAt_47b60 ∈ lw_tbl)) (hT _ (List.mem_of_getElem? (i := 1336) (by decide +kernel) : Cond.instanceMethod yJ5_putStringAt_47b60 ∈ lw_tbl)) (hT _ (List.mem_of_getElem? (i := 1315) (by decide +kernel) : Cond.selects RJ4 yJ5_isLatin1_aae02 yJ5_isLatin1_aae02 ∈ lw_tbl))
  · exact selP (y := yJ5_inflateIfNeededFor_a7421) (z := yJ5_isLatin1_aae02) (n := 4) ⟨by decide, by decide⟩ rfl (hT _ (List.mem_of_getElem? (i := 1379) (by decide +kernel) : Cond.instantiable RJ4 4 ∈ lw_tbl)) (hT _ (List.mem_of_getElem? (i := 1339) (by decide +kernel) : Cond.privateMethod yJ5_inflateIfNeededFor_a7421 ∈ lw_tbl)) (hT _ (List.mem_of_getElem? (i := 1340) (by decide +kernel) : Cond.instanceMethod yJ5_inflateIfNeededFor_a7421 ∈ lw_tbl)) (hT _ (List.mem_of_getElem? (i := 1315) (by decide +kernel) : Cond.selects RJ4 yJ5_isLatin1_aae02 yJ5_isLatin1_aae02 ∈ lw_tbl))
set_option maxHeartbeats 4000000 in
set_option maxRecDepth 100000 in
theorem st_K {args : Array Value} {s : State} (hT : ∀ w ∈ lw_tbl, w.before args s = true) : ∃ (D : va_G) (A : Nat → ClassId), ∀ (l : Launch) (B : Nat) (f : Nat → Nat) (n : Nat) (xs : Nat → Int32), va_K D CL (TY (l, D.1, D.2, A, B, f, n, xs)) s := by
  have hA : ∀ w ∈ AW, w.before args s = true := fun w hw => st_T hT w (List.mem_filter.mp hw).1
  obtain ⟨c0, i0, k0⟩ := u_known (N := 11) hA inA1 (hT _ (List.mem_of_getElem? (i := 131) (by decide +kernel) : Cond.instantiable RX1 11 ∈ lw_tbl))
  obtain ⟨c1, i1, k1⟩ := u_known (N := 3) hA inA2 (hT _ (List.mem_of_getElem? (i := 344) (by decide +kernel) : Cond.instantiable RX2 3 ∈ lw_tbl))
  obtain ⟨c2, i2, k2⟩ := u_known (N := 5) hA inA3 (hT _ (List.mem_of_getElem? (i := 137) (by decide +kernel) : Cond.instantiable RX3 5 ∈ lw_tbl))
  obtain ⟨c3, i3, k3⟩ := u_known (N := 10) hA inA4 (hT _ (List.mem_of_getElem? (i := 144) (by decide +kernel) : Cond.instantiable RX4 10 ∈ lw_tbl))
  obtain ⟨c4, i4, k4⟩ := u_known (N := 7) hA inA6 (hT _ (List.mem_of_getElem? (i := 102) (by decide +kernel) : Cond.instantiable RX6 7 ∈ lw_tbl))
  obtain ⟨c5, i5, k5⟩ := u_known (N := 8) hA inA7 (hT _ (List.mem_of_getElem? (i := 227) (by decide +kernel) : Cond.instantiable RX7 8 ∈ lw_tbl))
  obtain ⟨c6, i6, k6⟩ := u_known (N := 2) hA inA8 (hT _ (List.mem_of_getElem? (i := 86) (by decide +kernel) : Cond.instantiable RX8 2 ∈ lw_tbl))
  obtain ⟨c7, i7, k7⟩ := u_known (N := 4) hA inA9 (hT _ (List.mem_of_getElem? (i := 108) (by decide +kernel) : Cond.instantiable RX9 4 ∈ lw_tbl))
  obtain ⟨c8, i8, k8⟩ := u_known (N := 7) hA inA10 (hT _ (List.mem_of_getElem? (i := 78) (by decide +kernel) : Cond.instantiable RX10 7 ∈ lw_tbl))
  obtain ⟨c9, i9, k9⟩ := u_known (N := 3) hA inA11 (hT _ (List.mem_of_getElem? (i := 1591) (by decide +kernel) : Cond.instantiable RX11 3 ∈ lw_tbl))
  obtain ⟨c10, i10, k10⟩ := u_known (N := 4) hA inA12 (hT _ (List.mem_of_getElem? (i := 1239) (by decide +kernel) : Cond.instantiable RX12 4 ∈ lw_tbl))
  obtain ⟨c11, i11, k11⟩ := u_known (N := 1) hA inA13 (hT _ (List.mem_of_getElem? (i := 833) (by decide +kernel) : Cond.instantiable RX13 1 ∈ lw_tbl))
  obtain ⟨c12, i12, k12⟩ := u_known (N := 3) hA inA14 (hT _ (List.mem_of_getElem? (i := 1478) (by decide +kernel) : Cond.instantiable RX14 3 ∈ lw_tbl))
  obtain ⟨c13, i13, k13⟩ := u_known (N := 3) hA inA15 (hT _ (List.mem_of_getElem? (i := 1529) (by decide +kernel) : Cond.instantiable RX15 3 ∈ lw_tbl))
  obtain ⟨c14, i14, k14⟩ := u_known (N := 4) hA inA16 (hT _ (List.mem_of_getElem? (i := 1567) (by decide +kernel) : Cond.instantiable RX16 4 ∈ lw_tbl))
  obtain ⟨c15, i15, k15⟩ := u_known (N := 2) hA inA17 (hT _ (List.mem_of_getElem? (i := 1556) (by decide +kernel) : Cond.instantiable RX17 2 ∈ lw_tbl))
  obtain ⟨c16, i16, k16⟩ := u_known (N := 4) hA inAJ0 (hT _ (List.mem_of_getElem? (i := 1418) (by decide +kernel) : Cond.instantiable RJ0 4 ∈ lw_tbl))
  obtain ⟨c17, i17, k17⟩ := u_known (N := 4) hA inAJ4 (hT _ (List.mem_of_getElem? (i := 1379) (by decide +kernel) : Cond.instantiable RJ4 4 ∈ lw_tbl))
  obtain ⟨c18, i18, k18⟩ := u_known (T := exT) (N := 0) hA (fun w hw => absurd hw List.not_mem_nil) (hT _ (List.mem_of_getElem? (i := 400) (by decide +kernel) : Cond.instantiable "java/lang/IndexOutOfBoundsException" 6 ∈ lw_tbl))
  obtain ⟨c19, i19, k19⟩ := u_known (T := exT) (N := 0) hA (fun w hw => absurd hw List.not_mem_nil) (hT _ (List.mem_of_getElem? (i := 562) (by decide +kernel) : Cond.instantiable "java/lang/IllegalArgumentException" 6 ∈ lw_tbl))
  obtain ⟨c20, i20, k20⟩ := u_known (T := exT) (N := 0) hA (fun w hw => absurd hw List.not_mem_nil) (hT _ (List.mem_of_getElem? (i := 915) (by decide +kernel) : Cond.instantiable "java/lang/IllegalStateException" 6 ∈ lw_tbl))
  obtain ⟨a0, ha0⟩ := st_prim (ty := .int) (fun C q => nomatch q) (hT _ (List.mem_of_getElem? (i := 128) (by decide +kernel) : Cond.arrayClass .int ∈ lw_tbl))
  obtain ⟨a1, ha1⟩ := st_prim (ty := .byte) (fun C q => nomatch q) (hT _ (List.mem_of_getElem? (i := 100) (by decide +kernel) : Cond.arrayClass .byte ∈ lw_tbl))
  obtain ⟨a2, ha2⟩ := st_prim (ty := .long) (fun C q => nomatch q) (hT _ (List.mem_of_getElem? (i := 129) (by decide +kernel) : Cond.arrayClass .long ∈ lw_tbl))
  obtain ⟨a3, ha3⟩ := st_obj (hT _ (List.mem_of_getElem? (i := 143) (by decide +kernel) : Cond.arrayOver (.object "CupboardPoll$Jar") ∈ lw_tbl))
  obtain ⟨a4, ha4⟩ := st_obj (hT _ (List.mem_of_getElem? (i := 114) (by decide +kernel) : Cond.arrayOver (.object "CupboardPoll$Kind") ∈ lw_tbl))
  obtain ⟨a5, ha5⟩ := st_obj (hT _ (List.mem_of_getElem? (i := 1245) (by decide +kernel) : Cond.arrayOver (.object "CupboardPollLaw$Jar") ∈ lw_tbl))
  obtain ⟨a6, ha6⟩ := st_obj (hT _ (List.mem_of_getElem? (i := 1247) (by decide +kernel) : Cond.arrayOver (.object "CupboardPollLaw$Lid") ∈ lw_tbl))
  obtain ⟨a7, ha7⟩ := st_obj (hT _ (List.mem_of_getElem? (i := 1552) (by decide +kernel) : Cond.arrayOver (.object "CupboardPollLaw$Rule") ∈ lw_tbl))
  obtain ⟨a8, ha8⟩ := st_obj (hT _ (List.mem_of_getElem? (i := 1590) (by decide +kernel) : Cond.arrayOver (.object "CupboardPollLaw$Act") ∈ lw_tbl))
  obtain ⟨a9, ha9⟩ := st_obj (hT _ (List.mem_of_getElem? (i := 1474) (by decide +kernel) : Cond.arrayOver (.object "java/lang/String") ∈ lw_tbl))
  refine ⟨(fun c => [c0, c1, c2, c3, c4, c5, c6, c7, c8, c9, c10, c11, c12, c13, c14, c15, c16, c17, c18, c19, c20].getD c c0, fun c => [i0, i1, i2, i3, i4, i5, i6, i7, i8, i9, i10, i11, i12, i13, i14, i15, i16, i17, i18, i19, i20].getD c i0), fun j => [a0, a1, a2, a3, a4, a5, a6, a7, a8, a9].getD j a0, fun l B f n xs => ⟨fun c q hq => ?_, fun k q hq => ?_⟩⟩
  · have hc : c < 21 := (List.getElem?_eq_some_iff.mp hq).1
    match c, hc with
    | 0, _ => cases hq; exact k0
    | 1, _ => cases hq; exact k1
    | 2, _ => cases hq; exact k2
    | 3, _ => cases hq; exact k3
    | 4, _ => cases hq; exact k4
    | 5, _ => cases hq; exact k5
    | 6, _ => cases hq; exact k6
    | 7, _ => cases hq; exact k7
    | 8, _ => cases hq; exact k8
    | 9, _ => cases hq; exact k9
    | 10, _ => cases hq; exact k10
    | 11, _ => cases hq; exact k11
    | 12, _ => cases hq; exact k12
    | 13, _ => cases hq; exact k13
    | 14, _ => cases hq; exact k14
    | 15, _ => cases hq; exact k15
    | 16, _ => cases hq; exact k16
    | 17, _ => cases hq; exact k17
    | 18, _ => cases hq; exact k18
    | 19, _ => cases hq; exact k19
    | 20, _ => cases hq; exact k20
  · have hc : k < 10 := (List.getElem?_eq_some_iff.mp hq).1
    match k, hc with
    | 0, _ => cases hq; exact ha0
    | 1, _ => cases hq; exact ha1
    | 2, _ => cases hq; exact ha2
    | 3, _ => cases hq; exact ha3
    | 4, _ => cases hq; exact ha4
    | 5, _ => cases hq; exact ha5
    | 6, _ => cases hq; exact ha6
    | 7, _ => cases hq; exact ha7
    | 8, _ => cases hq; exact ha8
    | 9, _ => cases hq; exact ha9

set_option maxHeartbeats 4000000 in
set_option maxRecDepth 100000 in
theorem st_G {l : Launch} {s : State} {b L : Nat} {xs : Nat → Int32} (hfl : l.flags = flags0) (hT : ∀ w ∈ lw_tbl, w.before #[Value.ref b] s = true) (hX : va_X b L xs s s.heap) (hb : b < s.heap.size) (hg : (Jvm.Cond.and given_1 narrow_1).before #[Value.ref b] s = true) : ∃ G : GT, gL G = l ∧ gB G = s.heap.size ∧ gN G = L ∧ gX G = xs ∧ gO G 999 = b ∧ Gs G s := by
  have hF : ∀ w ∈ FW, w.before #[Value.ref b] s = true := flat_of_before _ hg
  obtain ⟨D, A, hK⟩ := st_K hT
  have hA9 : ∀ a : Nat, a < s.heap.size → ¬ (s.heap.size ≤ a) := fun a h1 h2 => absurd h1 (Nat.not_lt.mpr h2)
  obtain ⟨ad, hE, hAd⟩ := va_Enof2 (E := "CupboardPoll$Kind") (d := KD) (nm := KN) (F := KF) (A := fun q => s.heap.size ≤ q) (fun i hi => hT _ (st_kl i hi)) (hT _ (List.mem_of_getElem? (i := 49) (by decide +kernel) : Cond.initialized "CupboardPoll$Kind" ∈ lw_tbl)) (fun i hi => hF _ (st_kx i hi)) (fun q hq i hi => by
    cases List.mem_singleton.mp hq
    exact hF _ (st_ko i hi)) (fun i j hi hj hij => Or.inl (st_ne (hF _ (st_kx i hi)) (hF _ (st_kx j hj)) (hF _ (st_ko i hi)) (hF _ (st_ko j hj)) (KO_ne i hi j hj hij))) hA9
  obtain ⟨adK, adV, hS⟩ := st_Str (A := fun q => s.heap.size ≤ q) hF hA9
  obtain ⟨fo, fl, hfo⟩ : ∃ fo fl : Nat, va_Z "jdk/internal/util/Preconditions" "SIOOBE_FORMATTER" "Ljava/util/function/BiFunction;" (if fl = 0 then .null else .ref fo) (fun q => s.heap.size ≤ q) s s.heap := by
    rcases vx_Zqof (hT _ (List.mem_of_getElem? (i := 883) (by decide +kernel) : Cond.laysStatic "jdk/internal/util/Preconditions" "SIOOBE_FORMATTER" "Ljava/util/function/BiFunction;" ∈ lw_tbl)) (hT _ (List.mem_of_getElem? (i := 62) (by decide +kernel) : Cond.initialized "jdk/internal/util/Preconditions" ∈ lw_tbl)) (hF _ (List.mem_of_getElem? (i := 65) (by decide +kernel) : Cond.isRef (.static "jdk/internal/util/Preconditions" "SIOOBE_FORMATTER" "Ljava/util/function/BiFunction;") ∈ FW)) hA9 with h9 | ⟨t9, h9⟩
    · exact ⟨0, 0, h9⟩
    · exact ⟨t9, 1, h9⟩
  obtain ⟨sm, hsm, hsmT⟩ := va_Tof (tm := .static "CupboardPoll$1" SMn "[I") (ty := .int) (N := 43) (f := fun j => .int (SMl.getD j 0)) (A := fun q => s.heap.size ≤ q) (by decide) (hF _ (List.mem_of_getElem? (i := 19) (by decide +kernel) : Cond.arrayOf (.static "CupboardPoll$1" SMn "[I") .int ∈ FW)) (va_eqt (hF _ (List.mem_of_getElem? (i := 20) (by decide +kernel) : Cond.eq (.length (.static "CupboardPoll$1" SMn "[I")) (.int (Int32.ofNat 43)) ∈ FW))) (fun j hj => va_eqt (hF _ (st_sm j hj))) hA9
  obtain ⟨kn, hkn, hknT⟩ := va_Tof (tm := .static "CupboardPoll" "KINDS" "[LCupboardPoll$Kind;") (ty := .object "CupboardPoll$Kind") (N := 43) (f := fun j => .ref (ad j)) (A := fun q => s.heap.size ≤ q) (by decide) (hF _ (List.mem_of_getElem? (i := 71) (by decide +kernel) : Cond.arrayOf (.static "CupboardPoll" "KINDS" "[LCupboardPoll$Kind;") (.object "CupboardPoll$Kind") ∈ FW)) (va_eqt (hF _ (List.mem_of_getElem? (i := 72) (by decide +kernel) : Cond.eq (.length (.static "CupboardPoll" "KINDS" "[LCupboardPoll$Kind;")) (.int (Int32.ofNat 43)) ∈ FW))) (fun j hj => st_eqv (hF _ (st_kn j hj)) (hAd j hj)) hA9
  obtain ⟨wd, hwd, hwdT⟩ := va_Tof (tm := .static "CupboardPollLaw" "WORDS" "[Ljava/lang/String;") (ty := .object "java/lang/String") (N := 3) (f := fun j => .ref (adK (WRn j))) (A := fun q => s.heap.size ≤ q) (by decide) (hF _ (List.mem_of_getElem? (i := 441) (by decide +kernel) : Cond.arrayOf (.static "CupboardPollLaw" "WORDS" "[Ljava/lang/String;") (.object "java/lang/String") ∈ FW)) (va_eqt (hF _ (List.mem_of_getElem? (i := 442) (by decide +kernel) : Cond.eq (.length (.static "CupboardPollLaw" "WORDS" "[Ljava/lang/String;")) (.int (Int32.ofNat 3)) ∈ FW))) (fun j hj => st_eqv (hF _ (st_wd j hj)) (hS _ (WRn_lt j hj)).1) hA9
  obtain ⟨sg, hsg, hsgT⟩ := va_Tof (tm := .static "CupboardPollLaw" "SIGNS" "[Ljava/lang/String;") (ty := .object "java/lang/String") (N := 6) (f := fun j => .ref (adK (SGn j))) (A := fun q => s.heap.size ≤ q) (by decide) (hF _ (List.mem_of_getElem? (i := 447) (by decide +kernel) : Cond.arrayOf (.static "CupboardPollLaw" "SIGNS" "[Ljava/lang/String;") (.object "java/lang/String") ∈ FW)) (va_eqt (hF _ (List.mem_of_getElem? (i := 448) (by decide +kernel) : Cond.eq (.length (.static "CupboardPollLaw" "SIGNS" "[Ljava/lang/String;")) (.int (Int32.ofNat 6)) ∈ FW))) (fun j hj => st_eqv (hF _ (st_sg j hj)) (hS _ (SGn_lt j hj)).1) hA9
  obtain ⟨dt, hdt, hdtT⟩ := va_Tof (tm := .static "java/lang/Integer" "DigitTens" "[B") (ty := .byte) (N := 100) (f := fun j => .int (nI (48 + j / 10))) (A := fun q => s.heap.size ≤ q) (by decide) (hF _ (List.mem_of_getElem? (i := 338) (by decide +kernel) : Cond.arrayOf (.static "java/lang/Integer" "DigitTens" "[B") .byte ∈ FW)) (va_eqt (hF _ (List.mem_of_getElem? (i := 339) (by decide +kernel) : Cond.eq (.length (.static "java/lang/Integer" "DigitTens" "[B")) (.int (Int32.ofNat 100)) ∈ FW))) (fun j hj => va_eqt (hF _ (st_dt j hj))) hA9
  obtain ⟨dn, hdn, hdnT⟩ := va_Tof (tm := .static "java/lang/Integer" "DigitOnes" "[B") (ty := .byte) (N := 100) (f := fun j => .int (nI (48 + j % 10))) (A := fun q => s.heap.size ≤ q) (by decide) (hF _ (List.mem_of_getElem? (i := 235) (by decide +kernel) : Cond.arrayOf (.static "java/lang/Integer" "DigitOnes" "[B") .byte ∈ FW)) (va_eqt (hF _ (List.mem_of_getElem? (i := 236) (by decide +kernel) : Cond.eq (.length (.static "java/lang/Integer" "DigitOnes" "[B")) (.int (Int32.ofNat 100)) ∈ FW))) (fun j hj => va_eqt (hF _ (st_do j hj))) hA9
  refine ⟨(l, D.1, D.2, A, s.heap.size, stOld ad adK adV sm kn wd fo fl sg dt dn b, L, xs), rfl, rfl, rfl, rfl, stOld_999 (ad := ad) (adK := adK) (adV := adV) (sm := sm) (kn := kn) (wd := wd) (fo := fo) (fl := fl) (sg := sg) (dt := dt) (dn := dn) (b := b), hK _ _ _ _ _, ?_, Nat.le_refl _, fun w hw => ?_, va_AO.of (hT _ (List.mem_of_getElem? (i := 143) (by decide +kernel) : Cond.arrayOver (.object "CupboardPoll$Jar") ∈ lw_tbl)), va_AO.of (hT _ (List.mem_of_getElem? (i := 114) (by decide +kernel) : Cond.arrayOver (.object "CupboardPoll$Kind") ∈ lw_tbl)), ⟨?_, ?_, ?_, ?_⟩, ?_, ?_, ?_⟩
  · show (!l.flags.contains Jvm.noTraceFlag) = false
    rw [hfl]
    decide
  · have h1 := List.mem_filter.mp hw
    refine va_Nw.of ?_ (st_T hT w h1.1)
    have h2 := h1.2
    cases w <;> first | rfl | (simp only [nestWord] at h2; cases h2; done)
  · exact vx_Zqof (hT _ (List.mem_of_getElem? (i := 426) (by decide +kernel) : Cond.laysStatic Bundle.tN "UNASSIGNED_STACK" Bundle.steD ∈ lw_tbl)) (hT _ (List.mem_of_getElem? (i := 70) (by decide +kernel) : Cond.initialized Bundle.tN ∈ lw_tbl)) (hF _ (List.mem_of_getElem? (i := 10) (by decide +kernel) : Cond.isRef (.static Bundle.tN "UNASSIGNED_STACK" Bundle.steD) ∈ FW)) hA9
  · exact vx_Zqof (hT _ (List.mem_of_getElem? (i := 428) (by decide +kernel) : Cond.laysStatic Bundle.tN "SUPPRESSED_SENTINEL" Bundle.listD ∈ lw_tbl)) (hT _ (List.mem_of_getElem? (i := 70) (by decide +kernel) : Cond.initialized Bundle.tN ∈ lw_tbl)) (hF _ (List.mem_of_getElem? (i := 11) (by decide +kernel) : Cond.isRef (.static Bundle.tN "SUPPRESSED_SENTINEL" Bundle.listD) ∈ FW)) hA9
  · have e : ∀ k, k < KN.length → stOld ad adK adV sm kn wd fo fl sg dt dn b k = ad k := fun k hk => stOld_k hk
    refine ⟨fun i hi => ?_, fun i j hi hj q => ?_⟩
    · show va_Z _ _ _ (.ref (stOld ad adK adV sm kn wd fo fl sg dt dn b i)) _ _ _ ∧ va_O _ (stOld ad adK adV sm kn wd fo fl sg dt dn b i) _ _ _ ∧ ∀ q ∈ KF, va_OF q.1 q.2.1 q.2.2.1 _ (stOld ad adK adV sm kn wd fo fl sg dt dn b i) _ _ _
      rw [e i hi]
      exact hE.1 i hi
    · exact hE.2 i j hi hj ((e i hi).symm.trans (q.trans (e j hj)))
  · show va_X (stOld ad adK adV sm kn wd fo fl sg dt dn b 999) L xs s s.heap ∧ ¬ s.heap.size ≤ stOld ad adK adV sm kn wd fo fl sg dt dn b 999 ∧ stOld ad adK adV sm kn wd fo fl sg dt dn b 999 < s.heap.size
    rw [stOld_999]
    exact ⟨hX, hA9 b hb, hb⟩
  · exact trivial
  · exact trivial
  · refine ⟨⟨?_, ?_⟩, ⟨?_, ?_⟩, ⟨?_, ?_⟩, fun i hi => ?_, fun i hi => ?_, ?_, ?_, ⟨?_, ?_⟩, ⟨?_, ?_⟩, ⟨?_, ?_⟩, fun i hi => ?_, ?_, ?_, ?_, ?_, ?_⟩
    · show va_Z _ _ _ (.ref (stOld ad adK adV sm kn wd fo fl sg dt dn b 900)) _ _ _
      rw [stOld_900]
      exact va_Zof (hT _ (List.mem_of_getElem? (i := 599) (by decide +kernel) : Cond.laysStatic "CupboardPoll$1" SMn "[I" ∈ lw_tbl)) (hT _ (List.mem_of_getElem? (i := 76) (by decide +kernel) : Cond.initialized "CupboardPoll$1" ∈ lw_tbl)) hsm hA9
    · show va_T _ (stOld ad adK adV sm kn wd fo fl sg dt dn b 900) _ _ _ _ _
      rw [stOld_900]
      exact hsmT
    · show va_Z _ _ _ (.ref (stOld ad adK adV sm kn wd fo fl sg dt dn b 901)) _ _ _
      rw [stOld_901]
      exact va_Zof (hT _ (List.mem_of_getElem? (i := 979) (by decide +kernel) : Cond.laysStatic "CupboardPoll" "KINDS" "[LCupboardPoll$Kind;" ∈ lw_tbl)) (hT _ (List.mem_of_getElem? (i := 41) (by decide +kernel) : Cond.initialized "CupboardPoll" ∈ lw_tbl)) hkn hA9
    · show va_T _ (stOld ad adK adV sm kn wd fo fl sg dt dn b 901) 43 (fun j => .ref (stOld ad adK adV sm kn wd fo fl sg dt dn b j)) _ _ _
      rw [stOld_901]
      obtain ⟨cell, h1, h2, h3, h4, h5, h6, h7⟩ := hknT
      exact ⟨cell, h1, h2, h3, h4, h5, fun j hj => by show cell.slots[j]? = some (Value.ref (stOld ad adK adV sm kn wd fo fl sg dt dn b j)); rw [stOld_k hj]; exact h6 j hj, h7⟩
    · show va_Z _ _ _ (.ref (stOld ad adK adV sm kn wd fo fl sg dt dn b 902)) _ _ _
      rw [stOld_902]
      exact va_Zof (hT _ (List.mem_of_getElem? (i := 1636) (by decide +kernel) : Cond.laysStatic "CupboardPollLaw" "WORDS" "[Ljava/lang/String;" ∈ lw_tbl)) (hT _ (List.mem_of_getElem? (i := 40) (by decide +kernel) : Cond.initialized "CupboardPollLaw" ∈ lw_tbl)) hwd hA9
    · show va_T _ (stOld ad adK adV sm kn wd fo fl sg dt dn b 902) 3 (fun j => .ref (stOld ad adK adV sm kn wd fo fl sg dt dn b (100 + WRn j))) _ _ _
      rw [stOld_902]
      obtain ⟨cell, h1, h2, h3, h4, h5, h6, h7⟩ := hwdT
      exact ⟨cell, h1, h2, h3, h4, h5, fun j hj => by show cell.slots[j]? = some (Value.ref (stOld ad adK adV sm kn wd fo fl sg dt dn b (100 + WRn j))); rw [stOld_s (WRn_lt j hj)]; exact h6 j hj, h7⟩
    · show va_OF _ _ _ (.ref (stOld ad adK adV sm kn wd fo fl sg dt dn b (100 + TXl i))) (stOld ad adK adV sm kn wd fo fl sg dt dn b i) _ _ _
      rw [stOld_s (Nat.lt_trans TXl_lt (by decide)), stOld_k hi]
      exact vk_OFof (hAd i hi) (st_eqv (hF _ (st_tx i hi)) (hS _ (Nat.lt_trans TXl_lt (by decide))).1) hA9
    · show va_O _ (stOld ad adK adV sm kn wd fo fl sg dt dn b (100 + i)) _ _ _ ∧ va_OF _ _ _ _ (stOld ad adK adV sm kn wd fo fl sg dt dn b (100 + i)) _ _ _ ∧ va_OF _ _ _ (.ref (stOld ad adK adV sm kn wd fo fl sg dt dn b (200 + i))) (stOld ad adK adV sm kn wd fo fl sg dt dn b (100 + i)) _ _ _ ∧ va_T _ (stOld ad adK adV sm kn wd fo fl sg dt dn b (200 + i)) _ _ _ _ _
      rw [stOld_s hi, stOld_v hi]
      exact (hS i hi).2
    · exact va_Zof (hT _ (List.mem_of_getElem? (i := 867) (by decide +kernel) : Cond.laysStatic "java/lang/String" "COMPACT_STRINGS" "Z" ∈ lw_tbl)) (hT _ (List.mem_of_getElem? (i := 55) (by decide +kernel) : Cond.initialized "java/lang/String" ∈ lw_tbl)) (va_eqt (hF _ (List.mem_of_getElem? (i := 64) (by decide +kernel) : Cond.eq (.static "java/lang/String" "COMPACT_STRINGS" "Z") (.int 1) ∈ FW))) hA9
    · show va_Z _ _ _ (if stOld ad adK adV sm kn wd fo fl sg dt dn b 904 = 0 then .null else .ref (stOld ad adK adV sm kn wd fo fl sg dt dn b 903)) _ _ _
      rw [stOld_903, stOld_904]
      exact hfo
    · show va_Z _ _ _ (.ref (stOld ad adK adV sm kn wd fo fl sg dt dn b 905)) _ _ _
      rw [stOld_905]
      exact va_Zof (hT _ (List.mem_of_getElem? (i := 1651) (by decide +kernel) : Cond.laysStatic "CupboardPollLaw" "SIGNS" "[Ljava/lang/String;" ∈ lw_tbl)) (hT _ (List.mem_of_getElem? (i := 40) (by decide +kernel) : Cond.initialized "CupboardPollLaw" ∈ lw_tbl)) hsg hA9
    · show va_T _ (stOld ad adK adV sm kn wd fo fl sg dt dn b 905) 6 (fun j => .ref (stOld ad adK adV sm kn wd fo fl sg dt dn b (100 + SGn j))) _ _ _
      rw [stOld_905]
      obtain ⟨cell, h1, h2, h3, h4, h5, h6, h7⟩ := hsgT
      exact ⟨cell, h1, h2, h3, h4, h5, fun j hj => by show cell.slots[j]? = some (Value.ref (stOld ad adK adV sm kn wd fo fl sg dt dn b (100 + SGn j))); rw [stOld_s (SGn_lt j hj)]; exact h6 j hj, h7⟩
    · show va_Z _ _ _ (.ref (stOld ad adK adV sm kn wd fo fl sg dt dn b 906)) _ _ _
      rw [stOld_906]
      exact va_Zof (hT _ (List.mem_of_getElem? (i := 1515) (by decide +kernel) : Cond.laysStatic "java/lang/Integer" "DigitTens" "[B" ∈ lw_tbl)) (hT _ (List.mem_of_getElem? (i := 65) (by decide +kernel) : Cond.initialized "java/lang/Integer" ∈ lw_tbl)) hdt hA9
    · show va_T _ (stOld ad adK adV sm kn wd fo fl sg dt dn b 906) _ _ _ _ _
      rw [stOld_906]
      exact hdtT
    · show va_Z _ _ _ (.ref (stOld ad adK adV sm kn wd fo fl sg dt dn b 907)) _ _ _
      rw [stOld_907]
      exact va_Zof (hT _ (List.mem_of_getElem? (i := 1513) (by decide +kernel) : Cond.laysStatic "java/lang/Integer" "DigitOnes" "[B" ∈ lw_tbl)) (hT _ (List.mem_of_getElem? (i := 65) (by decide +kernel) : Cond.initialized "java/lang/Integer" ∈ lw_tbl)) hdn hA9
    · show va_T _ (stOld ad adK adV sm kn wd fo fl sg dt dn b 907) _ _ _ _ _
      rw [stOld_907]
      exact hdnT
    · have h1 := (hS (40 + i) (by have : i < 48 := hi; omega)).1
      rw [TCo_l, TCk_l] at h1
      show vk_R _ _ _ (stOld ad adK adV sm kn wd fo fl sg dt dn b (140 + i)) s
      rw [show 140 + i = 100 + (40 + i) by omega, stOld_s (by have : i < 48 := hi; omega)]
      exact vk_R.of (hT _ (st_sr i hi)) h1
    · exact va_AO.of (hT _ (List.mem_of_getElem? (i := 1245) (by decide +kernel) : Cond.arrayOver (.object "CupboardPollLaw$Jar") ∈ lw_tbl))
    · exact va_AO.of (hT _ (List.mem_of_getElem? (i := 1247) (by decide +kernel) : Cond.arrayOver (.object "CupboardPollLaw$Lid") ∈ lw_tbl))
    · exact va_AO.of (hT _ (List.mem_of_getElem? (i := 1552) (by decide +kernel) : Cond.arrayOver (.object "CupboardPollLaw$Rule") ∈ lw_tbl))
    · exact va_AO.of (hT _ (List.mem_of_getElem? (i := 1590) (by decide +kernel) : Cond.arrayOver (.object "CupboardPollLaw$Act") ∈ lw_tbl))
    · exact va_AO.of (hT _ (List.mem_of_getElem? (i := 1474) (by decide +kernel) : Cond.arrayOver (.object "java/lang/String") ∈ lw_tbl))

