theorem dJ8_newLength_cabcc_0 : decode cJ8_newLength_cabcc 0 = .ok (.iload_n 0, 1) := by decide +kernel
theorem dJ8_newLength_cabcc_1 : decode cJ8_newLength_cabcc 1 = .ok (.iload_n 1, 1) := by decide +kernel
theorem dJ8_newLength_cabcc_2 : decode cJ8_newLength_cabcc 2 = .ok (.iload_n 2, 1) := by decide +kernel
theorem dJ8_newLength_cabcc_3 : decode cJ8_newLength_cabcc 3 = .ok (.invokestatic 194, 3) := by decide +kernel
theorem dJ8_newLength_cabcc_6 : decode cJ8_newLength_cabcc 6 = .ok (.iadd, 1) := by decide +kernel
theorem dJ8_newLength_cabcc_7 : decode cJ8_newLength_cabcc 7 = .ok (.istore_n 3, 1) := by decide +kernel
theorem dJ8_newLength_cabcc_8 : decode cJ8_newLength_cabcc 8 = .ok (.iconst 0, 1) := by decide +kernel
theorem dJ8_newLength_cabcc_9 : decode cJ8_newLength_cabcc 9 = .ok (.iload_n 3, 1) := by decide +kernel
theorem dJ8_newLength_cabcc_10 : decode cJ8_newLength_cabcc 10 = .ok (.if_icmp .ge 11, 3) := by decide +kernel
theorem dJ8_newLength_cabcc_13 : decode cJ8_newLength_cabcc 13 = .ok (.iload_n 3, 1) := by decide +kernel
theorem dJ8_newLength_cabcc_14 : decode cJ8_newLength_cabcc 14 = .ok (.ldc 200, 2) := by decide +kernel
theorem dJ8_newLength_cabcc_16 : decode cJ8_newLength_cabcc 16 = .ok (.if_icmp .gt 5, 3) := by decide +kernel
theorem dJ8_newLength_cabcc_19 : decode cJ8_newLength_cabcc 19 = .ok (.iload_n 3, 1) := by decide +kernel
theorem dJ8_newLength_cabcc_20 : decode cJ8_newLength_cabcc 20 = .ok (.ireturn, 1) := by decide +kernel
theorem dJ8_newLength_cabcc_21 : decode cJ8_newLength_cabcc 21 = .ok (.iload_n 0, 1) := by decide +kernel
theorem dJ8_newLength_cabcc_22 : decode cJ8_newLength_cabcc 22 = .ok (.iload_n 1, 1) := by decide +kernel
theorem dJ8_newLength_cabcc_23 : decode cJ8_newLength_cabcc 23 = .ok (.invokestatic 201, 3) := by decide +kernel
theorem dJ8_newLength_cabcc_26 : decode cJ8_newLength_cabcc 26 = .ok (.ireturn, 1) := by decide +kernel
section T
variable {G : GT} {d : Nat} {S : List Value} {h : AH} {P : OC → AH → Prop} {x0 x1 x2 x3 x4 x5 x6 x7 x8 x9 x10 x11 x12 x13 x14 x15 x16 x17 x18 x19 : Option Value}
theorem tJ8_newLength_cabcc_0 {v : Int32} (r : RQ G mJ8_newLength_cabcc d 1 [some (.int v), x1, x2, x3] (.int v :: S) (h) P) : RQ G mJ8_newLength_cabcc d 0 [some (.int v), x1, x2, x3] (S) h P := q_iload_n (M := mJ8_newLength_cabcc) (pc := 0) dJ8_newLength_cabcc_0 rfl rfl r
theorem tJ8_newLength_cabcc_1 {v : Int32} (r : RQ G mJ8_newLength_cabcc d 2 [x0, some (.int v), x2, x3] (.int v :: S) (h) P) : RQ G mJ8_newLength_cabcc d 1 [x0, some (.int v), x2, x3] (S) h P := q_iload_n (M := mJ8_newLength_cabcc) (pc := 1) dJ8_newLength_cabcc_1 rfl rfl r
theorem tJ8_newLength_cabcc_2 {v : Int32} (r : RQ G mJ8_newLength_cabcc d 3 [x0, x1, some (.int v), x3] (.int v :: S) (h) P) : RQ G mJ8_newLength_cabcc d 2 [x0, x1, some (.int v), x3] (S) h P := q_iload_n (M := mJ8_newLength_cabcc) (pc := 2) dJ8_newLength_cabcc_2 rfl rfl r
theorem tJ8_newLength_cabcc_3 {x y : Int32} (hd : 1 ≤ d) (hst : (S.map fun v => v.category).sum ≤ 8 := by exact Nat.le_of_ble_eq_true rfl) (r : RQ G mJ8_newLength_cabcc d 6 [x0, x1, x2, x3] (.int (if x < y then y else x) :: S) (h) P) : RQ G mJ8_newLength_cabcc d 3 [x0, x1, x2, x3] (.int y :: .int x :: S) h P := q_max (M := mJ8_newLength_cabcc) (pc := 3) dJ8_newLength_cabcc_3 w1292 w619 w59 w620 hd hst r
theorem tJ8_newLength_cabcc_6 {x y : Int32} (r : RQ G mJ8_newLength_cabcc d 7 [x0, x1, x2, x3] (.int (x + y) :: S) (h) P) : RQ G mJ8_newLength_cabcc d 6 [x0, x1, x2, x3] (.int y :: .int x :: S) h P := q_iadd (M := mJ8_newLength_cabcc) (pc := 6) dJ8_newLength_cabcc_6 r
theorem tJ8_newLength_cabcc_7 {v : Int32} (ho : ok1 x2 = true := by rfl) (r : RQ G mJ8_newLength_cabcc d 8 [x0, x1, x2, some (.int v)] (S) (h) P) : RQ G mJ8_newLength_cabcc d 7 [x0, x1, x2, x3] (.int v :: S) h P := q_istore_n (M := mJ8_newLength_cabcc) (pc := 7) dJ8_newLength_cabcc_7 rfl (Nat.le_of_ble_eq_true rfl) ho r
theorem tJ8_newLength_cabcc_8 (r : RQ G mJ8_newLength_cabcc d 9 [x0, x1, x2, x3] (.int (nI 0) :: S) (h) P) : RQ G mJ8_newLength_cabcc d 8 [x0, x1, x2, x3] (S) h P := q_iconst (M := mJ8_newLength_cabcc) (pc := 8) dJ8_newLength_cabcc_8 (by decide) r
theorem tJ8_newLength_cabcc_9 {v : Int32} (r : RQ G mJ8_newLength_cabcc d 10 [x0, x1, x2, some (.int v)] (.int v :: S) (h) P) : RQ G mJ8_newLength_cabcc d 9 [x0, x1, x2, some (.int v)] (S) h P := q_iload_n (M := mJ8_newLength_cabcc) (pc := 9) dJ8_newLength_cabcc_9 rfl rfl r
theorem tJ8_newLength_cabcc_10 {x y : Int32} (kt : y ≤ x → RQ G mJ8_newLength_cabcc d 21 [x0, x1, x2, x3] S h P) (kf : ¬ y ≤ x → RQ G mJ8_newLength_cabcc d 13 [x0, x1, x2, x3] S h P) : RQ G mJ8_newLength_cabcc d 10 [x0, x1, x2, x3] (.int y :: .int x :: S) h P := q_icmp_ge (M := mJ8_newLength_cabcc) (pc := 10) dJ8_newLength_cabcc_10 (by decide) kt kf
theorem tJ8_newLength_cabcc_13 {v : Int32} (r : RQ G mJ8_newLength_cabcc d 14 [x0, x1, x2, some (.int v)] (.int v :: S) (h) P) : RQ G mJ8_newLength_cabcc d 13 [x0, x1, x2, some (.int v)] (S) h P := q_iload_n (M := mJ8_newLength_cabcc) (pc := 13) dJ8_newLength_cabcc_13 rfl rfl r
theorem tJ8_newLength_cabcc_14 (r : RQ G mJ8_newLength_cabcc d 16 [x0, x1, x2, x3] (.int (2147483639 : Int32) :: S) (h) P) : RQ G mJ8_newLength_cabcc d 14 [x0, x1, x2, x3] (S) h P := qq_ldc (M := mJ8_newLength_cabcc) (pc := 14) dJ8_newLength_cabcc_14 w1293 r
theorem tJ8_newLength_cabcc_16 {x y : Int32} (kt : y < x → RQ G mJ8_newLength_cabcc d 21 [x0, x1, x2, x3] S h P) (kf : ¬ y < x → RQ G mJ8_newLength_cabcc d 19 [x0, x1, x2, x3] S h P) : RQ G mJ8_newLength_cabcc d 16 [x0, x1, x2, x3] (.int y :: .int x :: S) h P := q_icmp_gt (M := mJ8_newLength_cabcc) (pc := 16) dJ8_newLength_cabcc_16 (by decide) kt kf
theorem tJ8_newLength_cabcc_19 {v : Int32} (r : RQ G mJ8_newLength_cabcc d 20 [x0, x1, x2, some (.int v)] (.int v :: S) (h) P) : RQ G mJ8_newLength_cabcc d 19 [x0, x1, x2, some (.int v)] (S) h P := q_iload_n (M := mJ8_newLength_cabcc) (pc := 19) dJ8_newLength_cabcc_19 rfl rfl r
theorem tJ8_newLength_cabcc_20 {x : Int32} (hP : P (.inl (some (.int x))) h) : RQ G mJ8_newLength_cabcc d 20 [x0, x1, x2, x3] ([.int x]) h P := q_ireturn (M := mJ8_newLength_cabcc) (pc := 20) (ty := .int) dJ8_newLength_cabcc_20 rfl rfl hP
theorem tJ8_newLength_cabcc_21 {v : Int32} (r : RQ G mJ8_newLength_cabcc d 22 [some (.int v), x1, x2, x3] (.int v :: S) (h) P) : RQ G mJ8_newLength_cabcc d 21 [some (.int v), x1, x2, x3] (S) h P := q_iload_n (M := mJ8_newLength_cabcc) (pc := 21) dJ8_newLength_cabcc_21 rfl rfl r
theorem tJ8_newLength_cabcc_22 {v : Int32} (r : RQ G mJ8_newLength_cabcc d 23 [x0, some (.int v), x2, x3] (.int v :: S) (h) P) : RQ G mJ8_newLength_cabcc d 22 [x0, some (.int v), x2, x3] (S) h P := q_iload_n (M := mJ8_newLength_cabcc) (pc := 22) dJ8_newLength_cabcc_22 rfl rfl r
theorem tJ8_newLength_cabcc_26 {x : Int32} (hP : P (.inl (some (.int x))) h) : RQ G mJ8_newLength_cabcc d 26 [x0, x1, x2, x3] ([.int x]) h P := q_ireturn (M := mJ8_newLength_cabcc) (pc := 26) (ty := .int) dJ8_newLength_cabcc_26 rfl rfl hP
end T
