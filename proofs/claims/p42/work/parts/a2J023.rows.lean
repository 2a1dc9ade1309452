theorem dJ6_stringSize_0f7a4_0 : decode cJ6_stringSize_0f7a4 0 = .ok (.iconst 1, 1) := by decide +kernel
theorem dJ6_stringSize_0f7a4_1 : decode cJ6_stringSize_0f7a4 1 = .ok (.istore_n 1, 1) := by decide +kernel
theorem dJ6_stringSize_0f7a4_2 : decode cJ6_stringSize_0f7a4 2 = .ok (.iload_n 0, 1) := by decide +kernel
theorem dJ6_stringSize_0f7a4_3 : decode cJ6_stringSize_0f7a4 3 = .ok (.ifCond .lt 8, 3) := by decide +kernel
theorem dJ6_stringSize_0f7a4_6 : decode cJ6_stringSize_0f7a4 6 = .ok (.iconst 0, 1) := by decide +kernel
theorem dJ6_stringSize_0f7a4_7 : decode cJ6_stringSize_0f7a4 7 = .ok (.istore_n 1, 1) := by decide +kernel
theorem dJ6_stringSize_0f7a4_8 : decode cJ6_stringSize_0f7a4 8 = .ok (.iload_n 0, 1) := by decide +kernel
theorem dJ6_stringSize_0f7a4_9 : decode cJ6_stringSize_0f7a4 9 = .ok (.ineg, 1) := by decide +kernel
theorem dJ6_stringSize_0f7a4_10 : decode cJ6_stringSize_0f7a4 10 = .ok (.istore_n 0, 1) := by decide +kernel
theorem dJ6_stringSize_0f7a4_11 : decode cJ6_stringSize_0f7a4 11 = .ok (.bipush (-10), 2) := by decide +kernel
theorem dJ6_stringSize_0f7a4_13 : decode cJ6_stringSize_0f7a4 13 = .ok (.istore_n 2, 1) := by decide +kernel
theorem dJ6_stringSize_0f7a4_14 : decode cJ6_stringSize_0f7a4 14 = .ok (.iconst 1, 1) := by decide +kernel
theorem dJ6_stringSize_0f7a4_15 : decode cJ6_stringSize_0f7a4 15 = .ok (.istore_n 3, 1) := by decide +kernel
theorem dJ6_stringSize_0f7a4_16 : decode cJ6_stringSize_0f7a4 16 = .ok (.iload_n 3, 1) := by decide +kernel
theorem dJ6_stringSize_0f7a4_17 : decode cJ6_stringSize_0f7a4 17 = .ok (.bipush 10, 2) := by decide +kernel
theorem dJ6_stringSize_0f7a4_19 : decode cJ6_stringSize_0f7a4 19 = .ok (.if_icmp .ge 23, 3) := by decide +kernel
theorem dJ6_stringSize_0f7a4_22 : decode cJ6_stringSize_0f7a4 22 = .ok (.iload_n 0, 1) := by decide +kernel
theorem dJ6_stringSize_0f7a4_23 : decode cJ6_stringSize_0f7a4 23 = .ok (.iload_n 2, 1) := by decide +kernel
theorem dJ6_stringSize_0f7a4_24 : decode cJ6_stringSize_0f7a4 24 = .ok (.if_icmp .le 7, 3) := by decide +kernel
theorem dJ6_stringSize_0f7a4_27 : decode cJ6_stringSize_0f7a4 27 = .ok (.iload_n 3, 1) := by decide +kernel
theorem dJ6_stringSize_0f7a4_28 : decode cJ6_stringSize_0f7a4 28 = .ok (.iload_n 1, 1) := by decide +kernel
theorem dJ6_stringSize_0f7a4_29 : decode cJ6_stringSize_0f7a4 29 = .ok (.iadd, 1) := by decide +kernel
theorem dJ6_stringSize_0f7a4_30 : decode cJ6_stringSize_0f7a4 30 = .ok (.ireturn, 1) := by decide +kernel
theorem dJ6_stringSize_0f7a4_31 : decode cJ6_stringSize_0f7a4 31 = .ok (.bipush 10, 2) := by decide +kernel
theorem dJ6_stringSize_0f7a4_33 : decode cJ6_stringSize_0f7a4 33 = .ok (.iload_n 2, 1) := by decide +kernel
theorem dJ6_stringSize_0f7a4_34 : decode cJ6_stringSize_0f7a4 34 = .ok (.imul, 1) := by decide +kernel
theorem dJ6_stringSize_0f7a4_35 : decode cJ6_stringSize_0f7a4 35 = .ok (.istore_n 2, 1) := by decide +kernel
theorem dJ6_stringSize_0f7a4_36 : decode cJ6_stringSize_0f7a4 36 = .ok (.iinc 3 1, 3) := by decide +kernel
theorem dJ6_stringSize_0f7a4_39 : decode cJ6_stringSize_0f7a4 39 = .ok (.goto (-23), 3) := by decide +kernel
theorem dJ6_stringSize_0f7a4_42 : decode cJ6_stringSize_0f7a4 42 = .ok (.bipush 10, 2) := by decide +kernel
theorem dJ6_stringSize_0f7a4_44 : decode cJ6_stringSize_0f7a4 44 = .ok (.iload_n 1, 1) := by decide +kernel
theorem dJ6_stringSize_0f7a4_45 : decode cJ6_stringSize_0f7a4 45 = .ok (.iadd, 1) := by decide +kernel
theorem dJ6_stringSize_0f7a4_46 : decode cJ6_stringSize_0f7a4 46 = .ok (.ireturn, 1) := by decide +kernel
section T
variable {G : GT} {d : Nat} {S : List Value} {h : AH} {P : OC → AH → Prop} {x0 x1 x2 x3 x4 x5 x6 x7 x8 x9 x10 x11 x12 x13 x14 x15 x16 x17 x18 x19 : Option Value}
theorem tJ6_stringSize_0f7a4_0 (r : RQ G mJ6_stringSize_0f7a4 d 1 [x0, x1, x2, x3] (.int (nI 1) :: S) (h) P) : RQ G mJ6_stringSize_0f7a4 d 0 [x0, x1, x2, x3] (S) h P := q_iconst (M := mJ6_stringSize_0f7a4) (pc := 0) dJ6_stringSize_0f7a4_0 (by decide) r
theorem tJ6_stringSize_0f7a4_1 {v : Int32} (ho : ok1 x0 = true := by rfl) (r : RQ G mJ6_stringSize_0f7a4 d 2 [x0, some (.int v), x2, x3] (S) (h) P) : RQ G mJ6_stringSize_0f7a4 d 1 [x0, x1, x2, x3] (.int v :: S) h P := q_istore_n (M := mJ6_stringSize_0f7a4) (pc := 1) dJ6_stringSize_0f7a4_1 rfl (Nat.le_of_ble_eq_true rfl) ho r
theorem tJ6_stringSize_0f7a4_2 {v : Int32} (r : RQ G mJ6_stringSize_0f7a4 d 3 [some (.int v), x1, x2, x3] (.int v :: S) (h) P) : RQ G mJ6_stringSize_0f7a4 d 2 [some (.int v), x1, x2, x3] (S) h P := q_iload_n (M := mJ6_stringSize_0f7a4) (pc := 2) dJ6_stringSize_0f7a4_2 rfl rfl r
theorem tJ6_stringSize_0f7a4_3 {x : Int32} (kt : x < 0 → RQ G mJ6_stringSize_0f7a4 d 11 [x0, x1, x2, x3] S h P) (kf : ¬ x < 0 → RQ G mJ6_stringSize_0f7a4 d 6 [x0, x1, x2, x3] S h P) : RQ G mJ6_stringSize_0f7a4 d 3 [x0, x1, x2, x3] (.int x :: S) h P := q_if_lt (M := mJ6_stringSize_0f7a4) (pc := 3) dJ6_stringSize_0f7a4_3 (by decide) kt kf
theorem tJ6_stringSize_0f7a4_6 (r : RQ G mJ6_stringSize_0f7a4 d 7 [x0, x1, x2, x3] (.int (nI 0) :: S) (h) P) : RQ G mJ6_stringSize_0f7a4 d 6 [x0, x1, x2, x3] (S) h P := q_iconst (M := mJ6_stringSize_0f7a4) (pc := 6) dJ6_stringSize_0f7a4_6 (by decide) r
theorem tJ6_stringSize_0f7a4_7 {v : Int32} (ho : ok1 x0 = true := by rfl) (r : RQ G mJ6_stringSize_0f7a4 d 8 [x0, some (.int v), x2, x3] (S) (h) P) : RQ G mJ6_stringSize_0f7a4 d 7 [x0, x1, x2, x3] (.int v :: S) h P := q_istore_n (M := mJ6_stringSize_0f7a4) (pc := 7) dJ6_stringSize_0f7a4_7 rfl (Nat.le_of_ble_eq_true rfl) ho r
theorem tJ6_stringSize_0f7a4_8 {v : Int32} (r : RQ G mJ6_stringSize_0f7a4 d 9 [some (.int v), x1, x2, x3] (.int v :: S) (h) P) : RQ G mJ6_stringSize_0f7a4 d 8 [some (.int v), x1, x2, x3] (S) h P := q_iload_n (M := mJ6_stringSize_0f7a4) (pc := 8) dJ6_stringSize_0f7a4_8 rfl rfl r
theorem tJ6_stringSize_0f7a4_9 {x : Int32} (r : RQ G mJ6_stringSize_0f7a4 d 10 [x0, x1, x2, x3] (.int (-x) :: S) (h) P) : RQ G mJ6_stringSize_0f7a4 d 9 [x0, x1, x2, x3] (.int x :: S) h P := qq_ineg (M := mJ6_stringSize_0f7a4) (pc := 9) dJ6_stringSize_0f7a4_9 r
theorem tJ6_stringSize_0f7a4_10 {v : Int32} (r : RQ G mJ6_stringSize_0f7a4 d 11 [some (.int v), x1, x2, x3] (S) (h) P) : RQ G mJ6_stringSize_0f7a4 d 10 [x0, x1, x2, x3] (.int v :: S) h P := q_istore_n (M := mJ6_stringSize_0f7a4) (pc := 10) dJ6_stringSize_0f7a4_10 rfl (Nat.le_of_ble_eq_true rfl) rfl r
theorem tJ6_stringSize_0f7a4_11 (r : RQ G mJ6_stringSize_0f7a4 d 13 [x0, x1, x2, x3] (.int (-10) :: S) (h) P) : RQ G mJ6_stringSize_0f7a4 d 11 [x0, x1, x2, x3] (S) h P := q_bipush (M := mJ6_stringSize_0f7a4) (pc := 11) dJ6_stringSize_0f7a4_11 (by decide) r
theorem tJ6_stringSize_0f7a4_13 {v : Int32} (ho : ok1 x1 = true := by rfl) (r : RQ G mJ6_stringSize_0f7a4 d 14 [x0, x1, some (.int v), x3] (S) (h) P) : RQ G mJ6_stringSize_0f7a4 d 13 [x0, x1, x2, x3] (.int v :: S) h P := q_istore_n (M := mJ6_stringSize_0f7a4) (pc := 13) dJ6_stringSize_0f7a4_13 rfl (Nat.le_of_ble_eq_true rfl) ho r
theorem tJ6_stringSize_0f7a4_14 (r : RQ G mJ6_stringSize_0f7a4 d 15 [x0, x1, x2, x3] (.int (nI 1) :: S) (h) P) : RQ G mJ6_stringSize_0f7a4 d 14 [x0, x1, x2, x3] (S) h P := q_iconst (M := mJ6_stringSize_0f7a4) (pc := 14) dJ6_stringSize_0f7a4_14 (by decide) r
theorem tJ6_stringSize_0f7a4_15 {v : Int32} (ho : ok1 x2 = true := by rfl) (r : RQ G mJ6_stringSize_0f7a4 d 16 [x0, x1, x2, some (.int v)] (S) (h) P) : RQ G mJ6_stringSize_0f7a4 d 15 [x0, x1, x2, x3] (.int v :: S) h P := q_istore_n (M := mJ6_stringSize_0f7a4) (pc := 15) dJ6_stringSize_0f7a4_15 rfl (Nat.le_of_ble_eq_true rfl) ho r
theorem tJ6_stringSize_0f7a4_16 {v : Int32} (r : RQ G mJ6_stringSize_0f7a4 d 17 [x0, x1, x2, some (.int v)] (.int v :: S) (h) P) : RQ G mJ6_stringSize_0f7a4 d 16 [x0, x1, x2, some (.int v)] (S) h P := q_iload_n (M := mJ6_stringSize_0f7a4) (pc := 16) dJ6_stringSize_0f7a4_16 rfl rfl r
theorem tJ6_stringSize_0f7a4_17 (r : RQ G mJ6_stringSize_0f7a4 d 19 [x0, x1, x2, x3] (.int (nI 10) :: S) (h) P) : RQ G mJ6_stringSize_0f7a4 d 17 [x0, x1, x2, x3] (S) h P := q_bipush (M := mJ6_stringSize_0f7a4) (pc := 17) dJ6_stringSize_0f7a4_17 (by decide) r
theorem tJ6_stringSize_0f7a4_19 {x y : Int32} (kt : y ≤ x → RQ G mJ6_stringSize_0f7a4 d 42 [x0, x1, x2, x3] S h P) (kf : ¬ y ≤ x → RQ G mJ6_stringSize_0f7a4 d 22 [x0, x1, x2, x3] S h P) : RQ G mJ6_stringSize_0f7a4 d 19 [x0, x1, x2, x3] (.int y :: .int x :: S) h P := q_icmp_ge (M := mJ6_stringSize_0f7a4) (pc := 19) dJ6_stringSize_0f7a4_19 (by decide) kt kf
theorem tJ6_stringSize_0f7a4_22 {v : Int32} (r : RQ G mJ6_stringSize_0f7a4 d 23 [some (.int v), x1, x2, x3] (.int v :: S) (h) P) : RQ G mJ6_stringSize_0f7a4 d 22 [some (.int v), x1, x2, x3] (S) h P := q_iload_n (M := mJ6_stringSize_0f7a4) (pc := 22) dJ6_stringSize_0f7a4_22 rfl rfl r
theorem tJ6_stringSize_0f7a4_23 {v : Int32} (r : RQ G mJ6_stringSize_0f7a4 d 24 [x0, x1, some (.int v), x3] (.int v :: S) (h) P) : RQ G mJ6_stringSize_0f7a4 d 23 [x0, x1, some (.int v), x3] (S) h P := q_iload_n (M := mJ6_stringSize_0f7a4) (pc := 23) dJ6_stringSize_0f7a4_23 rfl rfl r
theorem tJ6_stringSize_0f7a4_24 {x y : Int32} (kt : x ≤ y → RQ G mJ6_stringSize_0f7a4 d 31 [x0, x1, x2, x3] S h P) (kf : ¬ x ≤ y → RQ G mJ6_stringSize_0f7a4 d 27 [x0, x1, x2, x3] S h P) : RQ G mJ6_stringSize_0f7a4 d 24 [x0, x1, x2, x3] (.int y :: .int x :: S) h P := q_icmp_le (M := mJ6_stringSize_0f7a4) (pc := 24) dJ6_stringSize_0f7a4_24 (by decide) kt kf
theorem tJ6_stringSize_0f7a4_27 {v : Int32} (r : RQ G mJ6_stringSize_0f7a4 d 28 [x0, x1, x2, some (.int v)] (.int v :: S) (h) P) : RQ G mJ6_stringSize_0f7a4 d 27 [x0, x1, x2, some (.int v)] (S) h P := q_iload_n (M := mJ6_stringSize_0f7a4) (pc := 27) dJ6_stringSize_0f7a4_27 rfl rfl r
theorem tJ6_stringSize_0f7a4_28 {v : Int32} (r : RQ G mJ6_stringSize_0f7a4 d 29 [x0, some (.int v), x2, x3] (.int v :: S) (h) P) : RQ G mJ6_stringSize_0f7a4 d 28 [x0, some (.int v), x2, x3] (S) h P := q_iload_n (M := mJ6_stringSize_0f7a4) (pc := 28) dJ6_stringSize_0f7a4_28 rfl rfl r
theorem tJ6_stringSize_0f7a4_29 {x y : Int32} (r : RQ G mJ6_stringSize_0f7a4 d 30 [x0, x1, x2, x3] (.int (x + y) :: S) (h) P) : RQ G mJ6_stringSize_0f7a4 d 29 [x0, x1, x2, x3] (.int y :: .int x :: S) h P := q_iadd (M := mJ6_stringSize_0f7a4) (pc := 29) dJ6_stringSize_0f7a4_29 r
theorem tJ6_stringSize_0f7a4_30 {x : Int32} (hP : P (.inl (some (.int x))) h) : RQ G mJ6_stringSize_0f7a4 d 30 [x0, x1, x2, x3] ([.int x]) h P := q_ireturn (M := mJ6_stringSize_0f7a4) (pc := 30) (ty := .int) dJ6_stringSize_0f7a4_30 rfl rfl hP
theorem tJ6_stringSize_0f7a4_31 (r : RQ G mJ6_stringSize_0f7a4 d 33 [x0, x1, x2, x3] (.int (nI 10) :: S) (h) P) : RQ G mJ6_stringSize_0f7a4 d 31 [x0, x1, x2, x3] (S) h P := q_bipush (M := mJ6_stringSize_0f7a4) (pc := 31) dJ6_stringSize_0f7a4_31 (by decide) r
theorem tJ6_stringSize_0f7a4_33 {v : Int32} (r : RQ G mJ6_stringSize_0f7a4 d 34 [x0, x1, some (.int v), x3] (.int v :: S) (h) P) : RQ G mJ6_stringSize_0f7a4 d 33 [x0, x1, some (.int v), x3] (S) h P := q_iload_n (M := mJ6_stringSize_0f7a4) (pc := 33) dJ6_stringSize_0f7a4_33 rfl rfl r
theorem tJ6_stringSize_0f7a4_34 {x y : Int32} (r : RQ G mJ6_stringSize_0f7a4 d 35 [x0, x1, x2, x3] (.int (x * y) :: S) (h) P) : RQ G mJ6_stringSize_0f7a4 d 34 [x0, x1, x2, x3] (.int y :: .int x :: S) h P := q_imul (M := mJ6_stringSize_0f7a4) (pc := 34) dJ6_stringSize_0f7a4_34 r
theorem tJ6_stringSize_0f7a4_35 {v : Int32} (ho : ok1 x1 = true := by rfl) (r : RQ G mJ6_stringSize_0f7a4 d 36 [x0, x1, some (.int v), x3] (S) (h) P) : RQ G mJ6_stringSize_0f7a4 d 35 [x0, x1, x2, x3] (.int v :: S) h P := q_istore_n (M := mJ6_stringSize_0f7a4) (pc := 35) dJ6_stringSize_0f7a4_35 rfl (Nat.le_of_ble_eq_true rfl) ho r
theorem tJ6_stringSize_0f7a4_36 {v : Int32} (ho : ok1 x2 = true := by rfl) (r : RQ G mJ6_stringSize_0f7a4 d 39 [x0, x1, x2, some (.int (v + (nI 1)))] (S) (h) P) : RQ G mJ6_stringSize_0f7a4 d 36 [x0, x1, x2, some (.int v)] (S) h P := q_iinc (M := mJ6_stringSize_0f7a4) (pc := 36) dJ6_stringSize_0f7a4_36 rfl (congrArg (v + ·) (show Int32.ofInt (1) = (nI 1) by decide)) (Nat.le_of_ble_eq_true rfl) ho r
theorem tJ6_stringSize_0f7a4_39 (r : RQ G mJ6_stringSize_0f7a4 d 16 [x0, x1, x2, x3] S h P) : RQ G mJ6_stringSize_0f7a4 d 39 [x0, x1, x2, x3] (S) h P := q_goto (M := mJ6_stringSize_0f7a4) (pc := 39) dJ6_stringSize_0f7a4_39 (by decide) r
theorem tJ6_stringSize_0f7a4_42 (r : RQ G mJ6_stringSize_0f7a4 d 44 [x0, x1, x2, x3] (.int (nI 10) :: S) (h) P) : RQ G mJ6_stringSize_0f7a4 d 42 [x0, x1, x2, x3] (S) h P := q_bipush (M := mJ6_stringSize_0f7a4) (pc := 42) dJ6_stringSize_0f7a4_42 (by decide) r
theorem tJ6_stringSize_0f7a4_44 {v : Int32} (r : RQ G mJ6_stringSize_0f7a4 d 45 [x0, some (.int v), x2, x3] (.int v :: S) (h) P) : RQ G mJ6_stringSize_0f7a4 d 44 [x0, some (.int v), x2, x3] (S) h P := q_iload_n (M := mJ6_stringSize_0f7a4) (pc := 44) dJ6_stringSize_0f7a4_44 rfl rfl r
theorem tJ6_stringSize_0f7a4_45 {x y : Int32} (r : RQ G mJ6_stringSize_0f7a4 d 46 [x0, x1, x2, x3] (.int (x + y) :: S) (h) P) : RQ G mJ6_stringSize_0f7a4 d 45 [x0, x1, x2, x3] (.int y :: .int x :: S) h P := q_iadd (M := mJ6_stringSize_0f7a4) (pc := 45) dJ6_stringSize_0f7a4_45 r
theorem tJ6_stringSize_0f7a4_46 {x : Int32} (hP : P (.inl (some (.int x))) h) : RQ G mJ6_stringSize_0f7a4 d 46 [x0, x1, x2, x3] ([.int x]) h P := q_ireturn (M := mJ6_stringSize_0f7a4) (pc := 46) (ty := .int) dJ6_stringSize_0f7a4_46 rfl rfl hP
end T
