theorem dX6_atom_0 : decode cX6_atom 0 = .ok (.aload_n 0, 1) := by decide +kernel
theorem dX6_atom_1 : decode cX6_atom 1 = .ok (.getfield 31, 3) := by decide +kernel
theorem dX6_atom_4 : decode cX6_atom 4 = .ok (.astore_n 2, 1) := by decide +kernel
theorem dX6_atom_5 : decode cX6_atom 5 = .ok (.aload_n 2, 1) := by decide +kernel
theorem dX6_atom_6 : decode cX6_atom 6 = .ok (.getstatic 191, 3) := by decide +kernel
theorem dX6_atom_9 : decode cX6_atom 9 = .ok (.if_acmp .ne 33, 3) := by decide +kernel
theorem dX6_atom_12 : decode cX6_atom 12 = .ok (.iload_n 1, 1) := by decide +kernel
theorem dX6_atom_13 : decode cX6_atom 13 = .ok (.bipush 6, 2) := by decide +kernel
theorem dX6_atom_15 : decode cX6_atom 15 = .ok (.if_icmp .ge 27, 3) := by decide +kernel
theorem dX6_atom_18 : decode cX6_atom 18 = .ok (.aload_n 0, 1) := by decide +kernel
theorem dX6_atom_19 : decode cX6_atom 19 = .ok (.getstatic 191, 3) := by decide +kernel
theorem dX6_atom_22 : decode cX6_atom 22 = .ok (.invokevirtual 73, 3) := by decide +kernel
theorem dX6_atom_25 : decode cX6_atom 25 = .ok (.aload_n 0, 1) := by decide +kernel
theorem dX6_atom_26 : decode cX6_atom 26 = .ok (.iload_n 1, 1) := by decide +kernel
theorem dX6_atom_27 : decode cX6_atom 27 = .ok (.iconst 1, 1) := by decide +kernel
theorem dX6_atom_28 : decode cX6_atom 28 = .ok (.iadd, 1) := by decide +kernel
theorem dX6_atom_29 : decode cX6_atom 29 = .ok (.invokevirtual 212, 3) := by decide +kernel
theorem dX6_atom_32 : decode cX6_atom 32 = .ok (.aload_n 0, 1) := by decide +kernel
theorem dX6_atom_33 : decode cX6_atom 33 = .ok (.getstatic 197, 3) := by decide +kernel
theorem dX6_atom_36 : decode cX6_atom 36 = .ok (.invokevirtual 73, 3) := by decide +kernel
theorem dX6_atom_39 : decode cX6_atom 39 = .ok (.goto 102, 3) := by decide +kernel
theorem dX6_atom_42 : decode cX6_atom 42 = .ok (.aload_n 2, 1) := by decide +kernel
theorem dX6_atom_43 : decode cX6_atom 43 = .ok (.getstatic 288, 3) := by decide +kernel
theorem dX6_atom_46 : decode cX6_atom 46 = .ok (.if_acmp .eq 10, 3) := by decide +kernel
theorem dX6_atom_49 : decode cX6_atom 49 = .ok (.aload_n 2, 1) := by decide +kernel
theorem dX6_atom_50 : decode cX6_atom 50 = .ok (.getstatic 108, 3) := by decide +kernel
theorem dX6_atom_53 : decode cX6_atom 53 = .ok (.if_acmp .ne 27, 3) := by decide +kernel
theorem dX6_atom_56 : decode cX6_atom 56 = .ok (.aload_n 0, 1) := by decide +kernel
theorem dX6_atom_57 : decode cX6_atom 57 = .ok (.aload_n 2, 1) := by decide +kernel
theorem dX6_atom_58 : decode cX6_atom 58 = .ok (.invokevirtual 73, 3) := by decide +kernel
theorem dX6_atom_61 : decode cX6_atom 61 = .ok (.aload_n 0, 1) := by decide +kernel
theorem dX6_atom_62 : decode cX6_atom 62 = .ok (.aload_n 2, 1) := by decide +kernel
theorem dX6_atom_63 : decode cX6_atom 63 = .ok (.aload_n 0, 1) := by decide +kernel
theorem dX6_atom_64 : decode cX6_atom 64 = .ok (.invokevirtual 163, 3) := by decide +kernel
theorem dX6_atom_67 : decode cX6_atom 67 = .ok (.invokevirtual 218, 3) := by decide +kernel
theorem dX6_atom_70 : decode cX6_atom 70 = .ok (.aload_n 0, 1) := by decide +kernel
theorem dX6_atom_71 : decode cX6_atom 71 = .ok (.getstatic 99, 3) := by decide +kernel
theorem dX6_atom_74 : decode cX6_atom 74 = .ok (.invokevirtual 73, 3) := by decide +kernel
theorem dX6_atom_77 : decode cX6_atom 77 = .ok (.goto 64, 3) := by decide +kernel
theorem dX6_atom_80 : decode cX6_atom 80 = .ok (.aload_n 2, 1) := by decide +kernel
theorem dX6_atom_81 : decode cX6_atom 81 = .ok (.getstatic 291, 3) := by decide +kernel
theorem dX6_atom_84 : decode cX6_atom 84 = .ok (.if_acmp .eq 17, 3) := by decide +kernel
theorem dX6_atom_87 : decode cX6_atom 87 = .ok (.aload_n 2, 1) := by decide +kernel
theorem dX6_atom_88 : decode cX6_atom 88 = .ok (.getstatic 294, 3) := by decide +kernel
theorem dX6_atom_91 : decode cX6_atom 91 = .ok (.if_acmp .eq 10, 3) := by decide +kernel
theorem dX6_atom_94 : decode cX6_atom 94 = .ok (.aload_n 2, 1) := by decide +kernel
theorem dX6_atom_95 : decode cX6_atom 95 = .ok (.getstatic 297, 3) := by decide +kernel
theorem dX6_atom_98 : decode cX6_atom 98 = .ok (.if_acmp .ne 17, 3) := by decide +kernel
theorem dX6_atom_101 : decode cX6_atom 101 = .ok (.aload_n 0, 1) := by decide +kernel
theorem dX6_atom_102 : decode cX6_atom 102 = .ok (.aload_n 2, 1) := by decide +kernel
theorem dX6_atom_103 : decode cX6_atom 103 = .ok (.iconst 0, 1) := by decide +kernel
theorem dX6_atom_104 : decode cX6_atom 104 = .ok (.invokevirtual 218, 3) := by decide +kernel
theorem dX6_atom_107 : decode cX6_atom 107 = .ok (.aload_n 0, 1) := by decide +kernel
theorem dX6_atom_108 : decode cX6_atom 108 = .ok (.aload_n 2, 1) := by decide +kernel
theorem dX6_atom_109 : decode cX6_atom 109 = .ok (.invokevirtual 73, 3) := by decide +kernel
theorem dX6_atom_112 : decode cX6_atom 112 = .ok (.goto 29, 3) := by decide +kernel
theorem dX6_atom_115 : decode cX6_atom 115 = .ok (.aload_n 0, 1) := by decide +kernel
theorem dX6_atom_116 : decode cX6_atom 116 = .ok (.getstatic 115, 3) := by decide +kernel
theorem dX6_atom_119 : decode cX6_atom 119 = .ok (.aload_n 0, 1) := by decide +kernel
theorem dX6_atom_120 : decode cX6_atom 120 = .ok (.getfield 12, 3) := by decide +kernel
theorem dX6_atom_123 : decode cX6_atom 123 = .ok (.aload_n 0, 1) := by decide +kernel
theorem dX6_atom_124 : decode cX6_atom 124 = .ok (.getfield 48, 3) := by decide +kernel
theorem dX6_atom_127 : decode cX6_atom 127 = .ok (.invokevirtual 91, 3) := by decide +kernel
theorem dX6_atom_130 : decode cX6_atom 130 = .ok (.l2i, 1) := by decide +kernel
theorem dX6_atom_131 : decode cX6_atom 131 = .ok (.invokevirtual 218, 3) := by decide +kernel
theorem dX6_atom_134 : decode cX6_atom 134 = .ok (.aload_n 0, 1) := by decide +kernel
theorem dX6_atom_135 : decode cX6_atom 135 = .ok (.getstatic 115, 3) := by decide +kernel
theorem dX6_atom_138 : decode cX6_atom 138 = .ok (.invokevirtual 73, 3) := by decide +kernel
theorem dX6_atom_141 : decode cX6_atom 141 = .ok (.return_, 1) := by decide +kernel
section T
variable {G : GT} {d : Nat} {S : List Value} {h : AH} {P : OC → AH → Prop} {x0 x1 x2 x3 x4 x5 x6 x7 x8 x9 x10 x11 x12 x13 x14 x15 : Option Value}
theorem tX6_atom_0 {k : Nat} (r : RQ G mX6_atom d 1 [some (.ref k), x1, x2] (.ref k :: S) (h) P) : RQ G mX6_atom d 0 [some (.ref k), x1, x2] (S) h P := q_aload_n (M := mX6_atom) (pc := 0) (r0 := some k) dX6_atom_0 rfl rfl r
theorem tX6_atom_1 {i : Nat} {vs : List Value} {v : Value} (ha : At h i (.inr (4, vs))) (hv : vs[3]? = some v) (r : RQ G mX6_atom d 4 [x0, x1, x2] (v :: S) (h) P) : RQ G mX6_atom d 1 [x0, x1, x2] (.ref i :: S) h P := q_get (M := mX6_atom) (pc := 1) (kf := 3) dX6_atom_1 (show CL[4]? = some (RX6, TX6, 7) from rfl) inA6 (by decide) rfl w321 ha hv r
theorem tX6_atom_4 {k : Nat} (ho : ok1 x1 = true := by rfl) (r : RQ G mX6_atom d 5 [x0, x1, some (.ref k)] (S) (h) P) : RQ G mX6_atom d 4 [x0, x1, x2] (.ref k :: S) h P := q_astore_n (M := mX6_atom) (pc := 4) (r0 := some k) dX6_atom_4 rfl (Nat.le_of_ble_eq_true rfl) ho r
theorem tX6_atom_5 {k : Nat} (r : RQ G mX6_atom d 6 [x0, x1, some (.ref k)] (.ref k :: S) (h) P) : RQ G mX6_atom d 5 [x0, x1, some (.ref k)] (S) h P := q_aload_n (M := mX6_atom) (pc := 5) (r0 := some k) dX6_atom_5 rfl rfl r
theorem tX6_atom_6 (r : RQ G mX6_atom d 9 [x0, x1, x2] (.ref (OLD + 27) :: S) (h) P) : RQ G mX6_atom d 6 [x0, x1, x2] (S) h P := q_getE (M := mX6_atom) (pc := 6) (i := 27) dX6_atom_6 (by decide) w1173 r
theorem tX6_atom_9 {i j : Nat} (hi : i < 43) (hj : j < 43) (kt : ¬ i = j → RQ G mX6_atom d 42 [x0, x1, x2] S h P) (kf : i = j → RQ G mX6_atom d 12 [x0, x1, x2] S h P) : RQ G mX6_atom d 9 [x0, x1, x2] (.ref (OLD + j) :: .ref (OLD + i) :: S) h P := q_acmp_ne (M := mX6_atom) (pc := 9) dX6_atom_9 (by decide) hi hj kt kf
theorem tX6_atom_12 {v : Int32} (r : RQ G mX6_atom d 13 [x0, some (.int v), x2] (.int v :: S) (h) P) : RQ G mX6_atom d 12 [x0, some (.int v), x2] (S) h P := q_iload_n (M := mX6_atom) (pc := 12) dX6_atom_12 rfl rfl r
theorem tX6_atom_13 (r : RQ G mX6_atom d 15 [x0, x1, x2] (.int (nI 6) :: S) (h) P) : RQ G mX6_atom d 13 [x0, x1, x2] (S) h P := q_bipush (M := mX6_atom) (pc := 13) dX6_atom_13 (by decide) r
theorem tX6_atom_15 {x y : Int32} (kt : y ≤ x → RQ G mX6_atom d 42 [x0, x1, x2] S h P) (kf : ¬ y ≤ x → RQ G mX6_atom d 18 [x0, x1, x2] S h P) : RQ G mX6_atom d 15 [x0, x1, x2] (.int y :: .int x :: S) h P := q_icmp_ge (M := mX6_atom) (pc := 15) dX6_atom_15 (by decide) kt kf
theorem tX6_atom_18 {k : Nat} (r : RQ G mX6_atom d 19 [some (.ref k), x1, x2] (.ref k :: S) (h) P) : RQ G mX6_atom d 18 [some (.ref k), x1, x2] (S) h P := q_aload_n (M := mX6_atom) (pc := 18) (r0 := some k) dX6_atom_18 rfl rfl r
theorem tX6_atom_19 (r : RQ G mX6_atom d 22 [x0, x1, x2] (.ref (OLD + 27) :: S) (h) P) : RQ G mX6_atom d 19 [x0, x1, x2] (S) h P := q_getE (M := mX6_atom) (pc := 19) (i := 27) dX6_atom_19 (by decide) w1173 r
theorem tX6_atom_22 {b d2 : Nat} {vs : List Value} {a0 : Nat} {Q : AH → Prop} (hd : d2 + 1 ≤ d) (ha : At h b (.inr (4, vs))) (call : RQ G mX6_take d2 0 [some (.ref b), some (.ref a0)] [] h (Rv Q)) (k : ∀ h1, Q h1 → RQ G mX6_atom d 25 [x0, x1, x2] S h1 P) (hst : (S.map fun v => v.category).sum ≤ 8 := by exact Nat.le_of_ble_eq_true rfl)  : RQ G mX6_atom d 22 [x0, x1, x2] (.ref a0 :: .ref b :: S) h P := q_callV (M := mX6_atom) (pc := 22) (M2 := mX6_take) (As := [.ref a0]) (n := 1) dX6_atom_22 rfl ⟨by decide, by decide, by decide, rfl⟩ rfl w1026 w1028 w22 w43 w1029 (show CL[4]? = some (RX6, TX6, 7) from rfl) hd (by decide) (Nat.le_of_ble_eq_true rfl) rfl ha hst call (callk_v k)
theorem tX6_atom_25 {k : Nat} (r : RQ G mX6_atom d 26 [some (.ref k), x1, x2] (.ref k :: S) (h) P) : RQ G mX6_atom d 25 [some (.ref k), x1, x2] (S) h P := q_aload_n (M := mX6_atom) (pc := 25) (r0 := some k) dX6_atom_25 rfl rfl r
theorem tX6_atom_26 {v : Int32} (r : RQ G mX6_atom d 27 [x0, some (.int v), x2] (.int v :: S) (h) P) : RQ G mX6_atom d 26 [x0, some (.int v), x2] (S) h P := q_iload_n (M := mX6_atom) (pc := 26) dX6_atom_26 rfl rfl r
theorem tX6_atom_27 (r : RQ G mX6_atom d 28 [x0, x1, x2] (.int (nI 1) :: S) (h) P) : RQ G mX6_atom d 27 [x0, x1, x2] (S) h P := q_iconst (M := mX6_atom) (pc := 27) dX6_atom_27 (by decide) r
theorem tX6_atom_28 {x y : Int32} (r : RQ G mX6_atom d 29 [x0, x1, x2] (.int (x + y) :: S) (h) P) : RQ G mX6_atom d 28 [x0, x1, x2] (.int y :: .int x :: S) h P := q_iadd (M := mX6_atom) (pc := 28) dX6_atom_28 r
theorem tX6_atom_29 {b d2 : Nat} {vs : List Value} {a0 : Int32} {Q : AH → Prop} (hd : d2 + 1 ≤ d) (ha : At h b (.inr (4, vs))) (call : RQ G mX6_sum d2 0 [some (.ref b), some (.int a0), none, none] [] h (Rv Q)) (k : ∀ h1, Q h1 → RQ G mX6_atom d 32 [x0, x1, x2] S h1 P) (hst : (S.map fun v => v.category).sum ≤ 8 := by exact Nat.le_of_ble_eq_true rfl)  : RQ G mX6_atom d 29 [x0, x1, x2] (.int a0 :: .ref b :: S) h P := q_callV (M := mX6_atom) (pc := 29) (M2 := mX6_sum) (As := [.int a0]) (n := 1) dX6_atom_29 rfl ⟨by decide, by decide, by decide, rfl⟩ rfl w1161 w1163 w36 w43 w1164 (show CL[4]? = some (RX6, TX6, 7) from rfl) hd (by decide) (Nat.le_of_ble_eq_true rfl) rfl ha hst call (callk_v k)
theorem tX6_atom_32 {k : Nat} (r : RQ G mX6_atom d 33 [some (.ref k), x1, x2] (.ref k :: S) (h) P) : RQ G mX6_atom d 32 [some (.ref k), x1, x2] (S) h P := q_aload_n (M := mX6_atom) (pc := 32) (r0 := some k) dX6_atom_32 rfl rfl r
theorem tX6_atom_33 (r : RQ G mX6_atom d 36 [x0, x1, x2] (.ref (OLD + 28) :: S) (h) P) : RQ G mX6_atom d 33 [x0, x1, x2] (S) h P := q_getE (M := mX6_atom) (pc := 33) (i := 28) dX6_atom_33 (by decide) w1175 r
theorem tX6_atom_36 {b d2 : Nat} {vs : List Value} {a0 : Nat} {Q : AH → Prop} (hd : d2 + 1 ≤ d) (ha : At h b (.inr (4, vs))) (call : RQ G mX6_take d2 0 [some (.ref b), some (.ref a0)] [] h (Rv Q)) (k : ∀ h1, Q h1 → RQ G mX6_atom d 39 [x0, x1, x2] S h1 P) (hst : (S.map fun v => v.category).sum ≤ 8 := by exact Nat.le_of_ble_eq_true rfl)  : RQ G mX6_atom d 36 [x0, x1, x2] (.ref a0 :: .ref b :: S) h P := q_callV (M := mX6_atom) (pc := 36) (M2 := mX6_take) (As := [.ref a0]) (n := 1) dX6_atom_36 rfl ⟨by decide, by decide, by decide, rfl⟩ rfl w1026 w1028 w22 w43 w1029 (show CL[4]? = some (RX6, TX6, 7) from rfl) hd (by decide) (Nat.le_of_ble_eq_true rfl) rfl ha hst call (callk_v k)
theorem tX6_atom_39 (r : RQ G mX6_atom d 141 [x0, x1, x2] S h P) : RQ G mX6_atom d 39 [x0, x1, x2] (S) h P := q_goto (M := mX6_atom) (pc := 39) dX6_atom_39 (by decide) r
theorem tX6_atom_42 {k : Nat} (r : RQ G mX6_atom d 43 [x0, x1, some (.ref k)] (.ref k :: S) (h) P) : RQ G mX6_atom d 42 [x0, x1, some (.ref k)] (S) h P := q_aload_n (M := mX6_atom) (pc := 42) (r0 := some k) dX6_atom_42 rfl rfl r
theorem tX6_atom_43 (r : RQ G mX6_atom d 46 [x0, x1, x2] (.ref (OLD + 21) :: S) (h) P) : RQ G mX6_atom d 43 [x0, x1, x2] (S) h P := q_getE (M := mX6_atom) (pc := 43) (i := 21) dX6_atom_43 (by decide) w1177 r
theorem tX6_atom_46 {i j : Nat} (hi : i < 43) (hj : j < 43) (kt : i = j → RQ G mX6_atom d 56 [x0, x1, x2] S h P) (kf : ¬ i = j → RQ G mX6_atom d 49 [x0, x1, x2] S h P) : RQ G mX6_atom d 46 [x0, x1, x2] (.ref (OLD + j) :: .ref (OLD + i) :: S) h P := q_acmp_eq (M := mX6_atom) (pc := 46) dX6_atom_46 (by decide) hi hj kt kf
theorem tX6_atom_49 {k : Nat} (r : RQ G mX6_atom d 50 [x0, x1, some (.ref k)] (.ref k :: S) (h) P) : RQ G mX6_atom d 49 [x0, x1, some (.ref k)] (S) h P := q_aload_n (M := mX6_atom) (pc := 49) (r0 := some k) dX6_atom_49 rfl rfl r
theorem tX6_atom_50 (r : RQ G mX6_atom d 53 [x0, x1, x2] (.ref (OLD + 2) :: S) (h) P) : RQ G mX6_atom d 50 [x0, x1, x2] (S) h P := q_getE (M := mX6_atom) (pc := 50) (i := 2) dX6_atom_50 (by decide) w1065 r
theorem tX6_atom_53 {i j : Nat} (hi : i < 43) (hj : j < 43) (kt : ¬ i = j → RQ G mX6_atom d 80 [x0, x1, x2] S h P) (kf : i = j → RQ G mX6_atom d 56 [x0, x1, x2] S h P) : RQ G mX6_atom d 53 [x0, x1, x2] (.ref (OLD + j) :: .ref (OLD + i) :: S) h P := q_acmp_ne (M := mX6_atom) (pc := 53) dX6_atom_53 (by decide) hi hj kt kf
theorem tX6_atom_56 {k : Nat} (r : RQ G mX6_atom d 57 [some (.ref k), x1, x2] (.ref k :: S) (h) P) : RQ G mX6_atom d 56 [some (.ref k), x1, x2] (S) h P := q_aload_n (M := mX6_atom) (pc := 56) (r0 := some k) dX6_atom_56 rfl rfl r
theorem tX6_atom_57 {k : Nat} (r : RQ G mX6_atom d 58 [x0, x1, some (.ref k)] (.ref k :: S) (h) P) : RQ G mX6_atom d 57 [x0, x1, some (.ref k)] (S) h P := q_aload_n (M := mX6_atom) (pc := 57) (r0 := some k) dX6_atom_57 rfl rfl r
theorem tX6_atom_58 {b d2 : Nat} {vs : List Value} {a0 : Nat} {Q : AH → Prop} (hd : d2 + 1 ≤ d) (ha : At h b (.inr (4, vs))) (call : RQ G mX6_take d2 0 [some (.ref b), some (.ref a0)] [] h (Rv Q)) (k : ∀ h1, Q h1 → RQ G mX6_atom d 61 [x0, x1, x2] S h1 P) (hst : (S.map fun v => v.category).sum ≤ 8 := by exact Nat.le_of_ble_eq_true rfl)  : RQ G mX6_atom d 58 [x0, x1, x2] (.ref a0 :: .ref b :: S) h P := q_callV (M := mX6_atom) (pc := 58) (M2 := mX6_take) (As := [.ref a0]) (n := 1) dX6_atom_58 rfl ⟨by decide, by decide, by decide, rfl⟩ rfl w1026 w1028 w22 w43 w1029 (show CL[4]? = some (RX6, TX6, 7) from rfl) hd (by decide) (Nat.le_of_ble_eq_true rfl) rfl ha hst call (callk_v k)
theorem tX6_atom_61 {k : Nat} (r : RQ G mX6_atom d 62 [some (.ref k), x1, x2] (.ref k :: S) (h) P) : RQ G mX6_atom d 61 [some (.ref k), x1, x2] (S) h P := q_aload_n (M := mX6_atom) (pc := 61) (r0 := some k) dX6_atom_61 rfl rfl r
theorem tX6_atom_62 {k : Nat} (r : RQ G mX6_atom d 63 [x0, x1, some (.ref k)] (.ref k :: S) (h) P) : RQ G mX6_atom d 62 [x0, x1, some (.ref k)] (S) h P := q_aload_n (M := mX6_atom) (pc := 62) (r0 := some k) dX6_atom_62 rfl rfl r
theorem tX6_atom_63 {k : Nat} (r : RQ G mX6_atom d 64 [some (.ref k), x1, x2] (.ref k :: S) (h) P) : RQ G mX6_atom d 63 [some (.ref k), x1, x2] (S) h P := q_aload_n (M := mX6_atom) (pc := 63) (r0 := some k) dX6_atom_63 rfl rfl r
theorem tX6_atom_64 {b d2 : Nat} {vs : List Value}  {Q : Int32 → AH → Prop} (hd : d2 + 1 ≤ d) (ha : At h b (.inr (4, vs))) (call : RQ G mX6_labelHere d2 0 [some (.ref b), none] [] h (Ri Q)) (k : ∀ x h1, Q x h1 → RQ G mX6_atom d 67 [x0, x1, x2] (.int x :: S) h1 P) (hst : (S.map fun v => v.category).sum ≤ 8 := by exact Nat.le_of_ble_eq_true rfl)  : RQ G mX6_atom d 64 [x0, x1, x2] (.ref b :: S) h P := q_callV (M := mX6_atom) (pc := 64) (M2 := mX6_labelHere) (As := []) (n := 0) dX6_atom_64 rfl ⟨by decide, by decide, by decide, rfl⟩ rfl w1105 w1107 w29 w43 w1108 (show CL[4]? = some (RX6, TX6, 7) from rfl) hd (by decide) (Nat.le_of_ble_eq_true rfl) rfl ha hst call (callk_i k)
theorem tX6_atom_67 {b d2 : Nat} {vs : List Value} {a0 : Nat} {a1 : Int32} {Q : AH → Prop} (hd : d2 + 1 ≤ d) (ha : At h b (.inr (4, vs))) (call : RQ G mX6_step d2 0 [some (.ref b), some (.ref a0), some (.int a1)] [] h (Rv Q)) (k : ∀ h1, Q h1 → RQ G mX6_atom d 70 [x0, x1, x2] S h1 P) (hst : (S.map fun v => v.category).sum ≤ 8 := by exact Nat.le_of_ble_eq_true rfl)  : RQ G mX6_atom d 67 [x0, x1, x2] (.int a1 :: .ref a0 :: .ref b :: S) h P := q_callV (M := mX6_atom) (pc := 67) (M2 := mX6_step) (As := [.ref a0, .int a1]) (n := 2) dX6_atom_67 rfl ⟨by decide, by decide, by decide, rfl⟩ rfl w1153 w1155 w35 w43 w1156 (show CL[4]? = some (RX6, TX6, 7) from rfl) hd (by decide) (Nat.le_of_ble_eq_true rfl) rfl ha hst call (callk_v k)
theorem tX6_atom_70 {k : Nat} (r : RQ G mX6_atom d 71 [some (.ref k), x1, x2] (.ref k :: S) (h) P) : RQ G mX6_atom d 70 [some (.ref k), x1, x2] (S) h P := q_aload_n (M := mX6_atom) (pc := 70) (r0 := some k) dX6_atom_70 rfl rfl r
theorem tX6_atom_71 (r : RQ G mX6_atom d 74 [x0, x1, x2] (.ref (OLD + 39) :: S) (h) P) : RQ G mX6_atom d 71 [x0, x1, x2] (S) h P := q_getE (M := mX6_atom) (pc := 71) (i := 39) dX6_atom_71 (by decide) w1054 r
theorem tX6_atom_74 {b d2 : Nat} {vs : List Value} {a0 : Nat} {Q : AH → Prop} (hd : d2 + 1 ≤ d) (ha : At h b (.inr (4, vs))) (call : RQ G mX6_take d2 0 [some (.ref b), some (.ref a0)] [] h (Rv Q)) (k : ∀ h1, Q h1 → RQ G mX6_atom d 77 [x0, x1, x2] S h1 P) (hst : (S.map fun v => v.category).sum ≤ 8 := by exact Nat.le_of_ble_eq_true rfl)  : RQ G mX6_atom d 74 [x0, x1, x2] (.ref a0 :: .ref b :: S) h P := q_callV (M := mX6_atom) (pc := 74) (M2 := mX6_take) (As := [.ref a0]) (n := 1) dX6_atom_74 rfl ⟨by decide, by decide, by decide, rfl⟩ rfl w1026 w1028 w22 w43 w1029 (show CL[4]? = some (RX6, TX6, 7) from rfl) hd (by decide) (Nat.le_of_ble_eq_true rfl) rfl ha hst call (callk_v k)
theorem tX6_atom_77 (r : RQ G mX6_atom d 141 [x0, x1, x2] S h P) : RQ G mX6_atom d 77 [x0, x1, x2] (S) h P := q_goto (M := mX6_atom) (pc := 77) dX6_atom_77 (by decide) r
theorem tX6_atom_80 {k : Nat} (r : RQ G mX6_atom d 81 [x0, x1, some (.ref k)] (.ref k :: S) (h) P) : RQ G mX6_atom d 80 [x0, x1, some (.ref k)] (S) h P := q_aload_n (M := mX6_atom) (pc := 80) (r0 := some k) dX6_atom_80 rfl rfl r
theorem tX6_atom_81 (r : RQ G mX6_atom d 84 [x0, x1, x2] (.ref (OLD + 20) :: S) (h) P) : RQ G mX6_atom d 81 [x0, x1, x2] (S) h P := q_getE (M := mX6_atom) (pc := 81) (i := 20) dX6_atom_81 (by decide) w1179 r
theorem tX6_atom_84 {i j : Nat} (hi : i < 43) (hj : j < 43) (kt : i = j → RQ G mX6_atom d 101 [x0, x1, x2] S h P) (kf : ¬ i = j → RQ G mX6_atom d 87 [x0, x1, x2] S h P) : RQ G mX6_atom d 84 [x0, x1, x2] (.ref (OLD + j) :: .ref (OLD + i) :: S) h P := q_acmp_eq (M := mX6_atom) (pc := 84) dX6_atom_84 (by decide) hi hj kt kf
theorem tX6_atom_87 {k : Nat} (r : RQ G mX6_atom d 88 [x0, x1, some (.ref k)] (.ref k :: S) (h) P) : RQ G mX6_atom d 87 [x0, x1, some (.ref k)] (S) h P := q_aload_n (M := mX6_atom) (pc := 87) (r0 := some k) dX6_atom_87 rfl rfl r
theorem tX6_atom_88 (r : RQ G mX6_atom d 91 [x0, x1, x2] (.ref (OLD + 22) :: S) (h) P) : RQ G mX6_atom d 88 [x0, x1, x2] (S) h P := q_getE (M := mX6_atom) (pc := 88) (i := 22) dX6_atom_88 (by decide) w1181 r
theorem tX6_atom_91 {i j : Nat} (hi : i < 43) (hj : j < 43) (kt : i = j → RQ G mX6_atom d 101 [x0, x1, x2] S h P) (kf : ¬ i = j → RQ G mX6_atom d 94 [x0, x1, x2] S h P) : RQ G mX6_atom d 91 [x0, x1, x2] (.ref (OLD + j) :: .ref (OLD + i) :: S) h P := q_acmp_eq (M := mX6_atom) (pc := 91) dX6_atom_91 (by decide) hi hj kt kf
theorem tX6_atom_94 {k : Nat} (r : RQ G mX6_atom d 95 [x0, x1, some (.ref k)] (.ref k :: S) (h) P) : RQ G mX6_atom d 94 [x0, x1, some (.ref k)] (S) h P := q_aload_n (M := mX6_atom) (pc := 94) (r0 := some k) dX6_atom_94 rfl rfl r
theorem tX6_atom_95 (r : RQ G mX6_atom d 98 [x0, x1, x2] (.ref (OLD + 23) :: S) (h) P) : RQ G mX6_atom d 95 [x0, x1, x2] (S) h P := q_getE (M := mX6_atom) (pc := 95) (i := 23) dX6_atom_95 (by decide) w1183 r
theorem tX6_atom_98 {i j : Nat} (hi : i < 43) (hj : j < 43) (kt : ¬ i = j → RQ G mX6_atom d 115 [x0, x1, x2] S h P) (kf : i = j → RQ G mX6_atom d 101 [x0, x1, x2] S h P) : RQ G mX6_atom d 98 [x0, x1, x2] (.ref (OLD + j) :: .ref (OLD + i) :: S) h P := q_acmp_ne (M := mX6_atom) (pc := 98) dX6_atom_98 (by decide) hi hj kt kf
theorem tX6_atom_101 {k : Nat} (r : RQ G mX6_atom d 102 [some (.ref k), x1, x2] (.ref k :: S) (h) P) : RQ G mX6_atom d 101 [some (.ref k), x1, x2] (S) h P := q_aload_n (M := mX6_atom) (pc := 101) (r0 := some k) dX6_atom_101 rfl rfl r
theorem tX6_atom_102 {k : Nat} (r : RQ G mX6_atom d 103 [x0, x1, some (.ref k)] (.ref k :: S) (h) P) : RQ G mX6_atom d 102 [x0, x1, some (.ref k)] (S) h P := q_aload_n (M := mX6_atom) (pc := 102) (r0 := some k) dX6_atom_102 rfl rfl r
theorem tX6_atom_103 (r : RQ G mX6_atom d 104 [x0, x1, x2] (.int (nI 0) :: S) (h) P) : RQ G mX6_atom d 103 [x0, x1, x2] (S) h P := q_iconst (M := mX6_atom) (pc := 103) dX6_atom_103 (by decide) r
theorem tX6_atom_104 {b d2 : Nat} {vs : List Value} {a0 : Nat} {a1 : Int32} {Q : AH → Prop} (hd : d2 + 1 ≤ d) (ha : At h b (.inr (4, vs))) (call : RQ G mX6_step d2 0 [some (.ref b), some (.ref a0), some (.int a1)] [] h (Rv Q)) (k : ∀ h1, Q h1 → RQ G mX6_atom d 107 [x0, x1, x2] S h1 P) (hst : (S.map fun v => v.category).sum ≤ 8 := by exact Nat.le_of_ble_eq_true rfl)  : RQ G mX6_atom d 104 [x0, x1, x2] (.int a1 :: .ref a0 :: .ref b :: S) h P := q_callV (M := mX6_atom) (pc := 104) (M2 := mX6_step) (As := [.ref a0, .int a1]) (n := 2) dX6_atom_104 rfl ⟨by decide, by decide, by decide, rfl⟩ rfl w1153 w1155 w35 w43 w1156 (show CL[4]? = some (RX6, TX6, 7) from rfl) hd (by decide) (Nat.le_of_ble_eq_true rfl) rfl ha hst call (callk_v k)
theorem tX6_atom_107 {k : Nat} (r : RQ G mX6_atom d 108 [some (.ref k), x1, x2] (.ref k :: S) (h) P) : RQ G mX6_atom d 107 [some (.ref k), x1, x2] (S) h P := q_aload_n (M := mX6_atom) (pc := 107) (r0 := some k) dX6_atom_107 rfl rfl r
theorem tX6_atom_108 {k : Nat} (r : RQ G mX6_atom d 109 [x0, x1, some (.ref k)] (.ref k :: S) (h) P) : RQ G mX6_atom d 108 [x0, x1, some (.ref k)] (S) h P := q_aload_n (M := mX6_atom) (pc := 108) (r0 := some k) dX6_atom_108 rfl rfl r
theorem tX6_atom_109 {b d2 : Nat} {vs : List Value} {a0 : Nat} {Q : AH → Prop} (hd : d2 + 1 ≤ d) (ha : At h b (.inr (4, vs))) (call : RQ G mX6_take d2 0 [some (.ref b), some (.ref a0)] [] h (Rv Q)) (k : ∀ h1, Q h1 → RQ G mX6_atom d 112 [x0, x1, x2] S h1 P) (hst : (S.map fun v => v.category).sum ≤ 8 := by exact Nat.le_of_ble_eq_true rfl)  : RQ G mX6_atom d 109 [x0, x1, x2] (.ref a0 :: .ref b :: S) h P := q_callV (M := mX6_atom) (pc := 109) (M2 := mX6_take) (As := [.ref a0]) (n := 1) dX6_atom_109 rfl ⟨by decide, by decide, by decide, rfl⟩ rfl w1026 w1028 w22 w43 w1029 (show CL[4]? = some (RX6, TX6, 7) from rfl) hd (by decide) (Nat.le_of_ble_eq_true rfl) rfl ha hst call (callk_v k)
theorem tX6_atom_112 (r : RQ G mX6_atom d 141 [x0, x1, x2] S h P) : RQ G mX6_atom d 112 [x0, x1, x2] (S) h P := q_goto (M := mX6_atom) (pc := 112) dX6_atom_112 (by decide) r
theorem tX6_atom_115 {k : Nat} (r : RQ G mX6_atom d 116 [some (.ref k), x1, x2] (.ref k :: S) (h) P) : RQ G mX6_atom d 115 [some (.ref k), x1, x2] (S) h P := q_aload_n (M := mX6_atom) (pc := 115) (r0 := some k) dX6_atom_115 rfl rfl r
theorem tX6_atom_116 (r : RQ G mX6_atom d 119 [x0, x1, x2] (.ref (OLD + 40) :: S) (h) P) : RQ G mX6_atom d 116 [x0, x1, x2] (S) h P := q_getE (M := mX6_atom) (pc := 116) (i := 40) dX6_atom_116 (by decide) w1067 r
theorem tX6_atom_119 {k : Nat} (r : RQ G mX6_atom d 120 [some (.ref k), x1, x2] (.ref k :: S) (h) P) : RQ G mX6_atom d 119 [some (.ref k), x1, x2] (S) h P := q_aload_n (M := mX6_atom) (pc := 119) (r0 := some k) dX6_atom_119 rfl rfl r
theorem tX6_atom_120 {i : Nat} {vs : List Value} {v : Value} (ha : At h i (.inr (4, vs))) (hv : vs[0]? = some v) (r : RQ G mX6_atom d 123 [x0, x1, x2] (v :: S) (h) P) : RQ G mX6_atom d 120 [x0, x1, x2] (.ref i :: S) h P := q_get (M := mX6_atom) (pc := 120) (kf := 0) dX6_atom_120 (show CL[4]? = some (RX6, TX6, 7) from rfl) inA6 (by decide) rfl w318 ha hv r
theorem tX6_atom_123 {k : Nat} (r : RQ G mX6_atom d 124 [some (.ref k), x1, x2] (.ref k :: S) (h) P) : RQ G mX6_atom d 123 [some (.ref k), x1, x2] (S) h P := q_aload_n (M := mX6_atom) (pc := 123) (r0 := some k) dX6_atom_123 rfl rfl r
theorem tX6_atom_124 {i : Nat} {vs : List Value} {v : Value} (ha : At h i (.inr (4, vs))) (hv : vs[2]? = some v) (r : RQ G mX6_atom d 127 [x0, x1, x2] (v :: S) (h) P) : RQ G mX6_atom d 124 [x0, x1, x2] (.ref i :: S) h P := q_get (M := mX6_atom) (pc := 124) (kf := 2) dX6_atom_124 (show CL[4]? = some (RX6, TX6, 7) from rfl) inA6 (by decide) rfl w320 ha hv r
theorem tX6_atom_127 {b d2 : Nat} {vs : List Value} {a0 : Int32} {Q : Int64 → AH → Prop} (hd : d2 + 1 ≤ d) (ha : At h b (.inr (7, vs))) (call : RQ G mX9_valueAt d2 0 [some (.ref b), some (.int a0)] [] h (Rj Q)) (k : ∀ x h1, Q x h1 → RQ G mX6_atom d 130 [x0, x1, x2] (.long x :: S) h1 P) (hst : (S.map fun v => v.category).sum ≤ 8 := by exact Nat.le_of_ble_eq_true rfl)  : RQ G mX6_atom d 127 [x0, x1, x2] (.int a0 :: .ref b :: S) h P := q_callV (M := mX6_atom) (pc := 127) (M2 := mX9_valueAt) (As := [.int a0]) (n := 1) dX6_atom_127 rfl ⟨by decide, by decide, by decide, rfl⟩ rfl w1035 w1036 w1037 w44 w1038 (show CL[7]? = some (RX9, TX9, 4) from rfl) hd (by decide) (Nat.le_of_ble_eq_true rfl) rfl ha hst call (callk_j k)
theorem tX6_atom_130 {x : Int64} (r : RQ G mX6_atom d 131 [x0, x1, x2] (.int x.toInt32 :: S) (h) P) : RQ G mX6_atom d 130 [x0, x1, x2] (.long x :: S) h P := q_l2i (M := mX6_atom) (pc := 130) dX6_atom_130 r
theorem tX6_atom_131 {b d2 : Nat} {vs : List Value} {a0 : Nat} {a1 : Int32} {Q : AH → Prop} (hd : d2 + 1 ≤ d) (ha : At h b (.inr (4, vs))) (call : RQ G mX6_step d2 0 [some (.ref b), some (.ref a0), some (.int a1)] [] h (Rv Q)) (k : ∀ h1, Q h1 → RQ G mX6_atom d 134 [x0, x1, x2] S h1 P) (hst : (S.map fun v => v.category).sum ≤ 8 := by exact Nat.le_of_ble_eq_true rfl)  : RQ G mX6_atom d 131 [x0, x1, x2] (.int a1 :: .ref a0 :: .ref b :: S) h P := q_callV (M := mX6_atom) (pc := 131) (M2 := mX6_step) (As := [.ref a0, .int a1]) (n := 2) dX6_atom_131 rfl ⟨by decide, by decide, by decide, rfl⟩ rfl w1153 w1155 w35 w43 w1156 (show CL[4]? = some (RX6, TX6, 7) from rfl) hd (by decide) (Nat.le_of_ble_eq_true rfl) rfl ha hst call (callk_v k)
theorem tX6_atom_134 {k : Nat} (r : RQ G mX6_atom d 135 [some (.ref k), x1, x2] (.ref k :: S) (h) P) : RQ G mX6_atom d 134 [some (.ref k), x1, x2] (S) h P := q_aload_n (M := mX6_atom) (pc := 134) (r0 := some k) dX6_atom_134 rfl rfl r
theorem tX6_atom_135 (r : RQ G mX6_atom d 138 [x0, x1, x2] (.ref (OLD + 40) :: S) (h) P) : RQ G mX6_atom d 135 [x0, x1, x2] (S) h P := q_getE (M := mX6_atom) (pc := 135) (i := 40) dX6_atom_135 (by decide) w1067 r
theorem tX6_atom_138 {b d2 : Nat} {vs : List Value} {a0 : Nat} {Q : AH → Prop} (hd : d2 + 1 ≤ d) (ha : At h b (.inr (4, vs))) (call : RQ G mX6_take d2 0 [some (.ref b), some (.ref a0)] [] h (Rv Q)) (k : ∀ h1, Q h1 → RQ G mX6_atom d 141 [x0, x1, x2] S h1 P) (hst : (S.map fun v => v.category).sum ≤ 8 := by exact Nat.le_of_ble_eq_true rfl)  : RQ G mX6_atom d 138 [x0, x1, x2] (.ref a0 :: .ref b :: S) h P := q_callV (M := mX6_atom) (pc := 138) (M2 := mX6_take) (As := [.ref a0]) (n := 1) dX6_atom_138 rfl ⟨by decide, by decide, by decide, rfl⟩ rfl w1026 w1028 w22 w43 w1029 (show CL[4]? = some (RX6, TX6, 7) from rfl) hd (by decide) (Nat.le_of_ble_eq_true rfl) rfl ha hst call (callk_v k)
theorem tX6_atom_141 (hP : P (.inl none) h) : RQ G mX6_atom d 141 [x0, x1, x2] ([]) h P := q_return (M := mX6_atom) (pc := 141) dX6_atom_141 rfl hP
end T
theorem dX6_lookAtNewName_0 : decode cX6_lookAtNewName 0 = .ok (.aload_n 0, 1) := by decide +kernel
theorem dX6_lookAtNewName_1 : decode cX6_lookAtNewName 1 = .ok (.getfield 21, 3) := by decide +kernel
theorem dX6_lookAtNewName_4 : decode cX6_lookAtNewName 4 = .ok (.aload_n 0, 1) := by decide +kernel
theorem dX6_lookAtNewName_5 : decode cX6_lookAtNewName 5 = .ok (.getfield 12, 3) := by decide +kernel
theorem dX6_lookAtNewName_8 : decode cX6_lookAtNewName 8 = .ok (.aload_n 0, 1) := by decide +kernel
theorem dX6_lookAtNewName_9 : decode cX6_lookAtNewName 9 = .ok (.getfield 48, 3) := by decide +kernel
theorem dX6_lookAtNewName_12 : decode cX6_lookAtNewName 12 = .ok (.invokevirtual 91, 3) := by decide +kernel
theorem dX6_lookAtNewName_15 : decode cX6_lookAtNewName 15 = .ok (.invokevirtual 300, 3) := by decide +kernel
theorem dX6_lookAtNewName_18 : decode cX6_lookAtNewName 18 = .ok (.ifCond .eq 8, 3) := by decide +kernel
theorem dX6_lookAtNewName_21 : decode cX6_lookAtNewName 21 = .ok (.aload_n 0, 1) := by decide +kernel
theorem dX6_lookAtNewName_22 : decode cX6_lookAtNewName 22 = .ok (.iconst 2, 1) := by decide +kernel
theorem dX6_lookAtNewName_23 : decode cX6_lookAtNewName 23 = .ok (.invokevirtual 111, 3) := by decide +kernel
theorem dX6_lookAtNewName_26 : decode cX6_lookAtNewName 26 = .ok (.iload_n 1, 1) := by decide +kernel
theorem dX6_lookAtNewName_27 : decode cX6_lookAtNewName 27 = .ok (.ifCond .eq 8, 3) := by decide +kernel
theorem dX6_lookAtNewName_30 : decode cX6_lookAtNewName 30 = .ok (.aload_n 0, 1) := by decide +kernel
theorem dX6_lookAtNewName_31 : decode cX6_lookAtNewName 31 = .ok (.iconst 4, 1) := by decide +kernel
theorem dX6_lookAtNewName_32 : decode cX6_lookAtNewName 32 = .ok (.invokevirtual 111, 3) := by decide +kernel
theorem dX6_lookAtNewName_35 : decode cX6_lookAtNewName 35 = .ok (.return_, 1) := by decide +kernel
section T
variable {G : GT} {d : Nat} {S : List Value} {h : AH} {P : OC → AH → Prop} {x0 x1 x2 x3 x4 x5 x6 x7 x8 x9 x10 x11 x12 x13 x14 x15 : Option Value}
theorem tX6_lookAtNewName_0 {k : Nat} (r : RQ G mX6_lookAtNewName d 1 [some (.ref k), x1] (.ref k :: S) (h) P) : RQ G mX6_lookAtNewName d 0 [some (.ref k), x1] (S) h P := q_aload_n (M := mX6_lookAtNewName) (pc := 0) (r0 := some k) dX6_lookAtNewName_0 rfl rfl r
theorem tX6_lookAtNewName_1 {i : Nat} {vs : List Value} {v : Value} (ha : At h i (.inr (4, vs))) (hv : vs[1]? = some v) (r : RQ G mX6_lookAtNewName d 4 [x0, x1] (v :: S) (h) P) : RQ G mX6_lookAtNewName d 1 [x0, x1] (.ref i :: S) h P := q_get (M := mX6_lookAtNewName) (pc := 1) (kf := 1) dX6_lookAtNewName_1 (show CL[4]? = some (RX6, TX6, 7) from rfl) inA6 (by decide) rfl w319 ha hv r
theorem tX6_lookAtNewName_4 {k : Nat} (r : RQ G mX6_lookAtNewName d 5 [some (.ref k), x1] (.ref k :: S) (h) P) : RQ G mX6_lookAtNewName d 4 [some (.ref k), x1] (S) h P := q_aload_n (M := mX6_lookAtNewName) (pc := 4) (r0 := some k) dX6_lookAtNewName_4 rfl rfl r
theorem tX6_lookAtNewName_5 {i : Nat} {vs : List Value} {v : Value} (ha : At h i (.inr (4, vs))) (hv : vs[0]? = some v) (r : RQ G mX6_lookAtNewName d 8 [x0, x1] (v :: S) (h) P) : RQ G mX6_lookAtNewName d 5 [x0, x1] (.ref i :: S) h P := q_get (M := mX6_lookAtNewName) (pc := 5) (kf := 0) dX6_lookAtNewName_5 (show CL[4]? = some (RX6, TX6, 7) from rfl) inA6 (by decide) rfl w318 ha hv r
theorem tX6_lookAtNewName_8 {k : Nat} (r : RQ G mX6_lookAtNewName d 9 [some (.ref k), x1] (.ref k :: S) (h) P) : RQ G mX6_lookAtNewName d 8 [some (.ref k), x1] (S) h P := q_aload_n (M := mX6_lookAtNewName) (pc := 8) (r0 := some k) dX6_lookAtNewName_8 rfl rfl r
theorem tX6_lookAtNewName_9 {i : Nat} {vs : List Value} {v : Value} (ha : At h i (.inr (4, vs))) (hv : vs[2]? = some v) (r : RQ G mX6_lookAtNewName d 12 [x0, x1] (v :: S) (h) P) : RQ G mX6_lookAtNewName d 9 [x0, x1] (.ref i :: S) h P := q_get (M := mX6_lookAtNewName) (pc := 9) (kf := 2) dX6_lookAtNewName_9 (show CL[4]? = some (RX6, TX6, 7) from rfl) inA6 (by decide) rfl w320 ha hv r
theorem tX6_lookAtNewName_12 {b d2 : Nat} {vs : List Value} {a0 : Int32} {Q : Int64 → AH → Prop} (hd : d2 + 1 ≤ d) (ha : At h b (.inr (7, vs))) (call : RQ G mX9_valueAt d2 0 [some (.ref b), some (.int a0)] [] h (Rj Q)) (k : ∀ x h1, Q x h1 → RQ G mX6_lookAtNewName d 15 [x0, x1] (.long x :: S) h1 P) (hst : (S.map fun v => v.category).sum ≤ 8 := by exact Nat.le_of_ble_eq_true rfl)  : RQ G mX6_lookAtNewName d 12 [x0, x1] (.int a0 :: .ref b :: S) h P := q_callV (M := mX6_lookAtNewName) (pc := 12) (M2 := mX9_valueAt) (As := [.int a0]) (n := 1) dX6_lookAtNewName_12 rfl ⟨by decide, by decide, by decide, rfl⟩ rfl w1035 w1036 w1037 w44 w1038 (show CL[7]? = some (RX9, TX9, 4) from rfl) hd (by decide) (Nat.le_of_ble_eq_true rfl) rfl ha hst call (callk_j k)
theorem tX6_lookAtNewName_15 {b d2 : Nat} {vs : List Value} {a0 : Int64} {Q : Int32 → AH → Prop} (hd : d2 + 1 ≤ d) (ha : At h b (.inr (0, vs))) (call : RQ G mX1_hasName d2 0 [some (.ref b), some (.long a0), none] [] h (Ri Q)) (k : ∀ x h1, Q x h1 → RQ G mX6_lookAtNewName d 18 [x0, x1] (.int x :: S) h1 P) (hst : (S.map fun v => v.category).sum ≤ 8 := by exact Nat.le_of_ble_eq_true rfl)  : RQ G mX6_lookAtNewName d 15 [x0, x1] (.long a0 :: .ref b :: S) h P := q_callV (M := mX6_lookAtNewName) (pc := 15) (M2 := mX1_hasName) (As := [.long a0]) (n := 1) dX6_lookAtNewName_15 rfl ⟨by decide, by decide, by decide, rfl⟩ rfl w1039 w1040 w1041 w45 w1042 (show CL[0]? = some (RX1, TX1, 11) from rfl) hd (by decide) (Nat.le_of_ble_eq_true rfl) rfl ha hst call (callk_i k)
theorem tX6_lookAtNewName_18 {x : Int32} (kt : x = 0 → RQ G mX6_lookAtNewName d 26 [x0, x1] S h P) (kf : ¬ x = 0 → RQ G mX6_lookAtNewName d 21 [x0, x1] S h P) : RQ G mX6_lookAtNewName d 18 [x0, x1] (.int x :: S) h P := q_if_eq (M := mX6_lookAtNewName) (pc := 18) dX6_lookAtNewName_18 (by decide) kt kf
theorem tX6_lookAtNewName_21 {k : Nat} (r : RQ G mX6_lookAtNewName d 22 [some (.ref k), x1] (.ref k :: S) (h) P) : RQ G mX6_lookAtNewName d 21 [some (.ref k), x1] (S) h P := q_aload_n (M := mX6_lookAtNewName) (pc := 21) (r0 := some k) dX6_lookAtNewName_21 rfl rfl r
theorem tX6_lookAtNewName_22 (r : RQ G mX6_lookAtNewName d 23 [x0, x1] (.int (nI 2) :: S) (h) P) : RQ G mX6_lookAtNewName d 22 [x0, x1] (S) h P := q_iconst (M := mX6_lookAtNewName) (pc := 22) dX6_lookAtNewName_22 (by decide) r
theorem tX6_lookAtNewName_23 {b d2 : Nat} {vs : List Value} {a0 : Int32} {Q : AH → Prop} (hd : d2 + 1 ≤ d) (ha : At h b (.inr (4, vs))) (call : RQ G mX6_report d2 0 [some (.ref b), some (.int a0)] [] h (Rv Q)) (k : ∀ h1, Q h1 → RQ G mX6_lookAtNewName d 26 [x0, x1] S h1 P) (hst : (S.map fun v => v.category).sum ≤ 8 := by exact Nat.le_of_ble_eq_true rfl)  : RQ G mX6_lookAtNewName d 23 [x0, x1] (.int a0 :: .ref b :: S) h P := q_callV (M := mX6_lookAtNewName) (pc := 23) (M2 := mX6_report) (As := [.int a0]) (n := 1) dX6_lookAtNewName_23 rfl ⟨by decide, by decide, by decide, rfl⟩ rfl w1046 w1048 w24 w43 w1049 (show CL[4]? = some (RX6, TX6, 7) from rfl) hd (by decide) (Nat.le_of_ble_eq_true rfl) rfl ha hst call (callk_v k)
theorem tX6_lookAtNewName_26 {v : Int32} (r : RQ G mX6_lookAtNewName d 27 [x0, some (.int v)] (.int v :: S) (h) P) : RQ G mX6_lookAtNewName d 26 [x0, some (.int v)] (S) h P := q_iload_n (M := mX6_lookAtNewName) (pc := 26) dX6_lookAtNewName_26 rfl rfl r
theorem tX6_lookAtNewName_27 {x : Int32} (kt : x = 0 → RQ G mX6_lookAtNewName d 35 [x0, x1] S h P) (kf : ¬ x = 0 → RQ G mX6_lookAtNewName d 30 [x0, x1] S h P) : RQ G mX6_lookAtNewName d 27 [x0, x1] (.int x :: S) h P := q_if_eq (M := mX6_lookAtNewName) (pc := 27) dX6_lookAtNewName_27 (by decide) kt kf
theorem tX6_lookAtNewName_30 {k : Nat} (r : RQ G mX6_lookAtNewName d 31 [some (.ref k), x1] (.ref k :: S) (h) P) : RQ G mX6_lookAtNewName d 30 [some (.ref k), x1] (S) h P := q_aload_n (M := mX6_lookAtNewName) (pc := 30) (r0 := some k) dX6_lookAtNewName_30 rfl rfl r
theorem tX6_lookAtNewName_31 (r : RQ G mX6_lookAtNewName d 32 [x0, x1] (.int (nI 4) :: S) (h) P) : RQ G mX6_lookAtNewName d 31 [x0, x1] (S) h P := q_iconst (M := mX6_lookAtNewName) (pc := 31) dX6_lookAtNewName_31 (by decide) r
theorem tX6_lookAtNewName_32 {b d2 : Nat} {vs : List Value} {a0 : Int32} {Q : AH → Prop} (hd : d2 + 1 ≤ d) (ha : At h b (.inr (4, vs))) (call : RQ G mX6_report d2 0 [some (.ref b), some (.int a0)] [] h (Rv Q)) (k : ∀ h1, Q h1 → RQ G mX6_lookAtNewName d 35 [x0, x1] S h1 P) (hst : (S.map fun v => v.category).sum ≤ 8 := by exact Nat.le_of_ble_eq_true rfl)  : RQ G mX6_lookAtNewName d 32 [x0, x1] (.int a0 :: .ref b :: S) h P := q_callV (M := mX6_lookAtNewName) (pc := 32) (M2 := mX6_report) (As := [.int a0]) (n := 1) dX6_lookAtNewName_32 rfl ⟨by decide, by decide, by decide, rfl⟩ rfl w1046 w1048 w24 w43 w1049 (show CL[4]? = some (RX6, TX6, 7) from rfl) hd (by decide) (Nat.le_of_ble_eq_true rfl) rfl ha hst call (callk_v k)
theorem tX6_lookAtNewName_35 (hP : P (.inl none) h) : RQ G mX6_lookAtNewName d 35 [x0, x1] ([]) h P := q_return (M := mX6_lookAtNewName) (pc := 35) dX6_lookAtNewName_35 rfl hP
end T
theorem dX6_labelHere_0 : decode cX6_labelHere 0 = .ok (.aload_n 0, 1) := by decide +kernel
theorem dX6_labelHere_1 : decode cX6_labelHere 1 = .ok (.getfield 21, 3) := by decide +kernel
theorem dX6_labelHere_4 : decode cX6_labelHere 4 = .ok (.getfield 304, 3) := by decide +kernel
theorem dX6_labelHere_7 : decode cX6_labelHere 7 = .ok (.aload_n 0, 1) := by decide +kernel
theorem dX6_labelHere_8 : decode cX6_labelHere 8 = .ok (.getfield 21, 3) := by decide +kernel
theorem dX6_labelHere_11 : decode cX6_labelHere 11 = .ok (.getfield 84, 3) := by decide +kernel
theorem dX6_labelHere_14 : decode cX6_labelHere 14 = .ok (.aload_n 0, 1) := by decide +kernel
theorem dX6_labelHere_15 : decode cX6_labelHere 15 = .ok (.getfield 12, 3) := by decide +kernel
theorem dX6_labelHere_18 : decode cX6_labelHere 18 = .ok (.aload_n 0, 1) := by decide +kernel
theorem dX6_labelHere_19 : decode cX6_labelHere 19 = .ok (.getfield 48, 3) := by decide +kernel
theorem dX6_labelHere_22 : decode cX6_labelHere 22 = .ok (.invokevirtual 91, 3) := by decide +kernel
theorem dX6_labelHere_25 : decode cX6_labelHere 25 = .ok (.invokestatic 308, 3) := by decide +kernel
theorem dX6_labelHere_28 : decode cX6_labelHere 28 = .ok (.istore_n 1, 1) := by decide +kernel
theorem dX6_labelHere_29 : decode cX6_labelHere 29 = .ok (.iload_n 1, 1) := by decide +kernel
theorem dX6_labelHere_30 : decode cX6_labelHere 30 = .ok (.iconst (-1), 1) := by decide +kernel
theorem dX6_labelHere_31 : decode cX6_labelHere 31 = .ok (.if_icmp .ne 8, 3) := by decide +kernel
theorem dX6_labelHere_34 : decode cX6_labelHere 34 = .ok (.aload_n 0, 1) := by decide +kernel
theorem dX6_labelHere_35 : decode cX6_labelHere 35 = .ok (.iconst 3, 1) := by decide +kernel
theorem dX6_labelHere_36 : decode cX6_labelHere 36 = .ok (.invokevirtual 111, 3) := by decide +kernel
theorem dX6_labelHere_39 : decode cX6_labelHere 39 = .ok (.iload_n 1, 1) := by decide +kernel
theorem dX6_labelHere_40 : decode cX6_labelHere 40 = .ok (.ireturn, 1) := by decide +kernel
section T
variable {G : GT} {d : Nat} {S : List Value} {h : AH} {P : OC → AH → Prop} {x0 x1 x2 x3 x4 x5 x6 x7 x8 x9 x10 x11 x12 x13 x14 x15 : Option Value}
theorem tX6_labelHere_0 {k : Nat} (r : RQ G mX6_labelHere d 1 [some (.ref k), x1] (.ref k :: S) (h) P) : RQ G mX6_labelHere d 0 [some (.ref k), x1] (S) h P := q_aload_n (M := mX6_labelHere) (pc := 0) (r0 := some k) dX6_labelHere_0 rfl rfl r
theorem tX6_labelHere_1 {i : Nat} {vs : List Value} {v : Value} (ha : At h i (.inr (4, vs))) (hv : vs[1]? = some v) (r : RQ G mX6_labelHere d 4 [x0, x1] (v :: S) (h) P) : RQ G mX6_labelHere d 1 [x0, x1] (.ref i :: S) h P := q_get (M := mX6_labelHere) (pc := 1) (kf := 1) dX6_labelHere_1 (show CL[4]? = some (RX6, TX6, 7) from rfl) inA6 (by decide) rfl w319 ha hv r
theorem tX6_labelHere_4 {i : Nat} {vs : List Value} {v : Value} (ha : At h i (.inr (0, vs))) (hv : vs[0]? = some v) (r : RQ G mX6_labelHere d 7 [x0, x1] (v :: S) (h) P) : RQ G mX6_labelHere d 4 [x0, x1] (.ref i :: S) h P := q_getN (M := mX6_labelHere) (pc := 4) (kf := 0) dX6_labelHere_4 (show CL[0]? = some (RX1, TX1, 11) from rfl) inA1 (by decide) rfl v265 ha hv r
theorem tX6_labelHere_7 {k : Nat} (r : RQ G mX6_labelHere d 8 [some (.ref k), x1] (.ref k :: S) (h) P) : RQ G mX6_labelHere d 7 [some (.ref k), x1] (S) h P := q_aload_n (M := mX6_labelHere) (pc := 7) (r0 := some k) dX6_labelHere_7 rfl rfl r
theorem tX6_labelHere_8 {i : Nat} {vs : List Value} {v : Value} (ha : At h i (.inr (4, vs))) (hv : vs[1]? = some v) (r : RQ G mX6_labelHere d 11 [x0, x1] (v :: S) (h) P) : RQ G mX6_labelHere d 8 [x0, x1] (.ref i :: S) h P := q_get (M := mX6_labelHere) (pc := 8) (kf := 1) dX6_labelHere_8 (show CL[4]? = some (RX6, TX6, 7) from rfl) inA6 (by decide) rfl w319 ha hv r
theorem tX6_labelHere_11 {i : Nat} {vs : List Value} {v : Value} (ha : At h i (.inr (0, vs))) (hv : vs[8]? = some v) (r : RQ G mX6_labelHere d 14 [x0, x1] (v :: S) (h) P) : RQ G mX6_labelHere d 11 [x0, x1] (.ref i :: S) h P := q_getN (M := mX6_labelHere) (pc := 11) (kf := 8) dX6_labelHere_11 (show CL[0]? = some (RX1, TX1, 11) from rfl) inA1 (by decide) rfl v283 ha hv r
theorem tX6_labelHere_14 {k : Nat} (r : RQ G mX6_labelHere d 15 [some (.ref k), x1] (.ref k :: S) (h) P) : RQ G mX6_labelHere d 14 [some (.ref k), x1] (S) h P := q_aload_n (M := mX6_labelHere) (pc := 14) (r0 := some k) dX6_labelHere_14 rfl rfl r
theorem tX6_labelHere_15 {i : Nat} {vs : List Value} {v : Value} (ha : At h i (.inr (4, vs))) (hv : vs[0]? = some v) (r : RQ G mX6_labelHere d 18 [x0, x1] (v :: S) (h) P) : RQ G mX6_labelHere d 15 [x0, x1] (.ref i :: S) h P := q_get (M := mX6_labelHere) (pc := 15) (kf := 0) dX6_labelHere_15 (show CL[4]? = some (RX6, TX6, 7) from rfl) inA6 (by decide) rfl w318 ha hv r
theorem tX6_labelHere_18 {k : Nat} (r : RQ G mX6_labelHere d 19 [some (.ref k), x1] (.ref k :: S) (h) P) : RQ G mX6_labelHere d 18 [some (.ref k), x1] (S) h P := q_aload_n (M := mX6_labelHere) (pc := 18) (r0 := some k) dX6_labelHere_18 rfl rfl r
theorem tX6_labelHere_19 {i : Nat} {vs : List Value} {v : Value} (ha : At h i (.inr (4, vs))) (hv : vs[2]? = some v) (r : RQ G mX6_labelHere d 22 [x0, x1] (v :: S) (h) P) : RQ G mX6_labelHere d 19 [x0, x1] (.ref i :: S) h P := q_get (M := mX6_labelHere) (pc := 19) (kf := 2) dX6_labelHere_19 (show CL[4]? = some (RX6, TX6, 7) from rfl) inA6 (by decide) rfl w320 ha hv r
theorem tX6_labelHere_22 {b d2 : Nat} {vs : List Value} {a0 : Int32} {Q : Int64 → AH → Prop} (hd : d2 + 1 ≤ d) (ha : At h b (.inr (7, vs))) (call : RQ G mX9_valueAt d2 0 [some (.ref b), some (.int a0)] [] h (Rj Q)) (k : ∀ x h1, Q x h1 → RQ G mX6_labelHere d 25 [x0, x1] (.long x :: S) h1 P) (hst : (S.map fun v => v.category).sum ≤ 8 := by exact Nat.le_of_ble_eq_true rfl)  : RQ G mX6_labelHere d 22 [x0, x1] (.int a0 :: .ref b :: S) h P := q_callV (M := mX6_labelHere) (pc := 22) (M2 := mX9_valueAt) (As := [.int a0]) (n := 1) dX6_labelHere_22 rfl ⟨by decide, by decide, by decide, rfl⟩ rfl w1035 w1036 w1037 w44 w1038 (show CL[7]? = some (RX9, TX9, 4) from rfl) hd (by decide) (Nat.le_of_ble_eq_true rfl) rfl ha hst call (callk_j k)
theorem tX6_labelHere_25 {d2 : Nat} {a0 : Nat} {a1 : Int32} {a2 : Int64} {Q : Int32 → AH → Prop} (hd : d2 + 1 ≤ d) (call : RQ G mX1_find d2 0 [some (.ref a0), some (.int a1), some (.long a2), none, none] [] h (Ri Q)) (k : ∀ x h1, Q x h1 → RQ G mX6_labelHere d 28 [x0, x1] (.int x :: S) h1 P) (hst : (S.map fun v => v.category).sum ≤ 8 := by exact Nat.le_of_ble_eq_true rfl)  : RQ G mX6_labelHere d 25 [x0, x1] (.long a2 :: .int a1 :: .ref a0 :: S) h P := q_callS (M := mX6_labelHere) (pc := 25) (M2 := mX1_find) (As := [.ref a0, .int a1, .long a2]) (n := 3) dX6_labelHere_25 ⟨by decide, by decide, by decide, rfl⟩ rfl w1102 w1044 w45 w1045 hd (by decide) (Nat.le_of_ble_eq_true rfl) rfl hst call (callk_i k)
theorem tX6_labelHere_28 {v : Int32} (ho : ok1 x0 = true := by rfl) (r : RQ G mX6_labelHere d 29 [x0, some (.int v)] (S) (h) P) : RQ G mX6_labelHere d 28 [x0, x1] (.int v :: S) h P := q_istore_n (M := mX6_labelHere) (pc := 28) dX6_labelHere_28 rfl (Nat.le_of_ble_eq_true rfl) ho r
theorem tX6_labelHere_29 {v : Int32} (r : RQ G mX6_labelHere d 30 [x0, some (.int v)] (.int v :: S) (h) P) : RQ G mX6_labelHere d 29 [x0, some (.int v)] (S) h P := q_iload_n (M := mX6_labelHere) (pc := 29) dX6_labelHere_29 rfl rfl r
theorem tX6_labelHere_30 (r : RQ G mX6_labelHere d 31 [x0, x1] (.int (-1) :: S) (h) P) : RQ G mX6_labelHere d 30 [x0, x1] (S) h P := q_iconst (M := mX6_labelHere) (pc := 30) dX6_labelHere_30 (by decide) r
theorem tX6_labelHere_31 {x y : Int32} (kt : ¬ x = y → RQ G mX6_labelHere d 39 [x0, x1] S h P) (kf : x = y → RQ G mX6_labelHere d 34 [x0, x1] S h P) : RQ G mX6_labelHere d 31 [x0, x1] (.int y :: .int x :: S) h P := q_icmp_ne (M := mX6_labelHere) (pc := 31) dX6_labelHere_31 (by decide) kt kf
theorem tX6_labelHere_34 {k : Nat} (r : RQ G mX6_labelHere d 35 [some (.ref k), x1] (.ref k :: S) (h) P) : RQ G mX6_labelHere d 34 [some (.ref k), x1] (S) h P := q_aload_n (M := mX6_labelHere) (pc := 34) (r0 := some k) dX6_labelHere_34 rfl rfl r
theorem tX6_labelHere_35 (r : RQ G mX6_labelHere d 36 [x0, x1] (.int (nI 3) :: S) (h) P) : RQ G mX6_labelHere d 35 [x0, x1] (S) h P := q_iconst (M := mX6_labelHere) (pc := 35) dX6_labelHere_35 (by decide) r
theorem tX6_labelHere_36 {b d2 : Nat} {vs : List Value} {a0 : Int32} {Q : AH → Prop} (hd : d2 + 1 ≤ d) (ha : At h b (.inr (4, vs))) (call : RQ G mX6_report d2 0 [some (.ref b), some (.int a0)] [] h (Rv Q)) (k : ∀ h1, Q h1 → RQ G mX6_labelHere d 39 [x0, x1] S h1 P) (hst : (S.map fun v => v.category).sum ≤ 8 := by exact Nat.le_of_ble_eq_true rfl)  : RQ G mX6_labelHere d 36 [x0, x1] (.int a0 :: .ref b :: S) h P := q_callV (M := mX6_labelHere) (pc := 36) (M2 := mX6_report) (As := [.int a0]) (n := 1) dX6_labelHere_36 rfl ⟨by decide, by decide, by decide, rfl⟩ rfl w1046 w1048 w24 w43 w1049 (show CL[4]? = some (RX6, TX6, 7) from rfl) hd (by decide) (Nat.le_of_ble_eq_true rfl) rfl ha hst call (callk_v k)
theorem tX6_labelHere_39 {v : Int32} (r : RQ G mX6_labelHere d 40 [x0, some (.int v)] (.int v :: S) (h) P) : RQ G mX6_labelHere d 39 [x0, some (.int v)] (S) h P := q_iload_n (M := mX6_labelHere) (pc := 39) dX6_labelHere_39 rfl rfl r
theorem tX6_labelHere_40 {x : Int32} (hP : P (.inl (some (.int x))) h) : RQ G mX6_labelHere d 40 [x0, x1] ([.int x]) h P := q_ireturn (M := mX6_labelHere) (pc := 40) (ty := .int) dX6_labelHere_40 rfl rfl hP
end T
theorem dX6_jarHere_0 : decode cX6_jarHere 0 = .ok (.aload_n 0, 1) := by decide +kernel
theorem dX6_jarHere_1 : decode cX6_jarHere 1 = .ok (.getfield 21, 3) := by decide +kernel
theorem dX6_jarHere_4 : decode cX6_jarHere 4 = .ok (.getfield 312, 3) := by decide +kernel
theorem dX6_jarHere_7 : decode cX6_jarHere 7 = .ok (.aload_n 0, 1) := by decide +kernel
theorem dX6_jarHere_8 : decode cX6_jarHere 8 = .ok (.getfield 21, 3) := by decide +kernel
theorem dX6_jarHere_11 : decode cX6_jarHere 11 = .ok (.getfield 102, 3) := by decide +kernel
theorem dX6_jarHere_14 : decode cX6_jarHere 14 = .ok (.aload_n 0, 1) := by decide +kernel
theorem dX6_jarHere_15 : decode cX6_jarHere 15 = .ok (.getfield 12, 3) := by decide +kernel
theorem dX6_jarHere_18 : decode cX6_jarHere 18 = .ok (.aload_n 0, 1) := by decide +kernel
theorem dX6_jarHere_19 : decode cX6_jarHere 19 = .ok (.getfield 48, 3) := by decide +kernel
theorem dX6_jarHere_22 : decode cX6_jarHere 22 = .ok (.invokevirtual 91, 3) := by decide +kernel
theorem dX6_jarHere_25 : decode cX6_jarHere 25 = .ok (.invokestatic 308, 3) := by decide +kernel
theorem dX6_jarHere_28 : decode cX6_jarHere 28 = .ok (.istore_n 1, 1) := by decide +kernel
theorem dX6_jarHere_29 : decode cX6_jarHere 29 = .ok (.iload_n 1, 1) := by decide +kernel
theorem dX6_jarHere_30 : decode cX6_jarHere 30 = .ok (.iconst (-1), 1) := by decide +kernel
theorem dX6_jarHere_31 : decode cX6_jarHere 31 = .ok (.if_icmp .ne 8, 3) := by decide +kernel
theorem dX6_jarHere_34 : decode cX6_jarHere 34 = .ok (.aload_n 0, 1) := by decide +kernel
theorem dX6_jarHere_35 : decode cX6_jarHere 35 = .ok (.iconst 3, 1) := by decide +kernel
theorem dX6_jarHere_36 : decode cX6_jarHere 36 = .ok (.invokevirtual 111, 3) := by decide +kernel
theorem dX6_jarHere_39 : decode cX6_jarHere 39 = .ok (.iload_n 1, 1) := by decide +kernel
theorem dX6_jarHere_40 : decode cX6_jarHere 40 = .ok (.ireturn, 1) := by decide +kernel
section T
variable {G : GT} {d : Nat} {S : List Value} {h : AH} {P : OC → AH → Prop} {x0 x1 x2 x3 x4 x5 x6 x7 x8 x9 x10 x11 x12 x13 x14 x15 : Option Value}
theorem tX6_jarHere_0 {k : Nat} (r : RQ G mX6_jarHere d 1 [some (.ref k), x1] (.ref k :: S) (h) P) : RQ G mX6_jarHere d 0 [some (.ref k), x1] (S) h P := q_aload_n (M := mX6_jarHere) (pc := 0) (r0 := some k) dX6_jarHere_0 rfl rfl r
theorem tX6_jarHere_1 {i : Nat} {vs : List Value} {v : Value} (ha : At h i (.inr (4, vs))) (hv : vs[1]? = some v) (r : RQ G mX6_jarHere d 4 [x0, x1] (v :: S) (h) P) : RQ G mX6_jarHere d 1 [x0, x1] (.ref i :: S) h P := q_get (M := mX6_jarHere) (pc := 1) (kf := 1) dX6_jarHere_1 (show CL[4]? = some (RX6, TX6, 7) from rfl) inA6 (by decide) rfl w319 ha hv r
theorem tX6_jarHere_4 {i : Nat} {vs : List Value} {v : Value} (ha : At h i (.inr (0, vs))) (hv : vs[1]? = some v) (r : RQ G mX6_jarHere d 7 [x0, x1] (v :: S) (h) P) : RQ G mX6_jarHere d 4 [x0, x1] (.ref i :: S) h P := q_getN (M := mX6_jarHere) (pc := 4) (kf := 1) dX6_jarHere_4 (show CL[0]? = some (RX1, TX1, 11) from rfl) inA1 (by decide) rfl v267 ha hv r
theorem tX6_jarHere_7 {k : Nat} (r : RQ G mX6_jarHere d 8 [some (.ref k), x1] (.ref k :: S) (h) P) : RQ G mX6_jarHere d 7 [some (.ref k), x1] (S) h P := q_aload_n (M := mX6_jarHere) (pc := 7) (r0 := some k) dX6_jarHere_7 rfl rfl r
theorem tX6_jarHere_8 {i : Nat} {vs : List Value} {v : Value} (ha : At h i (.inr (4, vs))) (hv : vs[1]? = some v) (r : RQ G mX6_jarHere d 11 [x0, x1] (v :: S) (h) P) : RQ G mX6_jarHere d 8 [x0, x1] (.ref i :: S) h P := q_get (M := mX6_jarHere) (pc := 8) (kf := 1) dX6_jarHere_8 (show CL[4]? = some (RX6, TX6, 7) from rfl) inA6 (by decide) rfl w319 ha hv r
theorem tX6_jarHere_11 {i : Nat} {vs : List Value} {v : Value} (ha : At h i (.inr (0, vs))) (hv : vs[9]? = some v) (r : RQ G mX6_jarHere d 14 [x0, x1] (v :: S) (h) P) : RQ G mX6_jarHere d 11 [x0, x1] (.ref i :: S) h P := q_getN (M := mX6_jarHere) (pc := 11) (kf := 9) dX6_jarHere_11 (show CL[0]? = some (RX1, TX1, 11) from rfl) inA1 (by decide) rfl v287 ha hv r
theorem tX6_jarHere_14 {k : Nat} (r : RQ G mX6_jarHere d 15 [some (.ref k), x1] (.ref k :: S) (h) P) : RQ G mX6_jarHere d 14 [some (.ref k), x1] (S) h P := q_aload_n (M := mX6_jarHere) (pc := 14) (r0 := some k) dX6_jarHere_14 rfl rfl r
theorem tX6_jarHere_15 {i : Nat} {vs : List Value} {v : Value} (ha : At h i (.inr (4, vs))) (hv : vs[0]? = some v) (r : RQ G mX6_jarHere d 18 [x0, x1] (v :: S) (h) P) : RQ G mX6_jarHere d 15 [x0, x1] (.ref i :: S) h P := q_get (M := mX6_jarHere) (pc := 15) (kf := 0) dX6_jarHere_15 (show CL[4]? = some (RX6, TX6, 7) from rfl) inA6 (by decide) rfl w318 ha hv r
theorem tX6_jarHere_18 {k : Nat} (r : RQ G mX6_jarHere d 19 [some (.ref k), x1] (.ref k :: S) (h) P) : RQ G mX6_jarHere d 18 [some (.ref k), x1] (S) h P := q_aload_n (M := mX6_jarHere) (pc := 18) (r0 := some k) dX6_jarHere_18 rfl rfl r
theorem tX6_jarHere_19 {i : Nat} {vs : List Value} {v : Value} (ha : At h i (.inr (4, vs))) (hv : vs[2]? = some v) (r : RQ G mX6_jarHere d 22 [x0, x1] (v :: S) (h) P) : RQ G mX6_jarHere d 19 [x0, x1] (.ref i :: S) h P := q_get (M := mX6_jarHere) (pc := 19) (kf := 2) dX6_jarHere_19 (show CL[4]? = some (RX6, TX6, 7) from rfl) inA6 (by decide) rfl w320 ha hv r
theorem tX6_jarHere_22 {b d2 : Nat} {vs : List Value} {a0 : Int32} {Q : Int64 → AH → Prop} (hd : d2 + 1 ≤ d) (ha : At h b (.inr (7, vs))) (call : RQ G mX9_valueAt d2 0 [some (.ref b), some (.int a0)] [] h (Rj Q)) (k : ∀ x h1, Q x h1 → RQ G mX6_jarHere d 25 [x0, x1] (.long x :: S) h1 P) (hst : (S.map fun v => v.category).sum ≤ 8 := by exact Nat.le_of_ble_eq_true rfl)  : RQ G mX6_jarHere d 22 [x0, x1] (.int a0 :: .ref b :: S) h P := q_callV (M := mX6_jarHere) (pc := 22) (M2 := mX9_valueAt) (As := [.int a0]) (n := 1) dX6_jarHere_22 rfl ⟨by decide, by decide, by decide, rfl⟩ rfl w1035 w1036 w1037 w44 w1038 (show CL[7]? = some (RX9, TX9, 4) from rfl) hd (by decide) (Nat.le_of_ble_eq_true rfl) rfl ha hst call (callk_j k)
theorem tX6_jarHere_25 {d2 : Nat} {a0 : Nat} {a1 : Int32} {a2 : Int64} {Q : Int32 → AH → Prop} (hd : d2 + 1 ≤ d) (call : RQ G mX1_find d2 0 [some (.ref a0), some (.int a1), some (.long a2), none, none] [] h (Ri Q)) (k : ∀ x h1, Q x h1 → RQ G mX6_jarHere d 28 [x0, x1] (.int x :: S) h1 P) (hst : (S.map fun v => v.category).sum ≤ 8 := by exact Nat.le_of_ble_eq_true rfl)  : RQ G mX6_jarHere d 25 [x0, x1] (.long a2 :: .int a1 :: .ref a0 :: S) h P := q_callS (M := mX6_jarHere) (pc := 25) (M2 := mX1_find) (As := [.ref a0, .int a1, .long a2]) (n := 3) dX6_jarHere_25 ⟨by decide, by decide, by decide, rfl⟩ rfl w1102 w1044 w45 w1045 hd (by decide) (Nat.le_of_ble_eq_true rfl) rfl hst call (callk_i k)
theorem tX6_jarHere_28 {v : Int32} (ho : ok1 x0 = true := by rfl) (r : RQ G mX6_jarHere d 29 [x0, some (.int v)] (S) (h) P) : RQ G mX6_jarHere d 28 [x0, x1] (.int v :: S) h P := q_istore_n (M := mX6_jarHere) (pc := 28) dX6_jarHere_28 rfl (Nat.le_of_ble_eq_true rfl) ho r
theorem tX6_jarHere_29 {v : Int32} (r : RQ G mX6_jarHere d 30 [x0, some (.int v)] (.int v :: S) (h) P) : RQ G mX6_jarHere d 29 [x0, some (.int v)] (S) h P := q_iload_n (M := mX6_jarHere) (pc := 29) dX6_jarHere_29 rfl rfl r
theorem tX6_jarHere_30 (r : RQ G mX6_jarHere d 31 [x0, x1] (.int (-1) :: S) (h) P) : RQ G mX6_jarHere d 30 [x0, x1] (S) h P := q_iconst (M := mX6_jarHere) (pc := 30) dX6_jarHere_30 (by decide) r
theorem tX6_jarHere_31 {x y : Int32} (kt : ¬ x = y → RQ G mX6_jarHere d 39 [x0, x1] S h P) (kf : x = y → RQ G mX6_jarHere d 34 [x0, x1] S h P) : RQ G mX6_jarHere d 31 [x0, x1] (.int y :: .int x :: S) h P := q_icmp_ne (M := mX6_jarHere) (pc := 31) dX6_jarHere_31 (by decide) kt kf
theorem tX6_jarHere_34 {k : Nat} (r : RQ G mX6_jarHere d 35 [some (.ref k), x1] (.ref k :: S) (h) P) : RQ G mX6_jarHere d 34 [some (.ref k), x1] (S) h P := q_aload_n (M := mX6_jarHere) (pc := 34) (r0 := some k) dX6_jarHere_34 rfl rfl r
theorem tX6_jarHere_35 (r : RQ G mX6_jarHere d 36 [x0, x1] (.int (nI 3) :: S) (h) P) : RQ G mX6_jarHere d 35 [x0, x1] (S) h P := q_iconst (M := mX6_jarHere) (pc := 35) dX6_jarHere_35 (by decide) r
theorem tX6_jarHere_36 {b d2 : Nat} {vs : List Value} {a0 : Int32} {Q : AH → Prop} (hd : d2 + 1 ≤ d) (ha : At h b (.inr (4, vs))) (call : RQ G mX6_report d2 0 [some (.ref b), some (.int a0)] [] h (Rv Q)) (k : ∀ h1, Q h1 → RQ G mX6_jarHere d 39 [x0, x1] S h1 P) (hst : (S.map fun v => v.category).sum ≤ 8 := by exact Nat.le_of_ble_eq_true rfl)  : RQ G mX6_jarHere d 36 [x0, x1] (.int a0 :: .ref b :: S) h P := q_callV (M := mX6_jarHere) (pc := 36) (M2 := mX6_report) (As := [.int a0]) (n := 1) dX6_jarHere_36 rfl ⟨by decide, by decide, by decide, rfl⟩ rfl w1046 w1048 w24 w43 w1049 (show CL[4]? = some (RX6, TX6, 7) from rfl) hd (by decide) (Nat.le_of_ble_eq_true rfl) rfl ha hst call (callk_v k)
theorem tX6_jarHere_39 {v : Int32} (r : RQ G mX6_jarHere d 40 [x0, some (.int v)] (.int v :: S) (h) P) : RQ G mX6_jarHere d 39 [x0, some (.int v)] (S) h P := q_iload_n (M := mX6_jarHere) (pc := 39) dX6_jarHere_39 rfl rfl r
theorem tX6_jarHere_40 {x : Int32} (hP : P (.inl (some (.int x))) h) : RQ G mX6_jarHere d 40 [x0, x1] ([.int x]) h P := q_ireturn (M := mX6_jarHere) (pc := 40) (ty := .int) dX6_jarHere_40 rfl rfl hP
end T
theorem dX6_step_0 : decode cX6_step 0 = .ok (.aload_n 0, 1) := by decide +kernel
theorem dX6_step_1 : decode cX6_step 1 = .ok (.getfield 45, 3) := by decide +kernel
theorem dX6_step_4 : decode cX6_step 4 = .ok (.ifCond .ne 15, 3) := by decide +kernel
theorem dX6_step_7 : decode cX6_step 7 = .ok (.aload_n 0, 1) := by decide +kernel
theorem dX6_step_8 : decode cX6_step 8 = .ok (.getfield 21, 3) := by decide +kernel
theorem dX6_step_11 : decode cX6_step 11 = .ok (.getfield 176, 3) := by decide +kernel
theorem dX6_step_14 : decode cX6_step 14 = .ok (.aload_n 1, 1) := by decide +kernel
theorem dX6_step_15 : decode cX6_step 15 = .ok (.iload_n 2, 1) := by decide +kernel
theorem dX6_step_16 : decode cX6_step 16 = .ok (.invokevirtual 315, 3) := by decide +kernel
theorem dX6_step_19 : decode cX6_step 19 = .ok (.return_, 1) := by decide +kernel
section T
variable {G : GT} {d : Nat} {S : List Value} {h : AH} {P : OC → AH → Prop} {x0 x1 x2 x3 x4 x5 x6 x7 x8 x9 x10 x11 x12 x13 x14 x15 : Option Value}
theorem tX6_step_0 {k : Nat} (r : RQ G mX6_step d 1 [some (.ref k), x1, x2] (.ref k :: S) (h) P) : RQ G mX6_step d 0 [some (.ref k), x1, x2] (S) h P := q_aload_n (M := mX6_step) (pc := 0) (r0 := some k) dX6_step_0 rfl rfl r
theorem tX6_step_1 {i : Nat} {vs : List Value} {v : Value} (ha : At h i (.inr (4, vs))) (hv : vs[4]? = some v) (r : RQ G mX6_step d 4 [x0, x1, x2] (v :: S) (h) P) : RQ G mX6_step d 1 [x0, x1, x2] (.ref i :: S) h P := q_get (M := mX6_step) (pc := 1) (kf := 4) dX6_step_1 (show CL[4]? = some (RX6, TX6, 7) from rfl) inA6 (by decide) rfl w322 ha hv r
theorem tX6_step_4 {x : Int32} (kt : ¬ x = 0 → RQ G mX6_step d 19 [x0, x1, x2] S h P) (kf : x = 0 → RQ G mX6_step d 7 [x0, x1, x2] S h P) : RQ G mX6_step d 4 [x0, x1, x2] (.int x :: S) h P := q_if_ne (M := mX6_step) (pc := 4) dX6_step_4 (by decide) kt kf
theorem tX6_step_7 {k : Nat} (r : RQ G mX6_step d 8 [some (.ref k), x1, x2] (.ref k :: S) (h) P) : RQ G mX6_step d 7 [some (.ref k), x1, x2] (S) h P := q_aload_n (M := mX6_step) (pc := 7) (r0 := some k) dX6_step_7 rfl rfl r
theorem tX6_step_8 {i : Nat} {vs : List Value} {v : Value} (ha : At h i (.inr (4, vs))) (hv : vs[1]? = some v) (r : RQ G mX6_step d 11 [x0, x1, x2] (v :: S) (h) P) : RQ G mX6_step d 8 [x0, x1, x2] (.ref i :: S) h P := q_get (M := mX6_step) (pc := 8) (kf := 1) dX6_step_8 (show CL[4]? = some (RX6, TX6, 7) from rfl) inA6 (by decide) rfl w319 ha hv r
theorem tX6_step_11 {i : Nat} {vs : List Value} {v : Value} (ha : At h i (.inr (0, vs))) (hv : vs[7]? = some v) (r : RQ G mX6_step d 14 [x0, x1, x2] (v :: S) (h) P) : RQ G mX6_step d 11 [x0, x1, x2] (.ref i :: S) h P := q_getN (M := mX6_step) (pc := 11) (kf := 7) dX6_step_11 (show CL[0]? = some (RX1, TX1, 11) from rfl) inA1 (by decide) rfl v281 ha hv r
theorem tX6_step_14 {k : Nat} (r : RQ G mX6_step d 15 [x0, some (.ref k), x2] (.ref k :: S) (h) P) : RQ G mX6_step d 14 [x0, some (.ref k), x2] (S) h P := q_aload_n (M := mX6_step) (pc := 14) (r0 := some k) dX6_step_14 rfl rfl r
theorem tX6_step_15 {v : Int32} (r : RQ G mX6_step d 16 [x0, x1, some (.int v)] (.int v :: S) (h) P) : RQ G mX6_step d 15 [x0, x1, some (.int v)] (S) h P := q_iload_n (M := mX6_step) (pc := 15) dX6_step_15 rfl rfl r
theorem tX6_step_16 {b d2 : Nat} {vs : List Value} {a0 : Nat} {a1 : Int32} {Q : AH → Prop} (hd : d2 + 1 ≤ d) (ha : At h b (.inr (5, vs))) (call : RQ G mX7_add d2 0 [some (.ref b), some (.ref a0), some (.int a1)] [] h (Rv Q)) (k : ∀ h1, Q h1 → RQ G mX6_step d 19 [x0, x1, x2] S h1 P) (hst : (S.map fun v => v.category).sum ≤ 8 := by exact Nat.le_of_ble_eq_true rfl)  : RQ G mX6_step d 16 [x0, x1, x2] (.int a1 :: .ref a0 :: .ref b :: S) h P := q_callV (M := mX6_step) (pc := 16) (M2 := mX7_add) (As := [.ref a0, .int a1]) (n := 2) dX6_step_16 rfl ⟨by decide, by decide, by decide, rfl⟩ rfl w1157 w1158 w1159 w50 w1160 (show CL[5]? = some (RX7, TX7, 8) from rfl) hd (by decide) (Nat.le_of_ble_eq_true rfl) rfl ha hst call (callk_v k)
theorem tX6_step_19 (hP : P (.inl none) h) : RQ G mX6_step d 19 [x0, x1, x2] ([]) h P := q_return (M := mX6_step) (pc := 19) dX6_step_19 rfl hP
end T
theorem dX6_take_0 : decode cX6_take 0 = .ok (.aload_n 0, 1) := by decide +kernel
theorem dX6_take_1 : decode cX6_take 1 = .ok (.getfield 45, 3) := by decide +kernel
theorem dX6_take_4 : decode cX6_take 4 = .ok (.iconst 1, 1) := by decide +kernel
theorem dX6_take_5 : decode cX6_take 5 = .ok (.if_icmp .ne 4, 3) := by decide +kernel
theorem dX6_take_8 : decode cX6_take 8 = .ok (.return_, 1) := by decide +kernel
theorem dX6_take_9 : decode cX6_take 9 = .ok (.aload_n 0, 1) := by decide +kernel
theorem dX6_take_10 : decode cX6_take 10 = .ok (.getfield 31, 3) := by decide +kernel
theorem dX6_take_13 : decode cX6_take 13 = .ok (.aload_n 1, 1) := by decide +kernel
theorem dX6_take_14 : decode cX6_take 14 = .ok (.if_acmp .ne 31, 3) := by decide +kernel
theorem dX6_take_17 : decode cX6_take 17 = .ok (.aload_n 0, 1) := by decide +kernel
theorem dX6_take_18 : decode cX6_take 18 = .ok (.dup, 1) := by decide +kernel
theorem dX6_take_19 : decode cX6_take 19 = .ok (.getfield 48, 3) := by decide +kernel
theorem dX6_take_22 : decode cX6_take 22 = .ok (.iconst 1, 1) := by decide +kernel
theorem dX6_take_23 : decode cX6_take 23 = .ok (.iadd, 1) := by decide +kernel
theorem dX6_take_24 : decode cX6_take 24 = .ok (.putfield 48, 3) := by decide +kernel
theorem dX6_take_27 : decode cX6_take 27 = .ok (.aload_n 0, 1) := by decide +kernel
theorem dX6_take_28 : decode cX6_take 28 = .ok (.aload_n 0, 1) := by decide +kernel
theorem dX6_take_29 : decode cX6_take 29 = .ok (.getfield 12, 3) := by decide +kernel
theorem dX6_take_32 : decode cX6_take 32 = .ok (.aload_n 0, 1) := by decide +kernel
theorem dX6_take_33 : decode cX6_take 33 = .ok (.getfield 48, 3) := by decide +kernel
theorem dX6_take_36 : decode cX6_take 36 = .ok (.invokevirtual 51, 3) := by decide +kernel
theorem dX6_take_39 : decode cX6_take 39 = .ok (.putfield 31, 3) := by decide +kernel
theorem dX6_take_42 : decode cX6_take 42 = .ok (.goto 23, 3) := by decide +kernel
theorem dX6_take_45 : decode cX6_take 45 = .ok (.aload_n 0, 1) := by decide +kernel
theorem dX6_take_46 : decode cX6_take 46 = .ok (.iconst 1, 1) := by decide +kernel
theorem dX6_take_47 : decode cX6_take 47 = .ok (.putfield 45, 3) := by decide +kernel
theorem dX6_take_50 : decode cX6_take 50 = .ok (.aload_n 0, 1) := by decide +kernel
theorem dX6_take_51 : decode cX6_take 51 = .ok (.aload_n 0, 1) := by decide +kernel
theorem dX6_take_52 : decode cX6_take 52 = .ok (.getfield 48, 3) := by decide +kernel
theorem dX6_take_55 : decode cX6_take 55 = .ok (.putfield 77, 3) := by decide +kernel
theorem dX6_take_58 : decode cX6_take 58 = .ok (.aload_n 0, 1) := by decide +kernel
theorem dX6_take_59 : decode cX6_take 59 = .ok (.getstatic 318, 3) := by decide +kernel
theorem dX6_take_62 : decode cX6_take 62 = .ok (.putfield 31, 3) := by decide +kernel
theorem dX6_take_65 : decode cX6_take 65 = .ok (.return_, 1) := by decide +kernel
section T
variable {G : GT} {d : Nat} {S : List Value} {h : AH} {P : OC → AH → Prop} {x0 x1 x2 x3 x4 x5 x6 x7 x8 x9 x10 x11 x12 x13 x14 x15 : Option Value}
theorem tX6_take_0 {k : Nat} (r : RQ G mX6_take d 1 [some (.ref k), x1] (.ref k :: S) (h) P) : RQ G mX6_take d 0 [some (.ref k), x1] (S) h P := q_aload_n (M := mX6_take) (pc := 0) (r0 := some k) dX6_take_0 rfl rfl r
theorem tX6_take_1 {i : Nat} {vs : List Value} {v : Value} (ha : At h i (.inr (4, vs))) (hv : vs[4]? = some v) (r : RQ G mX6_take d 4 [x0, x1] (v :: S) (h) P) : RQ G mX6_take d 1 [x0, x1] (.ref i :: S) h P := q_get (M := mX6_take) (pc := 1) (kf := 4) dX6_take_1 (show CL[4]? = some (RX6, TX6, 7) from rfl) inA6 (by decide) rfl w322 ha hv r
theorem tX6_take_4 (r : RQ G mX6_take d 5 [x0, x1] (.int (nI 1) :: S) (h) P) : RQ G mX6_take d 4 [x0, x1] (S) h P := q_iconst (M := mX6_take) (pc := 4) dX6_take_4 (by decide) r
theorem tX6_take_5 {x y : Int32} (kt : ¬ x = y → RQ G mX6_take d 9 [x0, x1] S h P) (kf : x = y → RQ G mX6_take d 8 [x0, x1] S h P) : RQ G mX6_take d 5 [x0, x1] (.int y :: .int x :: S) h P := q_icmp_ne (M := mX6_take) (pc := 5) dX6_take_5 (by decide) kt kf
theorem tX6_take_8 (hP : P (.inl none) h) : RQ G mX6_take d 8 [x0, x1] ([]) h P := q_return (M := mX6_take) (pc := 8) dX6_take_8 rfl hP
theorem tX6_take_9 {k : Nat} (r : RQ G mX6_take d 10 [some (.ref k), x1] (.ref k :: S) (h) P) : RQ G mX6_take d 9 [some (.ref k), x1] (S) h P := q_aload_n (M := mX6_take) (pc := 9) (r0 := some k) dX6_take_9 rfl rfl r
theorem tX6_take_10 {i : Nat} {vs : List Value} {v : Value} (ha : At h i (.inr (4, vs))) (hv : vs[3]? = some v) (r : RQ G mX6_take d 13 [x0, x1] (v :: S) (h) P) : RQ G mX6_take d 10 [x0, x1] (.ref i :: S) h P := q_get (M := mX6_take) (pc := 10) (kf := 3) dX6_take_10 (show CL[4]? = some (RX6, TX6, 7) from rfl) inA6 (by decide) rfl w321 ha hv r
theorem tX6_take_13 {k : Nat} (r : RQ G mX6_take d 14 [x0, some (.ref k)] (.ref k :: S) (h) P) : RQ G mX6_take d 13 [x0, some (.ref k)] (S) h P := q_aload_n (M := mX6_take) (pc := 13) (r0 := some k) dX6_take_13 rfl rfl r
theorem tX6_take_14 {i j : Nat} (hi : i < 43) (hj : j < 43) (kt : ¬ i = j → RQ G mX6_take d 45 [x0, x1] S h P) (kf : i = j → RQ G mX6_take d 17 [x0, x1] S h P) : RQ G mX6_take d 14 [x0, x1] (.ref (OLD + j) :: .ref (OLD + i) :: S) h P := q_acmp_ne (M := mX6_take) (pc := 14) dX6_take_14 (by decide) hi hj kt kf
theorem tX6_take_17 {k : Nat} (r : RQ G mX6_take d 18 [some (.ref k), x1] (.ref k :: S) (h) P) : RQ G mX6_take d 17 [some (.ref k), x1] (S) h P := q_aload_n (M := mX6_take) (pc := 17) (r0 := some k) dX6_take_17 rfl rfl r
theorem tX6_take_18 {v : Value} (hv : ok1 (some v) = true := by rfl) (r : RQ G mX6_take d 19 [x0, x1] (v :: v :: S) (h) P) : RQ G mX6_take d 18 [x0, x1] (v :: S) h P := q_dup (M := mX6_take) (pc := 18) dX6_take_18 hv r
theorem tX6_take_19 {i : Nat} {vs : List Value} {v : Value} (ha : At h i (.inr (4, vs))) (hv : vs[2]? = some v) (r : RQ G mX6_take d 22 [x0, x1] (v :: S) (h) P) : RQ G mX6_take d 19 [x0, x1] (.ref i :: S) h P := q_get (M := mX6_take) (pc := 19) (kf := 2) dX6_take_19 (show CL[4]? = some (RX6, TX6, 7) from rfl) inA6 (by decide) rfl w320 ha hv r
theorem tX6_take_22 (r : RQ G mX6_take d 23 [x0, x1] (.int (nI 1) :: S) (h) P) : RQ G mX6_take d 22 [x0, x1] (S) h P := q_iconst (M := mX6_take) (pc := 22) dX6_take_22 (by decide) r
theorem tX6_take_23 {x y : Int32} (r : RQ G mX6_take d 24 [x0, x1] (.int (x + y) :: S) (h) P) : RQ G mX6_take d 23 [x0, x1] (.int y :: .int x :: S) h P := q_iadd (M := mX6_take) (pc := 23) dX6_take_23 r
theorem tX6_take_24 {i : Nat} {vs : List Value} {v : Int32} (ha : At h i (.inr (4, vs))) (hlen : vs.length = 7) (r : RQ G mX6_take d 27 [x0, x1] (S) (hset h i (.inr (4, vs.set 2 (.int v)))) P) : RQ G mX6_take d 24 [x0, x1] (.int v :: .ref i :: S) h P := q_put (M := mX6_take) (pc := 24) (kf := 2) (host := "") dX6_take_24 (show CL[4]? = some (RX6, TX6, 7) from rfl) inA6 tyX6_ok nmX6 (by decide) rfl w320 rfl (tyX6_ok 2 (by decide)) (nfit_int v) (by rw [hlen]; decide) ha r
theorem tX6_take_27 {k : Nat} (r : RQ G mX6_take d 28 [some (.ref k), x1] (.ref k :: S) (h) P) : RQ G mX6_take d 27 [some (.ref k), x1] (S) h P := q_aload_n (M := mX6_take) (pc := 27) (r0 := some k) dX6_take_27 rfl rfl r
theorem tX6_take_28 {k : Nat} (r : RQ G mX6_take d 29 [some (.ref k), x1] (.ref k :: S) (h) P) : RQ G mX6_take d 28 [some (.ref k), x1] (S) h P := q_aload_n (M := mX6_take) (pc := 28) (r0 := some k) dX6_take_28 rfl rfl r
theorem tX6_take_29 {i : Nat} {vs : List Value} {v : Value} (ha : At h i (.inr (4, vs))) (hv : vs[0]? = some v) (r : RQ G mX6_take d 32 [x0, x1] (v :: S) (h) P) : RQ G mX6_take d 29 [x0, x1] (.ref i :: S) h P := q_get (M := mX6_take) (pc := 29) (kf := 0) dX6_take_29 (show CL[4]? = some (RX6, TX6, 7) from rfl) inA6 (by decide) rfl w318 ha hv r
theorem tX6_take_32 {k : Nat} (r : RQ G mX6_take d 33 [some (.ref k), x1] (.ref k :: S) (h) P) : RQ G mX6_take d 32 [some (.ref k), x1] (S) h P := q_aload_n (M := mX6_take) (pc := 32) (r0 := some k) dX6_take_32 rfl rfl r
theorem tX6_take_33 {i : Nat} {vs : List Value} {v : Value} (ha : At h i (.inr (4, vs))) (hv : vs[2]? = some v) (r : RQ G mX6_take d 36 [x0, x1] (v :: S) (h) P) : RQ G mX6_take d 33 [x0, x1] (.ref i :: S) h P := q_get (M := mX6_take) (pc := 33) (kf := 2) dX6_take_33 (show CL[4]? = some (RX6, TX6, 7) from rfl) inA6 (by decide) rfl w320 ha hv r
theorem tX6_take_36 {b d2 : Nat} {vs : List Value} {a0 : Int32} {Q : Nat → AH → Prop} (hd : d2 + 1 ≤ d) (ha : At h b (.inr (7, vs))) (call : RQ G mX9_kindAt d2 0 [some (.ref b), some (.int a0), none] [] h (Rr Q)) (k : ∀ x h1, Q x h1 → RQ G mX6_take d 39 [x0, x1] (.ref x :: S) h1 P) (hst : (S.map fun v => v.category).sum ≤ 8 := by exact Nat.le_of_ble_eq_true rfl)  : RQ G mX6_take d 36 [x0, x1] (.int a0 :: .ref b :: S) h P := q_callV (M := mX6_take) (pc := 36) (M2 := mX9_kindAt) (As := [.int a0]) (n := 1) dX6_take_36 rfl ⟨by decide, by decide, by decide, rfl⟩ rfl w1016 w1017 w1018 w44 w1019 (show CL[7]? = some (RX9, TX9, 4) from rfl) hd (by decide) (Nat.le_of_ble_eq_true rfl) rfl ha hst call (callk_r k)
theorem tX6_take_39 {i : Nat} {vs : List Value} {v : Nat} (ha : At h i (.inr (4, vs))) (hlen : vs.length = 7) (r : RQ G mX6_take d 42 [x0, x1] (S) (hset h i (.inr (4, vs.set 3 (.ref v)))) P) : RQ G mX6_take d 39 [x0, x1] (.ref v :: .ref i :: S) h P := q_put (M := mX6_take) (pc := 39) (kf := 3) (host := "") dX6_take_39 (show CL[4]? = some (RX6, TX6, 7) from rfl) inA6 tyX6_ok nmX6 (by decide) rfl w321 rfl (tyX6_ok 3 (by decide)) (nfit_obj _ v) (by rw [hlen]; decide) ha r
theorem tX6_take_42 (r : RQ G mX6_take d 65 [x0, x1] S h P) : RQ G mX6_take d 42 [x0, x1] (S) h P := q_goto (M := mX6_take) (pc := 42) dX6_take_42 (by decide) r
theorem tX6_take_45 {k : Nat} (r : RQ G mX6_take d 46 [some (.ref k), x1] (.ref k :: S) (h) P) : RQ G mX6_take d 45 [some (.ref k), x1] (S) h P := q_aload_n (M := mX6_take) (pc := 45) (r0 := some k) dX6_take_45 rfl rfl r
theorem tX6_take_46 (r : RQ G mX6_take d 47 [x0, x1] (.int (nI 1) :: S) (h) P) : RQ G mX6_take d 46 [x0, x1] (S) h P := q_iconst (M := mX6_take) (pc := 46) dX6_take_46 (by decide) r
theorem tX6_take_47 {i : Nat} {vs : List Value} {v : Int32} (ha : At h i (.inr (4, vs))) (hlen : vs.length = 7) (r : RQ G mX6_take d 50 [x0, x1] (S) (hset h i (.inr (4, vs.set 4 (.int v)))) P) : RQ G mX6_take d 47 [x0, x1] (.int v :: .ref i :: S) h P := q_put (M := mX6_take) (pc := 47) (kf := 4) (host := "") dX6_take_47 (show CL[4]? = some (RX6, TX6, 7) from rfl) inA6 tyX6_ok nmX6 (by decide) rfl w322 rfl (tyX6_ok 4 (by decide)) (nfit_int v) (by rw [hlen]; decide) ha r
theorem tX6_take_50 {k : Nat} (r : RQ G mX6_take d 51 [some (.ref k), x1] (.ref k :: S) (h) P) : RQ G mX6_take d 50 [some (.ref k), x1] (S) h P := q_aload_n (M := mX6_take) (pc := 50) (r0 := some k) dX6_take_50 rfl rfl r
theorem tX6_take_51 {k : Nat} (r : RQ G mX6_take d 52 [some (.ref k), x1] (.ref k :: S) (h) P) : RQ G mX6_take d 51 [some (.ref k), x1] (S) h P := q_aload_n (M := mX6_take) (pc := 51) (r0 := some k) dX6_take_51 rfl rfl r
theorem tX6_take_52 {i : Nat} {vs : List Value} {v : Value} (ha : At h i (.inr (4, vs))) (hv : vs[2]? = some v) (r : RQ G mX6_take d 55 [x0, x1] (v :: S) (h) P) : RQ G mX6_take d 52 [x0, x1] (.ref i :: S) h P := q_get (M := mX6_take) (pc := 52) (kf := 2) dX6_take_52 (show CL[4]? = some (RX6, TX6, 7) from rfl) inA6 (by decide) rfl w320 ha hv r
theorem tX6_take_55 {i : Nat} {vs : List Value} {v : Int32} (ha : At h i (.inr (4, vs))) (hlen : vs.length = 7) (r : RQ G mX6_take d 58 [x0, x1] (S) (hset h i (.inr (4, vs.set 5 (.int v)))) P) : RQ G mX6_take d 55 [x0, x1] (.int v :: .ref i :: S) h P := q_put (M := mX6_take) (pc := 55) (kf := 5) (host := "") dX6_take_55 (show CL[4]? = some (RX6, TX6, 7) from rfl) inA6 tyX6_ok nmX6 (by decide) rfl w323 rfl (tyX6_ok 5 (by decide)) (nfit_int v) (by rw [hlen]; decide) ha r
theorem tX6_take_58 {k : Nat} (r : RQ G mX6_take d 59 [some (.ref k), x1] (.ref k :: S) (h) P) : RQ G mX6_take d 58 [some (.ref k), x1] (S) h P := q_aload_n (M := mX6_take) (pc := 58) (r0 := some k) dX6_take_58 rfl rfl r
theorem tX6_take_59 (r : RQ G mX6_take d 62 [x0, x1] (.ref (OLD + 42) :: S) (h) P) : RQ G mX6_take d 59 [x0, x1] (S) h P := q_getE (M := mX6_take) (pc := 59) (i := 42) dX6_take_59 (by decide) w1030 r
theorem tX6_take_62 {i : Nat} {vs : List Value} {v : Nat} (ha : At h i (.inr (4, vs))) (hlen : vs.length = 7) (r : RQ G mX6_take d 65 [x0, x1] (S) (hset h i (.inr (4, vs.set 3 (.ref v)))) P) : RQ G mX6_take d 62 [x0, x1] (.ref v :: .ref i :: S) h P := q_put (M := mX6_take) (pc := 62) (kf := 3) (host := "") dX6_take_62 (show CL[4]? = some (RX6, TX6, 7) from rfl) inA6 tyX6_ok nmX6 (by decide) rfl w321 rfl (tyX6_ok 3 (by decide)) (nfit_obj _ v) (by rw [hlen]; decide) ha r
theorem tX6_take_65 (hP : P (.inl none) h) : RQ G mX6_take d 65 [x0, x1] ([]) h P := q_return (M := mX6_take) (pc := 65) dX6_take_65 rfl hP
end T
theorem dX6_report_0 : decode cX6_report 0 = .ok (.aload_n 0, 1) := by decide +kernel
theorem dX6_report_1 : decode cX6_report 1 = .ok (.getfield 45, 3) := by decide +kernel
theorem dX6_report_4 : decode cX6_report 4 = .ok (.ifCond .ne 16, 3) := by decide +kernel
theorem dX6_report_7 : decode cX6_report 7 = .ok (.aload_n 0, 1) := by decide +kernel
theorem dX6_report_8 : decode cX6_report 8 = .ok (.iload_n 1, 1) := by decide +kernel
theorem dX6_report_9 : decode cX6_report 9 = .ok (.putfield 45, 3) := by decide +kernel
theorem dX6_report_12 : decode cX6_report 12 = .ok (.aload_n 0, 1) := by decide +kernel
theorem dX6_report_13 : decode cX6_report 13 = .ok (.aload_n 0, 1) := by decide +kernel
theorem dX6_report_14 : decode cX6_report 14 = .ok (.getfield 48, 3) := by decide +kernel
theorem dX6_report_17 : decode cX6_report 17 = .ok (.putfield 77, 3) := by decide +kernel
theorem dX6_report_20 : decode cX6_report 20 = .ok (.return_, 1) := by decide +kernel
section T
variable {G : GT} {d : Nat} {S : List Value} {h : AH} {P : OC → AH → Prop} {x0 x1 x2 x3 x4 x5 x6 x7 x8 x9 x10 x11 x12 x13 x14 x15 : Option Value}
theorem tX6_report_0 {k : Nat} (r : RQ G mX6_report d 1 [some (.ref k), x1] (.ref k :: S) (h) P) : RQ G mX6_report d 0 [some (.ref k), x1] (S) h P := q_aload_n (M := mX6_report) (pc := 0) (r0 := some k) dX6_report_0 rfl rfl r
theorem tX6_report_1 {i : Nat} {vs : List Value} {v : Value} (ha : At h i (.inr (4, vs))) (hv : vs[4]? = some v) (r : RQ G mX6_report d 4 [x0, x1] (v :: S) (h) P) : RQ G mX6_report d 1 [x0, x1] (.ref i :: S) h P := q_get (M := mX6_report) (pc := 1) (kf := 4) dX6_report_1 (show CL[4]? = some (RX6, TX6, 7) from rfl) inA6 (by decide) rfl w322 ha hv r
theorem tX6_report_4 {x : Int32} (kt : ¬ x = 0 → RQ G mX6_report d 20 [x0, x1] S h P) (kf : x = 0 → RQ G mX6_report d 7 [x0, x1] S h P) : RQ G mX6_report d 4 [x0, x1] (.int x :: S) h P := q_if_ne (M := mX6_report) (pc := 4) dX6_report_4 (by decide) kt kf
theorem tX6_report_7 {k : Nat} (r : RQ G mX6_report d 8 [some (.ref k), x1] (.ref k :: S) (h) P) : RQ G mX6_report d 7 [some (.ref k), x1] (S) h P := q_aload_n (M := mX6_report) (pc := 7) (r0 := some k) dX6_report_7 rfl rfl r
theorem tX6_report_8 {v : Int32} (r : RQ G mX6_report d 9 [x0, some (.int v)] (.int v :: S) (h) P) : RQ G mX6_report d 8 [x0, some (.int v)] (S) h P := q_iload_n (M := mX6_report) (pc := 8) dX6_report_8 rfl rfl r
theorem tX6_report_9 {i : Nat} {vs : List Value} {v : Int32} (ha : At h i (.inr (4, vs))) (hlen : vs.length = 7) (r : RQ G mX6_report d 12 [x0, x1] (S) (hset h i (.inr (4, vs.set 4 (.int v)))) P) : RQ G mX6_report d 9 [x0, x1] (.int v :: .ref i :: S) h P := q_put (M := mX6_report) (pc := 9) (kf := 4) (host := "") dX6_report_9 (show CL[4]? = some (RX6, TX6, 7) from rfl) inA6 tyX6_ok nmX6 (by decide) rfl w322 rfl (tyX6_ok 4 (by decide)) (nfit_int v) (by rw [hlen]; decide) ha r
theorem tX6_report_12 {k : Nat} (r : RQ G mX6_report d 13 [some (.ref k), x1] (.ref k :: S) (h) P) : RQ G mX6_report d 12 [some (.ref k), x1] (S) h P := q_aload_n (M := mX6_report) (pc := 12) (r0 := some k) dX6_report_12 rfl rfl r
theorem tX6_report_13 {k : Nat} (r : RQ G mX6_report d 14 [some (.ref k), x1] (.ref k :: S) (h) P) : RQ G mX6_report d 13 [some (.ref k), x1] (S) h P := q_aload_n (M := mX6_report) (pc := 13) (r0 := some k) dX6_report_13 rfl rfl r
theorem tX6_report_14 {i : Nat} {vs : List Value} {v : Value} (ha : At h i (.inr (4, vs))) (hv : vs[2]? = some v) (r : RQ G mX6_report d 17 [x0, x1] (v :: S) (h) P) : RQ G mX6_report d 14 [x0, x1] (.ref i :: S) h P := q_get (M := mX6_report) (pc := 14) (kf := 2) dX6_report_14 (show CL[4]? = some (RX6, TX6, 7) from rfl) inA6 (by decide) rfl w320 ha hv r
theorem tX6_report_17 {i : Nat} {vs : List Value} {v : Int32} (ha : At h i (.inr (4, vs))) (hlen : vs.length = 7) (r : RQ G mX6_report d 20 [x0, x1] (S) (hset h i (.inr (4, vs.set 5 (.int v)))) P) : RQ G mX6_report d 17 [x0, x1] (.int v :: .ref i :: S) h P := q_put (M := mX6_report) (pc := 17) (kf := 5) (host := "") dX6_report_17 (show CL[4]? = some (RX6, TX6, 7) from rfl) inA6 tyX6_ok nmX6 (by decide) rfl w323 rfl (tyX6_ok 5 (by decide)) (nfit_int v) (by rw [hlen]; decide) ha r
theorem tX6_report_20 (hP : P (.inl none) h) : RQ G mX6_report d 20 [x0, x1] ([]) h P := q_return (M := mX6_report) (pc := 20) dX6_report_20 rfl hP
end T
