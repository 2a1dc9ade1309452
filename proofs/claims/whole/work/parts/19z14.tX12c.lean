theorem dX12_lid_0 : decode cX12_lid 0 = .ok (.aload_n 0, 1) := by decide +kernel
theorem dX12_lid_1 : decode cX12_lid 1 = .ok (.iconst 5, 1) := by decide +kernel
theorem dX12_lid_2 : decode cX12_lid 2 = .ok (.aload_n 0, 1) := by decide +kernel
theorem dX12_lid_3 : decode cX12_lid 3 = .ok (.getfield 45, 3) := by decide +kernel
theorem dX12_lid_6 : decode cX12_lid 6 = .ok (.getfield 275, 3) := by decide +kernel
theorem dX12_lid_9 : decode cX12_lid 9 = .ok (.bipush 6, 2) := by decide +kernel
theorem dX12_lid_11 : decode cX12_lid 11 = .ok (.invokevirtual 262, 3) := by decide +kernel
theorem dX12_lid_14 : decode cX12_lid 14 = .ok (.istore_n 1, 1) := by decide +kernel
theorem dX12_lid_15 : decode cX12_lid 15 = .ok (.aload_n 0, 1) := by decide +kernel
theorem dX12_lid_16 : decode cX12_lid 16 = .ok (.bipush 6, 2) := by decide +kernel
theorem dX12_lid_18 : decode cX12_lid 18 = .ok (.invokevirtual 154, 3) := by decide +kernel
theorem dX12_lid_21 : decode cX12_lid 21 = .ok (.aload_n 0, 1) := by decide +kernel
theorem dX12_lid_22 : decode cX12_lid 22 = .ok (.getfield 45, 3) := by decide +kernel
theorem dX12_lid_25 : decode cX12_lid 25 = .ok (.getfield 81, 3) := by decide +kernel
theorem dX12_lid_28 : decode cX12_lid 28 = .ok (.iload_n 1, 1) := by decide +kernel
theorem dX12_lid_29 : decode cX12_lid 29 = .ok (.aload_n 0, 1) := by decide +kernel
theorem dX12_lid_30 : decode cX12_lid 30 = .ok (.iconst 1, 1) := by decide +kernel
theorem dX12_lid_31 : decode cX12_lid 31 = .ok (.invokevirtual 195, 3) := by decide +kernel
theorem dX12_lid_34 : decode cX12_lid 34 = .ok (.iastore, 1) := by decide +kernel
theorem dX12_lid_35 : decode cX12_lid 35 = .ok (.aload_n 0, 1) := by decide +kernel
theorem dX12_lid_36 : decode cX12_lid 36 = .ok (.bipush 7, 2) := by decide +kernel
theorem dX12_lid_38 : decode cX12_lid 38 = .ok (.invokevirtual 154, 3) := by decide +kernel
theorem dX12_lid_41 : decode cX12_lid 41 = .ok (.aload_n 0, 1) := by decide +kernel
theorem dX12_lid_42 : decode cX12_lid 42 = .ok (.getfield 45, 3) := by decide +kernel
theorem dX12_lid_45 : decode cX12_lid 45 = .ok (.getfield 278, 3) := by decide +kernel
theorem dX12_lid_48 : decode cX12_lid 48 = .ok (.iload_n 1, 1) := by decide +kernel
theorem dX12_lid_49 : decode cX12_lid 49 = .ok (.aload_n 0, 1) := by decide +kernel
theorem dX12_lid_50 : decode cX12_lid 50 = .ok (.iconst 0, 1) := by decide +kernel
theorem dX12_lid_51 : decode cX12_lid 51 = .ok (.invokevirtual 195, 3) := by decide +kernel
theorem dX12_lid_54 : decode cX12_lid 54 = .ok (.iastore, 1) := by decide +kernel
theorem dX12_lid_55 : decode cX12_lid 55 = .ok (.aload_n 0, 1) := by decide +kernel
theorem dX12_lid_56 : decode cX12_lid 56 = .ok (.getfield 45, 3) := by decide +kernel
theorem dX12_lid_59 : decode cX12_lid 59 = .ok (.getfield 281, 3) := by decide +kernel
theorem dX12_lid_62 : decode cX12_lid 62 = .ok (.iload_n 1, 1) := by decide +kernel
theorem dX12_lid_63 : decode cX12_lid 63 = .ok (.aload_n 0, 1) := by decide +kernel
theorem dX12_lid_64 : decode cX12_lid 64 = .ok (.getfield 45, 3) := by decide +kernel
theorem dX12_lid_67 : decode cX12_lid 67 = .ok (.getfield 236, 3) := by decide +kernel
theorem dX12_lid_70 : decode cX12_lid 70 = .ok (.iastore, 1) := by decide +kernel
theorem dX12_lid_71 : decode cX12_lid 71 = .ok (.aload_n 0, 1) := by decide +kernel
theorem dX12_lid_72 : decode cX12_lid 72 = .ok (.bipush 8, 2) := by decide +kernel
theorem dX12_lid_74 : decode cX12_lid 74 = .ok (.invokevirtual 145, 3) := by decide +kernel
theorem dX12_lid_77 : decode cX12_lid 77 = .ok (.ifCond .eq 10, 3) := by decide +kernel
theorem dX12_lid_80 : decode cX12_lid 80 = .ok (.aload_n 0, 1) := by decide +kernel
theorem dX12_lid_81 : decode cX12_lid 81 = .ok (.invokevirtual 284, 3) := by decide +kernel
theorem dX12_lid_84 : decode cX12_lid 84 = .ok (.goto (-13), 3) := by decide +kernel
theorem dX12_lid_87 : decode cX12_lid 87 = .ok (.aload_n 0, 1) := by decide +kernel
theorem dX12_lid_88 : decode cX12_lid 88 = .ok (.getfield 45, 3) := by decide +kernel
theorem dX12_lid_91 : decode cX12_lid 91 = .ok (.getfield 287, 3) := by decide +kernel
theorem dX12_lid_94 : decode cX12_lid 94 = .ok (.iload_n 1, 1) := by decide +kernel
theorem dX12_lid_95 : decode cX12_lid 95 = .ok (.aload_n 0, 1) := by decide +kernel
theorem dX12_lid_96 : decode cX12_lid 96 = .ok (.getfield 45, 3) := by decide +kernel
theorem dX12_lid_99 : decode cX12_lid 99 = .ok (.getfield 236, 3) := by decide +kernel
theorem dX12_lid_102 : decode cX12_lid 102 = .ok (.iastore, 1) := by decide +kernel
theorem dX12_lid_103 : decode cX12_lid 103 = .ok (.aload_n 0, 1) := by decide +kernel
theorem dX12_lid_104 : decode cX12_lid 104 = .ok (.getfield 45, 3) := by decide +kernel
theorem dX12_lid_107 : decode cX12_lid 107 = .ok (.bipush 6, 2) := by decide +kernel
theorem dX12_lid_109 : decode cX12_lid 109 = .ok (.iload_n 1, 1) := by decide +kernel
theorem dX12_lid_110 : decode cX12_lid 110 = .ok (.iconst 1, 1) := by decide +kernel
theorem dX12_lid_111 : decode cX12_lid 111 = .ok (.iadd, 1) := by decide +kernel
theorem dX12_lid_112 : decode cX12_lid 112 = .ok (.invokestatic 183, 3) := by decide +kernel
theorem dX12_lid_115 : decode cX12_lid 115 = .ok (.putfield 275, 3) := by decide +kernel
theorem dX12_lid_118 : decode cX12_lid 118 = .ok (.return_, 1) := by decide +kernel
section T
variable {G : GT} {d : Nat} {S : List Value} {h : AH} {P : OC → AH → Prop} {x0 x1 x2 x3 x4 x5 x6 x7 x8 x9 x10 x11 x12 x13 x14 x15 : Option Value}
theorem tX12_lid_0 {k : Nat} (r : RQ G mX12_lid d 1 [some (.ref k), x1] (.ref k :: S) (h) P) : RQ G mX12_lid d 0 [some (.ref k), x1] (S) h P := q_aload_n (M := mX12_lid) (pc := 0) (r0 := some k) dX12_lid_0 rfl rfl r
theorem tX12_lid_1 (r : RQ G mX12_lid d 2 [x0, x1] (.int (nI 5) :: S) (h) P) : RQ G mX12_lid d 1 [x0, x1] (S) h P := q_iconst (M := mX12_lid) (pc := 1) dX12_lid_1 (by decide) r
theorem tX12_lid_2 {k : Nat} (r : RQ G mX12_lid d 3 [some (.ref k), x1] (.ref k :: S) (h) P) : RQ G mX12_lid d 2 [some (.ref k), x1] (S) h P := q_aload_n (M := mX12_lid) (pc := 2) (r0 := some k) dX12_lid_2 rfl rfl r
theorem tX12_lid_3 {i : Nat} {vs : List Value} {v : Value} (ha : At h i (.inr (10, vs))) (hv : vs[18]? = some v) (r : RQ G mX12_lid d 6 [x0, x1] (v :: S) (h) P) : RQ G mX12_lid d 3 [x0, x1] (.ref i :: S) h P := q_get (M := mX12_lid) (pc := 3) (kf := 18) dX12_lid_3 (show CL[10]? = some (RX12, TX12, 25) from rfl) inA12 (by decide) rfl w1441 ha hv r
theorem tX12_lid_6 {i : Nat} {vs : List Value} {v : Value} (ha : At h i (.inr (9, vs))) (hv : vs[5]? = some v) (r : RQ G mX12_lid d 9 [x0, x1] (v :: S) (h) P) : RQ G mX12_lid d 6 [x0, x1] (.ref i :: S) h P := q_getN (M := mX12_lid) (pc := 6) (kf := 5) dX12_lid_6 (show CL[9]? = some (RX11, TX11, 24) from rfl) inA11 (by decide) rfl v1330 ha hv r
theorem tX12_lid_9 (r : RQ G mX12_lid d 11 [x0, x1] (.int (nI 6) :: S) (h) P) : RQ G mX12_lid d 9 [x0, x1] (S) h P := q_bipush (M := mX12_lid) (pc := 9) dX12_lid_9 (by decide) r
theorem tX12_lid_11 {b d2 : Nat} {vs : List Value} {a0 : Int32} {a1 : Int32} {a2 : Int32} {Q : Int32 → AH → Prop} (hd : d2 + 1 ≤ d) (ha : At h b (.inr (10, vs))) (call : RQ G mX12_newName d2 0 [some (.ref b), some (.int a0), some (.int a1), some (.int a2)] [] h (Ri Q)) (k : ∀ x h1, Q x h1 → RQ G mX12_lid d 14 [x0, x1] (.int x :: S) h1 P) (hst : (S.map fun v => v.category).sum ≤ 8 := by exact Nat.le_of_ble_eq_true rfl)  : RQ G mX12_lid d 11 [x0, x1] (.int a2 :: .int a1 :: .int a0 :: .ref b :: S) h P := q_callV (M := mX12_lid) (pc := 11) (M2 := mX12_newName) (As := [.int a0, .int a1, .int a2]) (n := 3) dX12_lid_11 rfl ⟨by decide, by decide, by decide, rfl⟩ rfl w1575 w1577 w51 w120 w1578 (show CL[10]? = some (RX12, TX12, 25) from rfl) hd (by decide) (Nat.le_of_ble_eq_true rfl) rfl ha hst call (callk_i k)
theorem tX12_lid_14 {v : Int32} (ho : ok1 x0 = true := by rfl) (r : RQ G mX12_lid d 15 [x0, some (.int v)] (S) (h) P) : RQ G mX12_lid d 14 [x0, x1] (.int v :: S) h P := q_istore_n (M := mX12_lid) (pc := 14) dX12_lid_14 rfl (Nat.le_of_ble_eq_true rfl) ho r
theorem tX12_lid_15 {k : Nat} (r : RQ G mX12_lid d 16 [some (.ref k), x1] (.ref k :: S) (h) P) : RQ G mX12_lid d 15 [some (.ref k), x1] (S) h P := q_aload_n (M := mX12_lid) (pc := 15) (r0 := some k) dX12_lid_15 rfl rfl r
theorem tX12_lid_16 (r : RQ G mX12_lid d 18 [x0, x1] (.int (nI 6) :: S) (h) P) : RQ G mX12_lid d 16 [x0, x1] (S) h P := q_bipush (M := mX12_lid) (pc := 16) dX12_lid_16 (by decide) r
theorem tX12_lid_18 {b d2 : Nat} {vs : List Value} {a0 : Int32} {Q : AH → Prop} (hd : d2 + 1 ≤ d) (ha : At h b (.inr (10, vs))) (call : RQ G mX12_take d2 0 [some (.ref b), some (.int a0)] [] h (Rv Q)) (k : ∀ h1, Q h1 → RQ G mX12_lid d 21 [x0, x1] S h1 P) (hst : (S.map fun v => v.category).sum ≤ 8 := by exact Nat.le_of_ble_eq_true rfl)  : RQ G mX12_lid d 18 [x0, x1] (.int a0 :: .ref b :: S) h P := q_callV (M := mX12_lid) (pc := 18) (M2 := mX12_take) (As := [.int a0]) (n := 1) dX12_lid_18 rfl ⟨by decide, by decide, by decide, rfl⟩ rfl w1591 w1593 w55 w120 w1594 (show CL[10]? = some (RX12, TX12, 25) from rfl) hd (by decide) (Nat.le_of_ble_eq_true rfl) rfl ha hst call (callk_v k)
theorem tX12_lid_21 {k : Nat} (r : RQ G mX12_lid d 22 [some (.ref k), x1] (.ref k :: S) (h) P) : RQ G mX12_lid d 21 [some (.ref k), x1] (S) h P := q_aload_n (M := mX12_lid) (pc := 21) (r0 := some k) dX12_lid_21 rfl rfl r
theorem tX12_lid_22 {i : Nat} {vs : List Value} {v : Value} (ha : At h i (.inr (10, vs))) (hv : vs[18]? = some v) (r : RQ G mX12_lid d 25 [x0, x1] (v :: S) (h) P) : RQ G mX12_lid d 22 [x0, x1] (.ref i :: S) h P := q_get (M := mX12_lid) (pc := 22) (kf := 18) dX12_lid_22 (show CL[10]? = some (RX12, TX12, 25) from rfl) inA12 (by decide) rfl w1441 ha hv r
theorem tX12_lid_25 {i : Nat} {vs : List Value} {v : Value} (ha : At h i (.inr (9, vs))) (hv : vs[6]? = some v) (r : RQ G mX12_lid d 28 [x0, x1] (v :: S) (h) P) : RQ G mX12_lid d 25 [x0, x1] (.ref i :: S) h P := q_getN (M := mX12_lid) (pc := 25) (kf := 6) dX12_lid_25 (show CL[9]? = some (RX11, TX11, 24) from rfl) inA11 (by decide) rfl v1332 ha hv r
theorem tX12_lid_28 {v : Int32} (r : RQ G mX12_lid d 29 [x0, some (.int v)] (.int v :: S) (h) P) : RQ G mX12_lid d 28 [x0, some (.int v)] (S) h P := q_iload_n (M := mX12_lid) (pc := 28) dX12_lid_28 rfl rfl r
theorem tX12_lid_29 {k : Nat} (r : RQ G mX12_lid d 30 [some (.ref k), x1] (.ref k :: S) (h) P) : RQ G mX12_lid d 29 [some (.ref k), x1] (S) h P := q_aload_n (M := mX12_lid) (pc := 29) (r0 := some k) dX12_lid_29 rfl rfl r
theorem tX12_lid_30 (r : RQ G mX12_lid d 31 [x0, x1] (.int (nI 1) :: S) (h) P) : RQ G mX12_lid d 30 [x0, x1] (S) h P := q_iconst (M := mX12_lid) (pc := 30) dX12_lid_30 (by decide) r
theorem tX12_lid_31 {b d2 : Nat} {vs : List Value} {a0 : Int32} {Q : Int32 → AH → Prop} (hd : d2 + 1 ≤ d) (ha : At h b (.inr (10, vs))) (call : RQ G mX12_name d2 0 [some (.ref b), some (.int a0), none, none] [] h (Ri Q)) (k : ∀ x h1, Q x h1 → RQ G mX12_lid d 34 [x0, x1] (.int x :: S) h1 P) (hst : (S.map fun v => v.category).sum ≤ 8 := by exact Nat.le_of_ble_eq_true rfl)  : RQ G mX12_lid d 31 [x0, x1] (.int a0 :: .ref b :: S) h P := q_callV (M := mX12_lid) (pc := 31) (M2 := mX12_name) (As := [.int a0]) (n := 1) dX12_lid_31 rfl ⟨by decide, by decide, by decide, rfl⟩ rfl w1616 w1618 w61 w120 w1619 (show CL[10]? = some (RX12, TX12, 25) from rfl) hd (by decide) (Nat.le_of_ble_eq_true rfl) rfl ha hst call (callk_i k)
theorem tX12_lid_34 {a n j : Nat} {x : Int32} {v : Int32} {f : Nat → Int32} (ha : At h a (.inl (0, n, .inl f))) (hx : x = nI j) (hj : j < n) (hn : n < 2147483648) (r : RQ G mX12_lid d 35 [x0, x1] (S) (hset h a (.inl (0, n, .inl (upd f j v)))) P) : RQ G mX12_lid d 34 [x0, x1] (.int v :: .int x :: .ref a :: S) h P := q_iast (M := mX12_lid) (pc := 34) dX12_lid_34 ha hx hj hn r
theorem tX12_lid_35 {k : Nat} (r : RQ G mX12_lid d 36 [some (.ref k), x1] (.ref k :: S) (h) P) : RQ G mX12_lid d 35 [some (.ref k), x1] (S) h P := q_aload_n (M := mX12_lid) (pc := 35) (r0 := some k) dX12_lid_35 rfl rfl r
theorem tX12_lid_36 (r : RQ G mX12_lid d 38 [x0, x1] (.int (nI 7) :: S) (h) P) : RQ G mX12_lid d 36 [x0, x1] (S) h P := q_bipush (M := mX12_lid) (pc := 36) dX12_lid_36 (by decide) r
theorem tX12_lid_38 {b d2 : Nat} {vs : List Value} {a0 : Int32} {Q : AH → Prop} (hd : d2 + 1 ≤ d) (ha : At h b (.inr (10, vs))) (call : RQ G mX12_take d2 0 [some (.ref b), some (.int a0)] [] h (Rv Q)) (k : ∀ h1, Q h1 → RQ G mX12_lid d 41 [x0, x1] S h1 P) (hst : (S.map fun v => v.category).sum ≤ 8 := by exact Nat.le_of_ble_eq_true rfl)  : RQ G mX12_lid d 38 [x0, x1] (.int a0 :: .ref b :: S) h P := q_callV (M := mX12_lid) (pc := 38) (M2 := mX12_take) (As := [.int a0]) (n := 1) dX12_lid_38 rfl ⟨by decide, by decide, by decide, rfl⟩ rfl w1591 w1593 w55 w120 w1594 (show CL[10]? = some (RX12, TX12, 25) from rfl) hd (by decide) (Nat.le_of_ble_eq_true rfl) rfl ha hst call (callk_v k)
theorem tX12_lid_41 {k : Nat} (r : RQ G mX12_lid d 42 [some (.ref k), x1] (.ref k :: S) (h) P) : RQ G mX12_lid d 41 [some (.ref k), x1] (S) h P := q_aload_n (M := mX12_lid) (pc := 41) (r0 := some k) dX12_lid_41 rfl rfl r
theorem tX12_lid_42 {i : Nat} {vs : List Value} {v : Value} (ha : At h i (.inr (10, vs))) (hv : vs[18]? = some v) (r : RQ G mX12_lid d 45 [x0, x1] (v :: S) (h) P) : RQ G mX12_lid d 42 [x0, x1] (.ref i :: S) h P := q_get (M := mX12_lid) (pc := 42) (kf := 18) dX12_lid_42 (show CL[10]? = some (RX12, TX12, 25) from rfl) inA12 (by decide) rfl w1441 ha hv r
theorem tX12_lid_45 {i : Nat} {vs : List Value} {v : Value} (ha : At h i (.inr (9, vs))) (hv : vs[7]? = some v) (r : RQ G mX12_lid d 48 [x0, x1] (v :: S) (h) P) : RQ G mX12_lid d 45 [x0, x1] (.ref i :: S) h P := q_getN (M := mX12_lid) (pc := 45) (kf := 7) dX12_lid_45 (show CL[9]? = some (RX11, TX11, 24) from rfl) inA11 (by decide) rfl v1334 ha hv r
theorem tX12_lid_48 {v : Int32} (r : RQ G mX12_lid d 49 [x0, some (.int v)] (.int v :: S) (h) P) : RQ G mX12_lid d 48 [x0, some (.int v)] (S) h P := q_iload_n (M := mX12_lid) (pc := 48) dX12_lid_48 rfl rfl r
theorem tX12_lid_49 {k : Nat} (r : RQ G mX12_lid d 50 [some (.ref k), x1] (.ref k :: S) (h) P) : RQ G mX12_lid d 49 [some (.ref k), x1] (S) h P := q_aload_n (M := mX12_lid) (pc := 49) (r0 := some k) dX12_lid_49 rfl rfl r
theorem tX12_lid_50 (r : RQ G mX12_lid d 51 [x0, x1] (.int (nI 0) :: S) (h) P) : RQ G mX12_lid d 50 [x0, x1] (S) h P := q_iconst (M := mX12_lid) (pc := 50) dX12_lid_50 (by decide) r
theorem tX12_lid_51 {b d2 : Nat} {vs : List Value} {a0 : Int32} {Q : Int32 → AH → Prop} (hd : d2 + 1 ≤ d) (ha : At h b (.inr (10, vs))) (call : RQ G mX12_name d2 0 [some (.ref b), some (.int a0), none, none] [] h (Ri Q)) (k : ∀ x h1, Q x h1 → RQ G mX12_lid d 54 [x0, x1] (.int x :: S) h1 P) (hst : (S.map fun v => v.category).sum ≤ 8 := by exact Nat.le_of_ble_eq_true rfl)  : RQ G mX12_lid d 51 [x0, x1] (.int a0 :: .ref b :: S) h P := q_callV (M := mX12_lid) (pc := 51) (M2 := mX12_name) (As := [.int a0]) (n := 1) dX12_lid_51 rfl ⟨by decide, by decide, by decide, rfl⟩ rfl w1616 w1618 w61 w120 w1619 (show CL[10]? = some (RX12, TX12, 25) from rfl) hd (by decide) (Nat.le_of_ble_eq_true rfl) rfl ha hst call (callk_i k)
theorem tX12_lid_54 {a n j : Nat} {x : Int32} {v : Int32} {f : Nat → Int32} (ha : At h a (.inl (0, n, .inl f))) (hx : x = nI j) (hj : j < n) (hn : n < 2147483648) (r : RQ G mX12_lid d 55 [x0, x1] (S) (hset h a (.inl (0, n, .inl (upd f j v)))) P) : RQ G mX12_lid d 54 [x0, x1] (.int v :: .int x :: .ref a :: S) h P := q_iast (M := mX12_lid) (pc := 54) dX12_lid_54 ha hx hj hn r
theorem tX12_lid_55 {k : Nat} (r : RQ G mX12_lid d 56 [some (.ref k), x1] (.ref k :: S) (h) P) : RQ G mX12_lid d 55 [some (.ref k), x1] (S) h P := q_aload_n (M := mX12_lid) (pc := 55) (r0 := some k) dX12_lid_55 rfl rfl r
theorem tX12_lid_56 {i : Nat} {vs : List Value} {v : Value} (ha : At h i (.inr (10, vs))) (hv : vs[18]? = some v) (r : RQ G mX12_lid d 59 [x0, x1] (v :: S) (h) P) : RQ G mX12_lid d 56 [x0, x1] (.ref i :: S) h P := q_get (M := mX12_lid) (pc := 56) (kf := 18) dX12_lid_56 (show CL[10]? = some (RX12, TX12, 25) from rfl) inA12 (by decide) rfl w1441 ha hv r
theorem tX12_lid_59 {i : Nat} {vs : List Value} {v : Value} (ha : At h i (.inr (9, vs))) (hv : vs[8]? = some v) (r : RQ G mX12_lid d 62 [x0, x1] (v :: S) (h) P) : RQ G mX12_lid d 59 [x0, x1] (.ref i :: S) h P := q_getN (M := mX12_lid) (pc := 59) (kf := 8) dX12_lid_59 (show CL[9]? = some (RX11, TX11, 24) from rfl) inA11 (by decide) rfl v1336 ha hv r
theorem tX12_lid_62 {v : Int32} (r : RQ G mX12_lid d 63 [x0, some (.int v)] (.int v :: S) (h) P) : RQ G mX12_lid d 62 [x0, some (.int v)] (S) h P := q_iload_n (M := mX12_lid) (pc := 62) dX12_lid_62 rfl rfl r
theorem tX12_lid_63 {k : Nat} (r : RQ G mX12_lid d 64 [some (.ref k), x1] (.ref k :: S) (h) P) : RQ G mX12_lid d 63 [some (.ref k), x1] (S) h P := q_aload_n (M := mX12_lid) (pc := 63) (r0 := some k) dX12_lid_63 rfl rfl r
theorem tX12_lid_64 {i : Nat} {vs : List Value} {v : Value} (ha : At h i (.inr (10, vs))) (hv : vs[18]? = some v) (r : RQ G mX12_lid d 67 [x0, x1] (v :: S) (h) P) : RQ G mX12_lid d 64 [x0, x1] (.ref i :: S) h P := q_get (M := mX12_lid) (pc := 64) (kf := 18) dX12_lid_64 (show CL[10]? = some (RX12, TX12, 25) from rfl) inA12 (by decide) rfl w1441 ha hv r
theorem tX12_lid_67 {i : Nat} {vs : List Value} {v : Value} (ha : At h i (.inr (9, vs))) (hv : vs[10]? = some v) (r : RQ G mX12_lid d 70 [x0, x1] (v :: S) (h) P) : RQ G mX12_lid d 67 [x0, x1] (.ref i :: S) h P := q_getN (M := mX12_lid) (pc := 67) (kf := 10) dX12_lid_67 (show CL[9]? = some (RX11, TX11, 24) from rfl) inA11 (by decide) rfl v1340 ha hv r
theorem tX12_lid_70 {a n j : Nat} {x : Int32} {v : Int32} {f : Nat → Int32} (ha : At h a (.inl (0, n, .inl f))) (hx : x = nI j) (hj : j < n) (hn : n < 2147483648) (r : RQ G mX12_lid d 71 [x0, x1] (S) (hset h a (.inl (0, n, .inl (upd f j v)))) P) : RQ G mX12_lid d 70 [x0, x1] (.int v :: .int x :: .ref a :: S) h P := q_iast (M := mX12_lid) (pc := 70) dX12_lid_70 ha hx hj hn r
theorem tX12_lid_71 {k : Nat} (r : RQ G mX12_lid d 72 [some (.ref k), x1] (.ref k :: S) (h) P) : RQ G mX12_lid d 71 [some (.ref k), x1] (S) h P := q_aload_n (M := mX12_lid) (pc := 71) (r0 := some k) dX12_lid_71 rfl rfl r
theorem tX12_lid_72 (r : RQ G mX12_lid d 74 [x0, x1] (.int (nI 8) :: S) (h) P) : RQ G mX12_lid d 72 [x0, x1] (S) h P := q_bipush (M := mX12_lid) (pc := 72) dX12_lid_72 (by decide) r
theorem tX12_lid_74 {b d2 : Nat} {vs : List Value} {a0 : Int32} {Q : Int32 → AH → Prop} (hd : d2 + 1 ≤ d) (ha : At h b (.inr (10, vs))) (call : RQ G mX12_is d2 0 [some (.ref b), some (.int a0)] [] h (Ri Q)) (k : ∀ x h1, Q x h1 → RQ G mX12_lid d 77 [x0, x1] (.int x :: S) h1 P) (hst : (S.map fun v => v.category).sum ≤ 8 := by exact Nat.le_of_ble_eq_true rfl)  : RQ G mX12_lid d 74 [x0, x1] (.int a0 :: .ref b :: S) h P := q_callV (M := mX12_lid) (pc := 74) (M2 := mX12_is) (As := [.int a0]) (n := 1) dX12_lid_74 rfl ⟨by decide, by decide, by decide, rfl⟩ rfl w1571 w1573 w50 w120 w1574 (show CL[10]? = some (RX12, TX12, 25) from rfl) hd (by decide) (Nat.le_of_ble_eq_true rfl) rfl ha hst call (callk_i k)
theorem tX12_lid_77 {x : Int32} (kt : x = 0 → RQ G mX12_lid d 87 [x0, x1] S h P) (kf : ¬ x = 0 → RQ G mX12_lid d 80 [x0, x1] S h P) : RQ G mX12_lid d 77 [x0, x1] (.int x :: S) h P := q_if_eq (M := mX12_lid) (pc := 77) dX12_lid_77 (by decide) kt kf
theorem tX12_lid_80 {k : Nat} (r : RQ G mX12_lid d 81 [some (.ref k), x1] (.ref k :: S) (h) P) : RQ G mX12_lid d 80 [some (.ref k), x1] (S) h P := q_aload_n (M := mX12_lid) (pc := 80) (r0 := some k) dX12_lid_80 rfl rfl r
theorem tX12_lid_81 {b d2 : Nat} {vs : List Value}  {Q : AH → Prop} (hd : d2 + 1 ≤ d) (ha : At h b (.inr (10, vs))) (call : RQ G mX12_rule d2 0 [some (.ref b), none] [] h (Rv Q)) (k : ∀ h1, Q h1 → RQ G mX12_lid d 84 [x0, x1] S h1 P) (hst : (S.map fun v => v.category).sum ≤ 8 := by exact Nat.le_of_ble_eq_true rfl)  : RQ G mX12_lid d 81 [x0, x1] (.ref b :: S) h P := q_callV (M := mX12_lid) (pc := 81) (M2 := mX12_rule) (As := []) (n := 0) dX12_lid_81 rfl ⟨by decide, by decide, by decide, rfl⟩ rfl w1620 w1622 w62 w120 w1623 (show CL[10]? = some (RX12, TX12, 25) from rfl) hd (by decide) (Nat.le_of_ble_eq_true rfl) rfl ha hst call (callk_v k)
theorem tX12_lid_84 (r : RQ G mX12_lid d 71 [x0, x1] S h P) : RQ G mX12_lid d 84 [x0, x1] (S) h P := q_goto (M := mX12_lid) (pc := 84) dX12_lid_84 (by decide) r
theorem tX12_lid_87 {k : Nat} (r : RQ G mX12_lid d 88 [some (.ref k), x1] (.ref k :: S) (h) P) : RQ G mX12_lid d 87 [some (.ref k), x1] (S) h P := q_aload_n (M := mX12_lid) (pc := 87) (r0 := some k) dX12_lid_87 rfl rfl r
theorem tX12_lid_88 {i : Nat} {vs : List Value} {v : Value} (ha : At h i (.inr (10, vs))) (hv : vs[18]? = some v) (r : RQ G mX12_lid d 91 [x0, x1] (v :: S) (h) P) : RQ G mX12_lid d 88 [x0, x1] (.ref i :: S) h P := q_get (M := mX12_lid) (pc := 88) (kf := 18) dX12_lid_88 (show CL[10]? = some (RX12, TX12, 25) from rfl) inA12 (by decide) rfl w1441 ha hv r
theorem tX12_lid_91 {i : Nat} {vs : List Value} {v : Value} (ha : At h i (.inr (9, vs))) (hv : vs[9]? = some v) (r : RQ G mX12_lid d 94 [x0, x1] (v :: S) (h) P) : RQ G mX12_lid d 91 [x0, x1] (.ref i :: S) h P := q_getN (M := mX12_lid) (pc := 91) (kf := 9) dX12_lid_91 (show CL[9]? = some (RX11, TX11, 24) from rfl) inA11 (by decide) rfl v1338 ha hv r
theorem tX12_lid_94 {v : Int32} (r : RQ G mX12_lid d 95 [x0, some (.int v)] (.int v :: S) (h) P) : RQ G mX12_lid d 94 [x0, some (.int v)] (S) h P := q_iload_n (M := mX12_lid) (pc := 94) dX12_lid_94 rfl rfl r
theorem tX12_lid_95 {k : Nat} (r : RQ G mX12_lid d 96 [some (.ref k), x1] (.ref k :: S) (h) P) : RQ G mX12_lid d 95 [some (.ref k), x1] (S) h P := q_aload_n (M := mX12_lid) (pc := 95) (r0 := some k) dX12_lid_95 rfl rfl r
theorem tX12_lid_96 {i : Nat} {vs : List Value} {v : Value} (ha : At h i (.inr (10, vs))) (hv : vs[18]? = some v) (r : RQ G mX12_lid d 99 [x0, x1] (v :: S) (h) P) : RQ G mX12_lid d 96 [x0, x1] (.ref i :: S) h P := q_get (M := mX12_lid) (pc := 96) (kf := 18) dX12_lid_96 (show CL[10]? = some (RX12, TX12, 25) from rfl) inA12 (by decide) rfl w1441 ha hv r
theorem tX12_lid_99 {i : Nat} {vs : List Value} {v : Value} (ha : At h i (.inr (9, vs))) (hv : vs[10]? = some v) (r : RQ G mX12_lid d 102 [x0, x1] (v :: S) (h) P) : RQ G mX12_lid d 99 [x0, x1] (.ref i :: S) h P := q_getN (M := mX12_lid) (pc := 99) (kf := 10) dX12_lid_99 (show CL[9]? = some (RX11, TX11, 24) from rfl) inA11 (by decide) rfl v1340 ha hv r
theorem tX12_lid_102 {a n j : Nat} {x : Int32} {v : Int32} {f : Nat → Int32} (ha : At h a (.inl (0, n, .inl f))) (hx : x = nI j) (hj : j < n) (hn : n < 2147483648) (r : RQ G mX12_lid d 103 [x0, x1] (S) (hset h a (.inl (0, n, .inl (upd f j v)))) P) : RQ G mX12_lid d 102 [x0, x1] (.int v :: .int x :: .ref a :: S) h P := q_iast (M := mX12_lid) (pc := 102) dX12_lid_102 ha hx hj hn r
theorem tX12_lid_103 {k : Nat} (r : RQ G mX12_lid d 104 [some (.ref k), x1] (.ref k :: S) (h) P) : RQ G mX12_lid d 103 [some (.ref k), x1] (S) h P := q_aload_n (M := mX12_lid) (pc := 103) (r0 := some k) dX12_lid_103 rfl rfl r
theorem tX12_lid_104 {i : Nat} {vs : List Value} {v : Value} (ha : At h i (.inr (10, vs))) (hv : vs[18]? = some v) (r : RQ G mX12_lid d 107 [x0, x1] (v :: S) (h) P) : RQ G mX12_lid d 104 [x0, x1] (.ref i :: S) h P := q_get (M := mX12_lid) (pc := 104) (kf := 18) dX12_lid_104 (show CL[10]? = some (RX12, TX12, 25) from rfl) inA12 (by decide) rfl w1441 ha hv r
theorem tX12_lid_107 (r : RQ G mX12_lid d 109 [x0, x1] (.int (nI 6) :: S) (h) P) : RQ G mX12_lid d 107 [x0, x1] (S) h P := q_bipush (M := mX12_lid) (pc := 107) dX12_lid_107 (by decide) r
theorem tX12_lid_109 {v : Int32} (r : RQ G mX12_lid d 110 [x0, some (.int v)] (.int v :: S) (h) P) : RQ G mX12_lid d 109 [x0, some (.int v)] (S) h P := q_iload_n (M := mX12_lid) (pc := 109) dX12_lid_109 rfl rfl r
theorem tX12_lid_110 (r : RQ G mX12_lid d 111 [x0, x1] (.int (nI 1) :: S) (h) P) : RQ G mX12_lid d 110 [x0, x1] (S) h P := q_iconst (M := mX12_lid) (pc := 110) dX12_lid_110 (by decide) r
theorem tX12_lid_111 {x y : Int32} (r : RQ G mX12_lid d 112 [x0, x1] (.int (x + y) :: S) (h) P) : RQ G mX12_lid d 111 [x0, x1] (.int y :: .int x :: S) h P := q_iadd (M := mX12_lid) (pc := 111) dX12_lid_111 r
theorem tX12_lid_112 {x y : Int32} (hd : 1 ≤ d) (hst : (S.map fun v => v.category).sum ≤ 8 := by exact Nat.le_of_ble_eq_true rfl) (r : RQ G mX12_lid d 115 [x0, x1] (.int (if y < x then y else x) :: S) (h) P) : RQ G mX12_lid d 112 [x0, x1] (.int y :: .int x :: S) h P := q_min (M := mX12_lid) (pc := 112) dX12_lid_112 w1599 w1077 w132 w1078 hd hst r
theorem tX12_lid_115 {i : Nat} {vs : List Value} {v : Int32} (ha : At h i (.inr (9, vs))) (hlen : vs.length = 24) (r : RQ G mX12_lid d 118 [x0, x1] (S) (hset h i (.inr (9, vs.set 5 (.int v)))) P) : RQ G mX12_lid d 115 [x0, x1] (.int v :: .ref i :: S) h P := q_putN (M := mX12_lid) (pc := 115) (kf := 5) dX12_lid_115 (show CL[9]? = some (RX11, TX11, 24) from rfl) inA11 tyX11_ok nmX11 (by decide) rfl v1330 rfl (tyX11_ok 5 (by decide)) (nfit_int v) (by rw [hlen]; decide) ha r
theorem tX12_lid_118 (hP : P (.inl none) h) : RQ G mX12_lid d 118 [x0, x1] ([]) h P := q_return (M := mX12_lid) (pc := 118) dX12_lid_118 rfl hP
end T
theorem dX12_line_0 : decode cX12_line 0 = .ok (.aload_n 0, 1) := by decide +kernel
theorem dX12_line_1 : decode cX12_line 1 = .ok (.iconst 0, 1) := by decide +kernel
theorem dX12_line_2 : decode cX12_line 2 = .ok (.invokevirtual 192, 3) := by decide +kernel
theorem dX12_line_5 : decode cX12_line 5 = .ok (.ifCond .eq 34, 3) := by decide +kernel
theorem dX12_line_8 : decode cX12_line 8 = .ok (.aload_n 0, 1) := by decide +kernel
theorem dX12_line_9 : decode cX12_line 9 = .ok (.getfield 45, 3) := by decide +kernel
theorem dX12_line_12 : decode cX12_line 12 = .ok (.bipush 6, 2) := by decide +kernel
theorem dX12_line_14 : decode cX12_line 14 = .ok (.aload_n 0, 1) := by decide +kernel
theorem dX12_line_15 : decode cX12_line 15 = .ok (.iconst 0, 1) := by decide +kernel
theorem dX12_line_16 : decode cX12_line 16 = .ok (.aload_n 0, 1) := by decide +kernel
theorem dX12_line_17 : decode cX12_line 17 = .ok (.getfield 45, 3) := by decide +kernel
theorem dX12_line_20 : decode cX12_line 20 = .ok (.getfield 253, 3) := by decide +kernel
theorem dX12_line_23 : decode cX12_line 23 = .ok (.bipush 6, 2) := by decide +kernel
theorem dX12_line_25 : decode cX12_line 25 = .ok (.invokevirtual 262, 3) := by decide +kernel
theorem dX12_line_28 : decode cX12_line 28 = .ok (.iconst 1, 1) := by decide +kernel
theorem dX12_line_29 : decode cX12_line 29 = .ok (.iadd, 1) := by decide +kernel
theorem dX12_line_30 : decode cX12_line 30 = .ok (.invokestatic 183, 3) := by decide +kernel
theorem dX12_line_33 : decode cX12_line 33 = .ok (.putfield 253, 3) := by decide +kernel
theorem dX12_line_36 : decode cX12_line 36 = .ok (.goto 37, 3) := by decide +kernel
theorem dX12_line_39 : decode cX12_line 39 = .ok (.aload_n 0, 1) := by decide +kernel
theorem dX12_line_40 : decode cX12_line 40 = .ok (.iconst 1, 1) := by decide +kernel
theorem dX12_line_41 : decode cX12_line 41 = .ok (.invokevirtual 192, 3) := by decide +kernel
theorem dX12_line_44 : decode cX12_line 44 = .ok (.ifCond .eq 10, 3) := by decide +kernel
theorem dX12_line_47 : decode cX12_line 47 = .ok (.aload_n 0, 1) := by decide +kernel
theorem dX12_line_48 : decode cX12_line 48 = .ok (.invokevirtual 290, 3) := by decide +kernel
theorem dX12_line_51 : decode cX12_line 51 = .ok (.goto 22, 3) := by decide +kernel
theorem dX12_line_54 : decode cX12_line 54 = .ok (.aload_n 0, 1) := by decide +kernel
theorem dX12_line_55 : decode cX12_line 55 = .ok (.iconst 5, 1) := by decide +kernel
theorem dX12_line_56 : decode cX12_line 56 = .ok (.invokevirtual 192, 3) := by decide +kernel
theorem dX12_line_59 : decode cX12_line 59 = .ok (.ifCond .eq 10, 3) := by decide +kernel
theorem dX12_line_62 : decode cX12_line 62 = .ok (.aload_n 0, 1) := by decide +kernel
theorem dX12_line_63 : decode cX12_line 63 = .ok (.invokevirtual 293, 3) := by decide +kernel
theorem dX12_line_66 : decode cX12_line 66 = .ok (.goto 7, 3) := by decide +kernel
theorem dX12_line_69 : decode cX12_line 69 = .ok (.aload_n 0, 1) := by decide +kernel
theorem dX12_line_70 : decode cX12_line 70 = .ok (.invokevirtual 148, 3) := by decide +kernel
theorem dX12_line_73 : decode cX12_line 73 = .ok (.return_, 1) := by decide +kernel
section T
variable {G : GT} {d : Nat} {S : List Value} {h : AH} {P : OC → AH → Prop} {x0 x1 x2 x3 x4 x5 x6 x7 x8 x9 x10 x11 x12 x13 x14 x15 : Option Value}
theorem tX12_line_0 {k : Nat} (r : RQ G mX12_line d 1 [some (.ref k)] (.ref k :: S) (h) P) : RQ G mX12_line d 0 [some (.ref k)] (S) h P := q_aload_n (M := mX12_line) (pc := 0) (r0 := some k) dX12_line_0 rfl rfl r
theorem tX12_line_1 (r : RQ G mX12_line d 2 [x0] (.int (nI 0) :: S) (h) P) : RQ G mX12_line d 1 [x0] (S) h P := q_iconst (M := mX12_line) (pc := 1) dX12_line_1 (by decide) r
theorem tX12_line_2 {b d2 : Nat} {vs : List Value} {a0 : Int32} {Q : Int32 → AH → Prop} (hd : d2 + 1 ≤ d) (ha : At h b (.inr (10, vs))) (call : RQ G mX12_takes d2 0 [some (.ref b), some (.int a0)] [] h (Ri Q)) (k : ∀ x h1, Q x h1 → RQ G mX12_line d 5 [x0] (.int x :: S) h1 P) (hst : (S.map fun v => v.category).sum ≤ 8 := by exact Nat.le_of_ble_eq_true rfl)  : RQ G mX12_line d 2 [x0] (.int a0 :: .ref b :: S) h P := q_callV (M := mX12_line) (pc := 2) (M2 := mX12_takes) (As := [.int a0]) (n := 1) dX12_line_2 rfl ⟨by decide, by decide, by decide, rfl⟩ rfl w1567 w1569 w49 w120 w1570 (show CL[10]? = some (RX12, TX12, 25) from rfl) hd (by decide) (Nat.le_of_ble_eq_true rfl) rfl ha hst call (callk_i k)
theorem tX12_line_5 {x : Int32} (kt : x = 0 → RQ G mX12_line d 39 [x0] S h P) (kf : ¬ x = 0 → RQ G mX12_line d 8 [x0] S h P) : RQ G mX12_line d 5 [x0] (.int x :: S) h P := q_if_eq (M := mX12_line) (pc := 5) dX12_line_5 (by decide) kt kf
theorem tX12_line_8 {k : Nat} (r : RQ G mX12_line d 9 [some (.ref k)] (.ref k :: S) (h) P) : RQ G mX12_line d 8 [some (.ref k)] (S) h P := q_aload_n (M := mX12_line) (pc := 8) (r0 := some k) dX12_line_8 rfl rfl r
theorem tX12_line_9 {i : Nat} {vs : List Value} {v : Value} (ha : At h i (.inr (10, vs))) (hv : vs[18]? = some v) (r : RQ G mX12_line d 12 [x0] (v :: S) (h) P) : RQ G mX12_line d 9 [x0] (.ref i :: S) h P := q_get (M := mX12_line) (pc := 9) (kf := 18) dX12_line_9 (show CL[10]? = some (RX12, TX12, 25) from rfl) inA12 (by decide) rfl w1441 ha hv r
theorem tX12_line_12 (r : RQ G mX12_line d 14 [x0] (.int (nI 6) :: S) (h) P) : RQ G mX12_line d 12 [x0] (S) h P := q_bipush (M := mX12_line) (pc := 12) dX12_line_12 (by decide) r
theorem tX12_line_14 {k : Nat} (r : RQ G mX12_line d 15 [some (.ref k)] (.ref k :: S) (h) P) : RQ G mX12_line d 14 [some (.ref k)] (S) h P := q_aload_n (M := mX12_line) (pc := 14) (r0 := some k) dX12_line_14 rfl rfl r
theorem tX12_line_15 (r : RQ G mX12_line d 16 [x0] (.int (nI 0) :: S) (h) P) : RQ G mX12_line d 15 [x0] (S) h P := q_iconst (M := mX12_line) (pc := 15) dX12_line_15 (by decide) r
theorem tX12_line_16 {k : Nat} (r : RQ G mX12_line d 17 [some (.ref k)] (.ref k :: S) (h) P) : RQ G mX12_line d 16 [some (.ref k)] (S) h P := q_aload_n (M := mX12_line) (pc := 16) (r0 := some k) dX12_line_16 rfl rfl r
theorem tX12_line_17 {i : Nat} {vs : List Value} {v : Value} (ha : At h i (.inr (10, vs))) (hv : vs[18]? = some v) (r : RQ G mX12_line d 20 [x0] (v :: S) (h) P) : RQ G mX12_line d 17 [x0] (.ref i :: S) h P := q_get (M := mX12_line) (pc := 17) (kf := 18) dX12_line_17 (show CL[10]? = some (RX12, TX12, 25) from rfl) inA12 (by decide) rfl w1441 ha hv r
theorem tX12_line_20 {i : Nat} {vs : List Value} {v : Value} (ha : At h i (.inr (9, vs))) (hv : vs[0]? = some v) (r : RQ G mX12_line d 23 [x0] (v :: S) (h) P) : RQ G mX12_line d 20 [x0] (.ref i :: S) h P := q_getN (M := mX12_line) (pc := 20) (kf := 0) dX12_line_20 (show CL[9]? = some (RX11, TX11, 24) from rfl) inA11 (by decide) rfl v1320 ha hv r
theorem tX12_line_23 (r : RQ G mX12_line d 25 [x0] (.int (nI 6) :: S) (h) P) : RQ G mX12_line d 23 [x0] (S) h P := q_bipush (M := mX12_line) (pc := 23) dX12_line_23 (by decide) r
theorem tX12_line_25 {b d2 : Nat} {vs : List Value} {a0 : Int32} {a1 : Int32} {a2 : Int32} {Q : Int32 → AH → Prop} (hd : d2 + 1 ≤ d) (ha : At h b (.inr (10, vs))) (call : RQ G mX12_newName d2 0 [some (.ref b), some (.int a0), some (.int a1), some (.int a2)] [] h (Ri Q)) (k : ∀ x h1, Q x h1 → RQ G mX12_line d 28 [x0] (.int x :: S) h1 P) (hst : (S.map fun v => v.category).sum ≤ 8 := by exact Nat.le_of_ble_eq_true rfl)  : RQ G mX12_line d 25 [x0] (.int a2 :: .int a1 :: .int a0 :: .ref b :: S) h P := q_callV (M := mX12_line) (pc := 25) (M2 := mX12_newName) (As := [.int a0, .int a1, .int a2]) (n := 3) dX12_line_25 rfl ⟨by decide, by decide, by decide, rfl⟩ rfl w1575 w1577 w51 w120 w1578 (show CL[10]? = some (RX12, TX12, 25) from rfl) hd (by decide) (Nat.le_of_ble_eq_true rfl) rfl ha hst call (callk_i k)
theorem tX12_line_28 (r : RQ G mX12_line d 29 [x0] (.int (nI 1) :: S) (h) P) : RQ G mX12_line d 28 [x0] (S) h P := q_iconst (M := mX12_line) (pc := 28) dX12_line_28 (by decide) r
theorem tX12_line_29 {x y : Int32} (r : RQ G mX12_line d 30 [x0] (.int (x + y) :: S) (h) P) : RQ G mX12_line d 29 [x0] (.int y :: .int x :: S) h P := q_iadd (M := mX12_line) (pc := 29) dX12_line_29 r
theorem tX12_line_30 {x y : Int32} (hd : 1 ≤ d) (hst : (S.map fun v => v.category).sum ≤ 8 := by exact Nat.le_of_ble_eq_true rfl) (r : RQ G mX12_line d 33 [x0] (.int (if y < x then y else x) :: S) (h) P) : RQ G mX12_line d 30 [x0] (.int y :: .int x :: S) h P := q_min (M := mX12_line) (pc := 30) dX12_line_30 w1599 w1077 w132 w1078 hd hst r
theorem tX12_line_33 {i : Nat} {vs : List Value} {v : Int32} (ha : At h i (.inr (9, vs))) (hlen : vs.length = 24) (r : RQ G mX12_line d 36 [x0] (S) (hset h i (.inr (9, vs.set 0 (.int v)))) P) : RQ G mX12_line d 33 [x0] (.int v :: .ref i :: S) h P := q_putN (M := mX12_line) (pc := 33) (kf := 0) dX12_line_33 (show CL[9]? = some (RX11, TX11, 24) from rfl) inA11 tyX11_ok nmX11 (by decide) rfl v1320 rfl (tyX11_ok 0 (by decide)) (nfit_int v) (by rw [hlen]; decide) ha r
theorem tX12_line_36 (r : RQ G mX12_line d 73 [x0] S h P) : RQ G mX12_line d 36 [x0] (S) h P := q_goto (M := mX12_line) (pc := 36) dX12_line_36 (by decide) r
theorem tX12_line_39 {k : Nat} (r : RQ G mX12_line d 40 [some (.ref k)] (.ref k :: S) (h) P) : RQ G mX12_line d 39 [some (.ref k)] (S) h P := q_aload_n (M := mX12_line) (pc := 39) (r0 := some k) dX12_line_39 rfl rfl r
theorem tX12_line_40 (r : RQ G mX12_line d 41 [x0] (.int (nI 1) :: S) (h) P) : RQ G mX12_line d 40 [x0] (S) h P := q_iconst (M := mX12_line) (pc := 40) dX12_line_40 (by decide) r
theorem tX12_line_41 {b d2 : Nat} {vs : List Value} {a0 : Int32} {Q : Int32 → AH → Prop} (hd : d2 + 1 ≤ d) (ha : At h b (.inr (10, vs))) (call : RQ G mX12_takes d2 0 [some (.ref b), some (.int a0)] [] h (Ri Q)) (k : ∀ x h1, Q x h1 → RQ G mX12_line d 44 [x0] (.int x :: S) h1 P) (hst : (S.map fun v => v.category).sum ≤ 8 := by exact Nat.le_of_ble_eq_true rfl)  : RQ G mX12_line d 41 [x0] (.int a0 :: .ref b :: S) h P := q_callV (M := mX12_line) (pc := 41) (M2 := mX12_takes) (As := [.int a0]) (n := 1) dX12_line_41 rfl ⟨by decide, by decide, by decide, rfl⟩ rfl w1567 w1569 w49 w120 w1570 (show CL[10]? = some (RX12, TX12, 25) from rfl) hd (by decide) (Nat.le_of_ble_eq_true rfl) rfl ha hst call (callk_i k)
theorem tX12_line_44 {x : Int32} (kt : x = 0 → RQ G mX12_line d 54 [x0] S h P) (kf : ¬ x = 0 → RQ G mX12_line d 47 [x0] S h P) : RQ G mX12_line d 44 [x0] (.int x :: S) h P := q_if_eq (M := mX12_line) (pc := 44) dX12_line_44 (by decide) kt kf
theorem tX12_line_47 {k : Nat} (r : RQ G mX12_line d 48 [some (.ref k)] (.ref k :: S) (h) P) : RQ G mX12_line d 47 [some (.ref k)] (S) h P := q_aload_n (M := mX12_line) (pc := 47) (r0 := some k) dX12_line_47 rfl rfl r
theorem tX12_line_48 {b d2 : Nat} {vs : List Value}  {Q : AH → Prop} (hd : d2 + 1 ≤ d) (ha : At h b (.inr (10, vs))) (call : RQ G mX12_jar d2 0 [some (.ref b), none, none] [] h (Rv Q)) (k : ∀ h1, Q h1 → RQ G mX12_line d 51 [x0] S h1 P) (hst : (S.map fun v => v.category).sum ≤ 8 := by exact Nat.le_of_ble_eq_true rfl)  : RQ G mX12_line d 48 [x0] (.ref b :: S) h P := q_callV (M := mX12_line) (pc := 48) (M2 := mX12_jar) (As := []) (n := 0) dX12_line_48 rfl ⟨by decide, by decide, by decide, rfl⟩ rfl w1600 w1602 w57 w120 w1603 (show CL[10]? = some (RX12, TX12, 25) from rfl) hd (by decide) (Nat.le_of_ble_eq_true rfl) rfl ha hst call (callk_v k)
theorem tX12_line_51 (r : RQ G mX12_line d 73 [x0] S h P) : RQ G mX12_line d 51 [x0] (S) h P := q_goto (M := mX12_line) (pc := 51) dX12_line_51 (by decide) r
theorem tX12_line_54 {k : Nat} (r : RQ G mX12_line d 55 [some (.ref k)] (.ref k :: S) (h) P) : RQ G mX12_line d 54 [some (.ref k)] (S) h P := q_aload_n (M := mX12_line) (pc := 54) (r0 := some k) dX12_line_54 rfl rfl r
theorem tX12_line_55 (r : RQ G mX12_line d 56 [x0] (.int (nI 5) :: S) (h) P) : RQ G mX12_line d 55 [x0] (S) h P := q_iconst (M := mX12_line) (pc := 55) dX12_line_55 (by decide) r
theorem tX12_line_56 {b d2 : Nat} {vs : List Value} {a0 : Int32} {Q : Int32 → AH → Prop} (hd : d2 + 1 ≤ d) (ha : At h b (.inr (10, vs))) (call : RQ G mX12_takes d2 0 [some (.ref b), some (.int a0)] [] h (Ri Q)) (k : ∀ x h1, Q x h1 → RQ G mX12_line d 59 [x0] (.int x :: S) h1 P) (hst : (S.map fun v => v.category).sum ≤ 8 := by exact Nat.le_of_ble_eq_true rfl)  : RQ G mX12_line d 56 [x0] (.int a0 :: .ref b :: S) h P := q_callV (M := mX12_line) (pc := 56) (M2 := mX12_takes) (As := [.int a0]) (n := 1) dX12_line_56 rfl ⟨by decide, by decide, by decide, rfl⟩ rfl w1567 w1569 w49 w120 w1570 (show CL[10]? = some (RX12, TX12, 25) from rfl) hd (by decide) (Nat.le_of_ble_eq_true rfl) rfl ha hst call (callk_i k)
theorem tX12_line_59 {x : Int32} (kt : x = 0 → RQ G mX12_line d 69 [x0] S h P) (kf : ¬ x = 0 → RQ G mX12_line d 62 [x0] S h P) : RQ G mX12_line d 59 [x0] (.int x :: S) h P := q_if_eq (M := mX12_line) (pc := 59) dX12_line_59 (by decide) kt kf
theorem tX12_line_62 {k : Nat} (r : RQ G mX12_line d 63 [some (.ref k)] (.ref k :: S) (h) P) : RQ G mX12_line d 62 [some (.ref k)] (S) h P := q_aload_n (M := mX12_line) (pc := 62) (r0 := some k) dX12_line_62 rfl rfl r
theorem tX12_line_63 {b d2 : Nat} {vs : List Value}  {Q : AH → Prop} (hd : d2 + 1 ≤ d) (ha : At h b (.inr (10, vs))) (call : RQ G mX12_lid d2 0 [some (.ref b), none] [] h (Rv Q)) (k : ∀ h1, Q h1 → RQ G mX12_line d 66 [x0] S h1 P) (hst : (S.map fun v => v.category).sum ≤ 8 := by exact Nat.le_of_ble_eq_true rfl)  : RQ G mX12_line d 63 [x0] (.ref b :: S) h P := q_callV (M := mX12_line) (pc := 63) (M2 := mX12_lid) (As := []) (n := 0) dX12_line_63 rfl ⟨by decide, by decide, by decide, rfl⟩ rfl w1612 w1614 w60 w120 w1615 (show CL[10]? = some (RX12, TX12, 25) from rfl) hd (by decide) (Nat.le_of_ble_eq_true rfl) rfl ha hst call (callk_v k)
theorem tX12_line_66 (r : RQ G mX12_line d 73 [x0] S h P) : RQ G mX12_line d 66 [x0] (S) h P := q_goto (M := mX12_line) (pc := 66) dX12_line_66 (by decide) r
theorem tX12_line_69 {k : Nat} (r : RQ G mX12_line d 70 [some (.ref k)] (.ref k :: S) (h) P) : RQ G mX12_line d 69 [some (.ref k)] (S) h P := q_aload_n (M := mX12_line) (pc := 69) (r0 := some k) dX12_line_69 rfl rfl r
theorem tX12_line_70 {b d2 : Nat} {vs : List Value}  {Q : AH → Prop} (hd : d2 + 1 ≤ d) (ha : At h b (.inr (10, vs))) (call : RQ G mX12_wrong d2 0 [some (.ref b)] [] h (Rv Q)) (k : ∀ h1, Q h1 → RQ G mX12_line d 73 [x0] S h1 P) (hst : (S.map fun v => v.category).sum ≤ 8 := by exact Nat.le_of_ble_eq_true rfl)  : RQ G mX12_line d 70 [x0] (.ref b :: S) h P := q_callV (M := mX12_line) (pc := 70) (M2 := mX12_wrong) (As := []) (n := 0) dX12_line_70 rfl ⟨by decide, by decide, by decide, rfl⟩ rfl w1595 w1597 w56 w120 w1598 (show CL[10]? = some (RX12, TX12, 25) from rfl) hd (by decide) (Nat.le_of_ble_eq_true rfl) rfl ha hst call (callk_v k)
theorem tX12_line_73 (hP : P (.inl none) h) : RQ G mX12_line d 73 [x0] ([]) h P := q_return (M := mX12_line) (pc := 73) dX12_line_73 rfl hP
end T
theorem dX12_feed_0 : decode cX12_feed 0 = .ok (.aload_n 0, 1) := by decide +kernel
theorem dX12_feed_1 : decode cX12_feed 1 = .ok (.iconst 0, 1) := by decide +kernel
theorem dX12_feed_2 : decode cX12_feed 2 = .ok (.putfield 69, 3) := by decide +kernel
theorem dX12_feed_5 : decode cX12_feed 5 = .ok (.aload_n 0, 1) := by decide +kernel
theorem dX12_feed_6 : decode cX12_feed 6 = .ok (.getfield 88, 3) := by decide +kernel
theorem dX12_feed_9 : decode cX12_feed 9 = .ok (.bipush 20, 2) := by decide +kernel
theorem dX12_feed_11 : decode cX12_feed 11 = .ok (.iadd, 1) := by decide +kernel
theorem dX12_feed_12 : decode cX12_feed 12 = .ok (.sipush 1600, 3) := by decide +kernel
theorem dX12_feed_15 : decode cX12_feed 15 = .ok (.if_icmp .le 9, 3) := by decide +kernel
theorem dX12_feed_18 : decode cX12_feed 18 = .ok (.aload_n 0, 1) := by decide +kernel
theorem dX12_feed_19 : decode cX12_feed 19 = .ok (.iconst 1, 1) := by decide +kernel
theorem dX12_feed_20 : decode cX12_feed 20 = .ok (.invokevirtual 296, 3) := by decide +kernel
theorem dX12_feed_23 : decode cX12_feed 23 = .ok (.ireturn, 1) := by decide +kernel
theorem dX12_feed_24 : decode cX12_feed 24 = .ok (.iconst 5, 1) := by decide +kernel
theorem dX12_feed_25 : decode cX12_feed 25 = .ok (.newarray .int, 2) := by decide +kernel
theorem dX12_feed_27 : decode cX12_feed 27 = .ok (.dup, 1) := by decide +kernel
theorem dX12_feed_28 : decode cX12_feed 28 = .ok (.iconst 0, 1) := by decide +kernel
theorem dX12_feed_29 : decode cX12_feed 29 = .ok (.iload_n 1, 1) := by decide +kernel
theorem dX12_feed_30 : decode cX12_feed 30 = .ok (.iastore, 1) := by decide +kernel
theorem dX12_feed_31 : decode cX12_feed 31 = .ok (.dup, 1) := by decide +kernel
theorem dX12_feed_32 : decode cX12_feed 32 = .ok (.iconst 1, 1) := by decide +kernel
theorem dX12_feed_33 : decode cX12_feed 33 = .ok (.iload_n 2, 1) := by decide +kernel
theorem dX12_feed_34 : decode cX12_feed 34 = .ok (.iastore, 1) := by decide +kernel
theorem dX12_feed_35 : decode cX12_feed 35 = .ok (.dup, 1) := by decide +kernel
theorem dX12_feed_36 : decode cX12_feed 36 = .ok (.iconst 2, 1) := by decide +kernel
theorem dX12_feed_37 : decode cX12_feed 37 = .ok (.iload_n 3, 1) := by decide +kernel
theorem dX12_feed_38 : decode cX12_feed 38 = .ok (.iastore, 1) := by decide +kernel
theorem dX12_feed_39 : decode cX12_feed 39 = .ok (.dup, 1) := by decide +kernel
theorem dX12_feed_40 : decode cX12_feed 40 = .ok (.iconst 3, 1) := by decide +kernel
theorem dX12_feed_41 : decode cX12_feed 41 = .ok (.iload 4, 2) := by decide +kernel
theorem dX12_feed_43 : decode cX12_feed 43 = .ok (.iastore, 1) := by decide +kernel
theorem dX12_feed_44 : decode cX12_feed 44 = .ok (.dup, 1) := by decide +kernel
theorem dX12_feed_45 : decode cX12_feed 45 = .ok (.iconst 4, 1) := by decide +kernel
theorem dX12_feed_46 : decode cX12_feed 46 = .ok (.iload 5, 2) := by decide +kernel
theorem dX12_feed_48 : decode cX12_feed 48 = .ok (.iastore, 1) := by decide +kernel
theorem dX12_feed_49 : decode cX12_feed 49 = .ok (.astore 6, 2) := by decide +kernel
theorem dX12_feed_51 : decode cX12_feed 51 = .ok (.aload 6, 2) := by decide +kernel
theorem dX12_feed_53 : decode cX12_feed 53 = .ok (.astore 7, 2) := by decide +kernel
theorem dX12_feed_55 : decode cX12_feed 55 = .ok (.aload 7, 2) := by decide +kernel
theorem dX12_feed_57 : decode cX12_feed 57 = .ok (.arraylength, 1) := by decide +kernel
theorem dX12_feed_58 : decode cX12_feed 58 = .ok (.istore 8, 2) := by decide +kernel
theorem dX12_feed_60 : decode cX12_feed 60 = .ok (.iconst 0, 1) := by decide +kernel
theorem dX12_feed_61 : decode cX12_feed 61 = .ok (.istore 9, 2) := by decide +kernel
theorem dX12_feed_63 : decode cX12_feed 63 = .ok (.iload 9, 2) := by decide +kernel
theorem dX12_feed_65 : decode cX12_feed 65 = .ok (.iload 8, 2) := by decide +kernel
theorem dX12_feed_67 : decode cX12_feed 67 = .ok (.if_icmp .ge 59, 3) := by decide +kernel
theorem dX12_feed_70 : decode cX12_feed 70 = .ok (.aload 7, 2) := by decide +kernel
theorem dX12_feed_72 : decode cX12_feed 72 = .ok (.iload 9, 2) := by decide +kernel
theorem dX12_feed_74 : decode cX12_feed 74 = .ok (.iaload, 1) := by decide +kernel
theorem dX12_feed_75 : decode cX12_feed 75 = .ok (.istore 10, 2) := by decide +kernel
theorem dX12_feed_77 : decode cX12_feed 77 = .ok (.bipush 24, 2) := by decide +kernel
theorem dX12_feed_79 : decode cX12_feed 79 = .ok (.istore 11, 2) := by decide +kernel
theorem dX12_feed_81 : decode cX12_feed 81 = .ok (.iload 11, 2) := by decide +kernel
theorem dX12_feed_83 : decode cX12_feed 83 = .ok (.ifCond .lt 37, 3) := by decide +kernel
theorem dX12_feed_86 : decode cX12_feed 86 = .ok (.aload_n 0, 1) := by decide +kernel
theorem dX12_feed_87 : decode cX12_feed 87 = .ok (.getfield 9, 3) := by decide +kernel
theorem dX12_feed_90 : decode cX12_feed 90 = .ok (.aload_n 0, 1) := by decide +kernel
theorem dX12_feed_91 : decode cX12_feed 91 = .ok (.getfield 88, 3) := by decide +kernel
theorem dX12_feed_94 : decode cX12_feed 94 = .ok (.iload 10, 2) := by decide +kernel
theorem dX12_feed_96 : decode cX12_feed 96 = .ok (.iload 11, 2) := by decide +kernel
theorem dX12_feed_98 : decode cX12_feed 98 = .ok (.ishr, 1) := by decide +kernel
theorem dX12_feed_99 : decode cX12_feed 99 = .ok (.sipush 255, 3) := by decide +kernel
theorem dX12_feed_102 : decode cX12_feed 102 = .ok (.iand, 1) := by decide +kernel
theorem dX12_feed_103 : decode cX12_feed 103 = .ok (.iastore, 1) := by decide +kernel
theorem dX12_feed_104 : decode cX12_feed 104 = .ok (.aload_n 0, 1) := by decide +kernel
theorem dX12_feed_105 : decode cX12_feed 105 = .ok (.dup, 1) := by decide +kernel
theorem dX12_feed_106 : decode cX12_feed 106 = .ok (.getfield 88, 3) := by decide +kernel
theorem dX12_feed_109 : decode cX12_feed 109 = .ok (.iconst 1, 1) := by decide +kernel
theorem dX12_feed_110 : decode cX12_feed 110 = .ok (.iadd, 1) := by decide +kernel
theorem dX12_feed_111 : decode cX12_feed 111 = .ok (.putfield 88, 3) := by decide +kernel
theorem dX12_feed_114 : decode cX12_feed 114 = .ok (.iinc 11 (-8), 3) := by decide +kernel
theorem dX12_feed_117 : decode cX12_feed 117 = .ok (.goto (-36), 3) := by decide +kernel
theorem dX12_feed_120 : decode cX12_feed 120 = .ok (.iinc 9 1, 3) := by decide +kernel
theorem dX12_feed_123 : decode cX12_feed 123 = .ok (.goto (-60), 3) := by decide +kernel
theorem dX12_feed_126 : decode cX12_feed 126 = .ok (.aload_n 0, 1) := by decide +kernel
theorem dX12_feed_127 : decode cX12_feed 127 = .ok (.getfield 88, 3) := by decide +kernel
theorem dX12_feed_130 : decode cX12_feed 130 = .ok (.ireturn, 1) := by decide +kernel
section T
variable {G : GT} {d : Nat} {S : List Value} {h : AH} {P : OC → AH → Prop} {x0 x1 x2 x3 x4 x5 x6 x7 x8 x9 x10 x11 x12 x13 x14 x15 : Option Value}
theorem tX12_feed_0 {k : Nat} (r : RQ G mX12_feed d 1 [some (.ref k), x1, x2, x3, x4, x5, x6, x7, x8, x9, x10, x11] (.ref k :: S) (h) P) : RQ G mX12_feed d 0 [some (.ref k), x1, x2, x3, x4, x5, x6, x7, x8, x9, x10, x11] (S) h P := q_aload_n (M := mX12_feed) (pc := 0) (r0 := some k) dX12_feed_0 rfl rfl r
theorem tX12_feed_1 (r : RQ G mX12_feed d 2 [x0, x1, x2, x3, x4, x5, x6, x7, x8, x9, x10, x11] (.int (nI 0) :: S) (h) P) : RQ G mX12_feed d 1 [x0, x1, x2, x3, x4, x5, x6, x7, x8, x9, x10, x11] (S) h P := q_iconst (M := mX12_feed) (pc := 1) dX12_feed_1 (by decide) r
theorem tX12_feed_2 {i : Nat} {vs : List Value} {v : Int32} (ha : At h i (.inr (10, vs))) (hlen : vs.length = 25) (r : RQ G mX12_feed d 5 [x0, x1, x2, x3, x4, x5, x6, x7, x8, x9, x10, x11] (S) (hset h i (.inr (10, vs.set 0 (.int v)))) P) : RQ G mX12_feed d 2 [x0, x1, x2, x3, x4, x5, x6, x7, x8, x9, x10, x11] (.int v :: .ref i :: S) h P := q_put (M := mX12_feed) (pc := 2) (kf := 0) (host := "") dX12_feed_2 (show CL[10]? = some (RX12, TX12, 25) from rfl) inA12 tyX12_ok nmX12 (by decide) rfl w1423 rfl (tyX12_ok 0 (by decide)) (nfit_int v) (by rw [hlen]; decide) ha r
theorem tX12_feed_5 {k : Nat} (r : RQ G mX12_feed d 6 [some (.ref k), x1, x2, x3, x4, x5, x6, x7, x8, x9, x10, x11] (.ref k :: S) (h) P) : RQ G mX12_feed d 5 [some (.ref k), x1, x2, x3, x4, x5, x6, x7, x8, x9, x10, x11] (S) h P := q_aload_n (M := mX12_feed) (pc := 5) (r0 := some k) dX12_feed_5 rfl rfl r
theorem tX12_feed_6 {i : Nat} {vs : List Value} {v : Value} (ha : At h i (.inr (10, vs))) (hv : vs[2]? = some v) (r : RQ G mX12_feed d 9 [x0, x1, x2, x3, x4, x5, x6, x7, x8, x9, x10, x11] (v :: S) (h) P) : RQ G mX12_feed d 6 [x0, x1, x2, x3, x4, x5, x6, x7, x8, x9, x10, x11] (.ref i :: S) h P := q_get (M := mX12_feed) (pc := 6) (kf := 2) dX12_feed_6 (show CL[10]? = some (RX12, TX12, 25) from rfl) inA12 (by decide) rfl w1425 ha hv r
theorem tX12_feed_9 (r : RQ G mX12_feed d 11 [x0, x1, x2, x3, x4, x5, x6, x7, x8, x9, x10, x11] (.int (nI 20) :: S) (h) P) : RQ G mX12_feed d 9 [x0, x1, x2, x3, x4, x5, x6, x7, x8, x9, x10, x11] (S) h P := q_bipush (M := mX12_feed) (pc := 9) dX12_feed_9 (by decide) r
theorem tX12_feed_11 {x y : Int32} (r : RQ G mX12_feed d 12 [x0, x1, x2, x3, x4, x5, x6, x7, x8, x9, x10, x11] (.int (x + y) :: S) (h) P) : RQ G mX12_feed d 11 [x0, x1, x2, x3, x4, x5, x6, x7, x8, x9, x10, x11] (.int y :: .int x :: S) h P := q_iadd (M := mX12_feed) (pc := 11) dX12_feed_11 r
theorem tX12_feed_12 (r : RQ G mX12_feed d 15 [x0, x1, x2, x3, x4, x5, x6, x7, x8, x9, x10, x11] (.int (nI 1600) :: S) (h) P) : RQ G mX12_feed d 12 [x0, x1, x2, x3, x4, x5, x6, x7, x8, x9, x10, x11] (S) h P := q_sipush (M := mX12_feed) (pc := 12) dX12_feed_12 (by decide) r
theorem tX12_feed_15 {x y : Int32} (kt : x ≤ y → RQ G mX12_feed d 24 [x0, x1, x2, x3, x4, x5, x6, x7, x8, x9, x10, x11] S h P) (kf : ¬ x ≤ y → RQ G mX12_feed d 18 [x0, x1, x2, x3, x4, x5, x6, x7, x8, x9, x10, x11] S h P) : RQ G mX12_feed d 15 [x0, x1, x2, x3, x4, x5, x6, x7, x8, x9, x10, x11] (.int y :: .int x :: S) h P := q_icmp_le (M := mX12_feed) (pc := 15) dX12_feed_15 (by decide) kt kf
theorem tX12_feed_18 {k : Nat} (r : RQ G mX12_feed d 19 [some (.ref k), x1, x2, x3, x4, x5, x6, x7, x8, x9, x10, x11] (.ref k :: S) (h) P) : RQ G mX12_feed d 18 [some (.ref k), x1, x2, x3, x4, x5, x6, x7, x8, x9, x10, x11] (S) h P := q_aload_n (M := mX12_feed) (pc := 18) (r0 := some k) dX12_feed_18 rfl rfl r
theorem tX12_feed_19 (r : RQ G mX12_feed d 20 [x0, x1, x2, x3, x4, x5, x6, x7, x8, x9, x10, x11] (.int (nI 1) :: S) (h) P) : RQ G mX12_feed d 19 [x0, x1, x2, x3, x4, x5, x6, x7, x8, x9, x10, x11] (S) h P := q_iconst (M := mX12_feed) (pc := 19) dX12_feed_19 (by decide) r
theorem tX12_feed_20 {b d2 : Nat} {vs : List Value} {a0 : Int32} {Q : Int32 → AH → Prop} (hd : d2 + 1 ≤ d) (ha : At h b (.inr (10, vs))) (call : RQ G mX12_no d2 0 [some (.ref b), some (.int a0)] [] h (Ri Q)) (k : ∀ x h1, Q x h1 → RQ G mX12_feed d 23 [x0, x1, x2, x3, x4, x5, x6, x7, x8, x9, x10, x11] (.int x :: S) h1 P) (hst : (S.map fun v => v.category).sum ≤ 8 := by exact Nat.le_of_ble_eq_true rfl)  : RQ G mX12_feed d 20 [x0, x1, x2, x3, x4, x5, x6, x7, x8, x9, x10, x11] (.int a0 :: .ref b :: S) h P := q_callV (M := mX12_feed) (pc := 20) (M2 := mX12_no) (As := [.int a0]) (n := 1) dX12_feed_20 rfl ⟨by decide, by decide, by decide, rfl⟩ rfl w1507 w1509 w41 w120 w1510 (show CL[10]? = some (RX12, TX12, 25) from rfl) hd (by decide) (Nat.le_of_ble_eq_true rfl) rfl ha hst call (callk_i k)
theorem tX12_feed_23 {x : Int32} (hP : P (.inl (some (.int x))) h) : RQ G mX12_feed d 23 [x0, x1, x2, x3, x4, x5, x6, x7, x8, x9, x10, x11] ([.int x]) h P := q_ireturn (M := mX12_feed) (pc := 23) (ty := .int) dX12_feed_23 rfl rfl hP
theorem tX12_feed_24 (r : RQ G mX12_feed d 25 [x0, x1, x2, x3, x4, x5, x6, x7, x8, x9, x10, x11] (.int (nI 5) :: S) (h) P) : RQ G mX12_feed d 24 [x0, x1, x2, x3, x4, x5, x6, x7, x8, x9, x10, x11] (S) h P := q_iconst (M := mX12_feed) (pc := 24) dX12_feed_24 (by decide) r
theorem tX12_feed_25 {n : Nat} {x : Int32} (hx : x = nI n) (hn : n < 60000000) (r : RQ G mX12_feed d 27 [x0, x1, x2, x3, x4, x5, x6, x7, x8, x9, x10, x11] (.ref h.1 :: S) (hnew h n (.inl (0, n, .inl (fun _ => 0)))) P) : RQ G mX12_feed d 25 [x0, x1, x2, x3, x4, x5, x6, x7, x8, x9, x10, x11] (.int x :: S) h P := q_newaI (M := mX12_feed) (pc := 25) dX12_feed_25 w186 hx hn r
theorem tX12_feed_27 {v : Value} (hv : ok1 (some v) = true := by rfl) (r : RQ G mX12_feed d 28 [x0, x1, x2, x3, x4, x5, x6, x7, x8, x9, x10, x11] (v :: v :: S) (h) P) : RQ G mX12_feed d 27 [x0, x1, x2, x3, x4, x5, x6, x7, x8, x9, x10, x11] (v :: S) h P := q_dup (M := mX12_feed) (pc := 27) dX12_feed_27 hv r
theorem tX12_feed_28 (r : RQ G mX12_feed d 29 [x0, x1, x2, x3, x4, x5, x6, x7, x8, x9, x10, x11] (.int (nI 0) :: S) (h) P) : RQ G mX12_feed d 28 [x0, x1, x2, x3, x4, x5, x6, x7, x8, x9, x10, x11] (S) h P := q_iconst (M := mX12_feed) (pc := 28) dX12_feed_28 (by decide) r
theorem tX12_feed_29 {v : Int32} (r : RQ G mX12_feed d 30 [x0, some (.int v), x2, x3, x4, x5, x6, x7, x8, x9, x10, x11] (.int v :: S) (h) P) : RQ G mX12_feed d 29 [x0, some (.int v), x2, x3, x4, x5, x6, x7, x8, x9, x10, x11] (S) h P := q_iload_n (M := mX12_feed) (pc := 29) dX12_feed_29 rfl rfl r
theorem tX12_feed_30 {a n j : Nat} {x : Int32} {v : Int32} {f : Nat → Int32} (ha : At h a (.inl (0, n, .inl f))) (hx : x = nI j) (hj : j < n) (hn : n < 2147483648) (r : RQ G mX12_feed d 31 [x0, x1, x2, x3, x4, x5, x6, x7, x8, x9, x10, x11] (S) (hset h a (.inl (0, n, .inl (upd f j v)))) P) : RQ G mX12_feed d 30 [x0, x1, x2, x3, x4, x5, x6, x7, x8, x9, x10, x11] (.int v :: .int x :: .ref a :: S) h P := q_iast (M := mX12_feed) (pc := 30) dX12_feed_30 ha hx hj hn r
theorem tX12_feed_31 {v : Value} (hv : ok1 (some v) = true := by rfl) (r : RQ G mX12_feed d 32 [x0, x1, x2, x3, x4, x5, x6, x7, x8, x9, x10, x11] (v :: v :: S) (h) P) : RQ G mX12_feed d 31 [x0, x1, x2, x3, x4, x5, x6, x7, x8, x9, x10, x11] (v :: S) h P := q_dup (M := mX12_feed) (pc := 31) dX12_feed_31 hv r
theorem tX12_feed_32 (r : RQ G mX12_feed d 33 [x0, x1, x2, x3, x4, x5, x6, x7, x8, x9, x10, x11] (.int (nI 1) :: S) (h) P) : RQ G mX12_feed d 32 [x0, x1, x2, x3, x4, x5, x6, x7, x8, x9, x10, x11] (S) h P := q_iconst (M := mX12_feed) (pc := 32) dX12_feed_32 (by decide) r
theorem tX12_feed_33 {v : Int32} (r : RQ G mX12_feed d 34 [x0, x1, some (.int v), x3, x4, x5, x6, x7, x8, x9, x10, x11] (.int v :: S) (h) P) : RQ G mX12_feed d 33 [x0, x1, some (.int v), x3, x4, x5, x6, x7, x8, x9, x10, x11] (S) h P := q_iload_n (M := mX12_feed) (pc := 33) dX12_feed_33 rfl rfl r
theorem tX12_feed_34 {a n j : Nat} {x : Int32} {v : Int32} {f : Nat → Int32} (ha : At h a (.inl (0, n, .inl f))) (hx : x = nI j) (hj : j < n) (hn : n < 2147483648) (r : RQ G mX12_feed d 35 [x0, x1, x2, x3, x4, x5, x6, x7, x8, x9, x10, x11] (S) (hset h a (.inl (0, n, .inl (upd f j v)))) P) : RQ G mX12_feed d 34 [x0, x1, x2, x3, x4, x5, x6, x7, x8, x9, x10, x11] (.int v :: .int x :: .ref a :: S) h P := q_iast (M := mX12_feed) (pc := 34) dX12_feed_34 ha hx hj hn r
theorem tX12_feed_35 {v : Value} (hv : ok1 (some v) = true := by rfl) (r : RQ G mX12_feed d 36 [x0, x1, x2, x3, x4, x5, x6, x7, x8, x9, x10, x11] (v :: v :: S) (h) P) : RQ G mX12_feed d 35 [x0, x1, x2, x3, x4, x5, x6, x7, x8, x9, x10, x11] (v :: S) h P := q_dup (M := mX12_feed) (pc := 35) dX12_feed_35 hv r
theorem tX12_feed_36 (r : RQ G mX12_feed d 37 [x0, x1, x2, x3, x4, x5, x6, x7, x8, x9, x10, x11] (.int (nI 2) :: S) (h) P) : RQ G mX12_feed d 36 [x0, x1, x2, x3, x4, x5, x6, x7, x8, x9, x10, x11] (S) h P := q_iconst (M := mX12_feed) (pc := 36) dX12_feed_36 (by decide) r
theorem tX12_feed_37 {v : Int32} (r : RQ G mX12_feed d 38 [x0, x1, x2, some (.int v), x4, x5, x6, x7, x8, x9, x10, x11] (.int v :: S) (h) P) : RQ G mX12_feed d 37 [x0, x1, x2, some (.int v), x4, x5, x6, x7, x8, x9, x10, x11] (S) h P := q_iload_n (M := mX12_feed) (pc := 37) dX12_feed_37 rfl rfl r
theorem tX12_feed_38 {a n j : Nat} {x : Int32} {v : Int32} {f : Nat → Int32} (ha : At h a (.inl (0, n, .inl f))) (hx : x = nI j) (hj : j < n) (hn : n < 2147483648) (r : RQ G mX12_feed d 39 [x0, x1, x2, x3, x4, x5, x6, x7, x8, x9, x10, x11] (S) (hset h a (.inl (0, n, .inl (upd f j v)))) P) : RQ G mX12_feed d 38 [x0, x1, x2, x3, x4, x5, x6, x7, x8, x9, x10, x11] (.int v :: .int x :: .ref a :: S) h P := q_iast (M := mX12_feed) (pc := 38) dX12_feed_38 ha hx hj hn r
theorem tX12_feed_39 {v : Value} (hv : ok1 (some v) = true := by rfl) (r : RQ G mX12_feed d 40 [x0, x1, x2, x3, x4, x5, x6, x7, x8, x9, x10, x11] (v :: v :: S) (h) P) : RQ G mX12_feed d 39 [x0, x1, x2, x3, x4, x5, x6, x7, x8, x9, x10, x11] (v :: S) h P := q_dup (M := mX12_feed) (pc := 39) dX12_feed_39 hv r
theorem tX12_feed_40 (r : RQ G mX12_feed d 41 [x0, x1, x2, x3, x4, x5, x6, x7, x8, x9, x10, x11] (.int (nI 3) :: S) (h) P) : RQ G mX12_feed d 40 [x0, x1, x2, x3, x4, x5, x6, x7, x8, x9, x10, x11] (S) h P := q_iconst (M := mX12_feed) (pc := 40) dX12_feed_40 (by decide) r
theorem tX12_feed_41 {v : Int32} (r : RQ G mX12_feed d 43 [x0, x1, x2, x3, some (.int v), x5, x6, x7, x8, x9, x10, x11] (.int v :: S) (h) P) : RQ G mX12_feed d 41 [x0, x1, x2, x3, some (.int v), x5, x6, x7, x8, x9, x10, x11] (S) h P := q_iload (M := mX12_feed) (pc := 41) dX12_feed_41 rfl r
theorem tX12_feed_43 {a n j : Nat} {x : Int32} {v : Int32} {f : Nat → Int32} (ha : At h a (.inl (0, n, .inl f))) (hx : x = nI j) (hj : j < n) (hn : n < 2147483648) (r : RQ G mX12_feed d 44 [x0, x1, x2, x3, x4, x5, x6, x7, x8, x9, x10, x11] (S) (hset h a (.inl (0, n, .inl (upd f j v)))) P) : RQ G mX12_feed d 43 [x0, x1, x2, x3, x4, x5, x6, x7, x8, x9, x10, x11] (.int v :: .int x :: .ref a :: S) h P := q_iast (M := mX12_feed) (pc := 43) dX12_feed_43 ha hx hj hn r
theorem tX12_feed_44 {v : Value} (hv : ok1 (some v) = true := by rfl) (r : RQ G mX12_feed d 45 [x0, x1, x2, x3, x4, x5, x6, x7, x8, x9, x10, x11] (v :: v :: S) (h) P) : RQ G mX12_feed d 44 [x0, x1, x2, x3, x4, x5, x6, x7, x8, x9, x10, x11] (v :: S) h P := q_dup (M := mX12_feed) (pc := 44) dX12_feed_44 hv r
theorem tX12_feed_45 (r : RQ G mX12_feed d 46 [x0, x1, x2, x3, x4, x5, x6, x7, x8, x9, x10, x11] (.int (nI 4) :: S) (h) P) : RQ G mX12_feed d 45 [x0, x1, x2, x3, x4, x5, x6, x7, x8, x9, x10, x11] (S) h P := q_iconst (M := mX12_feed) (pc := 45) dX12_feed_45 (by decide) r
theorem tX12_feed_46 {v : Int32} (r : RQ G mX12_feed d 48 [x0, x1, x2, x3, x4, some (.int v), x6, x7, x8, x9, x10, x11] (.int v :: S) (h) P) : RQ G mX12_feed d 46 [x0, x1, x2, x3, x4, some (.int v), x6, x7, x8, x9, x10, x11] (S) h P := q_iload (M := mX12_feed) (pc := 46) dX12_feed_46 rfl r
theorem tX12_feed_48 {a n j : Nat} {x : Int32} {v : Int32} {f : Nat → Int32} (ha : At h a (.inl (0, n, .inl f))) (hx : x = nI j) (hj : j < n) (hn : n < 2147483648) (r : RQ G mX12_feed d 49 [x0, x1, x2, x3, x4, x5, x6, x7, x8, x9, x10, x11] (S) (hset h a (.inl (0, n, .inl (upd f j v)))) P) : RQ G mX12_feed d 48 [x0, x1, x2, x3, x4, x5, x6, x7, x8, x9, x10, x11] (.int v :: .int x :: .ref a :: S) h P := q_iast (M := mX12_feed) (pc := 48) dX12_feed_48 ha hx hj hn r
theorem tX12_feed_49 {k : Nat} (ho : ok1 x5 = true := by rfl) (r : RQ G mX12_feed d 51 [x0, x1, x2, x3, x4, x5, some (.ref k), x7, x8, x9, x10, x11] (S) (h) P) : RQ G mX12_feed d 49 [x0, x1, x2, x3, x4, x5, x6, x7, x8, x9, x10, x11] (.ref k :: S) h P := q_astore (M := mX12_feed) (pc := 49) (r0 := some k) dX12_feed_49 (Nat.le_of_ble_eq_true rfl) ho r
theorem tX12_feed_51 {k : Nat} (r : RQ G mX12_feed d 53 [x0, x1, x2, x3, x4, x5, some (.ref k), x7, x8, x9, x10, x11] (.ref k :: S) (h) P) : RQ G mX12_feed d 51 [x0, x1, x2, x3, x4, x5, some (.ref k), x7, x8, x9, x10, x11] (S) h P := q_aload (M := mX12_feed) (pc := 51) (r0 := some k) dX12_feed_51 rfl r
theorem tX12_feed_53 {k : Nat} (ho : ok1 x6 = true := by rfl) (r : RQ G mX12_feed d 55 [x0, x1, x2, x3, x4, x5, x6, some (.ref k), x8, x9, x10, x11] (S) (h) P) : RQ G mX12_feed d 53 [x0, x1, x2, x3, x4, x5, x6, x7, x8, x9, x10, x11] (.ref k :: S) h P := q_astore (M := mX12_feed) (pc := 53) (r0 := some k) dX12_feed_53 (Nat.le_of_ble_eq_true rfl) ho r
theorem tX12_feed_55 {k : Nat} (r : RQ G mX12_feed d 57 [x0, x1, x2, x3, x4, x5, x6, some (.ref k), x8, x9, x10, x11] (.ref k :: S) (h) P) : RQ G mX12_feed d 55 [x0, x1, x2, x3, x4, x5, x6, some (.ref k), x8, x9, x10, x11] (S) h P := q_aload (M := mX12_feed) (pc := 55) (r0 := some k) dX12_feed_55 rfl r
theorem tX12_feed_57 {a n : Nat} {f : Nat → Int32} (ha : At h a (.inl (0, n, .inl f))) (r : RQ G mX12_feed d 58 [x0, x1, x2, x3, x4, x5, x6, x7, x8, x9, x10, x11] (.int (nI n) :: S) (h) P) : RQ G mX12_feed d 57 [x0, x1, x2, x3, x4, x5, x6, x7, x8, x9, x10, x11] (.ref a :: S) h P := q_alen (M := mX12_feed) (pc := 57) (t := 0) dX12_feed_57 rfl ha rfl r
theorem tX12_feed_58 {v : Int32} (ho : ok1 x7 = true := by rfl) (r : RQ G mX12_feed d 60 [x0, x1, x2, x3, x4, x5, x6, x7, some (.int v), x9, x10, x11] (S) (h) P) : RQ G mX12_feed d 58 [x0, x1, x2, x3, x4, x5, x6, x7, x8, x9, x10, x11] (.int v :: S) h P := q_istore (M := mX12_feed) (pc := 58) dX12_feed_58 (Nat.le_of_ble_eq_true rfl) ho r
theorem tX12_feed_60 (r : RQ G mX12_feed d 61 [x0, x1, x2, x3, x4, x5, x6, x7, x8, x9, x10, x11] (.int (nI 0) :: S) (h) P) : RQ G mX12_feed d 60 [x0, x1, x2, x3, x4, x5, x6, x7, x8, x9, x10, x11] (S) h P := q_iconst (M := mX12_feed) (pc := 60) dX12_feed_60 (by decide) r
theorem tX12_feed_61 {v : Int32} (ho : ok1 x8 = true := by rfl) (r : RQ G mX12_feed d 63 [x0, x1, x2, x3, x4, x5, x6, x7, x8, some (.int v), x10, x11] (S) (h) P) : RQ G mX12_feed d 61 [x0, x1, x2, x3, x4, x5, x6, x7, x8, x9, x10, x11] (.int v :: S) h P := q_istore (M := mX12_feed) (pc := 61) dX12_feed_61 (Nat.le_of_ble_eq_true rfl) ho r
theorem tX12_feed_63 {v : Int32} (r : RQ G mX12_feed d 65 [x0, x1, x2, x3, x4, x5, x6, x7, x8, some (.int v), x10, x11] (.int v :: S) (h) P) : RQ G mX12_feed d 63 [x0, x1, x2, x3, x4, x5, x6, x7, x8, some (.int v), x10, x11] (S) h P := q_iload (M := mX12_feed) (pc := 63) dX12_feed_63 rfl r
theorem tX12_feed_65 {v : Int32} (r : RQ G mX12_feed d 67 [x0, x1, x2, x3, x4, x5, x6, x7, some (.int v), x9, x10, x11] (.int v :: S) (h) P) : RQ G mX12_feed d 65 [x0, x1, x2, x3, x4, x5, x6, x7, some (.int v), x9, x10, x11] (S) h P := q_iload (M := mX12_feed) (pc := 65) dX12_feed_65 rfl r
theorem tX12_feed_67 {x y : Int32} (kt : y ≤ x → RQ G mX12_feed d 126 [x0, x1, x2, x3, x4, x5, x6, x7, x8, x9, x10, x11] S h P) (kf : ¬ y ≤ x → RQ G mX12_feed d 70 [x0, x1, x2, x3, x4, x5, x6, x7, x8, x9, x10, x11] S h P) : RQ G mX12_feed d 67 [x0, x1, x2, x3, x4, x5, x6, x7, x8, x9, x10, x11] (.int y :: .int x :: S) h P := q_icmp_ge (M := mX12_feed) (pc := 67) dX12_feed_67 (by decide) kt kf
theorem tX12_feed_70 {k : Nat} (r : RQ G mX12_feed d 72 [x0, x1, x2, x3, x4, x5, x6, some (.ref k), x8, x9, x10, x11] (.ref k :: S) (h) P) : RQ G mX12_feed d 70 [x0, x1, x2, x3, x4, x5, x6, some (.ref k), x8, x9, x10, x11] (S) h P := q_aload (M := mX12_feed) (pc := 70) (r0 := some k) dX12_feed_70 rfl r
theorem tX12_feed_72 {v : Int32} (r : RQ G mX12_feed d 74 [x0, x1, x2, x3, x4, x5, x6, x7, x8, some (.int v), x10, x11] (.int v :: S) (h) P) : RQ G mX12_feed d 72 [x0, x1, x2, x3, x4, x5, x6, x7, x8, some (.int v), x10, x11] (S) h P := q_iload (M := mX12_feed) (pc := 72) dX12_feed_72 rfl r
theorem tX12_feed_74 {a n j : Nat} {x : Int32} {f : Nat → Int32} (ha : At h a (.inl (0, n, .inl f))) (hx : x = nI j) (hj : j < n) (hn : n < 2147483648) (r : RQ G mX12_feed d 75 [x0, x1, x2, x3, x4, x5, x6, x7, x8, x9, x10, x11] (.int (f j) :: S) (h) P) : RQ G mX12_feed d 74 [x0, x1, x2, x3, x4, x5, x6, x7, x8, x9, x10, x11] (.int x :: .ref a :: S) h P := q_iald (M := mX12_feed) (pc := 74) dX12_feed_74 ha hx hj hn r
theorem tX12_feed_75 {v : Int32} (ho : ok1 x9 = true := by rfl) (r : RQ G mX12_feed d 77 [x0, x1, x2, x3, x4, x5, x6, x7, x8, x9, some (.int v), x11] (S) (h) P) : RQ G mX12_feed d 75 [x0, x1, x2, x3, x4, x5, x6, x7, x8, x9, x10, x11] (.int v :: S) h P := q_istore (M := mX12_feed) (pc := 75) dX12_feed_75 (Nat.le_of_ble_eq_true rfl) ho r
theorem tX12_feed_77 (r : RQ G mX12_feed d 79 [x0, x1, x2, x3, x4, x5, x6, x7, x8, x9, x10, x11] (.int (nI 24) :: S) (h) P) : RQ G mX12_feed d 77 [x0, x1, x2, x3, x4, x5, x6, x7, x8, x9, x10, x11] (S) h P := q_bipush (M := mX12_feed) (pc := 77) dX12_feed_77 (by decide) r
theorem tX12_feed_79 {v : Int32} (ho : ok1 x10 = true := by rfl) (r : RQ G mX12_feed d 81 [x0, x1, x2, x3, x4, x5, x6, x7, x8, x9, x10, some (.int v)] (S) (h) P) : RQ G mX12_feed d 79 [x0, x1, x2, x3, x4, x5, x6, x7, x8, x9, x10, x11] (.int v :: S) h P := q_istore (M := mX12_feed) (pc := 79) dX12_feed_79 (Nat.le_of_ble_eq_true rfl) ho r
theorem tX12_feed_81 {v : Int32} (r : RQ G mX12_feed d 83 [x0, x1, x2, x3, x4, x5, x6, x7, x8, x9, x10, some (.int v)] (.int v :: S) (h) P) : RQ G mX12_feed d 81 [x0, x1, x2, x3, x4, x5, x6, x7, x8, x9, x10, some (.int v)] (S) h P := q_iload (M := mX12_feed) (pc := 81) dX12_feed_81 rfl r
theorem tX12_feed_83 {x : Int32} (kt : x < 0 → RQ G mX12_feed d 120 [x0, x1, x2, x3, x4, x5, x6, x7, x8, x9, x10, x11] S h P) (kf : ¬ x < 0 → RQ G mX12_feed d 86 [x0, x1, x2, x3, x4, x5, x6, x7, x8, x9, x10, x11] S h P) : RQ G mX12_feed d 83 [x0, x1, x2, x3, x4, x5, x6, x7, x8, x9, x10, x11] (.int x :: S) h P := q_if_lt (M := mX12_feed) (pc := 83) dX12_feed_83 (by decide) kt kf
theorem tX12_feed_86 {k : Nat} (r : RQ G mX12_feed d 87 [some (.ref k), x1, x2, x3, x4, x5, x6, x7, x8, x9, x10, x11] (.ref k :: S) (h) P) : RQ G mX12_feed d 86 [some (.ref k), x1, x2, x3, x4, x5, x6, x7, x8, x9, x10, x11] (S) h P := q_aload_n (M := mX12_feed) (pc := 86) (r0 := some k) dX12_feed_86 rfl rfl r
theorem tX12_feed_87 {i : Nat} {vs : List Value} {v : Value} (ha : At h i (.inr (10, vs))) (hv : vs[1]? = some v) (r : RQ G mX12_feed d 90 [x0, x1, x2, x3, x4, x5, x6, x7, x8, x9, x10, x11] (v :: S) (h) P) : RQ G mX12_feed d 87 [x0, x1, x2, x3, x4, x5, x6, x7, x8, x9, x10, x11] (.ref i :: S) h P := q_get (M := mX12_feed) (pc := 87) (kf := 1) dX12_feed_87 (show CL[10]? = some (RX12, TX12, 25) from rfl) inA12 (by decide) rfl w1424 ha hv r
theorem tX12_feed_90 {k : Nat} (r : RQ G mX12_feed d 91 [some (.ref k), x1, x2, x3, x4, x5, x6, x7, x8, x9, x10, x11] (.ref k :: S) (h) P) : RQ G mX12_feed d 90 [some (.ref k), x1, x2, x3, x4, x5, x6, x7, x8, x9, x10, x11] (S) h P := q_aload_n (M := mX12_feed) (pc := 90) (r0 := some k) dX12_feed_90 rfl rfl r
theorem tX12_feed_91 {i : Nat} {vs : List Value} {v : Value} (ha : At h i (.inr (10, vs))) (hv : vs[2]? = some v) (r : RQ G mX12_feed d 94 [x0, x1, x2, x3, x4, x5, x6, x7, x8, x9, x10, x11] (v :: S) (h) P) : RQ G mX12_feed d 91 [x0, x1, x2, x3, x4, x5, x6, x7, x8, x9, x10, x11] (.ref i :: S) h P := q_get (M := mX12_feed) (pc := 91) (kf := 2) dX12_feed_91 (show CL[10]? = some (RX12, TX12, 25) from rfl) inA12 (by decide) rfl w1425 ha hv r
theorem tX12_feed_94 {v : Int32} (r : RQ G mX12_feed d 96 [x0, x1, x2, x3, x4, x5, x6, x7, x8, x9, some (.int v), x11] (.int v :: S) (h) P) : RQ G mX12_feed d 94 [x0, x1, x2, x3, x4, x5, x6, x7, x8, x9, some (.int v), x11] (S) h P := q_iload (M := mX12_feed) (pc := 94) dX12_feed_94 rfl r
theorem tX12_feed_96 {v : Int32} (r : RQ G mX12_feed d 98 [x0, x1, x2, x3, x4, x5, x6, x7, x8, x9, x10, some (.int v)] (.int v :: S) (h) P) : RQ G mX12_feed d 96 [x0, x1, x2, x3, x4, x5, x6, x7, x8, x9, x10, some (.int v)] (S) h P := q_iload (M := mX12_feed) (pc := 96) dX12_feed_96 rfl r
theorem tX12_feed_98 {x y : Int32} (r : RQ G mX12_feed d 99 [x0, x1, x2, x3, x4, x5, x6, x7, x8, x9, x10, x11] (.int (x >>> (y &&& 31)) :: S) (h) P) : RQ G mX12_feed d 98 [x0, x1, x2, x3, x4, x5, x6, x7, x8, x9, x10, x11] (.int y :: .int x :: S) h P := q_ishr (M := mX12_feed) (pc := 98) dX12_feed_98 r
theorem tX12_feed_99 (r : RQ G mX12_feed d 102 [x0, x1, x2, x3, x4, x5, x6, x7, x8, x9, x10, x11] (.int (nI 255) :: S) (h) P) : RQ G mX12_feed d 99 [x0, x1, x2, x3, x4, x5, x6, x7, x8, x9, x10, x11] (S) h P := q_sipush (M := mX12_feed) (pc := 99) dX12_feed_99 (by decide) r
theorem tX12_feed_102 {x y : Int32} (r : RQ G mX12_feed d 103 [x0, x1, x2, x3, x4, x5, x6, x7, x8, x9, x10, x11] (.int (x &&& y) :: S) (h) P) : RQ G mX12_feed d 102 [x0, x1, x2, x3, x4, x5, x6, x7, x8, x9, x10, x11] (.int y :: .int x :: S) h P := q_iand (M := mX12_feed) (pc := 102) dX12_feed_102 r
theorem tX12_feed_103 {a n j : Nat} {x : Int32} {v : Int32} {f : Nat → Int32} (ha : At h a (.inl (0, n, .inl f))) (hx : x = nI j) (hj : j < n) (hn : n < 2147483648) (r : RQ G mX12_feed d 104 [x0, x1, x2, x3, x4, x5, x6, x7, x8, x9, x10, x11] (S) (hset h a (.inl (0, n, .inl (upd f j v)))) P) : RQ G mX12_feed d 103 [x0, x1, x2, x3, x4, x5, x6, x7, x8, x9, x10, x11] (.int v :: .int x :: .ref a :: S) h P := q_iast (M := mX12_feed) (pc := 103) dX12_feed_103 ha hx hj hn r
theorem tX12_feed_104 {k : Nat} (r : RQ G mX12_feed d 105 [some (.ref k), x1, x2, x3, x4, x5, x6, x7, x8, x9, x10, x11] (.ref k :: S) (h) P) : RQ G mX12_feed d 104 [some (.ref k), x1, x2, x3, x4, x5, x6, x7, x8, x9, x10, x11] (S) h P := q_aload_n (M := mX12_feed) (pc := 104) (r0 := some k) dX12_feed_104 rfl rfl r
theorem tX12_feed_105 {v : Value} (hv : ok1 (some v) = true := by rfl) (r : RQ G mX12_feed d 106 [x0, x1, x2, x3, x4, x5, x6, x7, x8, x9, x10, x11] (v :: v :: S) (h) P) : RQ G mX12_feed d 105 [x0, x1, x2, x3, x4, x5, x6, x7, x8, x9, x10, x11] (v :: S) h P := q_dup (M := mX12_feed) (pc := 105) dX12_feed_105 hv r
theorem tX12_feed_106 {i : Nat} {vs : List Value} {v : Value} (ha : At h i (.inr (10, vs))) (hv : vs[2]? = some v) (r : RQ G mX12_feed d 109 [x0, x1, x2, x3, x4, x5, x6, x7, x8, x9, x10, x11] (v :: S) (h) P) : RQ G mX12_feed d 106 [x0, x1, x2, x3, x4, x5, x6, x7, x8, x9, x10, x11] (.ref i :: S) h P := q_get (M := mX12_feed) (pc := 106) (kf := 2) dX12_feed_106 (show CL[10]? = some (RX12, TX12, 25) from rfl) inA12 (by decide) rfl w1425 ha hv r
theorem tX12_feed_109 (r : RQ G mX12_feed d 110 [x0, x1, x2, x3, x4, x5, x6, x7, x8, x9, x10, x11] (.int (nI 1) :: S) (h) P) : RQ G mX12_feed d 109 [x0, x1, x2, x3, x4, x5, x6, x7, x8, x9, x10, x11] (S) h P := q_iconst (M := mX12_feed) (pc := 109) dX12_feed_109 (by decide) r
theorem tX12_feed_110 {x y : Int32} (r : RQ G mX12_feed d 111 [x0, x1, x2, x3, x4, x5, x6, x7, x8, x9, x10, x11] (.int (x + y) :: S) (h) P) : RQ G mX12_feed d 110 [x0, x1, x2, x3, x4, x5, x6, x7, x8, x9, x10, x11] (.int y :: .int x :: S) h P := q_iadd (M := mX12_feed) (pc := 110) dX12_feed_110 r
theorem tX12_feed_111 {i : Nat} {vs : List Value} {v : Int32} (ha : At h i (.inr (10, vs))) (hlen : vs.length = 25) (r : RQ G mX12_feed d 114 [x0, x1, x2, x3, x4, x5, x6, x7, x8, x9, x10, x11] (S) (hset h i (.inr (10, vs.set 2 (.int v)))) P) : RQ G mX12_feed d 111 [x0, x1, x2, x3, x4, x5, x6, x7, x8, x9, x10, x11] (.int v :: .ref i :: S) h P := q_put (M := mX12_feed) (pc := 111) (kf := 2) (host := "") dX12_feed_111 (show CL[10]? = some (RX12, TX12, 25) from rfl) inA12 tyX12_ok nmX12 (by decide) rfl w1425 rfl (tyX12_ok 2 (by decide)) (nfit_int v) (by rw [hlen]; decide) ha r
theorem tX12_feed_114 {v : Int32} (ho : ok1 x10 = true := by rfl) (r : RQ G mX12_feed d 117 [x0, x1, x2, x3, x4, x5, x6, x7, x8, x9, x10, some (.int (v + (-8)))] (S) (h) P) : RQ G mX12_feed d 114 [x0, x1, x2, x3, x4, x5, x6, x7, x8, x9, x10, some (.int v)] (S) h P := q_iinc (M := mX12_feed) (pc := 114) dX12_feed_114 rfl (congrArg (v + ·) (show Int32.ofInt (-8) = (-8) by decide)) (Nat.le_of_ble_eq_true rfl) ho r
theorem tX12_feed_117 (r : RQ G mX12_feed d 81 [x0, x1, x2, x3, x4, x5, x6, x7, x8, x9, x10, x11] S h P) : RQ G mX12_feed d 117 [x0, x1, x2, x3, x4, x5, x6, x7, x8, x9, x10, x11] (S) h P := q_goto (M := mX12_feed) (pc := 117) dX12_feed_117 (by decide) r
theorem tX12_feed_120 {v : Int32} (ho : ok1 x8 = true := by rfl) (r : RQ G mX12_feed d 123 [x0, x1, x2, x3, x4, x5, x6, x7, x8, some (.int (v + (nI 1))), x10, x11] (S) (h) P) : RQ G mX12_feed d 120 [x0, x1, x2, x3, x4, x5, x6, x7, x8, some (.int v), x10, x11] (S) h P := q_iinc (M := mX12_feed) (pc := 120) dX12_feed_120 rfl (congrArg (v + ·) (show Int32.ofInt (1) = (nI 1) by decide)) (Nat.le_of_ble_eq_true rfl) ho r
theorem tX12_feed_123 (r : RQ G mX12_feed d 63 [x0, x1, x2, x3, x4, x5, x6, x7, x8, x9, x10, x11] S h P) : RQ G mX12_feed d 123 [x0, x1, x2, x3, x4, x5, x6, x7, x8, x9, x10, x11] (S) h P := q_goto (M := mX12_feed) (pc := 123) dX12_feed_123 (by decide) r
theorem tX12_feed_126 {k : Nat} (r : RQ G mX12_feed d 127 [some (.ref k), x1, x2, x3, x4, x5, x6, x7, x8, x9, x10, x11] (.ref k :: S) (h) P) : RQ G mX12_feed d 126 [some (.ref k), x1, x2, x3, x4, x5, x6, x7, x8, x9, x10, x11] (S) h P := q_aload_n (M := mX12_feed) (pc := 126) (r0 := some k) dX12_feed_126 rfl rfl r
theorem tX12_feed_127 {i : Nat} {vs : List Value} {v : Value} (ha : At h i (.inr (10, vs))) (hv : vs[2]? = some v) (r : RQ G mX12_feed d 130 [x0, x1, x2, x3, x4, x5, x6, x7, x8, x9, x10, x11] (v :: S) (h) P) : RQ G mX12_feed d 127 [x0, x1, x2, x3, x4, x5, x6, x7, x8, x9, x10, x11] (.ref i :: S) h P := q_get (M := mX12_feed) (pc := 127) (kf := 2) dX12_feed_127 (show CL[10]? = some (RX12, TX12, 25) from rfl) inA12 (by decide) rfl w1425 ha hv r
theorem tX12_feed_130 {x : Int32} (hP : P (.inl (some (.int x))) h) : RQ G mX12_feed d 130 [x0, x1, x2, x3, x4, x5, x6, x7, x8, x9, x10, x11] ([.int x]) h P := q_ireturn (M := mX12_feed) (pc := 130) (ty := .int) dX12_feed_130 rfl rfl hP
end T
theorem dX12_trim_0 : decode cX12_trim 0 = .ok (.aload_n 0, 1) := by decide +kernel
theorem dX12_trim_1 : decode cX12_trim 1 = .ok (.iconst 0, 1) := by decide +kernel
theorem dX12_trim_2 : decode cX12_trim 2 = .ok (.putfield 69, 3) := by decide +kernel
theorem dX12_trim_5 : decode cX12_trim 5 = .ok (.iload_n 1, 1) := by decide +kernel
theorem dX12_trim_6 : decode cX12_trim 6 = .ok (.iconst 0, 1) := by decide +kernel
theorem dX12_trim_7 : decode cX12_trim 7 = .ok (.aload_n 0, 1) := by decide +kernel
theorem dX12_trim_8 : decode cX12_trim 8 = .ok (.getfield 88, 3) := by decide +kernel
theorem dX12_trim_11 : decode cX12_trim 11 = .ok (.invokestatic 84, 3) := by decide +kernel
theorem dX12_trim_14 : decode cX12_trim 14 = .ok (.ifCond .ne 9, 3) := by decide +kernel
theorem dX12_trim_17 : decode cX12_trim 17 = .ok (.aload_n 0, 1) := by decide +kernel
theorem dX12_trim_18 : decode cX12_trim 18 = .ok (.iconst 1, 1) := by decide +kernel
theorem dX12_trim_19 : decode cX12_trim 19 = .ok (.invokevirtual 296, 3) := by decide +kernel
theorem dX12_trim_22 : decode cX12_trim 22 = .ok (.ireturn, 1) := by decide +kernel
theorem dX12_trim_23 : decode cX12_trim 23 = .ok (.aload_n 0, 1) := by decide +kernel
theorem dX12_trim_24 : decode cX12_trim 24 = .ok (.iload_n 1, 1) := by decide +kernel
theorem dX12_trim_25 : decode cX12_trim 25 = .ok (.putfield 88, 3) := by decide +kernel
theorem dX12_trim_28 : decode cX12_trim 28 = .ok (.iload_n 1, 1) := by decide +kernel
theorem dX12_trim_29 : decode cX12_trim 29 = .ok (.ireturn, 1) := by decide +kernel
section T
variable {G : GT} {d : Nat} {S : List Value} {h : AH} {P : OC → AH → Prop} {x0 x1 x2 x3 x4 x5 x6 x7 x8 x9 x10 x11 x12 x13 x14 x15 : Option Value}
theorem tX12_trim_0 {k : Nat} (r : RQ G mX12_trim d 1 [some (.ref k), x1] (.ref k :: S) (h) P) : RQ G mX12_trim d 0 [some (.ref k), x1] (S) h P := q_aload_n (M := mX12_trim) (pc := 0) (r0 := some k) dX12_trim_0 rfl rfl r
theorem tX12_trim_1 (r : RQ G mX12_trim d 2 [x0, x1] (.int (nI 0) :: S) (h) P) : RQ G mX12_trim d 1 [x0, x1] (S) h P := q_iconst (M := mX12_trim) (pc := 1) dX12_trim_1 (by decide) r
theorem tX12_trim_2 {i : Nat} {vs : List Value} {v : Int32} (ha : At h i (.inr (10, vs))) (hlen : vs.length = 25) (r : RQ G mX12_trim d 5 [x0, x1] (S) (hset h i (.inr (10, vs.set 0 (.int v)))) P) : RQ G mX12_trim d 2 [x0, x1] (.int v :: .ref i :: S) h P := q_put (M := mX12_trim) (pc := 2) (kf := 0) (host := "") dX12_trim_2 (show CL[10]? = some (RX12, TX12, 25) from rfl) inA12 tyX12_ok nmX12 (by decide) rfl w1423 rfl (tyX12_ok 0 (by decide)) (nfit_int v) (by rw [hlen]; decide) ha r
theorem tX12_trim_5 {v : Int32} (r : RQ G mX12_trim d 6 [x0, some (.int v)] (.int v :: S) (h) P) : RQ G mX12_trim d 5 [x0, some (.int v)] (S) h P := q_iload_n (M := mX12_trim) (pc := 5) dX12_trim_5 rfl rfl r
theorem tX12_trim_6 (r : RQ G mX12_trim d 7 [x0, x1] (.int (nI 0) :: S) (h) P) : RQ G mX12_trim d 6 [x0, x1] (S) h P := q_iconst (M := mX12_trim) (pc := 6) dX12_trim_6 (by decide) r
theorem tX12_trim_7 {k : Nat} (r : RQ G mX12_trim d 8 [some (.ref k), x1] (.ref k :: S) (h) P) : RQ G mX12_trim d 7 [some (.ref k), x1] (S) h P := q_aload_n (M := mX12_trim) (pc := 7) (r0 := some k) dX12_trim_7 rfl rfl r
theorem tX12_trim_8 {i : Nat} {vs : List Value} {v : Value} (ha : At h i (.inr (10, vs))) (hv : vs[2]? = some v) (r : RQ G mX12_trim d 11 [x0, x1] (v :: S) (h) P) : RQ G mX12_trim d 8 [x0, x1] (.ref i :: S) h P := q_get (M := mX12_trim) (pc := 8) (kf := 2) dX12_trim_8 (show CL[10]? = some (RX12, TX12, 25) from rfl) inA12 (by decide) rfl w1425 ha hv r
theorem tX12_trim_11 {d2 : Nat} {a0 : Int32} {a1 : Int32} {a2 : Int32} {Q : Int32 → AH → Prop} (hd : d2 + 1 ≤ d) (call : RQ G mX12_isIn d2 0 [some (.int a0), some (.int a1), some (.int a2)] [] h (Ri Q)) (k : ∀ x h1, Q x h1 → RQ G mX12_trim d 14 [x0, x1] (.int x :: S) h1 P) (hst : (S.map fun v => v.category).sum ≤ 8 := by exact Nat.le_of_ble_eq_true rfl)  : RQ G mX12_trim d 11 [x0, x1] (.int a2 :: .int a1 :: .int a0 :: S) h P := q_callS (M := mX12_trim) (pc := 11) (M2 := mX12_isIn) (As := [.int a0, .int a1, .int a2]) (n := 3) dX12_trim_11 ⟨by decide, by decide, by decide, rfl⟩ rfl w1515 w1516 w120 w1517 hd (by decide) (Nat.le_of_ble_eq_true rfl) rfl hst call (callk_i k)
theorem tX12_trim_14 {x : Int32} (kt : ¬ x = 0 → RQ G mX12_trim d 23 [x0, x1] S h P) (kf : x = 0 → RQ G mX12_trim d 17 [x0, x1] S h P) : RQ G mX12_trim d 14 [x0, x1] (.int x :: S) h P := q_if_ne (M := mX12_trim) (pc := 14) dX12_trim_14 (by decide) kt kf
theorem tX12_trim_17 {k : Nat} (r : RQ G mX12_trim d 18 [some (.ref k), x1] (.ref k :: S) (h) P) : RQ G mX12_trim d 17 [some (.ref k), x1] (S) h P := q_aload_n (M := mX12_trim) (pc := 17) (r0 := some k) dX12_trim_17 rfl rfl r
theorem tX12_trim_18 (r : RQ G mX12_trim d 19 [x0, x1] (.int (nI 1) :: S) (h) P) : RQ G mX12_trim d 18 [x0, x1] (S) h P := q_iconst (M := mX12_trim) (pc := 18) dX12_trim_18 (by decide) r
theorem tX12_trim_19 {b d2 : Nat} {vs : List Value} {a0 : Int32} {Q : Int32 → AH → Prop} (hd : d2 + 1 ≤ d) (ha : At h b (.inr (10, vs))) (call : RQ G mX12_no d2 0 [some (.ref b), some (.int a0)] [] h (Ri Q)) (k : ∀ x h1, Q x h1 → RQ G mX12_trim d 22 [x0, x1] (.int x :: S) h1 P) (hst : (S.map fun v => v.category).sum ≤ 8 := by exact Nat.le_of_ble_eq_true rfl)  : RQ G mX12_trim d 19 [x0, x1] (.int a0 :: .ref b :: S) h P := q_callV (M := mX12_trim) (pc := 19) (M2 := mX12_no) (As := [.int a0]) (n := 1) dX12_trim_19 rfl ⟨by decide, by decide, by decide, rfl⟩ rfl w1507 w1509 w41 w120 w1510 (show CL[10]? = some (RX12, TX12, 25) from rfl) hd (by decide) (Nat.le_of_ble_eq_true rfl) rfl ha hst call (callk_i k)
theorem tX12_trim_22 {x : Int32} (hP : P (.inl (some (.int x))) h) : RQ G mX12_trim d 22 [x0, x1] ([.int x]) h P := q_ireturn (M := mX12_trim) (pc := 22) (ty := .int) dX12_trim_22 rfl rfl hP
theorem tX12_trim_23 {k : Nat} (r : RQ G mX12_trim d 24 [some (.ref k), x1] (.ref k :: S) (h) P) : RQ G mX12_trim d 23 [some (.ref k), x1] (S) h P := q_aload_n (M := mX12_trim) (pc := 23) (r0 := some k) dX12_trim_23 rfl rfl r
theorem tX12_trim_24 {v : Int32} (r : RQ G mX12_trim d 25 [x0, some (.int v)] (.int v :: S) (h) P) : RQ G mX12_trim d 24 [x0, some (.int v)] (S) h P := q_iload_n (M := mX12_trim) (pc := 24) dX12_trim_24 rfl rfl r
theorem tX12_trim_25 {i : Nat} {vs : List Value} {v : Int32} (ha : At h i (.inr (10, vs))) (hlen : vs.length = 25) (r : RQ G mX12_trim d 28 [x0, x1] (S) (hset h i (.inr (10, vs.set 2 (.int v)))) P) : RQ G mX12_trim d 25 [x0, x1] (.int v :: .ref i :: S) h P := q_put (M := mX12_trim) (pc := 25) (kf := 2) (host := "") dX12_trim_25 (show CL[10]? = some (RX12, TX12, 25) from rfl) inA12 tyX12_ok nmX12 (by decide) rfl w1425 rfl (tyX12_ok 2 (by decide)) (nfit_int v) (by rw [hlen]; decide) ha r
theorem tX12_trim_28 {v : Int32} (r : RQ G mX12_trim d 29 [x0, some (.int v)] (.int v :: S) (h) P) : RQ G mX12_trim d 28 [x0, some (.int v)] (S) h P := q_iload_n (M := mX12_trim) (pc := 28) dX12_trim_28 rfl rfl r
theorem tX12_trim_29 {x : Int32} (hP : P (.inl (some (.int x))) h) : RQ G mX12_trim d 29 [x0, x1] ([.int x]) h P := q_ireturn (M := mX12_trim) (pc := 29) (ty := .int) dX12_trim_29 rfl rfl hP
end T
theorem dX12_teach_0 : decode cX12_teach 0 = .ok (.aload_n 0, 1) := by decide +kernel
theorem dX12_teach_1 : decode cX12_teach 1 = .ok (.iconst 0, 1) := by decide +kernel
theorem dX12_teach_2 : decode cX12_teach 2 = .ok (.putfield 69, 3) := by decide +kernel
theorem dX12_teach_5 : decode cX12_teach 5 = .ok (.aload_n 0, 1) := by decide +kernel
theorem dX12_teach_6 : decode cX12_teach 6 = .ok (.iconst 0, 1) := by decide +kernel
theorem dX12_teach_7 : decode cX12_teach 7 = .ok (.putfield 136, 3) := by decide +kernel
theorem dX12_teach_10 : decode cX12_teach 10 = .ok (.aload_n 0, 1) := by decide +kernel
theorem dX12_teach_11 : decode cX12_teach 11 = .ok (.iconst 0, 1) := by decide +kernel
theorem dX12_teach_12 : decode cX12_teach 12 = .ok (.putfield 132, 3) := by decide +kernel
theorem dX12_teach_15 : decode cX12_teach 15 = .ok (.aload_n 0, 1) := by decide +kernel
theorem dX12_teach_16 : decode cX12_teach 16 = .ok (.iconst 0, 1) := by decide +kernel
theorem dX12_teach_17 : decode cX12_teach 17 = .ok (.putfield 139, 3) := by decide +kernel
theorem dX12_teach_20 : decode cX12_teach 20 = .ok (.aload_n 0, 1) := by decide +kernel
theorem dX12_teach_21 : decode cX12_teach 21 = .ok (.iconst 0, 1) := by decide +kernel
theorem dX12_teach_22 : decode cX12_teach 22 = .ok (.putfield 151, 3) := by decide +kernel
theorem dX12_teach_25 : decode cX12_teach 25 = .ok (.aload_n 0, 1) := by decide +kernel
theorem dX12_teach_26 : decode cX12_teach 26 = .ok (.iconst 0, 1) := by decide +kernel
theorem dX12_teach_27 : decode cX12_teach 27 = .ok (.putfield 170, 3) := by decide +kernel
theorem dX12_teach_30 : decode cX12_teach 30 = .ok (.aload_n 0, 1) := by decide +kernel
theorem dX12_teach_31 : decode cX12_teach 31 = .ok (.getfield 45, 3) := by decide +kernel
theorem dX12_teach_34 : decode cX12_teach 34 = .ok (.invokevirtual 299, 3) := by decide +kernel
theorem dX12_teach_37 : decode cX12_teach 37 = .ok (.aload_n 0, 1) := by decide +kernel
theorem dX12_teach_38 : decode cX12_teach 38 = .ok (.invokevirtual 302, 3) := by decide +kernel
theorem dX12_teach_41 : decode cX12_teach 41 = .ok (.aload_n 0, 1) := by decide +kernel
theorem dX12_teach_42 : decode cX12_teach 42 = .ok (.getfield 132, 3) := by decide +kernel
theorem dX12_teach_45 : decode cX12_teach 45 = .ok (.ifCond .ne 30, 3) := by decide +kernel
theorem dX12_teach_48 : decode cX12_teach 48 = .ok (.aload_n 0, 1) := by decide +kernel
theorem dX12_teach_49 : decode cX12_teach 49 = .ok (.getfield 17, 3) := by decide +kernel
theorem dX12_teach_52 : decode cX12_teach 52 = .ok (.aload_n 0, 1) := by decide +kernel
theorem dX12_teach_53 : decode cX12_teach 53 = .ok (.getfield 136, 3) := by decide +kernel
theorem dX12_teach_56 : decode cX12_teach 56 = .ok (.iaload, 1) := by decide +kernel
theorem dX12_teach_57 : decode cX12_teach 57 = .ok (.bipush 33, 2) := by decide +kernel
theorem dX12_teach_59 : decode cX12_teach 59 = .ok (.if_icmp .eq 16, 3) := by decide +kernel
theorem dX12_teach_62 : decode cX12_teach 62 = .ok (.aload_n 0, 1) := by decide +kernel
theorem dX12_teach_63 : decode cX12_teach 63 = .ok (.invokevirtual 305, 3) := by decide +kernel
theorem dX12_teach_66 : decode cX12_teach 66 = .ok (.aload_n 0, 1) := by decide +kernel
theorem dX12_teach_67 : decode cX12_teach 67 = .ok (.bipush 50, 2) := by decide +kernel
theorem dX12_teach_69 : decode cX12_teach 69 = .ok (.invokevirtual 154, 3) := by decide +kernel
theorem dX12_teach_72 : decode cX12_teach 72 = .ok (.goto (-31), 3) := by decide +kernel
theorem dX12_teach_75 : decode cX12_teach 75 = .ok (.aload_n 0, 1) := by decide +kernel
theorem dX12_teach_76 : decode cX12_teach 76 = .ok (.iconst 0, 1) := by decide +kernel
theorem dX12_teach_77 : decode cX12_teach 77 = .ok (.putfield 88, 3) := by decide +kernel
theorem dX12_teach_80 : decode cX12_teach 80 = .ok (.aload_n 0, 1) := by decide +kernel
theorem dX12_teach_81 : decode cX12_teach 81 = .ok (.aload_n 0, 1) := by decide +kernel
theorem dX12_teach_82 : decode cX12_teach 82 = .ok (.getfield 139, 3) := by decide +kernel
theorem dX12_teach_85 : decode cX12_teach 85 = .ok (.ifCond .ne 7, 3) := by decide +kernel
theorem dX12_teach_88 : decode cX12_teach 88 = .ok (.iconst (-1), 1) := by decide +kernel
theorem dX12_teach_89 : decode cX12_teach 89 = .ok (.goto 12, 3) := by decide +kernel
theorem dX12_teach_92 : decode cX12_teach 92 = .ok (.aload_n 0, 1) := by decide +kernel
theorem dX12_teach_93 : decode cX12_teach 93 = .ok (.getfield 23, 3) := by decide +kernel
theorem dX12_teach_96 : decode cX12_teach 96 = .ok (.aload_n 0, 1) := by decide +kernel
theorem dX12_teach_97 : decode cX12_teach 97 = .ok (.getfield 142, 3) := by decide +kernel
theorem dX12_teach_100 : decode cX12_teach 100 = .ok (.iaload, 1) := by decide +kernel
theorem dX12_teach_101 : decode cX12_teach 101 = .ok (.putfield 13, 3) := by decide +kernel
theorem dX12_teach_104 : decode cX12_teach 104 = .ok (.aload_n 0, 1) := by decide +kernel
theorem dX12_teach_105 : decode cX12_teach 105 = .ok (.getfield 139, 3) := by decide +kernel
theorem dX12_teach_108 : decode cX12_teach 108 = .ok (.ifCond .eq 8, 3) := by decide +kernel
theorem dX12_teach_111 : decode cX12_teach 111 = .ok (.aload_n 0, 1) := by decide +kernel
theorem dX12_teach_112 : decode cX12_teach 112 = .ok (.getfield 139, 3) := by decide +kernel
theorem dX12_teach_115 : decode cX12_teach 115 = .ok (.ireturn, 1) := by decide +kernel
theorem dX12_teach_116 : decode cX12_teach 116 = .ok (.aload_n 0, 1) := by decide +kernel
theorem dX12_teach_117 : decode cX12_teach 117 = .ok (.getfield 41, 3) := by decide +kernel
theorem dX12_teach_120 : decode cX12_teach 120 = .ok (.aload_n 0, 1) := by decide +kernel
theorem dX12_teach_121 : decode cX12_teach 121 = .ok (.getfield 45, 3) := by decide +kernel
theorem dX12_teach_124 : decode cX12_teach 124 = .ok (.invokevirtual 308, 3) := by decide +kernel
theorem dX12_teach_127 : decode cX12_teach 127 = .ok (.aload_n 0, 1) := by decide +kernel
theorem dX12_teach_128 : decode cX12_teach 128 = .ok (.invokevirtual 66, 3) := by decide +kernel
theorem dX12_teach_131 : decode cX12_teach 131 = .ok (.iconst 0, 1) := by decide +kernel
theorem dX12_teach_132 : decode cX12_teach 132 = .ok (.ireturn, 1) := by decide +kernel
section T
variable {G : GT} {d : Nat} {S : List Value} {h : AH} {P : OC → AH → Prop} {x0 x1 x2 x3 x4 x5 x6 x7 x8 x9 x10 x11 x12 x13 x14 x15 : Option Value}
theorem tX12_teach_0 {k : Nat} (r : RQ G mX12_teach d 1 [some (.ref k)] (.ref k :: S) (h) P) : RQ G mX12_teach d 0 [some (.ref k)] (S) h P := q_aload_n (M := mX12_teach) (pc := 0) (r0 := some k) dX12_teach_0 rfl rfl r
theorem tX12_teach_1 (r : RQ G mX12_teach d 2 [x0] (.int (nI 0) :: S) (h) P) : RQ G mX12_teach d 1 [x0] (S) h P := q_iconst (M := mX12_teach) (pc := 1) dX12_teach_1 (by decide) r
theorem tX12_teach_2 {i : Nat} {vs : List Value} {v : Int32} (ha : At h i (.inr (10, vs))) (hlen : vs.length = 25) (r : RQ G mX12_teach d 5 [x0] (S) (hset h i (.inr (10, vs.set 0 (.int v)))) P) : RQ G mX12_teach d 2 [x0] (.int v :: .ref i :: S) h P := q_put (M := mX12_teach) (pc := 2) (kf := 0) (host := "") dX12_teach_2 (show CL[10]? = some (RX12, TX12, 25) from rfl) inA12 tyX12_ok nmX12 (by decide) rfl w1423 rfl (tyX12_ok 0 (by decide)) (nfit_int v) (by rw [hlen]; decide) ha r
theorem tX12_teach_5 {k : Nat} (r : RQ G mX12_teach d 6 [some (.ref k)] (.ref k :: S) (h) P) : RQ G mX12_teach d 5 [some (.ref k)] (S) h P := q_aload_n (M := mX12_teach) (pc := 5) (r0 := some k) dX12_teach_5 rfl rfl r
theorem tX12_teach_6 (r : RQ G mX12_teach d 7 [x0] (.int (nI 0) :: S) (h) P) : RQ G mX12_teach d 6 [x0] (S) h P := q_iconst (M := mX12_teach) (pc := 6) dX12_teach_6 (by decide) r
theorem tX12_teach_7 {i : Nat} {vs : List Value} {v : Int32} (ha : At h i (.inr (10, vs))) (hlen : vs.length = 25) (r : RQ G mX12_teach d 10 [x0] (S) (hset h i (.inr (10, vs.set 8 (.int v)))) P) : RQ G mX12_teach d 7 [x0] (.int v :: .ref i :: S) h P := q_put (M := mX12_teach) (pc := 7) (kf := 8) (host := "") dX12_teach_7 (show CL[10]? = some (RX12, TX12, 25) from rfl) inA12 tyX12_ok nmX12 (by decide) rfl w1431 rfl (tyX12_ok 8 (by decide)) (nfit_int v) (by rw [hlen]; decide) ha r
theorem tX12_teach_10 {k : Nat} (r : RQ G mX12_teach d 11 [some (.ref k)] (.ref k :: S) (h) P) : RQ G mX12_teach d 10 [some (.ref k)] (S) h P := q_aload_n (M := mX12_teach) (pc := 10) (r0 := some k) dX12_teach_10 rfl rfl r
theorem tX12_teach_11 (r : RQ G mX12_teach d 12 [x0] (.int (nI 0) :: S) (h) P) : RQ G mX12_teach d 11 [x0] (S) h P := q_iconst (M := mX12_teach) (pc := 11) dX12_teach_11 (by decide) r
theorem tX12_teach_12 {i : Nat} {vs : List Value} {v : Int32} (ha : At h i (.inr (10, vs))) (hlen : vs.length = 25) (hb : v = nI 0 ∨ v = nI 1) (r : RQ G mX12_teach d 15 [x0] (S) (hset h i (.inr (10, vs.set 9 (.int v)))) P) : RQ G mX12_teach d 12 [x0] (.int v :: .ref i :: S) h P := q_put (M := mX12_teach) (pc := 12) (kf := 9) (host := "") dX12_teach_12 (show CL[10]? = some (RX12, TX12, 25) from rfl) inA12 tyX12_ok nmX12 (by decide) rfl w1432 rfl (tyX12_ok 9 (by decide)) (nfit_bool hb) (by rw [hlen]; decide) ha r
theorem tX12_teach_15 {k : Nat} (r : RQ G mX12_teach d 16 [some (.ref k)] (.ref k :: S) (h) P) : RQ G mX12_teach d 15 [some (.ref k)] (S) h P := q_aload_n (M := mX12_teach) (pc := 15) (r0 := some k) dX12_teach_15 rfl rfl r
theorem tX12_teach_16 (r : RQ G mX12_teach d 17 [x0] (.int (nI 0) :: S) (h) P) : RQ G mX12_teach d 16 [x0] (S) h P := q_iconst (M := mX12_teach) (pc := 16) dX12_teach_16 (by decide) r
theorem tX12_teach_17 {i : Nat} {vs : List Value} {v : Int32} (ha : At h i (.inr (10, vs))) (hlen : vs.length = 25) (r : RQ G mX12_teach d 20 [x0] (S) (hset h i (.inr (10, vs.set 10 (.int v)))) P) : RQ G mX12_teach d 17 [x0] (.int v :: .ref i :: S) h P := q_put (M := mX12_teach) (pc := 17) (kf := 10) (host := "") dX12_teach_17 (show CL[10]? = some (RX12, TX12, 25) from rfl) inA12 tyX12_ok nmX12 (by decide) rfl w1433 rfl (tyX12_ok 10 (by decide)) (nfit_int v) (by rw [hlen]; decide) ha r
theorem tX12_teach_20 {k : Nat} (r : RQ G mX12_teach d 21 [some (.ref k)] (.ref k :: S) (h) P) : RQ G mX12_teach d 20 [some (.ref k)] (S) h P := q_aload_n (M := mX12_teach) (pc := 20) (r0 := some k) dX12_teach_20 rfl rfl r
theorem tX12_teach_21 (r : RQ G mX12_teach d 22 [x0] (.int (nI 0) :: S) (h) P) : RQ G mX12_teach d 21 [x0] (S) h P := q_iconst (M := mX12_teach) (pc := 21) dX12_teach_21 (by decide) r
theorem tX12_teach_22 {i : Nat} {vs : List Value} {v : Int32} (ha : At h i (.inr (10, vs))) (hlen : vs.length = 25) (r : RQ G mX12_teach d 25 [x0] (S) (hset h i (.inr (10, vs.set 12 (.int v)))) P) : RQ G mX12_teach d 22 [x0] (.int v :: .ref i :: S) h P := q_put (M := mX12_teach) (pc := 22) (kf := 12) (host := "") dX12_teach_22 (show CL[10]? = some (RX12, TX12, 25) from rfl) inA12 tyX12_ok nmX12 (by decide) rfl w1435 rfl (tyX12_ok 12 (by decide)) (nfit_int v) (by rw [hlen]; decide) ha r
theorem tX12_teach_25 {k : Nat} (r : RQ G mX12_teach d 26 [some (.ref k)] (.ref k :: S) (h) P) : RQ G mX12_teach d 25 [some (.ref k)] (S) h P := q_aload_n (M := mX12_teach) (pc := 25) (r0 := some k) dX12_teach_25 rfl rfl r
theorem tX12_teach_26 (r : RQ G mX12_teach d 27 [x0] (.int (nI 0) :: S) (h) P) : RQ G mX12_teach d 26 [x0] (S) h P := q_iconst (M := mX12_teach) (pc := 26) dX12_teach_26 (by decide) r
theorem tX12_teach_27 {i : Nat} {vs : List Value} {v : Int32} (ha : At h i (.inr (10, vs))) (hlen : vs.length = 25) (r : RQ G mX12_teach d 30 [x0] (S) (hset h i (.inr (10, vs.set 16 (.int v)))) P) : RQ G mX12_teach d 27 [x0] (.int v :: .ref i :: S) h P := q_put (M := mX12_teach) (pc := 27) (kf := 16) (host := "") dX12_teach_27 (show CL[10]? = some (RX12, TX12, 25) from rfl) inA12 tyX12_ok nmX12 (by decide) rfl w1439 rfl (tyX12_ok 16 (by decide)) (nfit_int v) (by rw [hlen]; decide) ha r
theorem tX12_teach_30 {k : Nat} (r : RQ G mX12_teach d 31 [some (.ref k)] (.ref k :: S) (h) P) : RQ G mX12_teach d 30 [some (.ref k)] (S) h P := q_aload_n (M := mX12_teach) (pc := 30) (r0 := some k) dX12_teach_30 rfl rfl r
theorem tX12_teach_31 {i : Nat} {vs : List Value} {v : Value} (ha : At h i (.inr (10, vs))) (hv : vs[18]? = some v) (r : RQ G mX12_teach d 34 [x0] (v :: S) (h) P) : RQ G mX12_teach d 31 [x0] (.ref i :: S) h P := q_get (M := mX12_teach) (pc := 31) (kf := 18) dX12_teach_31 (show CL[10]? = some (RX12, TX12, 25) from rfl) inA12 (by decide) rfl w1441 ha hv r
theorem tX12_teach_34 {b d2 : Nat} {vs : List Value}  {Q : AH → Prop} (hd : d2 + 1 ≤ d) (ha : At h b (.inr (9, vs))) (call : RQ G mX11_begin d2 0 [some (.ref b)] [] h (Rv Q)) (k : ∀ h1, Q h1 → RQ G mX12_teach d 37 [x0] S h1 P) (hst : (S.map fun v => v.category).sum ≤ 8 := by exact Nat.le_of_ble_eq_true rfl)  : RQ G mX12_teach d 34 [x0] (.ref b :: S) h P := q_callV (M := mX12_teach) (pc := 34) (M2 := mX11_begin) (As := []) (n := 0) dX12_teach_34 rfl ⟨by decide, by decide, by decide, rfl⟩ rfl w1522 w1523 w1524 w121 w1525 (show CL[9]? = some (RX11, TX11, 24) from rfl) hd (by decide) (Nat.le_of_ble_eq_true rfl) rfl ha hst call (callk_v k)
theorem tX12_teach_37 {k : Nat} (r : RQ G mX12_teach d 38 [some (.ref k)] (.ref k :: S) (h) P) : RQ G mX12_teach d 37 [some (.ref k)] (S) h P := q_aload_n (M := mX12_teach) (pc := 37) (r0 := some k) dX12_teach_37 rfl rfl r
theorem tX12_teach_38 {b d2 : Nat} {vs : List Value}  {Q : AH → Prop} (hd : d2 + 1 ≤ d) (ha : At h b (.inr (10, vs))) (call : RQ G mX12_readAll d2 0 [some (.ref b), none, none] [] h (Rv Q)) (k : ∀ h1, Q h1 → RQ G mX12_teach d 41 [x0] S h1 P) (hst : (S.map fun v => v.category).sum ≤ 8 := by exact Nat.le_of_ble_eq_true rfl)  : RQ G mX12_teach d 38 [x0] (.ref b :: S) h P := q_callV (M := mX12_teach) (pc := 38) (M2 := mX12_readAll) (As := []) (n := 0) dX12_teach_38 rfl ⟨by decide, by decide, by decide, rfl⟩ rfl w1526 w1528 w42 w120 w1529 (show CL[10]? = some (RX12, TX12, 25) from rfl) hd (by decide) (Nat.le_of_ble_eq_true rfl) rfl ha hst call (callk_v k)
theorem tX12_teach_41 {k : Nat} (r : RQ G mX12_teach d 42 [some (.ref k)] (.ref k :: S) (h) P) : RQ G mX12_teach d 41 [some (.ref k)] (S) h P := q_aload_n (M := mX12_teach) (pc := 41) (r0 := some k) dX12_teach_41 rfl rfl r
theorem tX12_teach_42 {i : Nat} {vs : List Value} {v : Value} (ha : At h i (.inr (10, vs))) (hv : vs[9]? = some v) (r : RQ G mX12_teach d 45 [x0] (v :: S) (h) P) : RQ G mX12_teach d 42 [x0] (.ref i :: S) h P := q_get (M := mX12_teach) (pc := 42) (kf := 9) dX12_teach_42 (show CL[10]? = some (RX12, TX12, 25) from rfl) inA12 (by decide) rfl w1432 ha hv r
theorem tX12_teach_45 {x : Int32} (kt : ¬ x = 0 → RQ G mX12_teach d 75 [x0] S h P) (kf : x = 0 → RQ G mX12_teach d 48 [x0] S h P) : RQ G mX12_teach d 45 [x0] (.int x :: S) h P := q_if_ne (M := mX12_teach) (pc := 45) dX12_teach_45 (by decide) kt kf
theorem tX12_teach_48 {k : Nat} (r : RQ G mX12_teach d 49 [some (.ref k)] (.ref k :: S) (h) P) : RQ G mX12_teach d 48 [some (.ref k)] (S) h P := q_aload_n (M := mX12_teach) (pc := 48) (r0 := some k) dX12_teach_48 rfl rfl r
theorem tX12_teach_49 {i : Nat} {vs : List Value} {v : Value} (ha : At h i (.inr (10, vs))) (hv : vs[4]? = some v) (r : RQ G mX12_teach d 52 [x0] (v :: S) (h) P) : RQ G mX12_teach d 49 [x0] (.ref i :: S) h P := q_get (M := mX12_teach) (pc := 49) (kf := 4) dX12_teach_49 (show CL[10]? = some (RX12, TX12, 25) from rfl) inA12 (by decide) rfl w1427 ha hv r
theorem tX12_teach_52 {k : Nat} (r : RQ G mX12_teach d 53 [some (.ref k)] (.ref k :: S) (h) P) : RQ G mX12_teach d 52 [some (.ref k)] (S) h P := q_aload_n (M := mX12_teach) (pc := 52) (r0 := some k) dX12_teach_52 rfl rfl r
theorem tX12_teach_53 {i : Nat} {vs : List Value} {v : Value} (ha : At h i (.inr (10, vs))) (hv : vs[8]? = some v) (r : RQ G mX12_teach d 56 [x0] (v :: S) (h) P) : RQ G mX12_teach d 53 [x0] (.ref i :: S) h P := q_get (M := mX12_teach) (pc := 53) (kf := 8) dX12_teach_53 (show CL[10]? = some (RX12, TX12, 25) from rfl) inA12 (by decide) rfl w1431 ha hv r
theorem tX12_teach_56 {a n j : Nat} {x : Int32} {f : Nat → Int32} (ha : At h a (.inl (0, n, .inl f))) (hx : x = nI j) (hj : j < n) (hn : n < 2147483648) (r : RQ G mX12_teach d 57 [x0] (.int (f j) :: S) (h) P) : RQ G mX12_teach d 56 [x0] (.int x :: .ref a :: S) h P := q_iald (M := mX12_teach) (pc := 56) dX12_teach_56 ha hx hj hn r
theorem tX12_teach_57 (r : RQ G mX12_teach d 59 [x0] (.int (nI 33) :: S) (h) P) : RQ G mX12_teach d 57 [x0] (S) h P := q_bipush (M := mX12_teach) (pc := 57) dX12_teach_57 (by decide) r
theorem tX12_teach_59 {x y : Int32} (kt : x = y → RQ G mX12_teach d 75 [x0] S h P) (kf : ¬ x = y → RQ G mX12_teach d 62 [x0] S h P) : RQ G mX12_teach d 59 [x0] (.int y :: .int x :: S) h P := q_icmp_eq (M := mX12_teach) (pc := 59) dX12_teach_59 (by decide) kt kf
theorem tX12_teach_62 {k : Nat} (r : RQ G mX12_teach d 63 [some (.ref k)] (.ref k :: S) (h) P) : RQ G mX12_teach d 62 [some (.ref k)] (S) h P := q_aload_n (M := mX12_teach) (pc := 62) (r0 := some k) dX12_teach_62 rfl rfl r
theorem tX12_teach_63 {b d2 : Nat} {vs : List Value}  {Q : AH → Prop} (hd : d2 + 1 ≤ d) (ha : At h b (.inr (10, vs))) (call : RQ G mX12_line d2 0 [some (.ref b)] [] h (Rv Q)) (k : ∀ h1, Q h1 → RQ G mX12_teach d 66 [x0] S h1 P) (hst : (S.map fun v => v.category).sum ≤ 8 := by exact Nat.le_of_ble_eq_true rfl)  : RQ G mX12_teach d 63 [x0] (.ref b :: S) h P := q_callV (M := mX12_teach) (pc := 63) (M2 := mX12_line) (As := []) (n := 0) dX12_teach_63 rfl ⟨by decide, by decide, by decide, rfl⟩ rfl w1563 w1565 w48 w120 w1566 (show CL[10]? = some (RX12, TX12, 25) from rfl) hd (by decide) (Nat.le_of_ble_eq_true rfl) rfl ha hst call (callk_v k)
theorem tX12_teach_66 {k : Nat} (r : RQ G mX12_teach d 67 [some (.ref k)] (.ref k :: S) (h) P) : RQ G mX12_teach d 66 [some (.ref k)] (S) h P := q_aload_n (M := mX12_teach) (pc := 66) (r0 := some k) dX12_teach_66 rfl rfl r
theorem tX12_teach_67 (r : RQ G mX12_teach d 69 [x0] (.int (nI 50) :: S) (h) P) : RQ G mX12_teach d 67 [x0] (S) h P := q_bipush (M := mX12_teach) (pc := 67) dX12_teach_67 (by decide) r
theorem tX12_teach_69 {b d2 : Nat} {vs : List Value} {a0 : Int32} {Q : AH → Prop} (hd : d2 + 1 ≤ d) (ha : At h b (.inr (10, vs))) (call : RQ G mX12_take d2 0 [some (.ref b), some (.int a0)] [] h (Rv Q)) (k : ∀ h1, Q h1 → RQ G mX12_teach d 72 [x0] S h1 P) (hst : (S.map fun v => v.category).sum ≤ 8 := by exact Nat.le_of_ble_eq_true rfl)  : RQ G mX12_teach d 69 [x0] (.int a0 :: .ref b :: S) h P := q_callV (M := mX12_teach) (pc := 69) (M2 := mX12_take) (As := [.int a0]) (n := 1) dX12_teach_69 rfl ⟨by decide, by decide, by decide, rfl⟩ rfl w1591 w1593 w55 w120 w1594 (show CL[10]? = some (RX12, TX12, 25) from rfl) hd (by decide) (Nat.le_of_ble_eq_true rfl) rfl ha hst call (callk_v k)
theorem tX12_teach_72 (r : RQ G mX12_teach d 41 [x0] S h P) : RQ G mX12_teach d 72 [x0] (S) h P := q_goto (M := mX12_teach) (pc := 72) dX12_teach_72 (by decide) r
theorem tX12_teach_75 {k : Nat} (r : RQ G mX12_teach d 76 [some (.ref k)] (.ref k :: S) (h) P) : RQ G mX12_teach d 75 [some (.ref k)] (S) h P := q_aload_n (M := mX12_teach) (pc := 75) (r0 := some k) dX12_teach_75 rfl rfl r
theorem tX12_teach_76 (r : RQ G mX12_teach d 77 [x0] (.int (nI 0) :: S) (h) P) : RQ G mX12_teach d 76 [x0] (S) h P := q_iconst (M := mX12_teach) (pc := 76) dX12_teach_76 (by decide) r
theorem tX12_teach_77 {i : Nat} {vs : List Value} {v : Int32} (ha : At h i (.inr (10, vs))) (hlen : vs.length = 25) (r : RQ G mX12_teach d 80 [x0] (S) (hset h i (.inr (10, vs.set 2 (.int v)))) P) : RQ G mX12_teach d 77 [x0] (.int v :: .ref i :: S) h P := q_put (M := mX12_teach) (pc := 77) (kf := 2) (host := "") dX12_teach_77 (show CL[10]? = some (RX12, TX12, 25) from rfl) inA12 tyX12_ok nmX12 (by decide) rfl w1425 rfl (tyX12_ok 2 (by decide)) (nfit_int v) (by rw [hlen]; decide) ha r
theorem tX12_teach_80 {k : Nat} (r : RQ G mX12_teach d 81 [some (.ref k)] (.ref k :: S) (h) P) : RQ G mX12_teach d 80 [some (.ref k)] (S) h P := q_aload_n (M := mX12_teach) (pc := 80) (r0 := some k) dX12_teach_80 rfl rfl r
theorem tX12_teach_81 {k : Nat} (r : RQ G mX12_teach d 82 [some (.ref k)] (.ref k :: S) (h) P) : RQ G mX12_teach d 81 [some (.ref k)] (S) h P := q_aload_n (M := mX12_teach) (pc := 81) (r0 := some k) dX12_teach_81 rfl rfl r
theorem tX12_teach_82 {i : Nat} {vs : List Value} {v : Value} (ha : At h i (.inr (10, vs))) (hv : vs[10]? = some v) (r : RQ G mX12_teach d 85 [x0] (v :: S) (h) P) : RQ G mX12_teach d 82 [x0] (.ref i :: S) h P := q_get (M := mX12_teach) (pc := 82) (kf := 10) dX12_teach_82 (show CL[10]? = some (RX12, TX12, 25) from rfl) inA12 (by decide) rfl w1433 ha hv r
theorem tX12_teach_85 {x : Int32} (kt : ¬ x = 0 → RQ G mX12_teach d 92 [x0] S h P) (kf : x = 0 → RQ G mX12_teach d 88 [x0] S h P) : RQ G mX12_teach d 85 [x0] (.int x :: S) h P := q_if_ne (M := mX12_teach) (pc := 85) dX12_teach_85 (by decide) kt kf
theorem tX12_teach_88 (r : RQ G mX12_teach d 89 [x0] (.int (-1) :: S) (h) P) : RQ G mX12_teach d 88 [x0] (S) h P := q_iconst (M := mX12_teach) (pc := 88) dX12_teach_88 (by decide) r
theorem tX12_teach_89 (r : RQ G mX12_teach d 101 [x0] S h P) : RQ G mX12_teach d 89 [x0] (S) h P := q_goto (M := mX12_teach) (pc := 89) dX12_teach_89 (by decide) r
theorem tX12_teach_92 {k : Nat} (r : RQ G mX12_teach d 93 [some (.ref k)] (.ref k :: S) (h) P) : RQ G mX12_teach d 92 [some (.ref k)] (S) h P := q_aload_n (M := mX12_teach) (pc := 92) (r0 := some k) dX12_teach_92 rfl rfl r
theorem tX12_teach_93 {i : Nat} {vs : List Value} {v : Value} (ha : At h i (.inr (10, vs))) (hv : vs[6]? = some v) (r : RQ G mX12_teach d 96 [x0] (v :: S) (h) P) : RQ G mX12_teach d 93 [x0] (.ref i :: S) h P := q_get (M := mX12_teach) (pc := 93) (kf := 6) dX12_teach_93 (show CL[10]? = some (RX12, TX12, 25) from rfl) inA12 (by decide) rfl w1429 ha hv r
theorem tX12_teach_96 {k : Nat} (r : RQ G mX12_teach d 97 [some (.ref k)] (.ref k :: S) (h) P) : RQ G mX12_teach d 96 [some (.ref k)] (S) h P := q_aload_n (M := mX12_teach) (pc := 96) (r0 := some k) dX12_teach_96 rfl rfl r
theorem tX12_teach_97 {i : Nat} {vs : List Value} {v : Value} (ha : At h i (.inr (10, vs))) (hv : vs[11]? = some v) (r : RQ G mX12_teach d 100 [x0] (v :: S) (h) P) : RQ G mX12_teach d 97 [x0] (.ref i :: S) h P := q_get (M := mX12_teach) (pc := 97) (kf := 11) dX12_teach_97 (show CL[10]? = some (RX12, TX12, 25) from rfl) inA12 (by decide) rfl w1434 ha hv r
theorem tX12_teach_100 {a n j : Nat} {x : Int32} {f : Nat → Int32} (ha : At h a (.inl (0, n, .inl f))) (hx : x = nI j) (hj : j < n) (hn : n < 2147483648) (r : RQ G mX12_teach d 101 [x0] (.int (f j) :: S) (h) P) : RQ G mX12_teach d 100 [x0] (.int x :: .ref a :: S) h P := q_iald (M := mX12_teach) (pc := 100) dX12_teach_100 ha hx hj hn r
theorem tX12_teach_101 {i : Nat} {vs : List Value} {v : Int32} (ha : At h i (.inr (10, vs))) (hlen : vs.length = 25) (r : RQ G mX12_teach d 104 [x0] (S) (hset h i (.inr (10, vs.set 3 (.int v)))) P) : RQ G mX12_teach d 101 [x0] (.int v :: .ref i :: S) h P := q_put (M := mX12_teach) (pc := 101) (kf := 3) (host := "") dX12_teach_101 (show CL[10]? = some (RX12, TX12, 25) from rfl) inA12 tyX12_ok nmX12 (by decide) rfl w1426 rfl (tyX12_ok 3 (by decide)) (nfit_int v) (by rw [hlen]; decide) ha r
theorem tX12_teach_104 {k : Nat} (r : RQ G mX12_teach d 105 [some (.ref k)] (.ref k :: S) (h) P) : RQ G mX12_teach d 104 [some (.ref k)] (S) h P := q_aload_n (M := mX12_teach) (pc := 104) (r0 := some k) dX12_teach_104 rfl rfl r
theorem tX12_teach_105 {i : Nat} {vs : List Value} {v : Value} (ha : At h i (.inr (10, vs))) (hv : vs[10]? = some v) (r : RQ G mX12_teach d 108 [x0] (v :: S) (h) P) : RQ G mX12_teach d 105 [x0] (.ref i :: S) h P := q_get (M := mX12_teach) (pc := 105) (kf := 10) dX12_teach_105 (show CL[10]? = some (RX12, TX12, 25) from rfl) inA12 (by decide) rfl w1433 ha hv r
theorem tX12_teach_108 {x : Int32} (kt : x = 0 → RQ G mX12_teach d 116 [x0] S h P) (kf : ¬ x = 0 → RQ G mX12_teach d 111 [x0] S h P) : RQ G mX12_teach d 108 [x0] (.int x :: S) h P := q_if_eq (M := mX12_teach) (pc := 108) dX12_teach_108 (by decide) kt kf
theorem tX12_teach_111 {k : Nat} (r : RQ G mX12_teach d 112 [some (.ref k)] (.ref k :: S) (h) P) : RQ G mX12_teach d 111 [some (.ref k)] (S) h P := q_aload_n (M := mX12_teach) (pc := 111) (r0 := some k) dX12_teach_111 rfl rfl r
theorem tX12_teach_112 {i : Nat} {vs : List Value} {v : Value} (ha : At h i (.inr (10, vs))) (hv : vs[10]? = some v) (r : RQ G mX12_teach d 115 [x0] (v :: S) (h) P) : RQ G mX12_teach d 112 [x0] (.ref i :: S) h P := q_get (M := mX12_teach) (pc := 112) (kf := 10) dX12_teach_112 (show CL[10]? = some (RX12, TX12, 25) from rfl) inA12 (by decide) rfl w1433 ha hv r
theorem tX12_teach_115 {x : Int32} (hP : P (.inl (some (.int x))) h) : RQ G mX12_teach d 115 [x0] ([.int x]) h P := q_ireturn (M := mX12_teach) (pc := 115) (ty := .int) dX12_teach_115 rfl rfl hP
theorem tX12_teach_116 {k : Nat} (r : RQ G mX12_teach d 117 [some (.ref k)] (.ref k :: S) (h) P) : RQ G mX12_teach d 116 [some (.ref k)] (S) h P := q_aload_n (M := mX12_teach) (pc := 116) (r0 := some k) dX12_teach_116 rfl rfl r
theorem tX12_teach_117 {i : Nat} {vs : List Value} {v : Value} (ha : At h i (.inr (10, vs))) (hv : vs[17]? = some v) (r : RQ G mX12_teach d 120 [x0] (v :: S) (h) P) : RQ G mX12_teach d 117 [x0] (.ref i :: S) h P := q_get (M := mX12_teach) (pc := 117) (kf := 17) dX12_teach_117 (show CL[10]? = some (RX12, TX12, 25) from rfl) inA12 (by decide) rfl w1440 ha hv r
theorem tX12_teach_120 {k : Nat} (r : RQ G mX12_teach d 121 [some (.ref k)] (.ref k :: S) (h) P) : RQ G mX12_teach d 120 [some (.ref k)] (S) h P := q_aload_n (M := mX12_teach) (pc := 120) (r0 := some k) dX12_teach_120 rfl rfl r
theorem tX12_teach_121 {i : Nat} {vs : List Value} {v : Value} (ha : At h i (.inr (10, vs))) (hv : vs[18]? = some v) (r : RQ G mX12_teach d 124 [x0] (v :: S) (h) P) : RQ G mX12_teach d 121 [x0] (.ref i :: S) h P := q_get (M := mX12_teach) (pc := 121) (kf := 18) dX12_teach_121 (show CL[10]? = some (RX12, TX12, 25) from rfl) inA12 (by decide) rfl w1441 ha hv r
theorem tX12_teach_124 {b d2 : Nat} {vs : List Value} {a0 : Nat} {Q : AH → Prop} (hd : d2 + 1 ≤ d) (ha : At h b (.inr (9, vs))) (call : RQ G mX11_become d2 0 [some (.ref b), some (.ref a0)] [] h (Rv Q)) (k : ∀ h1, Q h1 → RQ G mX12_teach d 127 [x0] S h1 P) (hst : (S.map fun v => v.category).sum ≤ 8 := by exact Nat.le_of_ble_eq_true rfl)  : RQ G mX12_teach d 124 [x0] (.ref a0 :: .ref b :: S) h P := q_callV (M := mX12_teach) (pc := 124) (M2 := mX11_become) (As := [.ref a0]) (n := 1) dX12_teach_124 rfl ⟨by decide, by decide, by decide, rfl⟩ rfl w1664 w1665 w1666 w121 w1667 (show CL[9]? = some (RX11, TX11, 24) from rfl) hd (by decide) (Nat.le_of_ble_eq_true rfl) rfl ha hst call (callk_v k)
theorem tX12_teach_127 {k : Nat} (r : RQ G mX12_teach d 128 [some (.ref k)] (.ref k :: S) (h) P) : RQ G mX12_teach d 127 [some (.ref k)] (S) h P := q_aload_n (M := mX12_teach) (pc := 127) (r0 := some k) dX12_teach_127 rfl rfl r
theorem tX12_teach_128 {b d2 : Nat} {vs : List Value}  {Q : AH → Prop} (hd : d2 + 1 ≤ d) (ha : At h b (.inr (10, vs))) (call : RQ G mX12_anew d2 0 [some (.ref b), none] [] h (Rv Q)) (k : ∀ h1, Q h1 → RQ G mX12_teach d 131 [x0] S h1 P) (hst : (S.map fun v => v.category).sum ≤ 8 := by exact Nat.le_of_ble_eq_true rfl)  : RQ G mX12_teach d 128 [x0] (.ref b :: S) h P := q_callV (M := mX12_teach) (pc := 128) (M2 := mX12_anew) (As := []) (n := 0) dX12_teach_128 rfl ⟨by decide, by decide, by decide, rfl⟩ rfl w1416 w1418 w40 w120 w1419 (show CL[10]? = some (RX12, TX12, 25) from rfl) hd (by decide) (Nat.le_of_ble_eq_true rfl) rfl ha hst call (callk_v k)
theorem tX12_teach_131 (r : RQ G mX12_teach d 132 [x0] (.int (nI 0) :: S) (h) P) : RQ G mX12_teach d 131 [x0] (S) h P := q_iconst (M := mX12_teach) (pc := 131) dX12_teach_131 (by decide) r
theorem tX12_teach_132 {x : Int32} (hP : P (.inl (some (.int x))) h) : RQ G mX12_teach d 132 [x0] ([.int x]) h P := q_ireturn (M := mX12_teach) (pc := 132) (ty := .int) dX12_teach_132 rfl rfl hP
end T
theorem dX12_errorAt_0 : decode cX12_errorAt 0 = .ok (.aload_n 0, 1) := by decide +kernel
theorem dX12_errorAt_1 : decode cX12_errorAt 1 = .ok (.aload_n 0, 1) := by decide +kernel
theorem dX12_errorAt_2 : decode cX12_errorAt 2 = .ok (.getfield 13, 3) := by decide +kernel
theorem dX12_errorAt_5 : decode cX12_errorAt 5 = .ok (.invokevirtual 312, 3) := by decide +kernel
theorem dX12_errorAt_8 : decode cX12_errorAt 8 = .ok (.ireturn, 1) := by decide +kernel
section T
variable {G : GT} {d : Nat} {S : List Value} {h : AH} {P : OC → AH → Prop} {x0 x1 x2 x3 x4 x5 x6 x7 x8 x9 x10 x11 x12 x13 x14 x15 : Option Value}
theorem tX12_errorAt_0 {k : Nat} (r : RQ G mX12_errorAt d 1 [some (.ref k)] (.ref k :: S) (h) P) : RQ G mX12_errorAt d 0 [some (.ref k)] (S) h P := q_aload_n (M := mX12_errorAt) (pc := 0) (r0 := some k) dX12_errorAt_0 rfl rfl r
theorem tX12_errorAt_1 {k : Nat} (r : RQ G mX12_errorAt d 2 [some (.ref k)] (.ref k :: S) (h) P) : RQ G mX12_errorAt d 1 [some (.ref k)] (S) h P := q_aload_n (M := mX12_errorAt) (pc := 1) (r0 := some k) dX12_errorAt_1 rfl rfl r
theorem tX12_errorAt_2 {i : Nat} {vs : List Value} {v : Value} (ha : At h i (.inr (10, vs))) (hv : vs[3]? = some v) (r : RQ G mX12_errorAt d 5 [x0] (v :: S) (h) P) : RQ G mX12_errorAt d 2 [x0] (.ref i :: S) h P := q_get (M := mX12_errorAt) (pc := 2) (kf := 3) dX12_errorAt_2 (show CL[10]? = some (RX12, TX12, 25) from rfl) inA12 (by decide) rfl w1426 ha hv r
theorem tX12_errorAt_5 {b d2 : Nat} {vs : List Value} {a0 : Int32} {Q : Int32 → AH → Prop} (hd : d2 + 1 ≤ d) (ha : At h b (.inr (10, vs))) (call : RQ G mX12_ok d2 0 [some (.ref b), some (.int a0)] [] h (Ri Q)) (k : ∀ x h1, Q x h1 → RQ G mX12_errorAt d 8 [x0] (.int x :: S) h1 P) (hst : (S.map fun v => v.category).sum ≤ 8 := by exact Nat.le_of_ble_eq_true rfl)  : RQ G mX12_errorAt d 5 [x0] (.int a0 :: .ref b :: S) h P := q_callV (M := mX12_errorAt) (pc := 5) (M2 := mX12_ok) (As := [.int a0]) (n := 1) dX12_errorAt_5 rfl ⟨by decide, by decide, by decide, rfl⟩ rfl w1676 w1678 w73 w120 w1679 (show CL[10]? = some (RX12, TX12, 25) from rfl) hd (by decide) (Nat.le_of_ble_eq_true rfl) rfl ha hst call (callk_i k)
theorem tX12_errorAt_8 {x : Int32} (hP : P (.inl (some (.int x))) h) : RQ G mX12_errorAt d 8 [x0] ([.int x]) h P := q_ireturn (M := mX12_errorAt) (pc := 8) (ty := .int) dX12_errorAt_8 rfl rfl hP
end T
theorem dX12_leader_0 : decode cX12_leader 0 = .ok (.iload_n 1, 1) := by decide +kernel
theorem dX12_leader_1 : decode cX12_leader 1 = .ok (.istore_n 2, 1) := by decide +kernel
theorem dX12_leader_2 : decode cX12_leader 2 = .ok (.aload_n 0, 1) := by decide +kernel
theorem dX12_leader_3 : decode cX12_leader 3 = .ok (.getfield 51, 3) := by decide +kernel
theorem dX12_leader_6 : decode cX12_leader 6 = .ok (.bipush 49, 2) := by decide +kernel
theorem dX12_leader_8 : decode cX12_leader 8 = .ok (.iload_n 2, 1) := by decide +kernel
theorem dX12_leader_9 : decode cX12_leader 9 = .ok (.iadd, 1) := by decide +kernel
theorem dX12_leader_10 : decode cX12_leader 10 = .ok (.iaload, 1) := by decide +kernel
theorem dX12_leader_11 : decode cX12_leader 11 = .ok (.iconst (-1), 1) := by decide +kernel
theorem dX12_leader_12 : decode cX12_leader 12 = .ok (.if_icmp .eq 16, 3) := by decide +kernel
theorem dX12_leader_15 : decode cX12_leader 15 = .ok (.aload_n 0, 1) := by decide +kernel
theorem dX12_leader_16 : decode cX12_leader 16 = .ok (.getfield 51, 3) := by decide +kernel
theorem dX12_leader_19 : decode cX12_leader 19 = .ok (.bipush 49, 2) := by decide +kernel
theorem dX12_leader_21 : decode cX12_leader 21 = .ok (.iload_n 2, 1) := by decide +kernel
theorem dX12_leader_22 : decode cX12_leader 22 = .ok (.iadd, 1) := by decide +kernel
theorem dX12_leader_23 : decode cX12_leader 23 = .ok (.iaload, 1) := by decide +kernel
theorem dX12_leader_24 : decode cX12_leader 24 = .ok (.istore_n 2, 1) := by decide +kernel
theorem dX12_leader_25 : decode cX12_leader 25 = .ok (.goto (-23), 3) := by decide +kernel
theorem dX12_leader_28 : decode cX12_leader 28 = .ok (.iload_n 2, 1) := by decide +kernel
theorem dX12_leader_29 : decode cX12_leader 29 = .ok (.ireturn, 1) := by decide +kernel
section T
variable {G : GT} {d : Nat} {S : List Value} {h : AH} {P : OC → AH → Prop} {x0 x1 x2 x3 x4 x5 x6 x7 x8 x9 x10 x11 x12 x13 x14 x15 : Option Value}
theorem tX12_leader_0 {v : Int32} (r : RQ G mX12_leader d 1 [x0, some (.int v), x2] (.int v :: S) (h) P) : RQ G mX12_leader d 0 [x0, some (.int v), x2] (S) h P := q_iload_n (M := mX12_leader) (pc := 0) dX12_leader_0 rfl rfl r
theorem tX12_leader_1 {v : Int32} (ho : ok1 x1 = true := by rfl) (r : RQ G mX12_leader d 2 [x0, x1, some (.int v)] (S) (h) P) : RQ G mX12_leader d 1 [x0, x1, x2] (.int v :: S) h P := q_istore_n (M := mX12_leader) (pc := 1) dX12_leader_1 rfl (Nat.le_of_ble_eq_true rfl) ho r
theorem tX12_leader_2 {k : Nat} (r : RQ G mX12_leader d 3 [some (.ref k), x1, x2] (.ref k :: S) (h) P) : RQ G mX12_leader d 2 [some (.ref k), x1, x2] (S) h P := q_aload_n (M := mX12_leader) (pc := 2) (r0 := some k) dX12_leader_2 rfl rfl r
theorem tX12_leader_3 {i : Nat} {vs : List Value} {v : Value} (ha : At h i (.inr (10, vs))) (hv : vs[20]? = some v) (r : RQ G mX12_leader d 6 [x0, x1, x2] (v :: S) (h) P) : RQ G mX12_leader d 3 [x0, x1, x2] (.ref i :: S) h P := q_get (M := mX12_leader) (pc := 3) (kf := 20) dX12_leader_3 (show CL[10]? = some (RX12, TX12, 25) from rfl) inA12 (by decide) rfl w1443 ha hv r
theorem tX12_leader_6 (r : RQ G mX12_leader d 8 [x0, x1, x2] (.int (nI 49) :: S) (h) P) : RQ G mX12_leader d 6 [x0, x1, x2] (S) h P := q_bipush (M := mX12_leader) (pc := 6) dX12_leader_6 (by decide) r
theorem tX12_leader_8 {v : Int32} (r : RQ G mX12_leader d 9 [x0, x1, some (.int v)] (.int v :: S) (h) P) : RQ G mX12_leader d 8 [x0, x1, some (.int v)] (S) h P := q_iload_n (M := mX12_leader) (pc := 8) dX12_leader_8 rfl rfl r
theorem tX12_leader_9 {x y : Int32} (r : RQ G mX12_leader d 10 [x0, x1, x2] (.int (x + y) :: S) (h) P) : RQ G mX12_leader d 9 [x0, x1, x2] (.int y :: .int x :: S) h P := q_iadd (M := mX12_leader) (pc := 9) dX12_leader_9 r
theorem tX12_leader_10 {a n j : Nat} {x : Int32} {f : Nat → Int32} (ha : At h a (.inl (0, n, .inl f))) (hx : x = nI j) (hj : j < n) (hn : n < 2147483648) (r : RQ G mX12_leader d 11 [x0, x1, x2] (.int (f j) :: S) (h) P) : RQ G mX12_leader d 10 [x0, x1, x2] (.int x :: .ref a :: S) h P := q_iald (M := mX12_leader) (pc := 10) dX12_leader_10 ha hx hj hn r
theorem tX12_leader_11 (r : RQ G mX12_leader d 12 [x0, x1, x2] (.int (-1) :: S) (h) P) : RQ G mX12_leader d 11 [x0, x1, x2] (S) h P := q_iconst (M := mX12_leader) (pc := 11) dX12_leader_11 (by decide) r
theorem tX12_leader_12 {x y : Int32} (kt : x = y → RQ G mX12_leader d 28 [x0, x1, x2] S h P) (kf : ¬ x = y → RQ G mX12_leader d 15 [x0, x1, x2] S h P) : RQ G mX12_leader d 12 [x0, x1, x2] (.int y :: .int x :: S) h P := q_icmp_eq (M := mX12_leader) (pc := 12) dX12_leader_12 (by decide) kt kf
theorem tX12_leader_15 {k : Nat} (r : RQ G mX12_leader d 16 [some (.ref k), x1, x2] (.ref k :: S) (h) P) : RQ G mX12_leader d 15 [some (.ref k), x1, x2] (S) h P := q_aload_n (M := mX12_leader) (pc := 15) (r0 := some k) dX12_leader_15 rfl rfl r
theorem tX12_leader_16 {i : Nat} {vs : List Value} {v : Value} (ha : At h i (.inr (10, vs))) (hv : vs[20]? = some v) (r : RQ G mX12_leader d 19 [x0, x1, x2] (v :: S) (h) P) : RQ G mX12_leader d 16 [x0, x1, x2] (.ref i :: S) h P := q_get (M := mX12_leader) (pc := 16) (kf := 20) dX12_leader_16 (show CL[10]? = some (RX12, TX12, 25) from rfl) inA12 (by decide) rfl w1443 ha hv r
theorem tX12_leader_19 (r : RQ G mX12_leader d 21 [x0, x1, x2] (.int (nI 49) :: S) (h) P) : RQ G mX12_leader d 19 [x0, x1, x2] (S) h P := q_bipush (M := mX12_leader) (pc := 19) dX12_leader_19 (by decide) r
theorem tX12_leader_21 {v : Int32} (r : RQ G mX12_leader d 22 [x0, x1, some (.int v)] (.int v :: S) (h) P) : RQ G mX12_leader d 21 [x0, x1, some (.int v)] (S) h P := q_iload_n (M := mX12_leader) (pc := 21) dX12_leader_21 rfl rfl r
theorem tX12_leader_22 {x y : Int32} (r : RQ G mX12_leader d 23 [x0, x1, x2] (.int (x + y) :: S) (h) P) : RQ G mX12_leader d 22 [x0, x1, x2] (.int y :: .int x :: S) h P := q_iadd (M := mX12_leader) (pc := 22) dX12_leader_22 r
theorem tX12_leader_23 {a n j : Nat} {x : Int32} {f : Nat → Int32} (ha : At h a (.inl (0, n, .inl f))) (hx : x = nI j) (hj : j < n) (hn : n < 2147483648) (r : RQ G mX12_leader d 24 [x0, x1, x2] (.int (f j) :: S) (h) P) : RQ G mX12_leader d 23 [x0, x1, x2] (.int x :: .ref a :: S) h P := q_iald (M := mX12_leader) (pc := 23) dX12_leader_23 ha hx hj hn r
theorem tX12_leader_24 {v : Int32} (ho : ok1 x1 = true := by rfl) (r : RQ G mX12_leader d 25 [x0, x1, some (.int v)] (S) (h) P) : RQ G mX12_leader d 24 [x0, x1, x2] (.int v :: S) h P := q_istore_n (M := mX12_leader) (pc := 24) dX12_leader_24 rfl (Nat.le_of_ble_eq_true rfl) ho r
theorem tX12_leader_25 (r : RQ G mX12_leader d 2 [x0, x1, x2] S h P) : RQ G mX12_leader d 25 [x0, x1, x2] (S) h P := q_goto (M := mX12_leader) (pc := 25) dX12_leader_25 (by decide) r
theorem tX12_leader_28 {v : Int32} (r : RQ G mX12_leader d 29 [x0, x1, some (.int v)] (.int v :: S) (h) P) : RQ G mX12_leader d 28 [x0, x1, some (.int v)] (S) h P := q_iload_n (M := mX12_leader) (pc := 28) dX12_leader_28 rfl rfl r
theorem tX12_leader_29 {x : Int32} (hP : P (.inl (some (.int x))) h) : RQ G mX12_leader d 29 [x0, x1, x2] ([.int x]) h P := q_ireturn (M := mX12_leader) (pc := 29) (ty := .int) dX12_leader_29 rfl rfl hP
end T
theorem dX12_held_0 : decode cX12_held 0 = .ok (.aload_n 0, 1) := by decide +kernel
theorem dX12_held_1 : decode cX12_held 1 = .ok (.getfield 51, 3) := by decide +kernel
theorem dX12_held_4 : decode cX12_held 4 = .ok (.iconst 1, 1) := by decide +kernel
theorem dX12_held_5 : decode cX12_held 5 = .ok (.bipush 6, 2) := by decide +kernel
theorem dX12_held_7 : decode cX12_held 7 = .ok (.iload_n 1, 1) := by decide +kernel
theorem dX12_held_8 : decode cX12_held 8 = .ok (.imul, 1) := by decide +kernel
theorem dX12_held_9 : decode cX12_held 9 = .ok (.iadd, 1) := by decide +kernel
theorem dX12_held_10 : decode cX12_held 10 = .ok (.iload_n 2, 1) := by decide +kernel
theorem dX12_held_11 : decode cX12_held 11 = .ok (.iadd, 1) := by decide +kernel
theorem dX12_held_12 : decode cX12_held 12 = .ok (.iaload, 1) := by decide +kernel
theorem dX12_held_13 : decode cX12_held 13 = .ok (.ireturn, 1) := by decide +kernel
section T
variable {G : GT} {d : Nat} {S : List Value} {h : AH} {P : OC → AH → Prop} {x0 x1 x2 x3 x4 x5 x6 x7 x8 x9 x10 x11 x12 x13 x14 x15 : Option Value}
theorem tX12_held_0 {k : Nat} (r : RQ G mX12_held d 1 [some (.ref k), x1, x2] (.ref k :: S) (h) P) : RQ G mX12_held d 0 [some (.ref k), x1, x2] (S) h P := q_aload_n (M := mX12_held) (pc := 0) (r0 := some k) dX12_held_0 rfl rfl r
theorem tX12_held_1 {i : Nat} {vs : List Value} {v : Value} (ha : At h i (.inr (10, vs))) (hv : vs[20]? = some v) (r : RQ G mX12_held d 4 [x0, x1, x2] (v :: S) (h) P) : RQ G mX12_held d 1 [x0, x1, x2] (.ref i :: S) h P := q_get (M := mX12_held) (pc := 1) (kf := 20) dX12_held_1 (show CL[10]? = some (RX12, TX12, 25) from rfl) inA12 (by decide) rfl w1443 ha hv r
theorem tX12_held_4 (r : RQ G mX12_held d 5 [x0, x1, x2] (.int (nI 1) :: S) (h) P) : RQ G mX12_held d 4 [x0, x1, x2] (S) h P := q_iconst (M := mX12_held) (pc := 4) dX12_held_4 (by decide) r
theorem tX12_held_5 (r : RQ G mX12_held d 7 [x0, x1, x2] (.int (nI 6) :: S) (h) P) : RQ G mX12_held d 5 [x0, x1, x2] (S) h P := q_bipush (M := mX12_held) (pc := 5) dX12_held_5 (by decide) r
theorem tX12_held_7 {v : Int32} (r : RQ G mX12_held d 8 [x0, some (.int v), x2] (.int v :: S) (h) P) : RQ G mX12_held d 7 [x0, some (.int v), x2] (S) h P := q_iload_n (M := mX12_held) (pc := 7) dX12_held_7 rfl rfl r
theorem tX12_held_8 {x y : Int32} (r : RQ G mX12_held d 9 [x0, x1, x2] (.int (x * y) :: S) (h) P) : RQ G mX12_held d 8 [x0, x1, x2] (.int y :: .int x :: S) h P := q_imul (M := mX12_held) (pc := 8) dX12_held_8 r
theorem tX12_held_9 {x y : Int32} (r : RQ G mX12_held d 10 [x0, x1, x2] (.int (x + y) :: S) (h) P) : RQ G mX12_held d 9 [x0, x1, x2] (.int y :: .int x :: S) h P := q_iadd (M := mX12_held) (pc := 9) dX12_held_9 r
theorem tX12_held_10 {v : Int32} (r : RQ G mX12_held d 11 [x0, x1, some (.int v)] (.int v :: S) (h) P) : RQ G mX12_held d 10 [x0, x1, some (.int v)] (S) h P := q_iload_n (M := mX12_held) (pc := 10) dX12_held_10 rfl rfl r
theorem tX12_held_11 {x y : Int32} (r : RQ G mX12_held d 12 [x0, x1, x2] (.int (x + y) :: S) (h) P) : RQ G mX12_held d 11 [x0, x1, x2] (.int y :: .int x :: S) h P := q_iadd (M := mX12_held) (pc := 11) dX12_held_11 r
theorem tX12_held_12 {a n j : Nat} {x : Int32} {f : Nat → Int32} (ha : At h a (.inl (0, n, .inl f))) (hx : x = nI j) (hj : j < n) (hn : n < 2147483648) (r : RQ G mX12_held d 13 [x0, x1, x2] (.int (f j) :: S) (h) P) : RQ G mX12_held d 12 [x0, x1, x2] (.int x :: .ref a :: S) h P := q_iald (M := mX12_held) (pc := 12) dX12_held_12 ha hx hj hn r
theorem tX12_held_13 {x : Int32} (hP : P (.inl (some (.int x))) h) : RQ G mX12_held d 13 [x0, x1, x2] ([.int x]) h P := q_ireturn (M := mX12_held) (pc := 13) (ty := .int) dX12_held_13 rfl rfl hP
end T
theorem dX12_all_0 : decode cX12_all 0 = .ok (.iconst 0, 1) := by decide +kernel
theorem dX12_all_1 : decode cX12_all 1 = .ok (.istore_n 2, 1) := by decide +kernel
theorem dX12_all_2 : decode cX12_all 2 = .ok (.iconst 0, 1) := by decide +kernel
theorem dX12_all_3 : decode cX12_all 3 = .ok (.istore_n 3, 1) := by decide +kernel
theorem dX12_all_4 : decode cX12_all 4 = .ok (.iload_n 3, 1) := by decide +kernel
theorem dX12_all_5 : decode cX12_all 5 = .ok (.aload_n 0, 1) := by decide +kernel
theorem dX12_all_6 : decode cX12_all 6 = .ok (.getfield 41, 3) := by decide +kernel
theorem dX12_all_9 : decode cX12_all 9 = .ok (.getfield 253, 3) := by decide +kernel
theorem dX12_all_12 : decode cX12_all 12 = .ok (.if_icmp .ge 18, 3) := by decide +kernel
theorem dX12_all_15 : decode cX12_all 15 = .ok (.iload_n 2, 1) := by decide +kernel
theorem dX12_all_16 : decode cX12_all 16 = .ok (.aload_n 0, 1) := by decide +kernel
theorem dX12_all_17 : decode cX12_all 17 = .ok (.iload_n 1, 1) := by decide +kernel
theorem dX12_all_18 : decode cX12_all 18 = .ok (.iload_n 3, 1) := by decide +kernel
theorem dX12_all_19 : decode cX12_all 19 = .ok (.invokevirtual 315, 3) := by decide +kernel
theorem dX12_all_22 : decode cX12_all 22 = .ok (.iadd, 1) := by decide +kernel
theorem dX12_all_23 : decode cX12_all 23 = .ok (.istore_n 2, 1) := by decide +kernel
theorem dX12_all_24 : decode cX12_all 24 = .ok (.iinc 3 1, 3) := by decide +kernel
theorem dX12_all_27 : decode cX12_all 27 = .ok (.goto (-23), 3) := by decide +kernel
theorem dX12_all_30 : decode cX12_all 30 = .ok (.iload_n 2, 1) := by decide +kernel
theorem dX12_all_31 : decode cX12_all 31 = .ok (.ireturn, 1) := by decide +kernel
section T
variable {G : GT} {d : Nat} {S : List Value} {h : AH} {P : OC → AH → Prop} {x0 x1 x2 x3 x4 x5 x6 x7 x8 x9 x10 x11 x12 x13 x14 x15 : Option Value}
theorem tX12_all_0 (r : RQ G mX12_all d 1 [x0, x1, x2, x3] (.int (nI 0) :: S) (h) P) : RQ G mX12_all d 0 [x0, x1, x2, x3] (S) h P := q_iconst (M := mX12_all) (pc := 0) dX12_all_0 (by decide) r
theorem tX12_all_1 {v : Int32} (ho : ok1 x1 = true := by rfl) (r : RQ G mX12_all d 2 [x0, x1, some (.int v), x3] (S) (h) P) : RQ G mX12_all d 1 [x0, x1, x2, x3] (.int v :: S) h P := q_istore_n (M := mX12_all) (pc := 1) dX12_all_1 rfl (Nat.le_of_ble_eq_true rfl) ho r
theorem tX12_all_2 (r : RQ G mX12_all d 3 [x0, x1, x2, x3] (.int (nI 0) :: S) (h) P) : RQ G mX12_all d 2 [x0, x1, x2, x3] (S) h P := q_iconst (M := mX12_all) (pc := 2) dX12_all_2 (by decide) r
theorem tX12_all_3 {v : Int32} (ho : ok1 x2 = true := by rfl) (r : RQ G mX12_all d 4 [x0, x1, x2, some (.int v)] (S) (h) P) : RQ G mX12_all d 3 [x0, x1, x2, x3] (.int v :: S) h P := q_istore_n (M := mX12_all) (pc := 3) dX12_all_3 rfl (Nat.le_of_ble_eq_true rfl) ho r
theorem tX12_all_4 {v : Int32} (r : RQ G mX12_all d 5 [x0, x1, x2, some (.int v)] (.int v :: S) (h) P) : RQ G mX12_all d 4 [x0, x1, x2, some (.int v)] (S) h P := q_iload_n (M := mX12_all) (pc := 4) dX12_all_4 rfl rfl r
theorem tX12_all_5 {k : Nat} (r : RQ G mX12_all d 6 [some (.ref k), x1, x2, x3] (.ref k :: S) (h) P) : RQ G mX12_all d 5 [some (.ref k), x1, x2, x3] (S) h P := q_aload_n (M := mX12_all) (pc := 5) (r0 := some k) dX12_all_5 rfl rfl r
theorem tX12_all_6 {i : Nat} {vs : List Value} {v : Value} (ha : At h i (.inr (10, vs))) (hv : vs[17]? = some v) (r : RQ G mX12_all d 9 [x0, x1, x2, x3] (v :: S) (h) P) : RQ G mX12_all d 6 [x0, x1, x2, x3] (.ref i :: S) h P := q_get (M := mX12_all) (pc := 6) (kf := 17) dX12_all_6 (show CL[10]? = some (RX12, TX12, 25) from rfl) inA12 (by decide) rfl w1440 ha hv r
theorem tX12_all_9 {i : Nat} {vs : List Value} {v : Value} (ha : At h i (.inr (9, vs))) (hv : vs[0]? = some v) (r : RQ G mX12_all d 12 [x0, x1, x2, x3] (v :: S) (h) P) : RQ G mX12_all d 9 [x0, x1, x2, x3] (.ref i :: S) h P := q_getN (M := mX12_all) (pc := 9) (kf := 0) dX12_all_9 (show CL[9]? = some (RX11, TX11, 24) from rfl) inA11 (by decide) rfl v1320 ha hv r
theorem tX12_all_12 {x y : Int32} (kt : y ≤ x → RQ G mX12_all d 30 [x0, x1, x2, x3] S h P) (kf : ¬ y ≤ x → RQ G mX12_all d 15 [x0, x1, x2, x3] S h P) : RQ G mX12_all d 12 [x0, x1, x2, x3] (.int y :: .int x :: S) h P := q_icmp_ge (M := mX12_all) (pc := 12) dX12_all_12 (by decide) kt kf
theorem tX12_all_15 {v : Int32} (r : RQ G mX12_all d 16 [x0, x1, some (.int v), x3] (.int v :: S) (h) P) : RQ G mX12_all d 15 [x0, x1, some (.int v), x3] (S) h P := q_iload_n (M := mX12_all) (pc := 15) dX12_all_15 rfl rfl r
theorem tX12_all_16 {k : Nat} (r : RQ G mX12_all d 17 [some (.ref k), x1, x2, x3] (.ref k :: S) (h) P) : RQ G mX12_all d 16 [some (.ref k), x1, x2, x3] (S) h P := q_aload_n (M := mX12_all) (pc := 16) (r0 := some k) dX12_all_16 rfl rfl r
theorem tX12_all_17 {v : Int32} (r : RQ G mX12_all d 18 [x0, some (.int v), x2, x3] (.int v :: S) (h) P) : RQ G mX12_all d 17 [x0, some (.int v), x2, x3] (S) h P := q_iload_n (M := mX12_all) (pc := 17) dX12_all_17 rfl rfl r
theorem tX12_all_18 {v : Int32} (r : RQ G mX12_all d 19 [x0, x1, x2, some (.int v)] (.int v :: S) (h) P) : RQ G mX12_all d 18 [x0, x1, x2, some (.int v)] (S) h P := q_iload_n (M := mX12_all) (pc := 18) dX12_all_18 rfl rfl r
theorem tX12_all_19 {b d2 : Nat} {vs : List Value} {a0 : Int32} {a1 : Int32} {Q : Int32 → AH → Prop} (hd : d2 + 1 ≤ d) (ha : At h b (.inr (10, vs))) (call : RQ G mX12_held d2 0 [some (.ref b), some (.int a0), some (.int a1)] [] h (Ri Q)) (k : ∀ x h1, Q x h1 → RQ G mX12_all d 22 [x0, x1, x2, x3] (.int x :: S) h1 P) (hst : (S.map fun v => v.category).sum ≤ 8 := by exact Nat.le_of_ble_eq_true rfl)  : RQ G mX12_all d 19 [x0, x1, x2, x3] (.int a1 :: .int a0 :: .ref b :: S) h P := q_callV (M := mX12_all) (pc := 19) (M2 := mX12_held) (As := [.int a0, .int a1]) (n := 2) dX12_all_19 rfl ⟨by decide, by decide, by decide, rfl⟩ rfl w1716 w1718 w77 w120 w1719 (show CL[10]? = some (RX12, TX12, 25) from rfl) hd (by decide) (Nat.le_of_ble_eq_true rfl) rfl ha hst call (callk_i k)
theorem tX12_all_22 {x y : Int32} (r : RQ G mX12_all d 23 [x0, x1, x2, x3] (.int (x + y) :: S) (h) P) : RQ G mX12_all d 22 [x0, x1, x2, x3] (.int y :: .int x :: S) h P := q_iadd (M := mX12_all) (pc := 22) dX12_all_22 r
theorem tX12_all_23 {v : Int32} (ho : ok1 x1 = true := by rfl) (r : RQ G mX12_all d 24 [x0, x1, some (.int v), x3] (S) (h) P) : RQ G mX12_all d 23 [x0, x1, x2, x3] (.int v :: S) h P := q_istore_n (M := mX12_all) (pc := 23) dX12_all_23 rfl (Nat.le_of_ble_eq_true rfl) ho r
theorem tX12_all_24 {v : Int32} (ho : ok1 x2 = true := by rfl) (r : RQ G mX12_all d 27 [x0, x1, x2, some (.int (v + (nI 1)))] (S) (h) P) : RQ G mX12_all d 24 [x0, x1, x2, some (.int v)] (S) h P := q_iinc (M := mX12_all) (pc := 24) dX12_all_24 rfl (congrArg (v + ·) (show Int32.ofInt (1) = (nI 1) by decide)) (Nat.le_of_ble_eq_true rfl) ho r
theorem tX12_all_27 (r : RQ G mX12_all d 4 [x0, x1, x2, x3] S h P) : RQ G mX12_all d 27 [x0, x1, x2, x3] (S) h P := q_goto (M := mX12_all) (pc := 27) dX12_all_27 (by decide) r
theorem tX12_all_30 {v : Int32} (r : RQ G mX12_all d 31 [x0, x1, some (.int v), x3] (.int v :: S) (h) P) : RQ G mX12_all d 30 [x0, x1, some (.int v), x3] (S) h P := q_iload_n (M := mX12_all) (pc := 30) dX12_all_30 rfl rfl r
theorem tX12_all_31 {x : Int32} (hP : P (.inl (some (.int x))) h) : RQ G mX12_all d 31 [x0, x1, x2, x3] ([.int x]) h P := q_ireturn (M := mX12_all) (pc := 31) (ty := .int) dX12_all_31 rfl rfl hP
end T
theorem dX12_add_0 : decode cX12_add 0 = .ok (.iconst 0, 1) := by decide +kernel
theorem dX12_add_1 : decode cX12_add 1 = .ok (.istore_n 2, 1) := by decide +kernel
theorem dX12_add_2 : decode cX12_add 2 = .ok (.iload_n 2, 1) := by decide +kernel
theorem dX12_add_3 : decode cX12_add 3 = .ok (.bipush 6, 2) := by decide +kernel
theorem dX12_add_5 : decode cX12_add 5 = .ok (.if_icmp .ge 16, 3) := by decide +kernel
theorem dX12_add_8 : decode cX12_add 8 = .ok (.aload_n 0, 1) := by decide +kernel
theorem dX12_add_9 : decode cX12_add 9 = .ok (.getfield 57, 3) := by decide +kernel
theorem dX12_add_12 : decode cX12_add 12 = .ok (.iload_n 2, 1) := by decide +kernel
theorem dX12_add_13 : decode cX12_add 13 = .ok (.iconst 0, 1) := by decide +kernel
theorem dX12_add_14 : decode cX12_add 14 = .ok (.iastore, 1) := by decide +kernel
theorem dX12_add_15 : decode cX12_add 15 = .ok (.iinc 2 1, 3) := by decide +kernel
theorem dX12_add_18 : decode cX12_add 18 = .ok (.goto (-16), 3) := by decide +kernel
theorem dX12_add_21 : decode cX12_add 21 = .ok (.iconst 0, 1) := by decide +kernel
theorem dX12_add_22 : decode cX12_add 22 = .ok (.istore_n 2, 1) := by decide +kernel
theorem dX12_add_23 : decode cX12_add 23 = .ok (.iload_n 2, 1) := by decide +kernel
theorem dX12_add_24 : decode cX12_add 24 = .ok (.aload_n 0, 1) := by decide +kernel
theorem dX12_add_25 : decode cX12_add 25 = .ok (.getfield 41, 3) := by decide +kernel
theorem dX12_add_28 : decode cX12_add 28 = .ok (.getfield 253, 3) := by decide +kernel
theorem dX12_add_31 : decode cX12_add 31 = .ok (.if_icmp .ge 28, 3) := by decide +kernel
theorem dX12_add_34 : decode cX12_add 34 = .ok (.aload_n 0, 1) := by decide +kernel
theorem dX12_add_35 : decode cX12_add 35 = .ok (.getfield 57, 3) := by decide +kernel
theorem dX12_add_38 : decode cX12_add 38 = .ok (.aload_n 0, 1) := by decide +kernel
theorem dX12_add_39 : decode cX12_add 39 = .ok (.iload_n 2, 1) := by decide +kernel
theorem dX12_add_40 : decode cX12_add 40 = .ok (.invokevirtual 318, 3) := by decide +kernel
theorem dX12_add_43 : decode cX12_add 43 = .ok (.dup2, 1) := by decide +kernel
theorem dX12_add_44 : decode cX12_add 44 = .ok (.iaload, 1) := by decide +kernel
theorem dX12_add_45 : decode cX12_add 45 = .ok (.aload_n 0, 1) := by decide +kernel
theorem dX12_add_46 : decode cX12_add 46 = .ok (.iload_n 1, 1) := by decide +kernel
theorem dX12_add_47 : decode cX12_add 47 = .ok (.iload_n 2, 1) := by decide +kernel
theorem dX12_add_48 : decode cX12_add 48 = .ok (.invokevirtual 315, 3) := by decide +kernel
theorem dX12_add_51 : decode cX12_add 51 = .ok (.iadd, 1) := by decide +kernel
theorem dX12_add_52 : decode cX12_add 52 = .ok (.iastore, 1) := by decide +kernel
theorem dX12_add_53 : decode cX12_add 53 = .ok (.iinc 2 1, 3) := by decide +kernel
theorem dX12_add_56 : decode cX12_add 56 = .ok (.goto (-33), 3) := by decide +kernel
theorem dX12_add_59 : decode cX12_add 59 = .ok (.return_, 1) := by decide +kernel
section T
variable {G : GT} {d : Nat} {S : List Value} {h : AH} {P : OC → AH → Prop} {x0 x1 x2 x3 x4 x5 x6 x7 x8 x9 x10 x11 x12 x13 x14 x15 : Option Value}
theorem tX12_add_0 (r : RQ G mX12_add d 1 [x0, x1, x2] (.int (nI 0) :: S) (h) P) : RQ G mX12_add d 0 [x0, x1, x2] (S) h P := q_iconst (M := mX12_add) (pc := 0) dX12_add_0 (by decide) r
theorem tX12_add_1 {v : Int32} (ho : ok1 x1 = true := by rfl) (r : RQ G mX12_add d 2 [x0, x1, some (.int v)] (S) (h) P) : RQ G mX12_add d 1 [x0, x1, x2] (.int v :: S) h P := q_istore_n (M := mX12_add) (pc := 1) dX12_add_1 rfl (Nat.le_of_ble_eq_true rfl) ho r
theorem tX12_add_2 {v : Int32} (r : RQ G mX12_add d 3 [x0, x1, some (.int v)] (.int v :: S) (h) P) : RQ G mX12_add d 2 [x0, x1, some (.int v)] (S) h P := q_iload_n (M := mX12_add) (pc := 2) dX12_add_2 rfl rfl r
theorem tX12_add_3 (r : RQ G mX12_add d 5 [x0, x1, x2] (.int (nI 6) :: S) (h) P) : RQ G mX12_add d 3 [x0, x1, x2] (S) h P := q_bipush (M := mX12_add) (pc := 3) dX12_add_3 (by decide) r
theorem tX12_add_5 {x y : Int32} (kt : y ≤ x → RQ G mX12_add d 21 [x0, x1, x2] S h P) (kf : ¬ y ≤ x → RQ G mX12_add d 8 [x0, x1, x2] S h P) : RQ G mX12_add d 5 [x0, x1, x2] (.int y :: .int x :: S) h P := q_icmp_ge (M := mX12_add) (pc := 5) dX12_add_5 (by decide) kt kf
theorem tX12_add_8 {k : Nat} (r : RQ G mX12_add d 9 [some (.ref k), x1, x2] (.ref k :: S) (h) P) : RQ G mX12_add d 8 [some (.ref k), x1, x2] (S) h P := q_aload_n (M := mX12_add) (pc := 8) (r0 := some k) dX12_add_8 rfl rfl r
theorem tX12_add_9 {i : Nat} {vs : List Value} {v : Value} (ha : At h i (.inr (10, vs))) (hv : vs[22]? = some v) (r : RQ G mX12_add d 12 [x0, x1, x2] (v :: S) (h) P) : RQ G mX12_add d 9 [x0, x1, x2] (.ref i :: S) h P := q_get (M := mX12_add) (pc := 9) (kf := 22) dX12_add_9 (show CL[10]? = some (RX12, TX12, 25) from rfl) inA12 (by decide) rfl w1445 ha hv r
theorem tX12_add_12 {v : Int32} (r : RQ G mX12_add d 13 [x0, x1, some (.int v)] (.int v :: S) (h) P) : RQ G mX12_add d 12 [x0, x1, some (.int v)] (S) h P := q_iload_n (M := mX12_add) (pc := 12) dX12_add_12 rfl rfl r
theorem tX12_add_13 (r : RQ G mX12_add d 14 [x0, x1, x2] (.int (nI 0) :: S) (h) P) : RQ G mX12_add d 13 [x0, x1, x2] (S) h P := q_iconst (M := mX12_add) (pc := 13) dX12_add_13 (by decide) r
theorem tX12_add_14 {a n j : Nat} {x : Int32} {v : Int32} {f : Nat → Int32} (ha : At h a (.inl (0, n, .inl f))) (hx : x = nI j) (hj : j < n) (hn : n < 2147483648) (r : RQ G mX12_add d 15 [x0, x1, x2] (S) (hset h a (.inl (0, n, .inl (upd f j v)))) P) : RQ G mX12_add d 14 [x0, x1, x2] (.int v :: .int x :: .ref a :: S) h P := q_iast (M := mX12_add) (pc := 14) dX12_add_14 ha hx hj hn r
theorem tX12_add_15 {v : Int32} (ho : ok1 x1 = true := by rfl) (r : RQ G mX12_add d 18 [x0, x1, some (.int (v + (nI 1)))] (S) (h) P) : RQ G mX12_add d 15 [x0, x1, some (.int v)] (S) h P := q_iinc (M := mX12_add) (pc := 15) dX12_add_15 rfl (congrArg (v + ·) (show Int32.ofInt (1) = (nI 1) by decide)) (Nat.le_of_ble_eq_true rfl) ho r
theorem tX12_add_18 (r : RQ G mX12_add d 2 [x0, x1, x2] S h P) : RQ G mX12_add d 18 [x0, x1, x2] (S) h P := q_goto (M := mX12_add) (pc := 18) dX12_add_18 (by decide) r
theorem tX12_add_21 (r : RQ G mX12_add d 22 [x0, x1, x2] (.int (nI 0) :: S) (h) P) : RQ G mX12_add d 21 [x0, x1, x2] (S) h P := q_iconst (M := mX12_add) (pc := 21) dX12_add_21 (by decide) r
theorem tX12_add_22 {v : Int32} (ho : ok1 x1 = true := by rfl) (r : RQ G mX12_add d 23 [x0, x1, some (.int v)] (S) (h) P) : RQ G mX12_add d 22 [x0, x1, x2] (.int v :: S) h P := q_istore_n (M := mX12_add) (pc := 22) dX12_add_22 rfl (Nat.le_of_ble_eq_true rfl) ho r
theorem tX12_add_23 {v : Int32} (r : RQ G mX12_add d 24 [x0, x1, some (.int v)] (.int v :: S) (h) P) : RQ G mX12_add d 23 [x0, x1, some (.int v)] (S) h P := q_iload_n (M := mX12_add) (pc := 23) dX12_add_23 rfl rfl r
theorem tX12_add_24 {k : Nat} (r : RQ G mX12_add d 25 [some (.ref k), x1, x2] (.ref k :: S) (h) P) : RQ G mX12_add d 24 [some (.ref k), x1, x2] (S) h P := q_aload_n (M := mX12_add) (pc := 24) (r0 := some k) dX12_add_24 rfl rfl r
theorem tX12_add_25 {i : Nat} {vs : List Value} {v : Value} (ha : At h i (.inr (10, vs))) (hv : vs[17]? = some v) (r : RQ G mX12_add d 28 [x0, x1, x2] (v :: S) (h) P) : RQ G mX12_add d 25 [x0, x1, x2] (.ref i :: S) h P := q_get (M := mX12_add) (pc := 25) (kf := 17) dX12_add_25 (show CL[10]? = some (RX12, TX12, 25) from rfl) inA12 (by decide) rfl w1440 ha hv r
theorem tX12_add_28 {i : Nat} {vs : List Value} {v : Value} (ha : At h i (.inr (9, vs))) (hv : vs[0]? = some v) (r : RQ G mX12_add d 31 [x0, x1, x2] (v :: S) (h) P) : RQ G mX12_add d 28 [x0, x1, x2] (.ref i :: S) h P := q_getN (M := mX12_add) (pc := 28) (kf := 0) dX12_add_28 (show CL[9]? = some (RX11, TX11, 24) from rfl) inA11 (by decide) rfl v1320 ha hv r
theorem tX12_add_31 {x y : Int32} (kt : y ≤ x → RQ G mX12_add d 59 [x0, x1, x2] S h P) (kf : ¬ y ≤ x → RQ G mX12_add d 34 [x0, x1, x2] S h P) : RQ G mX12_add d 31 [x0, x1, x2] (.int y :: .int x :: S) h P := q_icmp_ge (M := mX12_add) (pc := 31) dX12_add_31 (by decide) kt kf
theorem tX12_add_34 {k : Nat} (r : RQ G mX12_add d 35 [some (.ref k), x1, x2] (.ref k :: S) (h) P) : RQ G mX12_add d 34 [some (.ref k), x1, x2] (S) h P := q_aload_n (M := mX12_add) (pc := 34) (r0 := some k) dX12_add_34 rfl rfl r
theorem tX12_add_35 {i : Nat} {vs : List Value} {v : Value} (ha : At h i (.inr (10, vs))) (hv : vs[22]? = some v) (r : RQ G mX12_add d 38 [x0, x1, x2] (v :: S) (h) P) : RQ G mX12_add d 35 [x0, x1, x2] (.ref i :: S) h P := q_get (M := mX12_add) (pc := 35) (kf := 22) dX12_add_35 (show CL[10]? = some (RX12, TX12, 25) from rfl) inA12 (by decide) rfl w1445 ha hv r
theorem tX12_add_38 {k : Nat} (r : RQ G mX12_add d 39 [some (.ref k), x1, x2] (.ref k :: S) (h) P) : RQ G mX12_add d 38 [some (.ref k), x1, x2] (S) h P := q_aload_n (M := mX12_add) (pc := 38) (r0 := some k) dX12_add_38 rfl rfl r
theorem tX12_add_39 {v : Int32} (r : RQ G mX12_add d 40 [x0, x1, some (.int v)] (.int v :: S) (h) P) : RQ G mX12_add d 39 [x0, x1, some (.int v)] (S) h P := q_iload_n (M := mX12_add) (pc := 39) dX12_add_39 rfl rfl r
theorem tX12_add_40 {b d2 : Nat} {vs : List Value} {a0 : Int32} {Q : Int32 → AH → Prop} (hd : d2 + 1 ≤ d) (ha : At h b (.inr (10, vs))) (call : RQ G mX12_leader d2 0 [some (.ref b), some (.int a0), none] [] h (Ri Q)) (k : ∀ x h1, Q x h1 → RQ G mX12_add d 43 [x0, x1, x2] (.int x :: S) h1 P) (hst : (S.map fun v => v.category).sum ≤ 8 := by exact Nat.le_of_ble_eq_true rfl)  : RQ G mX12_add d 40 [x0, x1, x2] (.int a0 :: .ref b :: S) h P := q_callV (M := mX12_add) (pc := 40) (M2 := mX12_leader) (As := [.int a0]) (n := 1) dX12_add_40 rfl ⟨by decide, by decide, by decide, rfl⟩ rfl w1744 w1746 w80 w120 w1747 (show CL[10]? = some (RX12, TX12, 25) from rfl) hd (by decide) (Nat.le_of_ble_eq_true rfl) rfl ha hst call (callk_i k)
theorem tX12_add_43 {v w : Value} (hv : ok1 (some v) = true := by rfl) (hw : ok1 (some w) = true := by rfl) (r : RQ G mX12_add d 44 [x0, x1, x2] (v :: w :: v :: w :: S) (h) P) : RQ G mX12_add d 43 [x0, x1, x2] (v :: w :: S) h P := q_dup2 (M := mX12_add) (pc := 43) dX12_add_43 hv hw r
theorem tX12_add_44 {a n j : Nat} {x : Int32} {f : Nat → Int32} (ha : At h a (.inl (0, n, .inl f))) (hx : x = nI j) (hj : j < n) (hn : n < 2147483648) (r : RQ G mX12_add d 45 [x0, x1, x2] (.int (f j) :: S) (h) P) : RQ G mX12_add d 44 [x0, x1, x2] (.int x :: .ref a :: S) h P := q_iald (M := mX12_add) (pc := 44) dX12_add_44 ha hx hj hn r
theorem tX12_add_45 {k : Nat} (r : RQ G mX12_add d 46 [some (.ref k), x1, x2] (.ref k :: S) (h) P) : RQ G mX12_add d 45 [some (.ref k), x1, x2] (S) h P := q_aload_n (M := mX12_add) (pc := 45) (r0 := some k) dX12_add_45 rfl rfl r
theorem tX12_add_46 {v : Int32} (r : RQ G mX12_add d 47 [x0, some (.int v), x2] (.int v :: S) (h) P) : RQ G mX12_add d 46 [x0, some (.int v), x2] (S) h P := q_iload_n (M := mX12_add) (pc := 46) dX12_add_46 rfl rfl r
theorem tX12_add_47 {v : Int32} (r : RQ G mX12_add d 48 [x0, x1, some (.int v)] (.int v :: S) (h) P) : RQ G mX12_add d 47 [x0, x1, some (.int v)] (S) h P := q_iload_n (M := mX12_add) (pc := 47) dX12_add_47 rfl rfl r
theorem tX12_add_48 {b d2 : Nat} {vs : List Value} {a0 : Int32} {a1 : Int32} {Q : Int32 → AH → Prop} (hd : d2 + 1 ≤ d) (ha : At h b (.inr (10, vs))) (call : RQ G mX12_held d2 0 [some (.ref b), some (.int a0), some (.int a1)] [] h (Ri Q)) (k : ∀ x h1, Q x h1 → RQ G mX12_add d 51 [x0, x1, x2] (.int x :: S) h1 P) (hst : (S.map fun v => v.category).sum ≤ 8 := by exact Nat.le_of_ble_eq_true rfl)  : RQ G mX12_add d 48 [x0, x1, x2] (.int a1 :: .int a0 :: .ref b :: S) h P := q_callV (M := mX12_add) (pc := 48) (M2 := mX12_held) (As := [.int a0, .int a1]) (n := 2) dX12_add_48 rfl ⟨by decide, by decide, by decide, rfl⟩ rfl w1716 w1718 w77 w120 w1719 (show CL[10]? = some (RX12, TX12, 25) from rfl) hd (by decide) (Nat.le_of_ble_eq_true rfl) rfl ha hst call (callk_i k)
theorem tX12_add_51 {x y : Int32} (r : RQ G mX12_add d 52 [x0, x1, x2] (.int (x + y) :: S) (h) P) : RQ G mX12_add d 51 [x0, x1, x2] (.int y :: .int x :: S) h P := q_iadd (M := mX12_add) (pc := 51) dX12_add_51 r
theorem tX12_add_52 {a n j : Nat} {x : Int32} {v : Int32} {f : Nat → Int32} (ha : At h a (.inl (0, n, .inl f))) (hx : x = nI j) (hj : j < n) (hn : n < 2147483648) (r : RQ G mX12_add d 53 [x0, x1, x2] (S) (hset h a (.inl (0, n, .inl (upd f j v)))) P) : RQ G mX12_add d 52 [x0, x1, x2] (.int v :: .int x :: .ref a :: S) h P := q_iast (M := mX12_add) (pc := 52) dX12_add_52 ha hx hj hn r
theorem tX12_add_53 {v : Int32} (ho : ok1 x1 = true := by rfl) (r : RQ G mX12_add d 56 [x0, x1, some (.int (v + (nI 1)))] (S) (h) P) : RQ G mX12_add d 53 [x0, x1, some (.int v)] (S) h P := q_iinc (M := mX12_add) (pc := 53) dX12_add_53 rfl (congrArg (v + ·) (show Int32.ofInt (1) = (nI 1) by decide)) (Nat.le_of_ble_eq_true rfl) ho r
theorem tX12_add_56 (r : RQ G mX12_add d 23 [x0, x1, x2] S h P) : RQ G mX12_add d 56 [x0, x1, x2] (S) h P := q_goto (M := mX12_add) (pc := 56) dX12_add_56 (by decide) r
theorem tX12_add_59 (hP : P (.inl none) h) : RQ G mX12_add d 59 [x0, x1, x2] ([]) h P := q_return (M := mX12_add) (pc := 59) dX12_add_59 rfl hP
end T
theorem dX12_firstOf_0 : decode cX12_firstOf 0 = .ok (.iconst (-1), 1) := by decide +kernel
theorem dX12_firstOf_1 : decode cX12_firstOf 1 = .ok (.istore_n 1, 1) := by decide +kernel
theorem dX12_firstOf_2 : decode cX12_firstOf 2 = .ok (.iconst 0, 1) := by decide +kernel
theorem dX12_firstOf_3 : decode cX12_firstOf 3 = .ok (.istore_n 2, 1) := by decide +kernel
theorem dX12_firstOf_4 : decode cX12_firstOf 4 = .ok (.iload_n 2, 1) := by decide +kernel
theorem dX12_firstOf_5 : decode cX12_firstOf 5 = .ok (.aload_n 0, 1) := by decide +kernel
theorem dX12_firstOf_6 : decode cX12_firstOf 6 = .ok (.getfield 41, 3) := by decide +kernel
theorem dX12_firstOf_9 : decode cX12_firstOf 9 = .ok (.getfield 253, 3) := by decide +kernel
theorem dX12_firstOf_12 : decode cX12_firstOf 12 = .ok (.if_icmp .ge 40, 3) := by decide +kernel
theorem dX12_firstOf_15 : decode cX12_firstOf 15 = .ok (.aload_n 0, 1) := by decide +kernel
theorem dX12_firstOf_16 : decode cX12_firstOf 16 = .ok (.getfield 57, 3) := by decide +kernel
theorem dX12_firstOf_19 : decode cX12_firstOf 19 = .ok (.iload_n 2, 1) := by decide +kernel
theorem dX12_firstOf_20 : decode cX12_firstOf 20 = .ok (.iaload, 1) := by decide +kernel
theorem dX12_firstOf_21 : decode cX12_firstOf 21 = .ok (.ifCond .le 25, 3) := by decide +kernel
theorem dX12_firstOf_24 : decode cX12_firstOf 24 = .ok (.iload_n 1, 1) := by decide +kernel
theorem dX12_firstOf_25 : decode cX12_firstOf 25 = .ok (.iconst (-1), 1) := by decide +kernel
theorem dX12_firstOf_26 : decode cX12_firstOf 26 = .ok (.if_icmp .eq 18, 3) := by decide +kernel
theorem dX12_firstOf_29 : decode cX12_firstOf 29 = .ok (.aload_n 0, 1) := by decide +kernel
theorem dX12_firstOf_30 : decode cX12_firstOf 30 = .ok (.getfield 57, 3) := by decide +kernel
theorem dX12_firstOf_33 : decode cX12_firstOf 33 = .ok (.iload_n 2, 1) := by decide +kernel
theorem dX12_firstOf_34 : decode cX12_firstOf 34 = .ok (.iaload, 1) := by decide +kernel
theorem dX12_firstOf_35 : decode cX12_firstOf 35 = .ok (.aload_n 0, 1) := by decide +kernel
theorem dX12_firstOf_36 : decode cX12_firstOf 36 = .ok (.getfield 57, 3) := by decide +kernel
theorem dX12_firstOf_39 : decode cX12_firstOf 39 = .ok (.iload_n 1, 1) := by decide +kernel
theorem dX12_firstOf_40 : decode cX12_firstOf 40 = .ok (.iaload, 1) := by decide +kernel
theorem dX12_firstOf_41 : decode cX12_firstOf 41 = .ok (.if_icmp .le 5, 3) := by decide +kernel
theorem dX12_firstOf_44 : decode cX12_firstOf 44 = .ok (.iload_n 2, 1) := by decide +kernel
theorem dX12_firstOf_45 : decode cX12_firstOf 45 = .ok (.istore_n 1, 1) := by decide +kernel
theorem dX12_firstOf_46 : decode cX12_firstOf 46 = .ok (.iinc 2 1, 3) := by decide +kernel
theorem dX12_firstOf_49 : decode cX12_firstOf 49 = .ok (.goto (-45), 3) := by decide +kernel
theorem dX12_firstOf_52 : decode cX12_firstOf 52 = .ok (.iload_n 1, 1) := by decide +kernel
theorem dX12_firstOf_53 : decode cX12_firstOf 53 = .ok (.ireturn, 1) := by decide +kernel
section T
variable {G : GT} {d : Nat} {S : List Value} {h : AH} {P : OC → AH → Prop} {x0 x1 x2 x3 x4 x5 x6 x7 x8 x9 x10 x11 x12 x13 x14 x15 : Option Value}
theorem tX12_firstOf_0 (r : RQ G mX12_firstOf d 1 [x0, x1, x2] (.int (-1) :: S) (h) P) : RQ G mX12_firstOf d 0 [x0, x1, x2] (S) h P := q_iconst (M := mX12_firstOf) (pc := 0) dX12_firstOf_0 (by decide) r
theorem tX12_firstOf_1 {v : Int32} (ho : ok1 x0 = true := by rfl) (r : RQ G mX12_firstOf d 2 [x0, some (.int v), x2] (S) (h) P) : RQ G mX12_firstOf d 1 [x0, x1, x2] (.int v :: S) h P := q_istore_n (M := mX12_firstOf) (pc := 1) dX12_firstOf_1 rfl (Nat.le_of_ble_eq_true rfl) ho r
theorem tX12_firstOf_2 (r : RQ G mX12_firstOf d 3 [x0, x1, x2] (.int (nI 0) :: S) (h) P) : RQ G mX12_firstOf d 2 [x0, x1, x2] (S) h P := q_iconst (M := mX12_firstOf) (pc := 2) dX12_firstOf_2 (by decide) r
theorem tX12_firstOf_3 {v : Int32} (ho : ok1 x1 = true := by rfl) (r : RQ G mX12_firstOf d 4 [x0, x1, some (.int v)] (S) (h) P) : RQ G mX12_firstOf d 3 [x0, x1, x2] (.int v :: S) h P := q_istore_n (M := mX12_firstOf) (pc := 3) dX12_firstOf_3 rfl (Nat.le_of_ble_eq_true rfl) ho r
theorem tX12_firstOf_4 {v : Int32} (r : RQ G mX12_firstOf d 5 [x0, x1, some (.int v)] (.int v :: S) (h) P) : RQ G mX12_firstOf d 4 [x0, x1, some (.int v)] (S) h P := q_iload_n (M := mX12_firstOf) (pc := 4) dX12_firstOf_4 rfl rfl r
theorem tX12_firstOf_5 {k : Nat} (r : RQ G mX12_firstOf d 6 [some (.ref k), x1, x2] (.ref k :: S) (h) P) : RQ G mX12_firstOf d 5 [some (.ref k), x1, x2] (S) h P := q_aload_n (M := mX12_firstOf) (pc := 5) (r0 := some k) dX12_firstOf_5 rfl rfl r
theorem tX12_firstOf_6 {i : Nat} {vs : List Value} {v : Value} (ha : At h i (.inr (10, vs))) (hv : vs[17]? = some v) (r : RQ G mX12_firstOf d 9 [x0, x1, x2] (v :: S) (h) P) : RQ G mX12_firstOf d 6 [x0, x1, x2] (.ref i :: S) h P := q_get (M := mX12_firstOf) (pc := 6) (kf := 17) dX12_firstOf_6 (show CL[10]? = some (RX12, TX12, 25) from rfl) inA12 (by decide) rfl w1440 ha hv r
theorem tX12_firstOf_9 {i : Nat} {vs : List Value} {v : Value} (ha : At h i (.inr (9, vs))) (hv : vs[0]? = some v) (r : RQ G mX12_firstOf d 12 [x0, x1, x2] (v :: S) (h) P) : RQ G mX12_firstOf d 9 [x0, x1, x2] (.ref i :: S) h P := q_getN (M := mX12_firstOf) (pc := 9) (kf := 0) dX12_firstOf_9 (show CL[9]? = some (RX11, TX11, 24) from rfl) inA11 (by decide) rfl v1320 ha hv r
theorem tX12_firstOf_12 {x y : Int32} (kt : y ≤ x → RQ G mX12_firstOf d 52 [x0, x1, x2] S h P) (kf : ¬ y ≤ x → RQ G mX12_firstOf d 15 [x0, x1, x2] S h P) : RQ G mX12_firstOf d 12 [x0, x1, x2] (.int y :: .int x :: S) h P := q_icmp_ge (M := mX12_firstOf) (pc := 12) dX12_firstOf_12 (by decide) kt kf
theorem tX12_firstOf_15 {k : Nat} (r : RQ G mX12_firstOf d 16 [some (.ref k), x1, x2] (.ref k :: S) (h) P) : RQ G mX12_firstOf d 15 [some (.ref k), x1, x2] (S) h P := q_aload_n (M := mX12_firstOf) (pc := 15) (r0 := some k) dX12_firstOf_15 rfl rfl r
theorem tX12_firstOf_16 {i : Nat} {vs : List Value} {v : Value} (ha : At h i (.inr (10, vs))) (hv : vs[22]? = some v) (r : RQ G mX12_firstOf d 19 [x0, x1, x2] (v :: S) (h) P) : RQ G mX12_firstOf d 16 [x0, x1, x2] (.ref i :: S) h P := q_get (M := mX12_firstOf) (pc := 16) (kf := 22) dX12_firstOf_16 (show CL[10]? = some (RX12, TX12, 25) from rfl) inA12 (by decide) rfl w1445 ha hv r
theorem tX12_firstOf_19 {v : Int32} (r : RQ G mX12_firstOf d 20 [x0, x1, some (.int v)] (.int v :: S) (h) P) : RQ G mX12_firstOf d 19 [x0, x1, some (.int v)] (S) h P := q_iload_n (M := mX12_firstOf) (pc := 19) dX12_firstOf_19 rfl rfl r
theorem tX12_firstOf_20 {a n j : Nat} {x : Int32} {f : Nat → Int32} (ha : At h a (.inl (0, n, .inl f))) (hx : x = nI j) (hj : j < n) (hn : n < 2147483648) (r : RQ G mX12_firstOf d 21 [x0, x1, x2] (.int (f j) :: S) (h) P) : RQ G mX12_firstOf d 20 [x0, x1, x2] (.int x :: .ref a :: S) h P := q_iald (M := mX12_firstOf) (pc := 20) dX12_firstOf_20 ha hx hj hn r
theorem tX12_firstOf_21 {x : Int32} (kt : x ≤ 0 → RQ G mX12_firstOf d 46 [x0, x1, x2] S h P) (kf : ¬ x ≤ 0 → RQ G mX12_firstOf d 24 [x0, x1, x2] S h P) : RQ G mX12_firstOf d 21 [x0, x1, x2] (.int x :: S) h P := q_if_le (M := mX12_firstOf) (pc := 21) dX12_firstOf_21 (by decide) kt kf
theorem tX12_firstOf_24 {v : Int32} (r : RQ G mX12_firstOf d 25 [x0, some (.int v), x2] (.int v :: S) (h) P) : RQ G mX12_firstOf d 24 [x0, some (.int v), x2] (S) h P := q_iload_n (M := mX12_firstOf) (pc := 24) dX12_firstOf_24 rfl rfl r
theorem tX12_firstOf_25 (r : RQ G mX12_firstOf d 26 [x0, x1, x2] (.int (-1) :: S) (h) P) : RQ G mX12_firstOf d 25 [x0, x1, x2] (S) h P := q_iconst (M := mX12_firstOf) (pc := 25) dX12_firstOf_25 (by decide) r
theorem tX12_firstOf_26 {x y : Int32} (kt : x = y → RQ G mX12_firstOf d 44 [x0, x1, x2] S h P) (kf : ¬ x = y → RQ G mX12_firstOf d 29 [x0, x1, x2] S h P) : RQ G mX12_firstOf d 26 [x0, x1, x2] (.int y :: .int x :: S) h P := q_icmp_eq (M := mX12_firstOf) (pc := 26) dX12_firstOf_26 (by decide) kt kf
theorem tX12_firstOf_29 {k : Nat} (r : RQ G mX12_firstOf d 30 [some (.ref k), x1, x2] (.ref k :: S) (h) P) : RQ G mX12_firstOf d 29 [some (.ref k), x1, x2] (S) h P := q_aload_n (M := mX12_firstOf) (pc := 29) (r0 := some k) dX12_firstOf_29 rfl rfl r
theorem tX12_firstOf_30 {i : Nat} {vs : List Value} {v : Value} (ha : At h i (.inr (10, vs))) (hv : vs[22]? = some v) (r : RQ G mX12_firstOf d 33 [x0, x1, x2] (v :: S) (h) P) : RQ G mX12_firstOf d 30 [x0, x1, x2] (.ref i :: S) h P := q_get (M := mX12_firstOf) (pc := 30) (kf := 22) dX12_firstOf_30 (show CL[10]? = some (RX12, TX12, 25) from rfl) inA12 (by decide) rfl w1445 ha hv r
theorem tX12_firstOf_33 {v : Int32} (r : RQ G mX12_firstOf d 34 [x0, x1, some (.int v)] (.int v :: S) (h) P) : RQ G mX12_firstOf d 33 [x0, x1, some (.int v)] (S) h P := q_iload_n (M := mX12_firstOf) (pc := 33) dX12_firstOf_33 rfl rfl r
theorem tX12_firstOf_34 {a n j : Nat} {x : Int32} {f : Nat → Int32} (ha : At h a (.inl (0, n, .inl f))) (hx : x = nI j) (hj : j < n) (hn : n < 2147483648) (r : RQ G mX12_firstOf d 35 [x0, x1, x2] (.int (f j) :: S) (h) P) : RQ G mX12_firstOf d 34 [x0, x1, x2] (.int x :: .ref a :: S) h P := q_iald (M := mX12_firstOf) (pc := 34) dX12_firstOf_34 ha hx hj hn r
theorem tX12_firstOf_35 {k : Nat} (r : RQ G mX12_firstOf d 36 [some (.ref k), x1, x2] (.ref k :: S) (h) P) : RQ G mX12_firstOf d 35 [some (.ref k), x1, x2] (S) h P := q_aload_n (M := mX12_firstOf) (pc := 35) (r0 := some k) dX12_firstOf_35 rfl rfl r
theorem tX12_firstOf_36 {i : Nat} {vs : List Value} {v : Value} (ha : At h i (.inr (10, vs))) (hv : vs[22]? = some v) (r : RQ G mX12_firstOf d 39 [x0, x1, x2] (v :: S) (h) P) : RQ G mX12_firstOf d 36 [x0, x1, x2] (.ref i :: S) h P := q_get (M := mX12_firstOf) (pc := 36) (kf := 22) dX12_firstOf_36 (show CL[10]? = some (RX12, TX12, 25) from rfl) inA12 (by decide) rfl w1445 ha hv r
theorem tX12_firstOf_39 {v : Int32} (r : RQ G mX12_firstOf d 40 [x0, some (.int v), x2] (.int v :: S) (h) P) : RQ G mX12_firstOf d 39 [x0, some (.int v), x2] (S) h P := q_iload_n (M := mX12_firstOf) (pc := 39) dX12_firstOf_39 rfl rfl r
theorem tX12_firstOf_40 {a n j : Nat} {x : Int32} {f : Nat → Int32} (ha : At h a (.inl (0, n, .inl f))) (hx : x = nI j) (hj : j < n) (hn : n < 2147483648) (r : RQ G mX12_firstOf d 41 [x0, x1, x2] (.int (f j) :: S) (h) P) : RQ G mX12_firstOf d 40 [x0, x1, x2] (.int x :: .ref a :: S) h P := q_iald (M := mX12_firstOf) (pc := 40) dX12_firstOf_40 ha hx hj hn r
theorem tX12_firstOf_41 {x y : Int32} (kt : x ≤ y → RQ G mX12_firstOf d 46 [x0, x1, x2] S h P) (kf : ¬ x ≤ y → RQ G mX12_firstOf d 44 [x0, x1, x2] S h P) : RQ G mX12_firstOf d 41 [x0, x1, x2] (.int y :: .int x :: S) h P := q_icmp_le (M := mX12_firstOf) (pc := 41) dX12_firstOf_41 (by decide) kt kf
theorem tX12_firstOf_44 {v : Int32} (r : RQ G mX12_firstOf d 45 [x0, x1, some (.int v)] (.int v :: S) (h) P) : RQ G mX12_firstOf d 44 [x0, x1, some (.int v)] (S) h P := q_iload_n (M := mX12_firstOf) (pc := 44) dX12_firstOf_44 rfl rfl r
theorem tX12_firstOf_45 {v : Int32} (ho : ok1 x0 = true := by rfl) (r : RQ G mX12_firstOf d 46 [x0, some (.int v), x2] (S) (h) P) : RQ G mX12_firstOf d 45 [x0, x1, x2] (.int v :: S) h P := q_istore_n (M := mX12_firstOf) (pc := 45) dX12_firstOf_45 rfl (Nat.le_of_ble_eq_true rfl) ho r
theorem tX12_firstOf_46 {v : Int32} (ho : ok1 x1 = true := by rfl) (r : RQ G mX12_firstOf d 49 [x0, x1, some (.int (v + (nI 1)))] (S) (h) P) : RQ G mX12_firstOf d 46 [x0, x1, some (.int v)] (S) h P := q_iinc (M := mX12_firstOf) (pc := 46) dX12_firstOf_46 rfl (congrArg (v + ·) (show Int32.ofInt (1) = (nI 1) by decide)) (Nat.le_of_ble_eq_true rfl) ho r
theorem tX12_firstOf_49 (r : RQ G mX12_firstOf d 4 [x0, x1, x2] S h P) : RQ G mX12_firstOf d 49 [x0, x1, x2] (S) h P := q_goto (M := mX12_firstOf) (pc := 49) dX12_firstOf_49 (by decide) r
theorem tX12_firstOf_52 {v : Int32} (r : RQ G mX12_firstOf d 53 [x0, some (.int v), x2] (.int v :: S) (h) P) : RQ G mX12_firstOf d 52 [x0, some (.int v), x2] (S) h P := q_iload_n (M := mX12_firstOf) (pc := 52) dX12_firstOf_52 rfl rfl r
theorem tX12_firstOf_53 {x : Int32} (hP : P (.inl (some (.int x))) h) : RQ G mX12_firstOf d 53 [x0, x1, x2] ([.int x]) h P := q_ireturn (M := mX12_firstOf) (pc := 53) (ty := .int) dX12_firstOf_53 rfl rfl hP
end T
theorem dX12_firstHere_0 : decode cX12_firstHere 0 = .ok (.aload_n 0, 1) := by decide +kernel
theorem dX12_firstHere_1 : decode cX12_firstHere 1 = .ok (.iload_n 1, 1) := by decide +kernel
theorem dX12_firstHere_2 : decode cX12_firstHere 2 = .ok (.invokevirtual 321, 3) := by decide +kernel
theorem dX12_firstHere_5 : decode cX12_firstHere 5 = .ok (.aload_n 0, 1) := by decide +kernel
theorem dX12_firstHere_6 : decode cX12_firstHere 6 = .ok (.invokevirtual 324, 3) := by decide +kernel
theorem dX12_firstHere_9 : decode cX12_firstHere 9 = .ok (.ireturn, 1) := by decide +kernel
section T
variable {G : GT} {d : Nat} {S : List Value} {h : AH} {P : OC → AH → Prop} {x0 x1 x2 x3 x4 x5 x6 x7 x8 x9 x10 x11 x12 x13 x14 x15 : Option Value}
theorem tX12_firstHere_0 {k : Nat} (r : RQ G mX12_firstHere d 1 [some (.ref k), x1] (.ref k :: S) (h) P) : RQ G mX12_firstHere d 0 [some (.ref k), x1] (S) h P := q_aload_n (M := mX12_firstHere) (pc := 0) (r0 := some k) dX12_firstHere_0 rfl rfl r
theorem tX12_firstHere_1 {v : Int32} (r : RQ G mX12_firstHere d 2 [x0, some (.int v)] (.int v :: S) (h) P) : RQ G mX12_firstHere d 1 [x0, some (.int v)] (S) h P := q_iload_n (M := mX12_firstHere) (pc := 1) dX12_firstHere_1 rfl rfl r
theorem tX12_firstHere_2 {b d2 : Nat} {vs : List Value} {a0 : Int32} {Q : AH → Prop} (hd : d2 + 1 ≤ d) (ha : At h b (.inr (10, vs))) (call : RQ G mX12_add d2 0 [some (.ref b), some (.int a0), none] [] h (Rv Q)) (k : ∀ h1, Q h1 → RQ G mX12_firstHere d 5 [x0, x1] S h1 P) (hst : (S.map fun v => v.category).sum ≤ 8 := by exact Nat.le_of_ble_eq_true rfl)  : RQ G mX12_firstHere d 2 [x0, x1] (.int a0 :: .ref b :: S) h P := q_callV (M := mX12_firstHere) (pc := 2) (M2 := mX12_add) (As := [.int a0]) (n := 1) dX12_firstHere_2 rfl ⟨by decide, by decide, by decide, rfl⟩ rfl w1760 w1762 w82 w120 w1763 (show CL[10]? = some (RX12, TX12, 25) from rfl) hd (by decide) (Nat.le_of_ble_eq_true rfl) rfl ha hst call (callk_v k)
theorem tX12_firstHere_5 {k : Nat} (r : RQ G mX12_firstHere d 6 [some (.ref k), x1] (.ref k :: S) (h) P) : RQ G mX12_firstHere d 5 [some (.ref k), x1] (S) h P := q_aload_n (M := mX12_firstHere) (pc := 5) (r0 := some k) dX12_firstHere_5 rfl rfl r
theorem tX12_firstHere_6 {b d2 : Nat} {vs : List Value}  {Q : Int32 → AH → Prop} (hd : d2 + 1 ≤ d) (ha : At h b (.inr (10, vs))) (call : RQ G mX12_firstOf d2 0 [some (.ref b), none, none] [] h (Ri Q)) (k : ∀ x h1, Q x h1 → RQ G mX12_firstHere d 9 [x0, x1] (.int x :: S) h1 P) (hst : (S.map fun v => v.category).sum ≤ 8 := by exact Nat.le_of_ble_eq_true rfl)  : RQ G mX12_firstHere d 6 [x0, x1] (.ref b :: S) h P := q_callV (M := mX12_firstHere) (pc := 6) (M2 := mX12_firstOf) (As := []) (n := 0) dX12_firstHere_6 rfl ⟨by decide, by decide, by decide, rfl⟩ rfl w1764 w1766 w83 w120 w1767 (show CL[10]? = some (RX12, TX12, 25) from rfl) hd (by decide) (Nat.le_of_ble_eq_true rfl) rfl ha hst call (callk_i k)
theorem tX12_firstHere_9 {x : Int32} (hP : P (.inl (some (.int x))) h) : RQ G mX12_firstHere d 9 [x0, x1] ([.int x]) h P := q_ireturn (M := mX12_firstHere) (pc := 9) (ty := .int) dX12_firstHere_9 rfl rfl hP
end T
theorem dX12_margin_0 : decode cX12_margin 0 = .ok (.aload_n 0, 1) := by decide +kernel
theorem dX12_margin_1 : decode cX12_margin 1 = .ok (.iload_n 1, 1) := by decide +kernel
theorem dX12_margin_2 : decode cX12_margin 2 = .ok (.invokevirtual 327, 3) := by decide +kernel
theorem dX12_margin_5 : decode cX12_margin 5 = .ok (.istore_n 2, 1) := by decide +kernel
theorem dX12_margin_6 : decode cX12_margin 6 = .ok (.iload_n 2, 1) := by decide +kernel
theorem dX12_margin_7 : decode cX12_margin 7 = .ok (.iconst (-1), 1) := by decide +kernel
theorem dX12_margin_8 : decode cX12_margin 8 = .ok (.if_icmp .ne 5, 3) := by decide +kernel
theorem dX12_margin_11 : decode cX12_margin 11 = .ok (.iconst 0, 1) := by decide +kernel
theorem dX12_margin_12 : decode cX12_margin 12 = .ok (.ireturn, 1) := by decide +kernel
theorem dX12_margin_13 : decode cX12_margin 13 = .ok (.iconst 0, 1) := by decide +kernel
theorem dX12_margin_14 : decode cX12_margin 14 = .ok (.istore_n 3, 1) := by decide +kernel
theorem dX12_margin_15 : decode cX12_margin 15 = .ok (.iconst 0, 1) := by decide +kernel
theorem dX12_margin_16 : decode cX12_margin 16 = .ok (.istore 4, 2) := by decide +kernel
theorem dX12_margin_18 : decode cX12_margin 18 = .ok (.iload 4, 2) := by decide +kernel
theorem dX12_margin_20 : decode cX12_margin 20 = .ok (.aload_n 0, 1) := by decide +kernel
theorem dX12_margin_21 : decode cX12_margin 21 = .ok (.getfield 41, 3) := by decide +kernel
theorem dX12_margin_24 : decode cX12_margin 24 = .ok (.getfield 253, 3) := by decide +kernel
theorem dX12_margin_27 : decode cX12_margin 27 = .ok (.if_icmp .ge 27, 3) := by decide +kernel
theorem dX12_margin_30 : decode cX12_margin 30 = .ok (.iload 4, 2) := by decide +kernel
theorem dX12_margin_32 : decode cX12_margin 32 = .ok (.iload_n 2, 1) := by decide +kernel
theorem dX12_margin_33 : decode cX12_margin 33 = .ok (.if_icmp .eq 15, 3) := by decide +kernel
theorem dX12_margin_36 : decode cX12_margin 36 = .ok (.iload_n 3, 1) := by decide +kernel
theorem dX12_margin_37 : decode cX12_margin 37 = .ok (.aload_n 0, 1) := by decide +kernel
theorem dX12_margin_38 : decode cX12_margin 38 = .ok (.getfield 57, 3) := by decide +kernel
theorem dX12_margin_41 : decode cX12_margin 41 = .ok (.iload 4, 2) := by decide +kernel
theorem dX12_margin_43 : decode cX12_margin 43 = .ok (.iaload, 1) := by decide +kernel
theorem dX12_margin_44 : decode cX12_margin 44 = .ok (.invokestatic 330, 3) := by decide +kernel
theorem dX12_margin_47 : decode cX12_margin 47 = .ok (.istore_n 3, 1) := by decide +kernel
theorem dX12_margin_48 : decode cX12_margin 48 = .ok (.iinc 4 1, 3) := by decide +kernel
theorem dX12_margin_51 : decode cX12_margin 51 = .ok (.goto (-33), 3) := by decide +kernel
theorem dX12_margin_54 : decode cX12_margin 54 = .ok (.aload_n 0, 1) := by decide +kernel
theorem dX12_margin_55 : decode cX12_margin 55 = .ok (.getfield 57, 3) := by decide +kernel
theorem dX12_margin_58 : decode cX12_margin 58 = .ok (.iload_n 2, 1) := by decide +kernel
theorem dX12_margin_59 : decode cX12_margin 59 = .ok (.iaload, 1) := by decide +kernel
theorem dX12_margin_60 : decode cX12_margin 60 = .ok (.iload_n 3, 1) := by decide +kernel
theorem dX12_margin_61 : decode cX12_margin 61 = .ok (.isub, 1) := by decide +kernel
theorem dX12_margin_62 : decode cX12_margin 62 = .ok (.ireturn, 1) := by decide +kernel
section T
variable {G : GT} {d : Nat} {S : List Value} {h : AH} {P : OC → AH → Prop} {x0 x1 x2 x3 x4 x5 x6 x7 x8 x9 x10 x11 x12 x13 x14 x15 : Option Value}
theorem tX12_margin_0 {k : Nat} (r : RQ G mX12_margin d 1 [some (.ref k), x1, x2, x3, x4] (.ref k :: S) (h) P) : RQ G mX12_margin d 0 [some (.ref k), x1, x2, x3, x4] (S) h P := q_aload_n (M := mX12_margin) (pc := 0) (r0 := some k) dX12_margin_0 rfl rfl r
theorem tX12_margin_1 {v : Int32} (r : RQ G mX12_margin d 2 [x0, some (.int v), x2, x3, x4] (.int v :: S) (h) P) : RQ G mX12_margin d 1 [x0, some (.int v), x2, x3, x4] (S) h P := q_iload_n (M := mX12_margin) (pc := 1) dX12_margin_1 rfl rfl r
theorem tX12_margin_2 {b d2 : Nat} {vs : List Value} {a0 : Int32} {Q : Int32 → AH → Prop} (hd : d2 + 1 ≤ d) (ha : At h b (.inr (10, vs))) (call : RQ G mX12_firstHere d2 0 [some (.ref b), some (.int a0)] [] h (Ri Q)) (k : ∀ x h1, Q x h1 → RQ G mX12_margin d 5 [x0, x1, x2, x3, x4] (.int x :: S) h1 P) (hst : (S.map fun v => v.category).sum ≤ 8 := by exact Nat.le_of_ble_eq_true rfl)  : RQ G mX12_margin d 2 [x0, x1, x2, x3, x4] (.int a0 :: .ref b :: S) h P := q_callV (M := mX12_margin) (pc := 2) (M2 := mX12_firstHere) (As := [.int a0]) (n := 1) dX12_margin_2 rfl ⟨by decide, by decide, by decide, rfl⟩ rfl w1756 w1758 w81 w120 w1759 (show CL[10]? = some (RX12, TX12, 25) from rfl) hd (by decide) (Nat.le_of_ble_eq_true rfl) rfl ha hst call (callk_i k)
theorem tX12_margin_5 {v : Int32} (ho : ok1 x1 = true := by rfl) (r : RQ G mX12_margin d 6 [x0, x1, some (.int v), x3, x4] (S) (h) P) : RQ G mX12_margin d 5 [x0, x1, x2, x3, x4] (.int v :: S) h P := q_istore_n (M := mX12_margin) (pc := 5) dX12_margin_5 rfl (Nat.le_of_ble_eq_true rfl) ho r
theorem tX12_margin_6 {v : Int32} (r : RQ G mX12_margin d 7 [x0, x1, some (.int v), x3, x4] (.int v :: S) (h) P) : RQ G mX12_margin d 6 [x0, x1, some (.int v), x3, x4] (S) h P := q_iload_n (M := mX12_margin) (pc := 6) dX12_margin_6 rfl rfl r
theorem tX12_margin_7 (r : RQ G mX12_margin d 8 [x0, x1, x2, x3, x4] (.int (-1) :: S) (h) P) : RQ G mX12_margin d 7 [x0, x1, x2, x3, x4] (S) h P := q_iconst (M := mX12_margin) (pc := 7) dX12_margin_7 (by decide) r
theorem tX12_margin_8 {x y : Int32} (kt : ¬ x = y → RQ G mX12_margin d 13 [x0, x1, x2, x3, x4] S h P) (kf : x = y → RQ G mX12_margin d 11 [x0, x1, x2, x3, x4] S h P) : RQ G mX12_margin d 8 [x0, x1, x2, x3, x4] (.int y :: .int x :: S) h P := q_icmp_ne (M := mX12_margin) (pc := 8) dX12_margin_8 (by decide) kt kf
theorem tX12_margin_11 (r : RQ G mX12_margin d 12 [x0, x1, x2, x3, x4] (.int (nI 0) :: S) (h) P) : RQ G mX12_margin d 11 [x0, x1, x2, x3, x4] (S) h P := q_iconst (M := mX12_margin) (pc := 11) dX12_margin_11 (by decide) r
theorem tX12_margin_12 {x : Int32} (hP : P (.inl (some (.int x))) h) : RQ G mX12_margin d 12 [x0, x1, x2, x3, x4] ([.int x]) h P := q_ireturn (M := mX12_margin) (pc := 12) (ty := .int) dX12_margin_12 rfl rfl hP
theorem tX12_margin_13 (r : RQ G mX12_margin d 14 [x0, x1, x2, x3, x4] (.int (nI 0) :: S) (h) P) : RQ G mX12_margin d 13 [x0, x1, x2, x3, x4] (S) h P := q_iconst (M := mX12_margin) (pc := 13) dX12_margin_13 (by decide) r
theorem tX12_margin_14 {v : Int32} (ho : ok1 x2 = true := by rfl) (r : RQ G mX12_margin d 15 [x0, x1, x2, some (.int v), x4] (S) (h) P) : RQ G mX12_margin d 14 [x0, x1, x2, x3, x4] (.int v :: S) h P := q_istore_n (M := mX12_margin) (pc := 14) dX12_margin_14 rfl (Nat.le_of_ble_eq_true rfl) ho r
theorem tX12_margin_15 (r : RQ G mX12_margin d 16 [x0, x1, x2, x3, x4] (.int (nI 0) :: S) (h) P) : RQ G mX12_margin d 15 [x0, x1, x2, x3, x4] (S) h P := q_iconst (M := mX12_margin) (pc := 15) dX12_margin_15 (by decide) r
theorem tX12_margin_16 {v : Int32} (ho : ok1 x3 = true := by rfl) (r : RQ G mX12_margin d 18 [x0, x1, x2, x3, some (.int v)] (S) (h) P) : RQ G mX12_margin d 16 [x0, x1, x2, x3, x4] (.int v :: S) h P := q_istore (M := mX12_margin) (pc := 16) dX12_margin_16 (Nat.le_of_ble_eq_true rfl) ho r
theorem tX12_margin_18 {v : Int32} (r : RQ G mX12_margin d 20 [x0, x1, x2, x3, some (.int v)] (.int v :: S) (h) P) : RQ G mX12_margin d 18 [x0, x1, x2, x3, some (.int v)] (S) h P := q_iload (M := mX12_margin) (pc := 18) dX12_margin_18 rfl r
theorem tX12_margin_20 {k : Nat} (r : RQ G mX12_margin d 21 [some (.ref k), x1, x2, x3, x4] (.ref k :: S) (h) P) : RQ G mX12_margin d 20 [some (.ref k), x1, x2, x3, x4] (S) h P := q_aload_n (M := mX12_margin) (pc := 20) (r0 := some k) dX12_margin_20 rfl rfl r
theorem tX12_margin_21 {i : Nat} {vs : List Value} {v : Value} (ha : At h i (.inr (10, vs))) (hv : vs[17]? = some v) (r : RQ G mX12_margin d 24 [x0, x1, x2, x3, x4] (v :: S) (h) P) : RQ G mX12_margin d 21 [x0, x1, x2, x3, x4] (.ref i :: S) h P := q_get (M := mX12_margin) (pc := 21) (kf := 17) dX12_margin_21 (show CL[10]? = some (RX12, TX12, 25) from rfl) inA12 (by decide) rfl w1440 ha hv r
theorem tX12_margin_24 {i : Nat} {vs : List Value} {v : Value} (ha : At h i (.inr (9, vs))) (hv : vs[0]? = some v) (r : RQ G mX12_margin d 27 [x0, x1, x2, x3, x4] (v :: S) (h) P) : RQ G mX12_margin d 24 [x0, x1, x2, x3, x4] (.ref i :: S) h P := q_getN (M := mX12_margin) (pc := 24) (kf := 0) dX12_margin_24 (show CL[9]? = some (RX11, TX11, 24) from rfl) inA11 (by decide) rfl v1320 ha hv r
theorem tX12_margin_27 {x y : Int32} (kt : y ≤ x → RQ G mX12_margin d 54 [x0, x1, x2, x3, x4] S h P) (kf : ¬ y ≤ x → RQ G mX12_margin d 30 [x0, x1, x2, x3, x4] S h P) : RQ G mX12_margin d 27 [x0, x1, x2, x3, x4] (.int y :: .int x :: S) h P := q_icmp_ge (M := mX12_margin) (pc := 27) dX12_margin_27 (by decide) kt kf
theorem tX12_margin_30 {v : Int32} (r : RQ G mX12_margin d 32 [x0, x1, x2, x3, some (.int v)] (.int v :: S) (h) P) : RQ G mX12_margin d 30 [x0, x1, x2, x3, some (.int v)] (S) h P := q_iload (M := mX12_margin) (pc := 30) dX12_margin_30 rfl r
theorem tX12_margin_32 {v : Int32} (r : RQ G mX12_margin d 33 [x0, x1, some (.int v), x3, x4] (.int v :: S) (h) P) : RQ G mX12_margin d 32 [x0, x1, some (.int v), x3, x4] (S) h P := q_iload_n (M := mX12_margin) (pc := 32) dX12_margin_32 rfl rfl r
theorem tX12_margin_33 {x y : Int32} (kt : x = y → RQ G mX12_margin d 48 [x0, x1, x2, x3, x4] S h P) (kf : ¬ x = y → RQ G mX12_margin d 36 [x0, x1, x2, x3, x4] S h P) : RQ G mX12_margin d 33 [x0, x1, x2, x3, x4] (.int y :: .int x :: S) h P := q_icmp_eq (M := mX12_margin) (pc := 33) dX12_margin_33 (by decide) kt kf
theorem tX12_margin_36 {v : Int32} (r : RQ G mX12_margin d 37 [x0, x1, x2, some (.int v), x4] (.int v :: S) (h) P) : RQ G mX12_margin d 36 [x0, x1, x2, some (.int v), x4] (S) h P := q_iload_n (M := mX12_margin) (pc := 36) dX12_margin_36 rfl rfl r
theorem tX12_margin_37 {k : Nat} (r : RQ G mX12_margin d 38 [some (.ref k), x1, x2, x3, x4] (.ref k :: S) (h) P) : RQ G mX12_margin d 37 [some (.ref k), x1, x2, x3, x4] (S) h P := q_aload_n (M := mX12_margin) (pc := 37) (r0 := some k) dX12_margin_37 rfl rfl r
theorem tX12_margin_38 {i : Nat} {vs : List Value} {v : Value} (ha : At h i (.inr (10, vs))) (hv : vs[22]? = some v) (r : RQ G mX12_margin d 41 [x0, x1, x2, x3, x4] (v :: S) (h) P) : RQ G mX12_margin d 38 [x0, x1, x2, x3, x4] (.ref i :: S) h P := q_get (M := mX12_margin) (pc := 38) (kf := 22) dX12_margin_38 (show CL[10]? = some (RX12, TX12, 25) from rfl) inA12 (by decide) rfl w1445 ha hv r
theorem tX12_margin_41 {v : Int32} (r : RQ G mX12_margin d 43 [x0, x1, x2, x3, some (.int v)] (.int v :: S) (h) P) : RQ G mX12_margin d 41 [x0, x1, x2, x3, some (.int v)] (S) h P := q_iload (M := mX12_margin) (pc := 41) dX12_margin_41 rfl r
theorem tX12_margin_43 {a n j : Nat} {x : Int32} {f : Nat → Int32} (ha : At h a (.inl (0, n, .inl f))) (hx : x = nI j) (hj : j < n) (hn : n < 2147483648) (r : RQ G mX12_margin d 44 [x0, x1, x2, x3, x4] (.int (f j) :: S) (h) P) : RQ G mX12_margin d 43 [x0, x1, x2, x3, x4] (.int x :: .ref a :: S) h P := q_iald (M := mX12_margin) (pc := 43) dX12_margin_43 ha hx hj hn r
theorem tX12_margin_44 {x y : Int32} (hd : 1 ≤ d) (hst : (S.map fun v => v.category).sum ≤ 8 := by exact Nat.le_of_ble_eq_true rfl) (r : RQ G mX12_margin d 47 [x0, x1, x2, x3, x4] (.int (if x < y then y else x) :: S) (h) P) : RQ G mX12_margin d 44 [x0, x1, x2, x3, x4] (.int y :: .int x :: S) h P := q_max (M := mX12_margin) (pc := 44) dX12_margin_44 w1776 w969 w132 w970 hd hst r
theorem tX12_margin_47 {v : Int32} (ho : ok1 x2 = true := by rfl) (r : RQ G mX12_margin d 48 [x0, x1, x2, some (.int v), x4] (S) (h) P) : RQ G mX12_margin d 47 [x0, x1, x2, x3, x4] (.int v :: S) h P := q_istore_n (M := mX12_margin) (pc := 47) dX12_margin_47 rfl (Nat.le_of_ble_eq_true rfl) ho r
theorem tX12_margin_48 {v : Int32} (ho : ok1 x3 = true := by rfl) (r : RQ G mX12_margin d 51 [x0, x1, x2, x3, some (.int (v + (nI 1)))] (S) (h) P) : RQ G mX12_margin d 48 [x0, x1, x2, x3, some (.int v)] (S) h P := q_iinc (M := mX12_margin) (pc := 48) dX12_margin_48 rfl (congrArg (v + ·) (show Int32.ofInt (1) = (nI 1) by decide)) (Nat.le_of_ble_eq_true rfl) ho r
theorem tX12_margin_51 (r : RQ G mX12_margin d 18 [x0, x1, x2, x3, x4] S h P) : RQ G mX12_margin d 51 [x0, x1, x2, x3, x4] (S) h P := q_goto (M := mX12_margin) (pc := 51) dX12_margin_51 (by decide) r
theorem tX12_margin_54 {k : Nat} (r : RQ G mX12_margin d 55 [some (.ref k), x1, x2, x3, x4] (.ref k :: S) (h) P) : RQ G mX12_margin d 54 [some (.ref k), x1, x2, x3, x4] (S) h P := q_aload_n (M := mX12_margin) (pc := 54) (r0 := some k) dX12_margin_54 rfl rfl r
theorem tX12_margin_55 {i : Nat} {vs : List Value} {v : Value} (ha : At h i (.inr (10, vs))) (hv : vs[22]? = some v) (r : RQ G mX12_margin d 58 [x0, x1, x2, x3, x4] (v :: S) (h) P) : RQ G mX12_margin d 55 [x0, x1, x2, x3, x4] (.ref i :: S) h P := q_get (M := mX12_margin) (pc := 55) (kf := 22) dX12_margin_55 (show CL[10]? = some (RX12, TX12, 25) from rfl) inA12 (by decide) rfl w1445 ha hv r
theorem tX12_margin_58 {v : Int32} (r : RQ G mX12_margin d 59 [x0, x1, some (.int v), x3, x4] (.int v :: S) (h) P) : RQ G mX12_margin d 58 [x0, x1, some (.int v), x3, x4] (S) h P := q_iload_n (M := mX12_margin) (pc := 58) dX12_margin_58 rfl rfl r
theorem tX12_margin_59 {a n j : Nat} {x : Int32} {f : Nat → Int32} (ha : At h a (.inl (0, n, .inl f))) (hx : x = nI j) (hj : j < n) (hn : n < 2147483648) (r : RQ G mX12_margin d 60 [x0, x1, x2, x3, x4] (.int (f j) :: S) (h) P) : RQ G mX12_margin d 59 [x0, x1, x2, x3, x4] (.int x :: .ref a :: S) h P := q_iald (M := mX12_margin) (pc := 59) dX12_margin_59 ha hx hj hn r
theorem tX12_margin_60 {v : Int32} (r : RQ G mX12_margin d 61 [x0, x1, x2, some (.int v), x4] (.int v :: S) (h) P) : RQ G mX12_margin d 60 [x0, x1, x2, some (.int v), x4] (S) h P := q_iload_n (M := mX12_margin) (pc := 60) dX12_margin_60 rfl rfl r
theorem tX12_margin_61 {x y : Int32} (r : RQ G mX12_margin d 62 [x0, x1, x2, x3, x4] (.int (x - y) :: S) (h) P) : RQ G mX12_margin d 61 [x0, x1, x2, x3, x4] (.int y :: .int x :: S) h P := q_isub (M := mX12_margin) (pc := 61) dX12_margin_61 r
theorem tX12_margin_62 {x : Int32} (hP : P (.inl (some (.int x))) h) : RQ G mX12_margin d 62 [x0, x1, x2, x3, x4] ([.int x]) h P := q_ireturn (M := mX12_margin) (pc := 62) (ty := .int) dX12_margin_62 rfl rfl hP
end T
theorem dX12_count_0 : decode cX12_count 0 = .ok (.aload_n 0, 1) := by decide +kernel
theorem dX12_count_1 : decode cX12_count 1 = .ok (.iload_n 1, 1) := by decide +kernel
theorem dX12_count_2 : decode cX12_count 2 = .ok (.invokevirtual 327, 3) := by decide +kernel
theorem dX12_count_5 : decode cX12_count 5 = .ok (.istore_n 2, 1) := by decide +kernel
theorem dX12_count_6 : decode cX12_count 6 = .ok (.aload_n 0, 1) := by decide +kernel
theorem dX12_count_7 : decode cX12_count 7 = .ok (.getfield 41, 3) := by decide +kernel
theorem dX12_count_10 : decode cX12_count 10 = .ok (.getfield 265, 3) := by decide +kernel
theorem dX12_count_13 : decode cX12_count 13 = .ok (.iload_n 1, 1) := by decide +kernel
theorem dX12_count_14 : decode cX12_count 14 = .ok (.iaload, 1) := by decide +kernel
theorem dX12_count_15 : decode cX12_count 15 = .ok (.istore_n 3, 1) := by decide +kernel
theorem dX12_count_16 : decode cX12_count 16 = .ok (.iconst 0, 1) := by decide +kernel
theorem dX12_count_17 : decode cX12_count 17 = .ok (.istore 4, 2) := by decide +kernel
theorem dX12_count_19 : decode cX12_count 19 = .ok (.iload 4, 2) := by decide +kernel
theorem dX12_count_21 : decode cX12_count 21 = .ok (.bipush 6, 2) := by decide +kernel
theorem dX12_count_23 : decode cX12_count 23 = .ok (.if_icmp .ge 17, 3) := by decide +kernel
theorem dX12_count_26 : decode cX12_count 26 = .ok (.aload_n 0, 1) := by decide +kernel
theorem dX12_count_27 : decode cX12_count 27 = .ok (.getfield 60, 3) := by decide +kernel
theorem dX12_count_30 : decode cX12_count 30 = .ok (.iload 4, 2) := by decide +kernel
theorem dX12_count_32 : decode cX12_count 32 = .ok (.iconst 0, 1) := by decide +kernel
theorem dX12_count_33 : decode cX12_count 33 = .ok (.iastore, 1) := by decide +kernel
theorem dX12_count_34 : decode cX12_count 34 = .ok (.iinc 4 1, 3) := by decide +kernel
theorem dX12_count_37 : decode cX12_count 37 = .ok (.goto (-18), 3) := by decide +kernel
theorem dX12_count_40 : decode cX12_count 40 = .ok (.iload_n 2, 1) := by decide +kernel
theorem dX12_count_41 : decode cX12_count 41 = .ok (.iconst (-1), 1) := by decide +kernel
theorem dX12_count_42 : decode cX12_count 42 = .ok (.if_icmp .ne 5, 3) := by decide +kernel
theorem dX12_count_45 : decode cX12_count 45 = .ok (.iload_n 3, 1) := by decide +kernel
theorem dX12_count_46 : decode cX12_count 46 = .ok (.ireturn, 1) := by decide +kernel
theorem dX12_count_47 : decode cX12_count 47 = .ok (.aload_n 0, 1) := by decide +kernel
theorem dX12_count_48 : decode cX12_count 48 = .ok (.getfield 41, 3) := by decide +kernel
theorem dX12_count_51 : decode cX12_count 51 = .ok (.getfield 268, 3) := by decide +kernel
theorem dX12_count_54 : decode cX12_count 54 = .ok (.iload_n 1, 1) := by decide +kernel
theorem dX12_count_55 : decode cX12_count 55 = .ok (.iaload, 1) := by decide +kernel
theorem dX12_count_56 : decode cX12_count 56 = .ok (.bipush 26, 2) := by decide +kernel
theorem dX12_count_58 : decode cX12_count 58 = .ok (.if_icmp .ne 10, 3) := by decide +kernel
theorem dX12_count_61 : decode cX12_count 61 = .ok (.aload_n 0, 1) := by decide +kernel
theorem dX12_count_62 : decode cX12_count 62 = .ok (.iload_n 1, 1) := by decide +kernel
theorem dX12_count_63 : decode cX12_count 63 = .ok (.iload_n 3, 1) := by decide +kernel
theorem dX12_count_64 : decode cX12_count 64 = .ok (.invokevirtual 333, 3) := by decide +kernel
theorem dX12_count_67 : decode cX12_count 67 = .ok (.ireturn, 1) := by decide +kernel
theorem dX12_count_68 : decode cX12_count 68 = .ok (.aload_n 0, 1) := by decide +kernel
theorem dX12_count_69 : decode cX12_count 69 = .ok (.getfield 41, 3) := by decide +kernel
theorem dX12_count_72 : decode cX12_count 72 = .ok (.getfield 268, 3) := by decide +kernel
theorem dX12_count_75 : decode cX12_count 75 = .ok (.iload_n 1, 1) := by decide +kernel
theorem dX12_count_76 : decode cX12_count 76 = .ok (.iaload, 1) := by decide +kernel
theorem dX12_count_77 : decode cX12_count 77 = .ok (.bipush 24, 2) := by decide +kernel
theorem dX12_count_79 : decode cX12_count 79 = .ok (.if_icmp .ne 13, 3) := by decide +kernel
theorem dX12_count_82 : decode cX12_count 82 = .ok (.aload_n 0, 1) := by decide +kernel
theorem dX12_count_83 : decode cX12_count 83 = .ok (.getfield 60, 3) := by decide +kernel
theorem dX12_count_86 : decode cX12_count 86 = .ok (.iload_n 2, 1) := by decide +kernel
theorem dX12_count_87 : decode cX12_count 87 = .ok (.iload_n 3, 1) := by decide +kernel
theorem dX12_count_88 : decode cX12_count 88 = .ok (.iastore, 1) := by decide +kernel
theorem dX12_count_89 : decode cX12_count 89 = .ok (.goto 31, 3) := by decide +kernel
theorem dX12_count_92 : decode cX12_count 92 = .ok (.iconst 0, 1) := by decide +kernel
theorem dX12_count_93 : decode cX12_count 93 = .ok (.istore 4, 2) := by decide +kernel
theorem dX12_count_95 : decode cX12_count 95 = .ok (.iload 4, 2) := by decide +kernel
theorem dX12_count_97 : decode cX12_count 97 = .ok (.iload_n 3, 1) := by decide +kernel
theorem dX12_count_98 : decode cX12_count 98 = .ok (.if_icmp .ge 22, 3) := by decide +kernel
theorem dX12_count_101 : decode cX12_count 101 = .ok (.aload_n 0, 1) := by decide +kernel
theorem dX12_count_102 : decode cX12_count 102 = .ok (.getfield 60, 3) := by decide +kernel
theorem dX12_count_105 : decode cX12_count 105 = .ok (.aload_n 0, 1) := by decide +kernel
theorem dX12_count_106 : decode cX12_count 106 = .ok (.invokevirtual 336, 3) := by decide +kernel
theorem dX12_count_109 : decode cX12_count 109 = .ok (.dup2, 1) := by decide +kernel
theorem dX12_count_110 : decode cX12_count 110 = .ok (.iaload, 1) := by decide +kernel
theorem dX12_count_111 : decode cX12_count 111 = .ok (.iconst 1, 1) := by decide +kernel
theorem dX12_count_112 : decode cX12_count 112 = .ok (.iadd, 1) := by decide +kernel
theorem dX12_count_113 : decode cX12_count 113 = .ok (.iastore, 1) := by decide +kernel
theorem dX12_count_114 : decode cX12_count 114 = .ok (.iinc 4 1, 3) := by decide +kernel
theorem dX12_count_117 : decode cX12_count 117 = .ok (.goto (-22), 3) := by decide +kernel
theorem dX12_count_120 : decode cX12_count 120 = .ok (.iconst 0, 1) := by decide +kernel
theorem dX12_count_121 : decode cX12_count 121 = .ok (.ireturn, 1) := by decide +kernel
section T
variable {G : GT} {d : Nat} {S : List Value} {h : AH} {P : OC → AH → Prop} {x0 x1 x2 x3 x4 x5 x6 x7 x8 x9 x10 x11 x12 x13 x14 x15 : Option Value}
theorem tX12_count_0 {k : Nat} (r : RQ G mX12_count d 1 [some (.ref k), x1, x2, x3, x4] (.ref k :: S) (h) P) : RQ G mX12_count d 0 [some (.ref k), x1, x2, x3, x4] (S) h P := q_aload_n (M := mX12_count) (pc := 0) (r0 := some k) dX12_count_0 rfl rfl r
theorem tX12_count_1 {v : Int32} (r : RQ G mX12_count d 2 [x0, some (.int v), x2, x3, x4] (.int v :: S) (h) P) : RQ G mX12_count d 1 [x0, some (.int v), x2, x3, x4] (S) h P := q_iload_n (M := mX12_count) (pc := 1) dX12_count_1 rfl rfl r
theorem tX12_count_2 {b d2 : Nat} {vs : List Value} {a0 : Int32} {Q : Int32 → AH → Prop} (hd : d2 + 1 ≤ d) (ha : At h b (.inr (10, vs))) (call : RQ G mX12_firstHere d2 0 [some (.ref b), some (.int a0)] [] h (Ri Q)) (k : ∀ x h1, Q x h1 → RQ G mX12_count d 5 [x0, x1, x2, x3, x4] (.int x :: S) h1 P) (hst : (S.map fun v => v.category).sum ≤ 8 := by exact Nat.le_of_ble_eq_true rfl)  : RQ G mX12_count d 2 [x0, x1, x2, x3, x4] (.int a0 :: .ref b :: S) h P := q_callV (M := mX12_count) (pc := 2) (M2 := mX12_firstHere) (As := [.int a0]) (n := 1) dX12_count_2 rfl ⟨by decide, by decide, by decide, rfl⟩ rfl w1756 w1758 w81 w120 w1759 (show CL[10]? = some (RX12, TX12, 25) from rfl) hd (by decide) (Nat.le_of_ble_eq_true rfl) rfl ha hst call (callk_i k)
theorem tX12_count_5 {v : Int32} (ho : ok1 x1 = true := by rfl) (r : RQ G mX12_count d 6 [x0, x1, some (.int v), x3, x4] (S) (h) P) : RQ G mX12_count d 5 [x0, x1, x2, x3, x4] (.int v :: S) h P := q_istore_n (M := mX12_count) (pc := 5) dX12_count_5 rfl (Nat.le_of_ble_eq_true rfl) ho r
theorem tX12_count_6 {k : Nat} (r : RQ G mX12_count d 7 [some (.ref k), x1, x2, x3, x4] (.ref k :: S) (h) P) : RQ G mX12_count d 6 [some (.ref k), x1, x2, x3, x4] (S) h P := q_aload_n (M := mX12_count) (pc := 6) (r0 := some k) dX12_count_6 rfl rfl r
theorem tX12_count_7 {i : Nat} {vs : List Value} {v : Value} (ha : At h i (.inr (10, vs))) (hv : vs[17]? = some v) (r : RQ G mX12_count d 10 [x0, x1, x2, x3, x4] (v :: S) (h) P) : RQ G mX12_count d 7 [x0, x1, x2, x3, x4] (.ref i :: S) h P := q_get (M := mX12_count) (pc := 7) (kf := 17) dX12_count_7 (show CL[10]? = some (RX12, TX12, 25) from rfl) inA12 (by decide) rfl w1440 ha hv r
theorem tX12_count_10 {i : Nat} {vs : List Value} {v : Value} (ha : At h i (.inr (9, vs))) (hv : vs[2]? = some v) (r : RQ G mX12_count d 13 [x0, x1, x2, x3, x4] (v :: S) (h) P) : RQ G mX12_count d 10 [x0, x1, x2, x3, x4] (.ref i :: S) h P := q_getN (M := mX12_count) (pc := 10) (kf := 2) dX12_count_10 (show CL[9]? = some (RX11, TX11, 24) from rfl) inA11 (by decide) rfl v1324 ha hv r
theorem tX12_count_13 {v : Int32} (r : RQ G mX12_count d 14 [x0, some (.int v), x2, x3, x4] (.int v :: S) (h) P) : RQ G mX12_count d 13 [x0, some (.int v), x2, x3, x4] (S) h P := q_iload_n (M := mX12_count) (pc := 13) dX12_count_13 rfl rfl r
theorem tX12_count_14 {a n j : Nat} {x : Int32} {f : Nat → Int32} (ha : At h a (.inl (0, n, .inl f))) (hx : x = nI j) (hj : j < n) (hn : n < 2147483648) (r : RQ G mX12_count d 15 [x0, x1, x2, x3, x4] (.int (f j) :: S) (h) P) : RQ G mX12_count d 14 [x0, x1, x2, x3, x4] (.int x :: .ref a :: S) h P := q_iald (M := mX12_count) (pc := 14) dX12_count_14 ha hx hj hn r
theorem tX12_count_15 {v : Int32} (ho : ok1 x2 = true := by rfl) (r : RQ G mX12_count d 16 [x0, x1, x2, some (.int v), x4] (S) (h) P) : RQ G mX12_count d 15 [x0, x1, x2, x3, x4] (.int v :: S) h P := q_istore_n (M := mX12_count) (pc := 15) dX12_count_15 rfl (Nat.le_of_ble_eq_true rfl) ho r
theorem tX12_count_16 (r : RQ G mX12_count d 17 [x0, x1, x2, x3, x4] (.int (nI 0) :: S) (h) P) : RQ G mX12_count d 16 [x0, x1, x2, x3, x4] (S) h P := q_iconst (M := mX12_count) (pc := 16) dX12_count_16 (by decide) r
theorem tX12_count_17 {v : Int32} (ho : ok1 x3 = true := by rfl) (r : RQ G mX12_count d 19 [x0, x1, x2, x3, some (.int v)] (S) (h) P) : RQ G mX12_count d 17 [x0, x1, x2, x3, x4] (.int v :: S) h P := q_istore (M := mX12_count) (pc := 17) dX12_count_17 (Nat.le_of_ble_eq_true rfl) ho r
theorem tX12_count_19 {v : Int32} (r : RQ G mX12_count d 21 [x0, x1, x2, x3, some (.int v)] (.int v :: S) (h) P) : RQ G mX12_count d 19 [x0, x1, x2, x3, some (.int v)] (S) h P := q_iload (M := mX12_count) (pc := 19) dX12_count_19 rfl r
theorem tX12_count_21 (r : RQ G mX12_count d 23 [x0, x1, x2, x3, x4] (.int (nI 6) :: S) (h) P) : RQ G mX12_count d 21 [x0, x1, x2, x3, x4] (S) h P := q_bipush (M := mX12_count) (pc := 21) dX12_count_21 (by decide) r
theorem tX12_count_23 {x y : Int32} (kt : y ≤ x → RQ G mX12_count d 40 [x0, x1, x2, x3, x4] S h P) (kf : ¬ y ≤ x → RQ G mX12_count d 26 [x0, x1, x2, x3, x4] S h P) : RQ G mX12_count d 23 [x0, x1, x2, x3, x4] (.int y :: .int x :: S) h P := q_icmp_ge (M := mX12_count) (pc := 23) dX12_count_23 (by decide) kt kf
theorem tX12_count_26 {k : Nat} (r : RQ G mX12_count d 27 [some (.ref k), x1, x2, x3, x4] (.ref k :: S) (h) P) : RQ G mX12_count d 26 [some (.ref k), x1, x2, x3, x4] (S) h P := q_aload_n (M := mX12_count) (pc := 26) (r0 := some k) dX12_count_26 rfl rfl r
theorem tX12_count_27 {i : Nat} {vs : List Value} {v : Value} (ha : At h i (.inr (10, vs))) (hv : vs[23]? = some v) (r : RQ G mX12_count d 30 [x0, x1, x2, x3, x4] (v :: S) (h) P) : RQ G mX12_count d 27 [x0, x1, x2, x3, x4] (.ref i :: S) h P := q_get (M := mX12_count) (pc := 27) (kf := 23) dX12_count_27 (show CL[10]? = some (RX12, TX12, 25) from rfl) inA12 (by decide) rfl w1446 ha hv r
theorem tX12_count_30 {v : Int32} (r : RQ G mX12_count d 32 [x0, x1, x2, x3, some (.int v)] (.int v :: S) (h) P) : RQ G mX12_count d 30 [x0, x1, x2, x3, some (.int v)] (S) h P := q_iload (M := mX12_count) (pc := 30) dX12_count_30 rfl r
theorem tX12_count_32 (r : RQ G mX12_count d 33 [x0, x1, x2, x3, x4] (.int (nI 0) :: S) (h) P) : RQ G mX12_count d 32 [x0, x1, x2, x3, x4] (S) h P := q_iconst (M := mX12_count) (pc := 32) dX12_count_32 (by decide) r
theorem tX12_count_33 {a n j : Nat} {x : Int32} {v : Int32} {f : Nat → Int32} (ha : At h a (.inl (0, n, .inl f))) (hx : x = nI j) (hj : j < n) (hn : n < 2147483648) (r : RQ G mX12_count d 34 [x0, x1, x2, x3, x4] (S) (hset h a (.inl (0, n, .inl (upd f j v)))) P) : RQ G mX12_count d 33 [x0, x1, x2, x3, x4] (.int v :: .int x :: .ref a :: S) h P := q_iast (M := mX12_count) (pc := 33) dX12_count_33 ha hx hj hn r
theorem tX12_count_34 {v : Int32} (ho : ok1 x3 = true := by rfl) (r : RQ G mX12_count d 37 [x0, x1, x2, x3, some (.int (v + (nI 1)))] (S) (h) P) : RQ G mX12_count d 34 [x0, x1, x2, x3, some (.int v)] (S) h P := q_iinc (M := mX12_count) (pc := 34) dX12_count_34 rfl (congrArg (v + ·) (show Int32.ofInt (1) = (nI 1) by decide)) (Nat.le_of_ble_eq_true rfl) ho r
theorem tX12_count_37 (r : RQ G mX12_count d 19 [x0, x1, x2, x3, x4] S h P) : RQ G mX12_count d 37 [x0, x1, x2, x3, x4] (S) h P := q_goto (M := mX12_count) (pc := 37) dX12_count_37 (by decide) r
theorem tX12_count_40 {v : Int32} (r : RQ G mX12_count d 41 [x0, x1, some (.int v), x3, x4] (.int v :: S) (h) P) : RQ G mX12_count d 40 [x0, x1, some (.int v), x3, x4] (S) h P := q_iload_n (M := mX12_count) (pc := 40) dX12_count_40 rfl rfl r
theorem tX12_count_41 (r : RQ G mX12_count d 42 [x0, x1, x2, x3, x4] (.int (-1) :: S) (h) P) : RQ G mX12_count d 41 [x0, x1, x2, x3, x4] (S) h P := q_iconst (M := mX12_count) (pc := 41) dX12_count_41 (by decide) r
theorem tX12_count_42 {x y : Int32} (kt : ¬ x = y → RQ G mX12_count d 47 [x0, x1, x2, x3, x4] S h P) (kf : x = y → RQ G mX12_count d 45 [x0, x1, x2, x3, x4] S h P) : RQ G mX12_count d 42 [x0, x1, x2, x3, x4] (.int y :: .int x :: S) h P := q_icmp_ne (M := mX12_count) (pc := 42) dX12_count_42 (by decide) kt kf
theorem tX12_count_45 {v : Int32} (r : RQ G mX12_count d 46 [x0, x1, x2, some (.int v), x4] (.int v :: S) (h) P) : RQ G mX12_count d 45 [x0, x1, x2, some (.int v), x4] (S) h P := q_iload_n (M := mX12_count) (pc := 45) dX12_count_45 rfl rfl r
theorem tX12_count_46 {x : Int32} (hP : P (.inl (some (.int x))) h) : RQ G mX12_count d 46 [x0, x1, x2, x3, x4] ([.int x]) h P := q_ireturn (M := mX12_count) (pc := 46) (ty := .int) dX12_count_46 rfl rfl hP
theorem tX12_count_47 {k : Nat} (r : RQ G mX12_count d 48 [some (.ref k), x1, x2, x3, x4] (.ref k :: S) (h) P) : RQ G mX12_count d 47 [some (.ref k), x1, x2, x3, x4] (S) h P := q_aload_n (M := mX12_count) (pc := 47) (r0 := some k) dX12_count_47 rfl rfl r
theorem tX12_count_48 {i : Nat} {vs : List Value} {v : Value} (ha : At h i (.inr (10, vs))) (hv : vs[17]? = some v) (r : RQ G mX12_count d 51 [x0, x1, x2, x3, x4] (v :: S) (h) P) : RQ G mX12_count d 48 [x0, x1, x2, x3, x4] (.ref i :: S) h P := q_get (M := mX12_count) (pc := 48) (kf := 17) dX12_count_48 (show CL[10]? = some (RX12, TX12, 25) from rfl) inA12 (by decide) rfl w1440 ha hv r
theorem tX12_count_51 {i : Nat} {vs : List Value} {v : Value} (ha : At h i (.inr (9, vs))) (hv : vs[3]? = some v) (r : RQ G mX12_count d 54 [x0, x1, x2, x3, x4] (v :: S) (h) P) : RQ G mX12_count d 51 [x0, x1, x2, x3, x4] (.ref i :: S) h P := q_getN (M := mX12_count) (pc := 51) (kf := 3) dX12_count_51 (show CL[9]? = some (RX11, TX11, 24) from rfl) inA11 (by decide) rfl v1326 ha hv r
theorem tX12_count_54 {v : Int32} (r : RQ G mX12_count d 55 [x0, some (.int v), x2, x3, x4] (.int v :: S) (h) P) : RQ G mX12_count d 54 [x0, some (.int v), x2, x3, x4] (S) h P := q_iload_n (M := mX12_count) (pc := 54) dX12_count_54 rfl rfl r
theorem tX12_count_55 {a n j : Nat} {x : Int32} {f : Nat → Int32} (ha : At h a (.inl (0, n, .inl f))) (hx : x = nI j) (hj : j < n) (hn : n < 2147483648) (r : RQ G mX12_count d 56 [x0, x1, x2, x3, x4] (.int (f j) :: S) (h) P) : RQ G mX12_count d 55 [x0, x1, x2, x3, x4] (.int x :: .ref a :: S) h P := q_iald (M := mX12_count) (pc := 55) dX12_count_55 ha hx hj hn r
theorem tX12_count_56 (r : RQ G mX12_count d 58 [x0, x1, x2, x3, x4] (.int (nI 26) :: S) (h) P) : RQ G mX12_count d 56 [x0, x1, x2, x3, x4] (S) h P := q_bipush (M := mX12_count) (pc := 56) dX12_count_56 (by decide) r
theorem tX12_count_58 {x y : Int32} (kt : ¬ x = y → RQ G mX12_count d 68 [x0, x1, x2, x3, x4] S h P) (kf : x = y → RQ G mX12_count d 61 [x0, x1, x2, x3, x4] S h P) : RQ G mX12_count d 58 [x0, x1, x2, x3, x4] (.int y :: .int x :: S) h P := q_icmp_ne (M := mX12_count) (pc := 58) dX12_count_58 (by decide) kt kf
theorem tX12_count_61 {k : Nat} (r : RQ G mX12_count d 62 [some (.ref k), x1, x2, x3, x4] (.ref k :: S) (h) P) : RQ G mX12_count d 61 [some (.ref k), x1, x2, x3, x4] (S) h P := q_aload_n (M := mX12_count) (pc := 61) (r0 := some k) dX12_count_61 rfl rfl r
theorem tX12_count_62 {v : Int32} (r : RQ G mX12_count d 63 [x0, some (.int v), x2, x3, x4] (.int v :: S) (h) P) : RQ G mX12_count d 62 [x0, some (.int v), x2, x3, x4] (S) h P := q_iload_n (M := mX12_count) (pc := 62) dX12_count_62 rfl rfl r
theorem tX12_count_63 {v : Int32} (r : RQ G mX12_count d 64 [x0, x1, x2, some (.int v), x4] (.int v :: S) (h) P) : RQ G mX12_count d 63 [x0, x1, x2, some (.int v), x4] (S) h P := q_iload_n (M := mX12_count) (pc := 63) dX12_count_63 rfl rfl r
theorem tX12_count_64 {b d2 : Nat} {vs : List Value} {a0 : Int32} {a1 : Int32} {Q : Int32 → AH → Prop} (hd : d2 + 1 ≤ d) (ha : At h b (.inr (10, vs))) (call : RQ G mX12_quota d2 0 [some (.ref b), some (.int a0), some (.int a1), none, none, none] [] h (Ri Q)) (k : ∀ x h1, Q x h1 → RQ G mX12_count d 67 [x0, x1, x2, x3, x4] (.int x :: S) h1 P) (hst : (S.map fun v => v.category).sum ≤ 8 := by exact Nat.le_of_ble_eq_true rfl)  : RQ G mX12_count d 64 [x0, x1, x2, x3, x4] (.int a1 :: .int a0 :: .ref b :: S) h P := q_callV (M := mX12_count) (pc := 64) (M2 := mX12_quota) (As := [.int a0, .int a1]) (n := 2) dX12_count_64 rfl ⟨by decide, by decide, by decide, rfl⟩ rfl w1793 w1795 w87 w120 w1796 (show CL[10]? = some (RX12, TX12, 25) from rfl) hd (by decide) (Nat.le_of_ble_eq_true rfl) rfl ha hst call (callk_i k)
theorem tX12_count_67 {x : Int32} (hP : P (.inl (some (.int x))) h) : RQ G mX12_count d 67 [x0, x1, x2, x3, x4] ([.int x]) h P := q_ireturn (M := mX12_count) (pc := 67) (ty := .int) dX12_count_67 rfl rfl hP
theorem tX12_count_68 {k : Nat} (r : RQ G mX12_count d 69 [some (.ref k), x1, x2, x3, x4] (.ref k :: S) (h) P) : RQ G mX12_count d 68 [some (.ref k), x1, x2, x3, x4] (S) h P := q_aload_n (M := mX12_count) (pc := 68) (r0 := some k) dX12_count_68 rfl rfl r
theorem tX12_count_69 {i : Nat} {vs : List Value} {v : Value} (ha : At h i (.inr (10, vs))) (hv : vs[17]? = some v) (r : RQ G mX12_count d 72 [x0, x1, x2, x3, x4] (v :: S) (h) P) : RQ G mX12_count d 69 [x0, x1, x2, x3, x4] (.ref i :: S) h P := q_get (M := mX12_count) (pc := 69) (kf := 17) dX12_count_69 (show CL[10]? = some (RX12, TX12, 25) from rfl) inA12 (by decide) rfl w1440 ha hv r
theorem tX12_count_72 {i : Nat} {vs : List Value} {v : Value} (ha : At h i (.inr (9, vs))) (hv : vs[3]? = some v) (r : RQ G mX12_count d 75 [x0, x1, x2, x3, x4] (v :: S) (h) P) : RQ G mX12_count d 72 [x0, x1, x2, x3, x4] (.ref i :: S) h P := q_getN (M := mX12_count) (pc := 72) (kf := 3) dX12_count_72 (show CL[9]? = some (RX11, TX11, 24) from rfl) inA11 (by decide) rfl v1326 ha hv r
theorem tX12_count_75 {v : Int32} (r : RQ G mX12_count d 76 [x0, some (.int v), x2, x3, x4] (.int v :: S) (h) P) : RQ G mX12_count d 75 [x0, some (.int v), x2, x3, x4] (S) h P := q_iload_n (M := mX12_count) (pc := 75) dX12_count_75 rfl rfl r
theorem tX12_count_76 {a n j : Nat} {x : Int32} {f : Nat → Int32} (ha : At h a (.inl (0, n, .inl f))) (hx : x = nI j) (hj : j < n) (hn : n < 2147483648) (r : RQ G mX12_count d 77 [x0, x1, x2, x3, x4] (.int (f j) :: S) (h) P) : RQ G mX12_count d 76 [x0, x1, x2, x3, x4] (.int x :: .ref a :: S) h P := q_iald (M := mX12_count) (pc := 76) dX12_count_76 ha hx hj hn r
theorem tX12_count_77 (r : RQ G mX12_count d 79 [x0, x1, x2, x3, x4] (.int (nI 24) :: S) (h) P) : RQ G mX12_count d 77 [x0, x1, x2, x3, x4] (S) h P := q_bipush (M := mX12_count) (pc := 77) dX12_count_77 (by decide) r
theorem tX12_count_79 {x y : Int32} (kt : ¬ x = y → RQ G mX12_count d 92 [x0, x1, x2, x3, x4] S h P) (kf : x = y → RQ G mX12_count d 82 [x0, x1, x2, x3, x4] S h P) : RQ G mX12_count d 79 [x0, x1, x2, x3, x4] (.int y :: .int x :: S) h P := q_icmp_ne (M := mX12_count) (pc := 79) dX12_count_79 (by decide) kt kf
theorem tX12_count_82 {k : Nat} (r : RQ G mX12_count d 83 [some (.ref k), x1, x2, x3, x4] (.ref k :: S) (h) P) : RQ G mX12_count d 82 [some (.ref k), x1, x2, x3, x4] (S) h P := q_aload_n (M := mX12_count) (pc := 82) (r0 := some k) dX12_count_82 rfl rfl r
theorem tX12_count_83 {i : Nat} {vs : List Value} {v : Value} (ha : At h i (.inr (10, vs))) (hv : vs[23]? = some v) (r : RQ G mX12_count d 86 [x0, x1, x2, x3, x4] (v :: S) (h) P) : RQ G mX12_count d 83 [x0, x1, x2, x3, x4] (.ref i :: S) h P := q_get (M := mX12_count) (pc := 83) (kf := 23) dX12_count_83 (show CL[10]? = some (RX12, TX12, 25) from rfl) inA12 (by decide) rfl w1446 ha hv r
theorem tX12_count_86 {v : Int32} (r : RQ G mX12_count d 87 [x0, x1, some (.int v), x3, x4] (.int v :: S) (h) P) : RQ G mX12_count d 86 [x0, x1, some (.int v), x3, x4] (S) h P := q_iload_n (M := mX12_count) (pc := 86) dX12_count_86 rfl rfl r
theorem tX12_count_87 {v : Int32} (r : RQ G mX12_count d 88 [x0, x1, x2, some (.int v), x4] (.int v :: S) (h) P) : RQ G mX12_count d 87 [x0, x1, x2, some (.int v), x4] (S) h P := q_iload_n (M := mX12_count) (pc := 87) dX12_count_87 rfl rfl r
theorem tX12_count_88 {a n j : Nat} {x : Int32} {v : Int32} {f : Nat → Int32} (ha : At h a (.inl (0, n, .inl f))) (hx : x = nI j) (hj : j < n) (hn : n < 2147483648) (r : RQ G mX12_count d 89 [x0, x1, x2, x3, x4] (S) (hset h a (.inl (0, n, .inl (upd f j v)))) P) : RQ G mX12_count d 88 [x0, x1, x2, x3, x4] (.int v :: .int x :: .ref a :: S) h P := q_iast (M := mX12_count) (pc := 88) dX12_count_88 ha hx hj hn r
theorem tX12_count_89 (r : RQ G mX12_count d 120 [x0, x1, x2, x3, x4] S h P) : RQ G mX12_count d 89 [x0, x1, x2, x3, x4] (S) h P := q_goto (M := mX12_count) (pc := 89) dX12_count_89 (by decide) r
theorem tX12_count_92 (r : RQ G mX12_count d 93 [x0, x1, x2, x3, x4] (.int (nI 0) :: S) (h) P) : RQ G mX12_count d 92 [x0, x1, x2, x3, x4] (S) h P := q_iconst (M := mX12_count) (pc := 92) dX12_count_92 (by decide) r
theorem tX12_count_93 {v : Int32} (ho : ok1 x3 = true := by rfl) (r : RQ G mX12_count d 95 [x0, x1, x2, x3, some (.int v)] (S) (h) P) : RQ G mX12_count d 93 [x0, x1, x2, x3, x4] (.int v :: S) h P := q_istore (M := mX12_count) (pc := 93) dX12_count_93 (Nat.le_of_ble_eq_true rfl) ho r
theorem tX12_count_95 {v : Int32} (r : RQ G mX12_count d 97 [x0, x1, x2, x3, some (.int v)] (.int v :: S) (h) P) : RQ G mX12_count d 95 [x0, x1, x2, x3, some (.int v)] (S) h P := q_iload (M := mX12_count) (pc := 95) dX12_count_95 rfl r
theorem tX12_count_97 {v : Int32} (r : RQ G mX12_count d 98 [x0, x1, x2, some (.int v), x4] (.int v :: S) (h) P) : RQ G mX12_count d 97 [x0, x1, x2, some (.int v), x4] (S) h P := q_iload_n (M := mX12_count) (pc := 97) dX12_count_97 rfl rfl r
theorem tX12_count_98 {x y : Int32} (kt : y ≤ x → RQ G mX12_count d 120 [x0, x1, x2, x3, x4] S h P) (kf : ¬ y ≤ x → RQ G mX12_count d 101 [x0, x1, x2, x3, x4] S h P) : RQ G mX12_count d 98 [x0, x1, x2, x3, x4] (.int y :: .int x :: S) h P := q_icmp_ge (M := mX12_count) (pc := 98) dX12_count_98 (by decide) kt kf
theorem tX12_count_101 {k : Nat} (r : RQ G mX12_count d 102 [some (.ref k), x1, x2, x3, x4] (.ref k :: S) (h) P) : RQ G mX12_count d 101 [some (.ref k), x1, x2, x3, x4] (S) h P := q_aload_n (M := mX12_count) (pc := 101) (r0 := some k) dX12_count_101 rfl rfl r
theorem tX12_count_102 {i : Nat} {vs : List Value} {v : Value} (ha : At h i (.inr (10, vs))) (hv : vs[23]? = some v) (r : RQ G mX12_count d 105 [x0, x1, x2, x3, x4] (v :: S) (h) P) : RQ G mX12_count d 102 [x0, x1, x2, x3, x4] (.ref i :: S) h P := q_get (M := mX12_count) (pc := 102) (kf := 23) dX12_count_102 (show CL[10]? = some (RX12, TX12, 25) from rfl) inA12 (by decide) rfl w1446 ha hv r
theorem tX12_count_105 {k : Nat} (r : RQ G mX12_count d 106 [some (.ref k), x1, x2, x3, x4] (.ref k :: S) (h) P) : RQ G mX12_count d 105 [some (.ref k), x1, x2, x3, x4] (S) h P := q_aload_n (M := mX12_count) (pc := 105) (r0 := some k) dX12_count_105 rfl rfl r
theorem tX12_count_106 {b d2 : Nat} {vs : List Value}  {Q : Int32 → AH → Prop} (hd : d2 + 1 ≤ d) (ha : At h b (.inr (10, vs))) (call : RQ G mX12_dividing d2 0 [some (.ref b), none, none] [] h (Ri Q)) (k : ∀ x h1, Q x h1 → RQ G mX12_count d 109 [x0, x1, x2, x3, x4] (.int x :: S) h1 P) (hst : (S.map fun v => v.category).sum ≤ 8 := by exact Nat.le_of_ble_eq_true rfl)  : RQ G mX12_count d 106 [x0, x1, x2, x3, x4] (.ref b :: S) h P := q_callV (M := mX12_count) (pc := 106) (M2 := mX12_dividing) (As := []) (n := 0) dX12_count_106 rfl ⟨by decide, by decide, by decide, rfl⟩ rfl w1797 w1799 w88 w120 w1800 (show CL[10]? = some (RX12, TX12, 25) from rfl) hd (by decide) (Nat.le_of_ble_eq_true rfl) rfl ha hst call (callk_i k)
theorem tX12_count_109 {v w : Value} (hv : ok1 (some v) = true := by rfl) (hw : ok1 (some w) = true := by rfl) (r : RQ G mX12_count d 110 [x0, x1, x2, x3, x4] (v :: w :: v :: w :: S) (h) P) : RQ G mX12_count d 109 [x0, x1, x2, x3, x4] (v :: w :: S) h P := q_dup2 (M := mX12_count) (pc := 109) dX12_count_109 hv hw r
theorem tX12_count_110 {a n j : Nat} {x : Int32} {f : Nat → Int32} (ha : At h a (.inl (0, n, .inl f))) (hx : x = nI j) (hj : j < n) (hn : n < 2147483648) (r : RQ G mX12_count d 111 [x0, x1, x2, x3, x4] (.int (f j) :: S) (h) P) : RQ G mX12_count d 110 [x0, x1, x2, x3, x4] (.int x :: .ref a :: S) h P := q_iald (M := mX12_count) (pc := 110) dX12_count_110 ha hx hj hn r
theorem tX12_count_111 (r : RQ G mX12_count d 112 [x0, x1, x2, x3, x4] (.int (nI 1) :: S) (h) P) : RQ G mX12_count d 111 [x0, x1, x2, x3, x4] (S) h P := q_iconst (M := mX12_count) (pc := 111) dX12_count_111 (by decide) r
theorem tX12_count_112 {x y : Int32} (r : RQ G mX12_count d 113 [x0, x1, x2, x3, x4] (.int (x + y) :: S) (h) P) : RQ G mX12_count d 112 [x0, x1, x2, x3, x4] (.int y :: .int x :: S) h P := q_iadd (M := mX12_count) (pc := 112) dX12_count_112 r
theorem tX12_count_113 {a n j : Nat} {x : Int32} {v : Int32} {f : Nat → Int32} (ha : At h a (.inl (0, n, .inl f))) (hx : x = nI j) (hj : j < n) (hn : n < 2147483648) (r : RQ G mX12_count d 114 [x0, x1, x2, x3, x4] (S) (hset h a (.inl (0, n, .inl (upd f j v)))) P) : RQ G mX12_count d 113 [x0, x1, x2, x3, x4] (.int v :: .int x :: .ref a :: S) h P := q_iast (M := mX12_count) (pc := 113) dX12_count_113 ha hx hj hn r
theorem tX12_count_114 {v : Int32} (ho : ok1 x3 = true := by rfl) (r : RQ G mX12_count d 117 [x0, x1, x2, x3, some (.int (v + (nI 1)))] (S) (h) P) : RQ G mX12_count d 114 [x0, x1, x2, x3, some (.int v)] (S) h P := q_iinc (M := mX12_count) (pc := 114) dX12_count_114 rfl (congrArg (v + ·) (show Int32.ofInt (1) = (nI 1) by decide)) (Nat.le_of_ble_eq_true rfl) ho r
theorem tX12_count_117 (r : RQ G mX12_count d 95 [x0, x1, x2, x3, x4] S h P) : RQ G mX12_count d 117 [x0, x1, x2, x3, x4] (S) h P := q_goto (M := mX12_count) (pc := 117) dX12_count_117 (by decide) r
theorem tX12_count_120 (r : RQ G mX12_count d 121 [x0, x1, x2, x3, x4] (.int (nI 0) :: S) (h) P) : RQ G mX12_count d 120 [x0, x1, x2, x3, x4] (S) h P := q_iconst (M := mX12_count) (pc := 120) dX12_count_120 (by decide) r
theorem tX12_count_121 {x : Int32} (hP : P (.inl (some (.int x))) h) : RQ G mX12_count d 121 [x0, x1, x2, x3, x4] ([.int x]) h P := q_ireturn (M := mX12_count) (pc := 121) (ty := .int) dX12_count_121 rfl rfl hP
end T
theorem dX12_dividing_0 : decode cX12_dividing 0 = .ok (.iconst 0, 1) := by decide +kernel
theorem dX12_dividing_1 : decode cX12_dividing 1 = .ok (.istore_n 1, 1) := by decide +kernel
theorem dX12_dividing_2 : decode cX12_dividing 2 = .ok (.iconst 1, 1) := by decide +kernel
theorem dX12_dividing_3 : decode cX12_dividing 3 = .ok (.istore_n 2, 1) := by decide +kernel
theorem dX12_dividing_4 : decode cX12_dividing 4 = .ok (.iload_n 2, 1) := by decide +kernel
theorem dX12_dividing_5 : decode cX12_dividing 5 = .ok (.aload_n 0, 1) := by decide +kernel
theorem dX12_dividing_6 : decode cX12_dividing 6 = .ok (.getfield 41, 3) := by decide +kernel
theorem dX12_dividing_9 : decode cX12_dividing 9 = .ok (.getfield 253, 3) := by decide +kernel
theorem dX12_dividing_12 : decode cX12_dividing 12 = .ok (.if_icmp .ge 44, 3) := by decide +kernel
theorem dX12_dividing_15 : decode cX12_dividing 15 = .ok (.aload_n 0, 1) := by decide +kernel
theorem dX12_dividing_16 : decode cX12_dividing 16 = .ok (.getfield 57, 3) := by decide +kernel
theorem dX12_dividing_19 : decode cX12_dividing 19 = .ok (.iload_n 2, 1) := by decide +kernel
theorem dX12_dividing_20 : decode cX12_dividing 20 = .ok (.iaload, 1) := by decide +kernel
theorem dX12_dividing_21 : decode cX12_dividing 21 = .ok (.aload_n 0, 1) := by decide +kernel
theorem dX12_dividing_22 : decode cX12_dividing 22 = .ok (.getfield 60, 3) := by decide +kernel
theorem dX12_dividing_25 : decode cX12_dividing 25 = .ok (.iload_n 1, 1) := by decide +kernel
theorem dX12_dividing_26 : decode cX12_dividing 26 = .ok (.iaload, 1) := by decide +kernel
theorem dX12_dividing_27 : decode cX12_dividing 27 = .ok (.iconst 1, 1) := by decide +kernel
theorem dX12_dividing_28 : decode cX12_dividing 28 = .ok (.iadd, 1) := by decide +kernel
theorem dX12_dividing_29 : decode cX12_dividing 29 = .ok (.imul, 1) := by decide +kernel
theorem dX12_dividing_30 : decode cX12_dividing 30 = .ok (.aload_n 0, 1) := by decide +kernel
theorem dX12_dividing_31 : decode cX12_dividing 31 = .ok (.getfield 57, 3) := by decide +kernel
theorem dX12_dividing_34 : decode cX12_dividing 34 = .ok (.iload_n 1, 1) := by decide +kernel
theorem dX12_dividing_35 : decode cX12_dividing 35 = .ok (.iaload, 1) := by decide +kernel
theorem dX12_dividing_36 : decode cX12_dividing 36 = .ok (.aload_n 0, 1) := by decide +kernel
theorem dX12_dividing_37 : decode cX12_dividing 37 = .ok (.getfield 60, 3) := by decide +kernel
theorem dX12_dividing_40 : decode cX12_dividing 40 = .ok (.iload_n 2, 1) := by decide +kernel
theorem dX12_dividing_41 : decode cX12_dividing 41 = .ok (.iaload, 1) := by decide +kernel
theorem dX12_dividing_42 : decode cX12_dividing 42 = .ok (.iconst 1, 1) := by decide +kernel
theorem dX12_dividing_43 : decode cX12_dividing 43 = .ok (.iadd, 1) := by decide +kernel
theorem dX12_dividing_44 : decode cX12_dividing 44 = .ok (.imul, 1) := by decide +kernel
theorem dX12_dividing_45 : decode cX12_dividing 45 = .ok (.if_icmp .le 5, 3) := by decide +kernel
theorem dX12_dividing_48 : decode cX12_dividing 48 = .ok (.iload_n 2, 1) := by decide +kernel
theorem dX12_dividing_49 : decode cX12_dividing 49 = .ok (.istore_n 1, 1) := by decide +kernel
theorem dX12_dividing_50 : decode cX12_dividing 50 = .ok (.iinc 2 1, 3) := by decide +kernel
theorem dX12_dividing_53 : decode cX12_dividing 53 = .ok (.goto (-49), 3) := by decide +kernel
theorem dX12_dividing_56 : decode cX12_dividing 56 = .ok (.iload_n 1, 1) := by decide +kernel
theorem dX12_dividing_57 : decode cX12_dividing 57 = .ok (.ireturn, 1) := by decide +kernel
section T
variable {G : GT} {d : Nat} {S : List Value} {h : AH} {P : OC → AH → Prop} {x0 x1 x2 x3 x4 x5 x6 x7 x8 x9 x10 x11 x12 x13 x14 x15 : Option Value}
theorem tX12_dividing_0 (r : RQ G mX12_dividing d 1 [x0, x1, x2] (.int (nI 0) :: S) (h) P) : RQ G mX12_dividing d 0 [x0, x1, x2] (S) h P := q_iconst (M := mX12_dividing) (pc := 0) dX12_dividing_0 (by decide) r
theorem tX12_dividing_1 {v : Int32} (ho : ok1 x0 = true := by rfl) (r : RQ G mX12_dividing d 2 [x0, some (.int v), x2] (S) (h) P) : RQ G mX12_dividing d 1 [x0, x1, x2] (.int v :: S) h P := q_istore_n (M := mX12_dividing) (pc := 1) dX12_dividing_1 rfl (Nat.le_of_ble_eq_true rfl) ho r
theorem tX12_dividing_2 (r : RQ G mX12_dividing d 3 [x0, x1, x2] (.int (nI 1) :: S) (h) P) : RQ G mX12_dividing d 2 [x0, x1, x2] (S) h P := q_iconst (M := mX12_dividing) (pc := 2) dX12_dividing_2 (by decide) r
theorem tX12_dividing_3 {v : Int32} (ho : ok1 x1 = true := by rfl) (r : RQ G mX12_dividing d 4 [x0, x1, some (.int v)] (S) (h) P) : RQ G mX12_dividing d 3 [x0, x1, x2] (.int v :: S) h P := q_istore_n (M := mX12_dividing) (pc := 3) dX12_dividing_3 rfl (Nat.le_of_ble_eq_true rfl) ho r
theorem tX12_dividing_4 {v : Int32} (r : RQ G mX12_dividing d 5 [x0, x1, some (.int v)] (.int v :: S) (h) P) : RQ G mX12_dividing d 4 [x0, x1, some (.int v)] (S) h P := q_iload_n (M := mX12_dividing) (pc := 4) dX12_dividing_4 rfl rfl r
theorem tX12_dividing_5 {k : Nat} (r : RQ G mX12_dividing d 6 [some (.ref k), x1, x2] (.ref k :: S) (h) P) : RQ G mX12_dividing d 5 [some (.ref k), x1, x2] (S) h P := q_aload_n (M := mX12_dividing) (pc := 5) (r0 := some k) dX12_dividing_5 rfl rfl r
theorem tX12_dividing_6 {i : Nat} {vs : List Value} {v : Value} (ha : At h i (.inr (10, vs))) (hv : vs[17]? = some v) (r : RQ G mX12_dividing d 9 [x0, x1, x2] (v :: S) (h) P) : RQ G mX12_dividing d 6 [x0, x1, x2] (.ref i :: S) h P := q_get (M := mX12_dividing) (pc := 6) (kf := 17) dX12_dividing_6 (show CL[10]? = some (RX12, TX12, 25) from rfl) inA12 (by decide) rfl w1440 ha hv r
theorem tX12_dividing_9 {i : Nat} {vs : List Value} {v : Value} (ha : At h i (.inr (9, vs))) (hv : vs[0]? = some v) (r : RQ G mX12_dividing d 12 [x0, x1, x2] (v :: S) (h) P) : RQ G mX12_dividing d 9 [x0, x1, x2] (.ref i :: S) h P := q_getN (M := mX12_dividing) (pc := 9) (kf := 0) dX12_dividing_9 (show CL[9]? = some (RX11, TX11, 24) from rfl) inA11 (by decide) rfl v1320 ha hv r
theorem tX12_dividing_12 {x y : Int32} (kt : y ≤ x → RQ G mX12_dividing d 56 [x0, x1, x2] S h P) (kf : ¬ y ≤ x → RQ G mX12_dividing d 15 [x0, x1, x2] S h P) : RQ G mX12_dividing d 12 [x0, x1, x2] (.int y :: .int x :: S) h P := q_icmp_ge (M := mX12_dividing) (pc := 12) dX12_dividing_12 (by decide) kt kf
theorem tX12_dividing_15 {k : Nat} (r : RQ G mX12_dividing d 16 [some (.ref k), x1, x2] (.ref k :: S) (h) P) : RQ G mX12_dividing d 15 [some (.ref k), x1, x2] (S) h P := q_aload_n (M := mX12_dividing) (pc := 15) (r0 := some k) dX12_dividing_15 rfl rfl r
theorem tX12_dividing_16 {i : Nat} {vs : List Value} {v : Value} (ha : At h i (.inr (10, vs))) (hv : vs[22]? = some v) (r : RQ G mX12_dividing d 19 [x0, x1, x2] (v :: S) (h) P) : RQ G mX12_dividing d 16 [x0, x1, x2] (.ref i :: S) h P := q_get (M := mX12_dividing) (pc := 16) (kf := 22) dX12_dividing_16 (show CL[10]? = some (RX12, TX12, 25) from rfl) inA12 (by decide) rfl w1445 ha hv r
theorem tX12_dividing_19 {v : Int32} (r : RQ G mX12_dividing d 20 [x0, x1, some (.int v)] (.int v :: S) (h) P) : RQ G mX12_dividing d 19 [x0, x1, some (.int v)] (S) h P := q_iload_n (M := mX12_dividing) (pc := 19) dX12_dividing_19 rfl rfl r
theorem tX12_dividing_20 {a n j : Nat} {x : Int32} {f : Nat → Int32} (ha : At h a (.inl (0, n, .inl f))) (hx : x = nI j) (hj : j < n) (hn : n < 2147483648) (r : RQ G mX12_dividing d 21 [x0, x1, x2] (.int (f j) :: S) (h) P) : RQ G mX12_dividing d 20 [x0, x1, x2] (.int x :: .ref a :: S) h P := q_iald (M := mX12_dividing) (pc := 20) dX12_dividing_20 ha hx hj hn r
theorem tX12_dividing_21 {k : Nat} (r : RQ G mX12_dividing d 22 [some (.ref k), x1, x2] (.ref k :: S) (h) P) : RQ G mX12_dividing d 21 [some (.ref k), x1, x2] (S) h P := q_aload_n (M := mX12_dividing) (pc := 21) (r0 := some k) dX12_dividing_21 rfl rfl r
theorem tX12_dividing_22 {i : Nat} {vs : List Value} {v : Value} (ha : At h i (.inr (10, vs))) (hv : vs[23]? = some v) (r : RQ G mX12_dividing d 25 [x0, x1, x2] (v :: S) (h) P) : RQ G mX12_dividing d 22 [x0, x1, x2] (.ref i :: S) h P := q_get (M := mX12_dividing) (pc := 22) (kf := 23) dX12_dividing_22 (show CL[10]? = some (RX12, TX12, 25) from rfl) inA12 (by decide) rfl w1446 ha hv r
theorem tX12_dividing_25 {v : Int32} (r : RQ G mX12_dividing d 26 [x0, some (.int v), x2] (.int v :: S) (h) P) : RQ G mX12_dividing d 25 [x0, some (.int v), x2] (S) h P := q_iload_n (M := mX12_dividing) (pc := 25) dX12_dividing_25 rfl rfl r
theorem tX12_dividing_26 {a n j : Nat} {x : Int32} {f : Nat → Int32} (ha : At h a (.inl (0, n, .inl f))) (hx : x = nI j) (hj : j < n) (hn : n < 2147483648) (r : RQ G mX12_dividing d 27 [x0, x1, x2] (.int (f j) :: S) (h) P) : RQ G mX12_dividing d 26 [x0, x1, x2] (.int x :: .ref a :: S) h P := q_iald (M := mX12_dividing) (pc := 26) dX12_dividing_26 ha hx hj hn r
theorem tX12_dividing_27 (r : RQ G mX12_dividing d 28 [x0, x1, x2] (.int (nI 1) :: S) (h) P) : RQ G mX12_dividing d 27 [x0, x1, x2] (S) h P := q_iconst (M := mX12_dividing) (pc := 27) dX12_dividing_27 (by decide) r
theorem tX12_dividing_28 {x y : Int32} (r : RQ G mX12_dividing d 29 [x0, x1, x2] (.int (x + y) :: S) (h) P) : RQ G mX12_dividing d 28 [x0, x1, x2] (.int y :: .int x :: S) h P := q_iadd (M := mX12_dividing) (pc := 28) dX12_dividing_28 r
theorem tX12_dividing_29 {x y : Int32} (r : RQ G mX12_dividing d 30 [x0, x1, x2] (.int (x * y) :: S) (h) P) : RQ G mX12_dividing d 29 [x0, x1, x2] (.int y :: .int x :: S) h P := q_imul (M := mX12_dividing) (pc := 29) dX12_dividing_29 r
theorem tX12_dividing_30 {k : Nat} (r : RQ G mX12_dividing d 31 [some (.ref k), x1, x2] (.ref k :: S) (h) P) : RQ G mX12_dividing d 30 [some (.ref k), x1, x2] (S) h P := q_aload_n (M := mX12_dividing) (pc := 30) (r0 := some k) dX12_dividing_30 rfl rfl r
theorem tX12_dividing_31 {i : Nat} {vs : List Value} {v : Value} (ha : At h i (.inr (10, vs))) (hv : vs[22]? = some v) (r : RQ G mX12_dividing d 34 [x0, x1, x2] (v :: S) (h) P) : RQ G mX12_dividing d 31 [x0, x1, x2] (.ref i :: S) h P := q_get (M := mX12_dividing) (pc := 31) (kf := 22) dX12_dividing_31 (show CL[10]? = some (RX12, TX12, 25) from rfl) inA12 (by decide) rfl w1445 ha hv r
theorem tX12_dividing_34 {v : Int32} (r : RQ G mX12_dividing d 35 [x0, some (.int v), x2] (.int v :: S) (h) P) : RQ G mX12_dividing d 34 [x0, some (.int v), x2] (S) h P := q_iload_n (M := mX12_dividing) (pc := 34) dX12_dividing_34 rfl rfl r
theorem tX12_dividing_35 {a n j : Nat} {x : Int32} {f : Nat → Int32} (ha : At h a (.inl (0, n, .inl f))) (hx : x = nI j) (hj : j < n) (hn : n < 2147483648) (r : RQ G mX12_dividing d 36 [x0, x1, x2] (.int (f j) :: S) (h) P) : RQ G mX12_dividing d 35 [x0, x1, x2] (.int x :: .ref a :: S) h P := q_iald (M := mX12_dividing) (pc := 35) dX12_dividing_35 ha hx hj hn r
theorem tX12_dividing_36 {k : Nat} (r : RQ G mX12_dividing d 37 [some (.ref k), x1, x2] (.ref k :: S) (h) P) : RQ G mX12_dividing d 36 [some (.ref k), x1, x2] (S) h P := q_aload_n (M := mX12_dividing) (pc := 36) (r0 := some k) dX12_dividing_36 rfl rfl r
theorem tX12_dividing_37 {i : Nat} {vs : List Value} {v : Value} (ha : At h i (.inr (10, vs))) (hv : vs[23]? = some v) (r : RQ G mX12_dividing d 40 [x0, x1, x2] (v :: S) (h) P) : RQ G mX12_dividing d 37 [x0, x1, x2] (.ref i :: S) h P := q_get (M := mX12_dividing) (pc := 37) (kf := 23) dX12_dividing_37 (show CL[10]? = some (RX12, TX12, 25) from rfl) inA12 (by decide) rfl w1446 ha hv r
theorem tX12_dividing_40 {v : Int32} (r : RQ G mX12_dividing d 41 [x0, x1, some (.int v)] (.int v :: S) (h) P) : RQ G mX12_dividing d 40 [x0, x1, some (.int v)] (S) h P := q_iload_n (M := mX12_dividing) (pc := 40) dX12_dividing_40 rfl rfl r
theorem tX12_dividing_41 {a n j : Nat} {x : Int32} {f : Nat → Int32} (ha : At h a (.inl (0, n, .inl f))) (hx : x = nI j) (hj : j < n) (hn : n < 2147483648) (r : RQ G mX12_dividing d 42 [x0, x1, x2] (.int (f j) :: S) (h) P) : RQ G mX12_dividing d 41 [x0, x1, x2] (.int x :: .ref a :: S) h P := q_iald (M := mX12_dividing) (pc := 41) dX12_dividing_41 ha hx hj hn r
theorem tX12_dividing_42 (r : RQ G mX12_dividing d 43 [x0, x1, x2] (.int (nI 1) :: S) (h) P) : RQ G mX12_dividing d 42 [x0, x1, x2] (S) h P := q_iconst (M := mX12_dividing) (pc := 42) dX12_dividing_42 (by decide) r
theorem tX12_dividing_43 {x y : Int32} (r : RQ G mX12_dividing d 44 [x0, x1, x2] (.int (x + y) :: S) (h) P) : RQ G mX12_dividing d 43 [x0, x1, x2] (.int y :: .int x :: S) h P := q_iadd (M := mX12_dividing) (pc := 43) dX12_dividing_43 r
theorem tX12_dividing_44 {x y : Int32} (r : RQ G mX12_dividing d 45 [x0, x1, x2] (.int (x * y) :: S) (h) P) : RQ G mX12_dividing d 44 [x0, x1, x2] (.int y :: .int x :: S) h P := q_imul (M := mX12_dividing) (pc := 44) dX12_dividing_44 r
theorem tX12_dividing_45 {x y : Int32} (kt : x ≤ y → RQ G mX12_dividing d 50 [x0, x1, x2] S h P) (kf : ¬ x ≤ y → RQ G mX12_dividing d 48 [x0, x1, x2] S h P) : RQ G mX12_dividing d 45 [x0, x1, x2] (.int y :: .int x :: S) h P := q_icmp_le (M := mX12_dividing) (pc := 45) dX12_dividing_45 (by decide) kt kf
theorem tX12_dividing_48 {v : Int32} (r : RQ G mX12_dividing d 49 [x0, x1, some (.int v)] (.int v :: S) (h) P) : RQ G mX12_dividing d 48 [x0, x1, some (.int v)] (S) h P := q_iload_n (M := mX12_dividing) (pc := 48) dX12_dividing_48 rfl rfl r
theorem tX12_dividing_49 {v : Int32} (ho : ok1 x0 = true := by rfl) (r : RQ G mX12_dividing d 50 [x0, some (.int v), x2] (S) (h) P) : RQ G mX12_dividing d 49 [x0, x1, x2] (.int v :: S) h P := q_istore_n (M := mX12_dividing) (pc := 49) dX12_dividing_49 rfl (Nat.le_of_ble_eq_true rfl) ho r
theorem tX12_dividing_50 {v : Int32} (ho : ok1 x1 = true := by rfl) (r : RQ G mX12_dividing d 53 [x0, x1, some (.int (v + (nI 1)))] (S) (h) P) : RQ G mX12_dividing d 50 [x0, x1, some (.int v)] (S) h P := q_iinc (M := mX12_dividing) (pc := 50) dX12_dividing_50 rfl (congrArg (v + ·) (show Int32.ofInt (1) = (nI 1) by decide)) (Nat.le_of_ble_eq_true rfl) ho r
theorem tX12_dividing_53 (r : RQ G mX12_dividing d 4 [x0, x1, x2] S h P) : RQ G mX12_dividing d 53 [x0, x1, x2] (S) h P := q_goto (M := mX12_dividing) (pc := 53) dX12_dividing_53 (by decide) r
theorem tX12_dividing_56 {v : Int32} (r : RQ G mX12_dividing d 57 [x0, some (.int v), x2] (.int v :: S) (h) P) : RQ G mX12_dividing d 56 [x0, some (.int v), x2] (S) h P := q_iload_n (M := mX12_dividing) (pc := 56) dX12_dividing_56 rfl rfl r
theorem tX12_dividing_57 {x : Int32} (hP : P (.inl (some (.int x))) h) : RQ G mX12_dividing d 57 [x0, x1, x2] ([.int x]) h P := q_ireturn (M := mX12_dividing) (pc := 57) (ty := .int) dX12_dividing_57 rfl rfl hP
end T
theorem dX12_quota_0 : decode cX12_quota 0 = .ok (.aload_n 0, 1) := by decide +kernel
theorem dX12_quota_1 : decode cX12_quota 1 = .ok (.iload_n 1, 1) := by decide +kernel
theorem dX12_quota_2 : decode cX12_quota 2 = .ok (.invokevirtual 339, 3) := by decide +kernel
theorem dX12_quota_5 : decode cX12_quota 5 = .ok (.iload_n 2, 1) := by decide +kernel
theorem dX12_quota_6 : decode cX12_quota 6 = .ok (.iconst 1, 1) := by decide +kernel
theorem dX12_quota_7 : decode cX12_quota 7 = .ok (.iadd, 1) := by decide +kernel
theorem dX12_quota_8 : decode cX12_quota 8 = .ok (.idiv, 1) := by decide +kernel
theorem dX12_quota_9 : decode cX12_quota 9 = .ok (.iconst 1, 1) := by decide +kernel
theorem dX12_quota_10 : decode cX12_quota 10 = .ok (.iadd, 1) := by decide +kernel
theorem dX12_quota_11 : decode cX12_quota 11 = .ok (.istore_n 3, 1) := by decide +kernel
theorem dX12_quota_12 : decode cX12_quota 12 = .ok (.iload_n 2, 1) := by decide +kernel
theorem dX12_quota_13 : decode cX12_quota 13 = .ok (.istore 4, 2) := by decide +kernel
theorem dX12_quota_15 : decode cX12_quota 15 = .ok (.iconst 0, 1) := by decide +kernel
theorem dX12_quota_16 : decode cX12_quota 16 = .ok (.istore 5, 2) := by decide +kernel
theorem dX12_quota_18 : decode cX12_quota 18 = .ok (.iload 5, 2) := by decide +kernel
theorem dX12_quota_20 : decode cX12_quota 20 = .ok (.aload_n 0, 1) := by decide +kernel
theorem dX12_quota_21 : decode cX12_quota 21 = .ok (.getfield 41, 3) := by decide +kernel
theorem dX12_quota_24 : decode cX12_quota 24 = .ok (.getfield 253, 3) := by decide +kernel
theorem dX12_quota_27 : decode cX12_quota 27 = .ok (.if_icmp .ge 56, 3) := by decide +kernel
theorem dX12_quota_30 : decode cX12_quota 30 = .ok (.aload_n 0, 1) := by decide +kernel
theorem dX12_quota_31 : decode cX12_quota 31 = .ok (.getfield 60, 3) := by decide +kernel
theorem dX12_quota_34 : decode cX12_quota 34 = .ok (.iload 5, 2) := by decide +kernel
theorem dX12_quota_36 : decode cX12_quota 36 = .ok (.aload_n 0, 1) := by decide +kernel
theorem dX12_quota_37 : decode cX12_quota 37 = .ok (.getfield 57, 3) := by decide +kernel
theorem dX12_quota_40 : decode cX12_quota 40 = .ok (.iload 5, 2) := by decide +kernel
theorem dX12_quota_42 : decode cX12_quota 42 = .ok (.iaload, 1) := by decide +kernel
theorem dX12_quota_43 : decode cX12_quota 43 = .ok (.iload_n 3, 1) := by decide +kernel
theorem dX12_quota_44 : decode cX12_quota 44 = .ok (.idiv, 1) := by decide +kernel
theorem dX12_quota_45 : decode cX12_quota 45 = .ok (.iastore, 1) := by decide +kernel
theorem dX12_quota_46 : decode cX12_quota 46 = .ok (.aload_n 0, 1) := by decide +kernel
theorem dX12_quota_47 : decode cX12_quota 47 = .ok (.getfield 57, 3) := by decide +kernel
theorem dX12_quota_50 : decode cX12_quota 50 = .ok (.iload 5, 2) := by decide +kernel
theorem dX12_quota_52 : decode cX12_quota 52 = .ok (.dup2, 1) := by decide +kernel
theorem dX12_quota_53 : decode cX12_quota 53 = .ok (.iaload, 1) := by decide +kernel
theorem dX12_quota_54 : decode cX12_quota 54 = .ok (.aload_n 0, 1) := by decide +kernel
theorem dX12_quota_55 : decode cX12_quota 55 = .ok (.getfield 60, 3) := by decide +kernel
theorem dX12_quota_58 : decode cX12_quota 58 = .ok (.iload 5, 2) := by decide +kernel
theorem dX12_quota_60 : decode cX12_quota 60 = .ok (.iaload, 1) := by decide +kernel
theorem dX12_quota_61 : decode cX12_quota 61 = .ok (.iload_n 3, 1) := by decide +kernel
theorem dX12_quota_62 : decode cX12_quota 62 = .ok (.imul, 1) := by decide +kernel
theorem dX12_quota_63 : decode cX12_quota 63 = .ok (.isub, 1) := by decide +kernel
theorem dX12_quota_64 : decode cX12_quota 64 = .ok (.iastore, 1) := by decide +kernel
theorem dX12_quota_65 : decode cX12_quota 65 = .ok (.iload 4, 2) := by decide +kernel
theorem dX12_quota_67 : decode cX12_quota 67 = .ok (.aload_n 0, 1) := by decide +kernel
theorem dX12_quota_68 : decode cX12_quota 68 = .ok (.getfield 60, 3) := by decide +kernel
theorem dX12_quota_71 : decode cX12_quota 71 = .ok (.iload 5, 2) := by decide +kernel
theorem dX12_quota_73 : decode cX12_quota 73 = .ok (.iaload, 1) := by decide +kernel
theorem dX12_quota_74 : decode cX12_quota 74 = .ok (.isub, 1) := by decide +kernel
theorem dX12_quota_75 : decode cX12_quota 75 = .ok (.istore 4, 2) := by decide +kernel
theorem dX12_quota_77 : decode cX12_quota 77 = .ok (.iinc 5 1, 3) := by decide +kernel
theorem dX12_quota_80 : decode cX12_quota 80 = .ok (.goto (-62), 3) := by decide +kernel
theorem dX12_quota_83 : decode cX12_quota 83 = .ok (.aload_n 0, 1) := by decide +kernel
theorem dX12_quota_84 : decode cX12_quota 84 = .ok (.invokevirtual 324, 3) := by decide +kernel
theorem dX12_quota_87 : decode cX12_quota 87 = .ok (.istore 5, 2) := by decide +kernel
theorem dX12_quota_89 : decode cX12_quota 89 = .ok (.iload 4, 2) := by decide +kernel
theorem dX12_quota_91 : decode cX12_quota 91 = .ok (.ifCond .le 40, 3) := by decide +kernel
theorem dX12_quota_94 : decode cX12_quota 94 = .ok (.iload 5, 2) := by decide +kernel
theorem dX12_quota_96 : decode cX12_quota 96 = .ok (.iconst (-1), 1) := by decide +kernel
theorem dX12_quota_97 : decode cX12_quota 97 = .ok (.if_icmp .eq 34, 3) := by decide +kernel
theorem dX12_quota_100 : decode cX12_quota 100 = .ok (.aload_n 0, 1) := by decide +kernel
theorem dX12_quota_101 : decode cX12_quota 101 = .ok (.getfield 60, 3) := by decide +kernel
theorem dX12_quota_104 : decode cX12_quota 104 = .ok (.iload 5, 2) := by decide +kernel
theorem dX12_quota_106 : decode cX12_quota 106 = .ok (.dup2, 1) := by decide +kernel
theorem dX12_quota_107 : decode cX12_quota 107 = .ok (.iaload, 1) := by decide +kernel
theorem dX12_quota_108 : decode cX12_quota 108 = .ok (.iconst 1, 1) := by decide +kernel
theorem dX12_quota_109 : decode cX12_quota 109 = .ok (.iadd, 1) := by decide +kernel
theorem dX12_quota_110 : decode cX12_quota 110 = .ok (.iastore, 1) := by decide +kernel
theorem dX12_quota_111 : decode cX12_quota 111 = .ok (.aload_n 0, 1) := by decide +kernel
theorem dX12_quota_112 : decode cX12_quota 112 = .ok (.getfield 57, 3) := by decide +kernel
theorem dX12_quota_115 : decode cX12_quota 115 = .ok (.iload 5, 2) := by decide +kernel
theorem dX12_quota_117 : decode cX12_quota 117 = .ok (.iconst 0, 1) := by decide +kernel
theorem dX12_quota_118 : decode cX12_quota 118 = .ok (.iastore, 1) := by decide +kernel
theorem dX12_quota_119 : decode cX12_quota 119 = .ok (.iinc 4 (-1), 3) := by decide +kernel
theorem dX12_quota_122 : decode cX12_quota 122 = .ok (.aload_n 0, 1) := by decide +kernel
theorem dX12_quota_123 : decode cX12_quota 123 = .ok (.invokevirtual 324, 3) := by decide +kernel
theorem dX12_quota_126 : decode cX12_quota 126 = .ok (.istore 5, 2) := by decide +kernel
theorem dX12_quota_128 : decode cX12_quota 128 = .ok (.goto (-39), 3) := by decide +kernel
theorem dX12_quota_131 : decode cX12_quota 131 = .ok (.iload 4, 2) := by decide +kernel
theorem dX12_quota_133 : decode cX12_quota 133 = .ok (.ireturn, 1) := by decide +kernel
section T
variable {G : GT} {d : Nat} {S : List Value} {h : AH} {P : OC → AH → Prop} {x0 x1 x2 x3 x4 x5 x6 x7 x8 x9 x10 x11 x12 x13 x14 x15 : Option Value}
theorem tX12_quota_0 {k : Nat} (r : RQ G mX12_quota d 1 [some (.ref k), x1, x2, x3, x4, x5] (.ref k :: S) (h) P) : RQ G mX12_quota d 0 [some (.ref k), x1, x2, x3, x4, x5] (S) h P := q_aload_n (M := mX12_quota) (pc := 0) (r0 := some k) dX12_quota_0 rfl rfl r
theorem tX12_quota_1 {v : Int32} (r : RQ G mX12_quota d 2 [x0, some (.int v), x2, x3, x4, x5] (.int v :: S) (h) P) : RQ G mX12_quota d 1 [x0, some (.int v), x2, x3, x4, x5] (S) h P := q_iload_n (M := mX12_quota) (pc := 1) dX12_quota_1 rfl rfl r
theorem tX12_quota_2 {b d2 : Nat} {vs : List Value} {a0 : Int32} {Q : Int32 → AH → Prop} (hd : d2 + 1 ≤ d) (ha : At h b (.inr (10, vs))) (call : RQ G mX12_all d2 0 [some (.ref b), some (.int a0), none, none] [] h (Ri Q)) (k : ∀ x h1, Q x h1 → RQ G mX12_quota d 5 [x0, x1, x2, x3, x4, x5] (.int x :: S) h1 P) (hst : (S.map fun v => v.category).sum ≤ 8 := by exact Nat.le_of_ble_eq_true rfl)  : RQ G mX12_quota d 2 [x0, x1, x2, x3, x4, x5] (.int a0 :: .ref b :: S) h P := q_callV (M := mX12_quota) (pc := 2) (M2 := mX12_all) (As := [.int a0]) (n := 1) dX12_quota_2 rfl ⟨by decide, by decide, by decide, rfl⟩ rfl w1732 w1734 w79 w120 w1735 (show CL[10]? = some (RX12, TX12, 25) from rfl) hd (by decide) (Nat.le_of_ble_eq_true rfl) rfl ha hst call (callk_i k)
theorem tX12_quota_5 {v : Int32} (r : RQ G mX12_quota d 6 [x0, x1, some (.int v), x3, x4, x5] (.int v :: S) (h) P) : RQ G mX12_quota d 5 [x0, x1, some (.int v), x3, x4, x5] (S) h P := q_iload_n (M := mX12_quota) (pc := 5) dX12_quota_5 rfl rfl r
theorem tX12_quota_6 (r : RQ G mX12_quota d 7 [x0, x1, x2, x3, x4, x5] (.int (nI 1) :: S) (h) P) : RQ G mX12_quota d 6 [x0, x1, x2, x3, x4, x5] (S) h P := q_iconst (M := mX12_quota) (pc := 6) dX12_quota_6 (by decide) r
theorem tX12_quota_7 {x y : Int32} (r : RQ G mX12_quota d 8 [x0, x1, x2, x3, x4, x5] (.int (x + y) :: S) (h) P) : RQ G mX12_quota d 7 [x0, x1, x2, x3, x4, x5] (.int y :: .int x :: S) h P := q_iadd (M := mX12_quota) (pc := 7) dX12_quota_7 r
theorem tX12_quota_8 {x y : Int32} (hne : ¬ y = 0) (r : RQ G mX12_quota d 9 [x0, x1, x2, x3, x4, x5] (.int (x / y) :: S) (h) P) : RQ G mX12_quota d 8 [x0, x1, x2, x3, x4, x5] (.int y :: .int x :: S) h P := q_idiv (M := mX12_quota) (pc := 8) dX12_quota_8 hne r
theorem tX12_quota_9 (r : RQ G mX12_quota d 10 [x0, x1, x2, x3, x4, x5] (.int (nI 1) :: S) (h) P) : RQ G mX12_quota d 9 [x0, x1, x2, x3, x4, x5] (S) h P := q_iconst (M := mX12_quota) (pc := 9) dX12_quota_9 (by decide) r
theorem tX12_quota_10 {x y : Int32} (r : RQ G mX12_quota d 11 [x0, x1, x2, x3, x4, x5] (.int (x + y) :: S) (h) P) : RQ G mX12_quota d 10 [x0, x1, x2, x3, x4, x5] (.int y :: .int x :: S) h P := q_iadd (M := mX12_quota) (pc := 10) dX12_quota_10 r
theorem tX12_quota_11 {v : Int32} (ho : ok1 x2 = true := by rfl) (r : RQ G mX12_quota d 12 [x0, x1, x2, some (.int v), x4, x5] (S) (h) P) : RQ G mX12_quota d 11 [x0, x1, x2, x3, x4, x5] (.int v :: S) h P := q_istore_n (M := mX12_quota) (pc := 11) dX12_quota_11 rfl (Nat.le_of_ble_eq_true rfl) ho r
theorem tX12_quota_12 {v : Int32} (r : RQ G mX12_quota d 13 [x0, x1, some (.int v), x3, x4, x5] (.int v :: S) (h) P) : RQ G mX12_quota d 12 [x0, x1, some (.int v), x3, x4, x5] (S) h P := q_iload_n (M := mX12_quota) (pc := 12) dX12_quota_12 rfl rfl r
theorem tX12_quota_13 {v : Int32} (ho : ok1 x3 = true := by rfl) (r : RQ G mX12_quota d 15 [x0, x1, x2, x3, some (.int v), x5] (S) (h) P) : RQ G mX12_quota d 13 [x0, x1, x2, x3, x4, x5] (.int v :: S) h P := q_istore (M := mX12_quota) (pc := 13) dX12_quota_13 (Nat.le_of_ble_eq_true rfl) ho r
theorem tX12_quota_15 (r : RQ G mX12_quota d 16 [x0, x1, x2, x3, x4, x5] (.int (nI 0) :: S) (h) P) : RQ G mX12_quota d 15 [x0, x1, x2, x3, x4, x5] (S) h P := q_iconst (M := mX12_quota) (pc := 15) dX12_quota_15 (by decide) r
theorem tX12_quota_16 {v : Int32} (ho : ok1 x4 = true := by rfl) (r : RQ G mX12_quota d 18 [x0, x1, x2, x3, x4, some (.int v)] (S) (h) P) : RQ G mX12_quota d 16 [x0, x1, x2, x3, x4, x5] (.int v :: S) h P := q_istore (M := mX12_quota) (pc := 16) dX12_quota_16 (Nat.le_of_ble_eq_true rfl) ho r
theorem tX12_quota_18 {v : Int32} (r : RQ G mX12_quota d 20 [x0, x1, x2, x3, x4, some (.int v)] (.int v :: S) (h) P) : RQ G mX12_quota d 18 [x0, x1, x2, x3, x4, some (.int v)] (S) h P := q_iload (M := mX12_quota) (pc := 18) dX12_quota_18 rfl r
theorem tX12_quota_20 {k : Nat} (r : RQ G mX12_quota d 21 [some (.ref k), x1, x2, x3, x4, x5] (.ref k :: S) (h) P) : RQ G mX12_quota d 20 [some (.ref k), x1, x2, x3, x4, x5] (S) h P := q_aload_n (M := mX12_quota) (pc := 20) (r0 := some k) dX12_quota_20 rfl rfl r
theorem tX12_quota_21 {i : Nat} {vs : List Value} {v : Value} (ha : At h i (.inr (10, vs))) (hv : vs[17]? = some v) (r : RQ G mX12_quota d 24 [x0, x1, x2, x3, x4, x5] (v :: S) (h) P) : RQ G mX12_quota d 21 [x0, x1, x2, x3, x4, x5] (.ref i :: S) h P := q_get (M := mX12_quota) (pc := 21) (kf := 17) dX12_quota_21 (show CL[10]? = some (RX12, TX12, 25) from rfl) inA12 (by decide) rfl w1440 ha hv r
theorem tX12_quota_24 {i : Nat} {vs : List Value} {v : Value} (ha : At h i (.inr (9, vs))) (hv : vs[0]? = some v) (r : RQ G mX12_quota d 27 [x0, x1, x2, x3, x4, x5] (v :: S) (h) P) : RQ G mX12_quota d 24 [x0, x1, x2, x3, x4, x5] (.ref i :: S) h P := q_getN (M := mX12_quota) (pc := 24) (kf := 0) dX12_quota_24 (show CL[9]? = some (RX11, TX11, 24) from rfl) inA11 (by decide) rfl v1320 ha hv r
theorem tX12_quota_27 {x y : Int32} (kt : y ≤ x → RQ G mX12_quota d 83 [x0, x1, x2, x3, x4, x5] S h P) (kf : ¬ y ≤ x → RQ G mX12_quota d 30 [x0, x1, x2, x3, x4, x5] S h P) : RQ G mX12_quota d 27 [x0, x1, x2, x3, x4, x5] (.int y :: .int x :: S) h P := q_icmp_ge (M := mX12_quota) (pc := 27) dX12_quota_27 (by decide) kt kf
theorem tX12_quota_30 {k : Nat} (r : RQ G mX12_quota d 31 [some (.ref k), x1, x2, x3, x4, x5] (.ref k :: S) (h) P) : RQ G mX12_quota d 30 [some (.ref k), x1, x2, x3, x4, x5] (S) h P := q_aload_n (M := mX12_quota) (pc := 30) (r0 := some k) dX12_quota_30 rfl rfl r
theorem tX12_quota_31 {i : Nat} {vs : List Value} {v : Value} (ha : At h i (.inr (10, vs))) (hv : vs[23]? = some v) (r : RQ G mX12_quota d 34 [x0, x1, x2, x3, x4, x5] (v :: S) (h) P) : RQ G mX12_quota d 31 [x0, x1, x2, x3, x4, x5] (.ref i :: S) h P := q_get (M := mX12_quota) (pc := 31) (kf := 23) dX12_quota_31 (show CL[10]? = some (RX12, TX12, 25) from rfl) inA12 (by decide) rfl w1446 ha hv r
theorem tX12_quota_34 {v : Int32} (r : RQ G mX12_quota d 36 [x0, x1, x2, x3, x4, some (.int v)] (.int v :: S) (h) P) : RQ G mX12_quota d 34 [x0, x1, x2, x3, x4, some (.int v)] (S) h P := q_iload (M := mX12_quota) (pc := 34) dX12_quota_34 rfl r
theorem tX12_quota_36 {k : Nat} (r : RQ G mX12_quota d 37 [some (.ref k), x1, x2, x3, x4, x5] (.ref k :: S) (h) P) : RQ G mX12_quota d 36 [some (.ref k), x1, x2, x3, x4, x5] (S) h P := q_aload_n (M := mX12_quota) (pc := 36) (r0 := some k) dX12_quota_36 rfl rfl r
theorem tX12_quota_37 {i : Nat} {vs : List Value} {v : Value} (ha : At h i (.inr (10, vs))) (hv : vs[22]? = some v) (r : RQ G mX12_quota d 40 [x0, x1, x2, x3, x4, x5] (v :: S) (h) P) : RQ G mX12_quota d 37 [x0, x1, x2, x3, x4, x5] (.ref i :: S) h P := q_get (M := mX12_quota) (pc := 37) (kf := 22) dX12_quota_37 (show CL[10]? = some (RX12, TX12, 25) from rfl) inA12 (by decide) rfl w1445 ha hv r
theorem tX12_quota_40 {v : Int32} (r : RQ G mX12_quota d 42 [x0, x1, x2, x3, x4, some (.int v)] (.int v :: S) (h) P) : RQ G mX12_quota d 40 [x0, x1, x2, x3, x4, some (.int v)] (S) h P := q_iload (M := mX12_quota) (pc := 40) dX12_quota_40 rfl r
theorem tX12_quota_42 {a n j : Nat} {x : Int32} {f : Nat → Int32} (ha : At h a (.inl (0, n, .inl f))) (hx : x = nI j) (hj : j < n) (hn : n < 2147483648) (r : RQ G mX12_quota d 43 [x0, x1, x2, x3, x4, x5] (.int (f j) :: S) (h) P) : RQ G mX12_quota d 42 [x0, x1, x2, x3, x4, x5] (.int x :: .ref a :: S) h P := q_iald (M := mX12_quota) (pc := 42) dX12_quota_42 ha hx hj hn r
theorem tX12_quota_43 {v : Int32} (r : RQ G mX12_quota d 44 [x0, x1, x2, some (.int v), x4, x5] (.int v :: S) (h) P) : RQ G mX12_quota d 43 [x0, x1, x2, some (.int v), x4, x5] (S) h P := q_iload_n (M := mX12_quota) (pc := 43) dX12_quota_43 rfl rfl r
theorem tX12_quota_44 {x y : Int32} (hne : ¬ y = 0) (r : RQ G mX12_quota d 45 [x0, x1, x2, x3, x4, x5] (.int (x / y) :: S) (h) P) : RQ G mX12_quota d 44 [x0, x1, x2, x3, x4, x5] (.int y :: .int x :: S) h P := q_idiv (M := mX12_quota) (pc := 44) dX12_quota_44 hne r
theorem tX12_quota_45 {a n j : Nat} {x : Int32} {v : Int32} {f : Nat → Int32} (ha : At h a (.inl (0, n, .inl f))) (hx : x = nI j) (hj : j < n) (hn : n < 2147483648) (r : RQ G mX12_quota d 46 [x0, x1, x2, x3, x4, x5] (S) (hset h a (.inl (0, n, .inl (upd f j v)))) P) : RQ G mX12_quota d 45 [x0, x1, x2, x3, x4, x5] (.int v :: .int x :: .ref a :: S) h P := q_iast (M := mX12_quota) (pc := 45) dX12_quota_45 ha hx hj hn r
theorem tX12_quota_46 {k : Nat} (r : RQ G mX12_quota d 47 [some (.ref k), x1, x2, x3, x4, x5] (.ref k :: S) (h) P) : RQ G mX12_quota d 46 [some (.ref k), x1, x2, x3, x4, x5] (S) h P := q_aload_n (M := mX12_quota) (pc := 46) (r0 := some k) dX12_quota_46 rfl rfl r
theorem tX12_quota_47 {i : Nat} {vs : List Value} {v : Value} (ha : At h i (.inr (10, vs))) (hv : vs[22]? = some v) (r : RQ G mX12_quota d 50 [x0, x1, x2, x3, x4, x5] (v :: S) (h) P) : RQ G mX12_quota d 47 [x0, x1, x2, x3, x4, x5] (.ref i :: S) h P := q_get (M := mX12_quota) (pc := 47) (kf := 22) dX12_quota_47 (show CL[10]? = some (RX12, TX12, 25) from rfl) inA12 (by decide) rfl w1445 ha hv r
theorem tX12_quota_50 {v : Int32} (r : RQ G mX12_quota d 52 [x0, x1, x2, x3, x4, some (.int v)] (.int v :: S) (h) P) : RQ G mX12_quota d 50 [x0, x1, x2, x3, x4, some (.int v)] (S) h P := q_iload (M := mX12_quota) (pc := 50) dX12_quota_50 rfl r
theorem tX12_quota_52 {v w : Value} (hv : ok1 (some v) = true := by rfl) (hw : ok1 (some w) = true := by rfl) (r : RQ G mX12_quota d 53 [x0, x1, x2, x3, x4, x5] (v :: w :: v :: w :: S) (h) P) : RQ G mX12_quota d 52 [x0, x1, x2, x3, x4, x5] (v :: w :: S) h P := q_dup2 (M := mX12_quota) (pc := 52) dX12_quota_52 hv hw r
theorem tX12_quota_53 {a n j : Nat} {x : Int32} {f : Nat → Int32} (ha : At h a (.inl (0, n, .inl f))) (hx : x = nI j) (hj : j < n) (hn : n < 2147483648) (r : RQ G mX12_quota d 54 [x0, x1, x2, x3, x4, x5] (.int (f j) :: S) (h) P) : RQ G mX12_quota d 53 [x0, x1, x2, x3, x4, x5] (.int x :: .ref a :: S) h P := q_iald (M := mX12_quota) (pc := 53) dX12_quota_53 ha hx hj hn r
theorem tX12_quota_54 {k : Nat} (r : RQ G mX12_quota d 55 [some (.ref k), x1, x2, x3, x4, x5] (.ref k :: S) (h) P) : RQ G mX12_quota d 54 [some (.ref k), x1, x2, x3, x4, x5] (S) h P := q_aload_n (M := mX12_quota) (pc := 54) (r0 := some k) dX12_quota_54 rfl rfl r
theorem tX12_quota_55 {i : Nat} {vs : List Value} {v : Value} (ha : At h i (.inr (10, vs))) (hv : vs[23]? = some v) (r : RQ G mX12_quota d 58 [x0, x1, x2, x3, x4, x5] (v :: S) (h) P) : RQ G mX12_quota d 55 [x0, x1, x2, x3, x4, x5] (.ref i :: S) h P := q_get (M := mX12_quota) (pc := 55) (kf := 23) dX12_quota_55 (show CL[10]? = some (RX12, TX12, 25) from rfl) inA12 (by decide) rfl w1446 ha hv r
theorem tX12_quota_58 {v : Int32} (r : RQ G mX12_quota d 60 [x0, x1, x2, x3, x4, some (.int v)] (.int v :: S) (h) P) : RQ G mX12_quota d 58 [x0, x1, x2, x3, x4, some (.int v)] (S) h P := q_iload (M := mX12_quota) (pc := 58) dX12_quota_58 rfl r
theorem tX12_quota_60 {a n j : Nat} {x : Int32} {f : Nat → Int32} (ha : At h a (.inl (0, n, .inl f))) (hx : x = nI j) (hj : j < n) (hn : n < 2147483648) (r : RQ G mX12_quota d 61 [x0, x1, x2, x3, x4, x5] (.int (f j) :: S) (h) P) : RQ G mX12_quota d 60 [x0, x1, x2, x3, x4, x5] (.int x :: .ref a :: S) h P := q_iald (M := mX12_quota) (pc := 60) dX12_quota_60 ha hx hj hn r
theorem tX12_quota_61 {v : Int32} (r : RQ G mX12_quota d 62 [x0, x1, x2, some (.int v), x4, x5] (.int v :: S) (h) P) : RQ G mX12_quota d 61 [x0, x1, x2, some (.int v), x4, x5] (S) h P := q_iload_n (M := mX12_quota) (pc := 61) dX12_quota_61 rfl rfl r
theorem tX12_quota_62 {x y : Int32} (r : RQ G mX12_quota d 63 [x0, x1, x2, x3, x4, x5] (.int (x * y) :: S) (h) P) : RQ G mX12_quota d 62 [x0, x1, x2, x3, x4, x5] (.int y :: .int x :: S) h P := q_imul (M := mX12_quota) (pc := 62) dX12_quota_62 r
theorem tX12_quota_63 {x y : Int32} (r : RQ G mX12_quota d 64 [x0, x1, x2, x3, x4, x5] (.int (x - y) :: S) (h) P) : RQ G mX12_quota d 63 [x0, x1, x2, x3, x4, x5] (.int y :: .int x :: S) h P := q_isub (M := mX12_quota) (pc := 63) dX12_quota_63 r
theorem tX12_quota_64 {a n j : Nat} {x : Int32} {v : Int32} {f : Nat → Int32} (ha : At h a (.inl (0, n, .inl f))) (hx : x = nI j) (hj : j < n) (hn : n < 2147483648) (r : RQ G mX12_quota d 65 [x0, x1, x2, x3, x4, x5] (S) (hset h a (.inl (0, n, .inl (upd f j v)))) P) : RQ G mX12_quota d 64 [x0, x1, x2, x3, x4, x5] (.int v :: .int x :: .ref a :: S) h P := q_iast (M := mX12_quota) (pc := 64) dX12_quota_64 ha hx hj hn r
theorem tX12_quota_65 {v : Int32} (r : RQ G mX12_quota d 67 [x0, x1, x2, x3, some (.int v), x5] (.int v :: S) (h) P) : RQ G mX12_quota d 65 [x0, x1, x2, x3, some (.int v), x5] (S) h P := q_iload (M := mX12_quota) (pc := 65) dX12_quota_65 rfl r
theorem tX12_quota_67 {k : Nat} (r : RQ G mX12_quota d 68 [some (.ref k), x1, x2, x3, x4, x5] (.ref k :: S) (h) P) : RQ G mX12_quota d 67 [some (.ref k), x1, x2, x3, x4, x5] (S) h P := q_aload_n (M := mX12_quota) (pc := 67) (r0 := some k) dX12_quota_67 rfl rfl r
theorem tX12_quota_68 {i : Nat} {vs : List Value} {v : Value} (ha : At h i (.inr (10, vs))) (hv : vs[23]? = some v) (r : RQ G mX12_quota d 71 [x0, x1, x2, x3, x4, x5] (v :: S) (h) P) : RQ G mX12_quota d 68 [x0, x1, x2, x3, x4, x5] (.ref i :: S) h P := q_get (M := mX12_quota) (pc := 68) (kf := 23) dX12_quota_68 (show CL[10]? = some (RX12, TX12, 25) from rfl) inA12 (by decide) rfl w1446 ha hv r
theorem tX12_quota_71 {v : Int32} (r : RQ G mX12_quota d 73 [x0, x1, x2, x3, x4, some (.int v)] (.int v :: S) (h) P) : RQ G mX12_quota d 71 [x0, x1, x2, x3, x4, some (.int v)] (S) h P := q_iload (M := mX12_quota) (pc := 71) dX12_quota_71 rfl r
theorem tX12_quota_73 {a n j : Nat} {x : Int32} {f : Nat → Int32} (ha : At h a (.inl (0, n, .inl f))) (hx : x = nI j) (hj : j < n) (hn : n < 2147483648) (r : RQ G mX12_quota d 74 [x0, x1, x2, x3, x4, x5] (.int (f j) :: S) (h) P) : RQ G mX12_quota d 73 [x0, x1, x2, x3, x4, x5] (.int x :: .ref a :: S) h P := q_iald (M := mX12_quota) (pc := 73) dX12_quota_73 ha hx hj hn r
theorem tX12_quota_74 {x y : Int32} (r : RQ G mX12_quota d 75 [x0, x1, x2, x3, x4, x5] (.int (x - y) :: S) (h) P) : RQ G mX12_quota d 74 [x0, x1, x2, x3, x4, x5] (.int y :: .int x :: S) h P := q_isub (M := mX12_quota) (pc := 74) dX12_quota_74 r
theorem tX12_quota_75 {v : Int32} (ho : ok1 x3 = true := by rfl) (r : RQ G mX12_quota d 77 [x0, x1, x2, x3, some (.int v), x5] (S) (h) P) : RQ G mX12_quota d 75 [x0, x1, x2, x3, x4, x5] (.int v :: S) h P := q_istore (M := mX12_quota) (pc := 75) dX12_quota_75 (Nat.le_of_ble_eq_true rfl) ho r
theorem tX12_quota_77 {v : Int32} (ho : ok1 x4 = true := by rfl) (r : RQ G mX12_quota d 80 [x0, x1, x2, x3, x4, some (.int (v + (nI 1)))] (S) (h) P) : RQ G mX12_quota d 77 [x0, x1, x2, x3, x4, some (.int v)] (S) h P := q_iinc (M := mX12_quota) (pc := 77) dX12_quota_77 rfl (congrArg (v + ·) (show Int32.ofInt (1) = (nI 1) by decide)) (Nat.le_of_ble_eq_true rfl) ho r
theorem tX12_quota_80 (r : RQ G mX12_quota d 18 [x0, x1, x2, x3, x4, x5] S h P) : RQ G mX12_quota d 80 [x0, x1, x2, x3, x4, x5] (S) h P := q_goto (M := mX12_quota) (pc := 80) dX12_quota_80 (by decide) r
theorem tX12_quota_83 {k : Nat} (r : RQ G mX12_quota d 84 [some (.ref k), x1, x2, x3, x4, x5] (.ref k :: S) (h) P) : RQ G mX12_quota d 83 [some (.ref k), x1, x2, x3, x4, x5] (S) h P := q_aload_n (M := mX12_quota) (pc := 83) (r0 := some k) dX12_quota_83 rfl rfl r
theorem tX12_quota_84 {b d2 : Nat} {vs : List Value}  {Q : Int32 → AH → Prop} (hd : d2 + 1 ≤ d) (ha : At h b (.inr (10, vs))) (call : RQ G mX12_firstOf d2 0 [some (.ref b), none, none] [] h (Ri Q)) (k : ∀ x h1, Q x h1 → RQ G mX12_quota d 87 [x0, x1, x2, x3, x4, x5] (.int x :: S) h1 P) (hst : (S.map fun v => v.category).sum ≤ 8 := by exact Nat.le_of_ble_eq_true rfl)  : RQ G mX12_quota d 84 [x0, x1, x2, x3, x4, x5] (.ref b :: S) h P := q_callV (M := mX12_quota) (pc := 84) (M2 := mX12_firstOf) (As := []) (n := 0) dX12_quota_84 rfl ⟨by decide, by decide, by decide, rfl⟩ rfl w1764 w1766 w83 w120 w1767 (show CL[10]? = some (RX12, TX12, 25) from rfl) hd (by decide) (Nat.le_of_ble_eq_true rfl) rfl ha hst call (callk_i k)
theorem tX12_quota_87 {v : Int32} (ho : ok1 x4 = true := by rfl) (r : RQ G mX12_quota d 89 [x0, x1, x2, x3, x4, some (.int v)] (S) (h) P) : RQ G mX12_quota d 87 [x0, x1, x2, x3, x4, x5] (.int v :: S) h P := q_istore (M := mX12_quota) (pc := 87) dX12_quota_87 (Nat.le_of_ble_eq_true rfl) ho r
theorem tX12_quota_89 {v : Int32} (r : RQ G mX12_quota d 91 [x0, x1, x2, x3, some (.int v), x5] (.int v :: S) (h) P) : RQ G mX12_quota d 89 [x0, x1, x2, x3, some (.int v), x5] (S) h P := q_iload (M := mX12_quota) (pc := 89) dX12_quota_89 rfl r
theorem tX12_quota_91 {x : Int32} (kt : x ≤ 0 → RQ G mX12_quota d 131 [x0, x1, x2, x3, x4, x5] S h P) (kf : ¬ x ≤ 0 → RQ G mX12_quota d 94 [x0, x1, x2, x3, x4, x5] S h P) : RQ G mX12_quota d 91 [x0, x1, x2, x3, x4, x5] (.int x :: S) h P := q_if_le (M := mX12_quota) (pc := 91) dX12_quota_91 (by decide) kt kf
theorem tX12_quota_94 {v : Int32} (r : RQ G mX12_quota d 96 [x0, x1, x2, x3, x4, some (.int v)] (.int v :: S) (h) P) : RQ G mX12_quota d 94 [x0, x1, x2, x3, x4, some (.int v)] (S) h P := q_iload (M := mX12_quota) (pc := 94) dX12_quota_94 rfl r
theorem tX12_quota_96 (r : RQ G mX12_quota d 97 [x0, x1, x2, x3, x4, x5] (.int (-1) :: S) (h) P) : RQ G mX12_quota d 96 [x0, x1, x2, x3, x4, x5] (S) h P := q_iconst (M := mX12_quota) (pc := 96) dX12_quota_96 (by decide) r
theorem tX12_quota_97 {x y : Int32} (kt : x = y → RQ G mX12_quota d 131 [x0, x1, x2, x3, x4, x5] S h P) (kf : ¬ x = y → RQ G mX12_quota d 100 [x0, x1, x2, x3, x4, x5] S h P) : RQ G mX12_quota d 97 [x0, x1, x2, x3, x4, x5] (.int y :: .int x :: S) h P := q_icmp_eq (M := mX12_quota) (pc := 97) dX12_quota_97 (by decide) kt kf
theorem tX12_quota_100 {k : Nat} (r : RQ G mX12_quota d 101 [some (.ref k), x1, x2, x3, x4, x5] (.ref k :: S) (h) P) : RQ G mX12_quota d 100 [some (.ref k), x1, x2, x3, x4, x5] (S) h P := q_aload_n (M := mX12_quota) (pc := 100) (r0 := some k) dX12_quota_100 rfl rfl r
theorem tX12_quota_101 {i : Nat} {vs : List Value} {v : Value} (ha : At h i (.inr (10, vs))) (hv : vs[23]? = some v) (r : RQ G mX12_quota d 104 [x0, x1, x2, x3, x4, x5] (v :: S) (h) P) : RQ G mX12_quota d 101 [x0, x1, x2, x3, x4, x5] (.ref i :: S) h P := q_get (M := mX12_quota) (pc := 101) (kf := 23) dX12_quota_101 (show CL[10]? = some (RX12, TX12, 25) from rfl) inA12 (by decide) rfl w1446 ha hv r
theorem tX12_quota_104 {v : Int32} (r : RQ G mX12_quota d 106 [x0, x1, x2, x3, x4, some (.int v)] (.int v :: S) (h) P) : RQ G mX12_quota d 104 [x0, x1, x2, x3, x4, some (.int v)] (S) h P := q_iload (M := mX12_quota) (pc := 104) dX12_quota_104 rfl r
theorem tX12_quota_106 {v w : Value} (hv : ok1 (some v) = true := by rfl) (hw : ok1 (some w) = true := by rfl) (r : RQ G mX12_quota d 107 [x0, x1, x2, x3, x4, x5] (v :: w :: v :: w :: S) (h) P) : RQ G mX12_quota d 106 [x0, x1, x2, x3, x4, x5] (v :: w :: S) h P := q_dup2 (M := mX12_quota) (pc := 106) dX12_quota_106 hv hw r
theorem tX12_quota_107 {a n j : Nat} {x : Int32} {f : Nat → Int32} (ha : At h a (.inl (0, n, .inl f))) (hx : x = nI j) (hj : j < n) (hn : n < 2147483648) (r : RQ G mX12_quota d 108 [x0, x1, x2, x3, x4, x5] (.int (f j) :: S) (h) P) : RQ G mX12_quota d 107 [x0, x1, x2, x3, x4, x5] (.int x :: .ref a :: S) h P := q_iald (M := mX12_quota) (pc := 107) dX12_quota_107 ha hx hj hn r
theorem tX12_quota_108 (r : RQ G mX12_quota d 109 [x0, x1, x2, x3, x4, x5] (.int (nI 1) :: S) (h) P) : RQ G mX12_quota d 108 [x0, x1, x2, x3, x4, x5] (S) h P := q_iconst (M := mX12_quota) (pc := 108) dX12_quota_108 (by decide) r
theorem tX12_quota_109 {x y : Int32} (r : RQ G mX12_quota d 110 [x0, x1, x2, x3, x4, x5] (.int (x + y) :: S) (h) P) : RQ G mX12_quota d 109 [x0, x1, x2, x3, x4, x5] (.int y :: .int x :: S) h P := q_iadd (M := mX12_quota) (pc := 109) dX12_quota_109 r
theorem tX12_quota_110 {a n j : Nat} {x : Int32} {v : Int32} {f : Nat → Int32} (ha : At h a (.inl (0, n, .inl f))) (hx : x = nI j) (hj : j < n) (hn : n < 2147483648) (r : RQ G mX12_quota d 111 [x0, x1, x2, x3, x4, x5] (S) (hset h a (.inl (0, n, .inl (upd f j v)))) P) : RQ G mX12_quota d 110 [x0, x1, x2, x3, x4, x5] (.int v :: .int x :: .ref a :: S) h P := q_iast (M := mX12_quota) (pc := 110) dX12_quota_110 ha hx hj hn r
theorem tX12_quota_111 {k : Nat} (r : RQ G mX12_quota d 112 [some (.ref k), x1, x2, x3, x4, x5] (.ref k :: S) (h) P) : RQ G mX12_quota d 111 [some (.ref k), x1, x2, x3, x4, x5] (S) h P := q_aload_n (M := mX12_quota) (pc := 111) (r0 := some k) dX12_quota_111 rfl rfl r
theorem tX12_quota_112 {i : Nat} {vs : List Value} {v : Value} (ha : At h i (.inr (10, vs))) (hv : vs[22]? = some v) (r : RQ G mX12_quota d 115 [x0, x1, x2, x3, x4, x5] (v :: S) (h) P) : RQ G mX12_quota d 112 [x0, x1, x2, x3, x4, x5] (.ref i :: S) h P := q_get (M := mX12_quota) (pc := 112) (kf := 22) dX12_quota_112 (show CL[10]? = some (RX12, TX12, 25) from rfl) inA12 (by decide) rfl w1445 ha hv r
theorem tX12_quota_115 {v : Int32} (r : RQ G mX12_quota d 117 [x0, x1, x2, x3, x4, some (.int v)] (.int v :: S) (h) P) : RQ G mX12_quota d 115 [x0, x1, x2, x3, x4, some (.int v)] (S) h P := q_iload (M := mX12_quota) (pc := 115) dX12_quota_115 rfl r
theorem tX12_quota_117 (r : RQ G mX12_quota d 118 [x0, x1, x2, x3, x4, x5] (.int (nI 0) :: S) (h) P) : RQ G mX12_quota d 117 [x0, x1, x2, x3, x4, x5] (S) h P := q_iconst (M := mX12_quota) (pc := 117) dX12_quota_117 (by decide) r
theorem tX12_quota_118 {a n j : Nat} {x : Int32} {v : Int32} {f : Nat → Int32} (ha : At h a (.inl (0, n, .inl f))) (hx : x = nI j) (hj : j < n) (hn : n < 2147483648) (r : RQ G mX12_quota d 119 [x0, x1, x2, x3, x4, x5] (S) (hset h a (.inl (0, n, .inl (upd f j v)))) P) : RQ G mX12_quota d 118 [x0, x1, x2, x3, x4, x5] (.int v :: .int x :: .ref a :: S) h P := q_iast (M := mX12_quota) (pc := 118) dX12_quota_118 ha hx hj hn r
theorem tX12_quota_119 {v : Int32} (ho : ok1 x3 = true := by rfl) (r : RQ G mX12_quota d 122 [x0, x1, x2, x3, some (.int (v + (-1))), x5] (S) (h) P) : RQ G mX12_quota d 119 [x0, x1, x2, x3, some (.int v), x5] (S) h P := q_iinc (M := mX12_quota) (pc := 119) dX12_quota_119 rfl (congrArg (v + ·) (show Int32.ofInt (-1) = (-1) by decide)) (Nat.le_of_ble_eq_true rfl) ho r
theorem tX12_quota_122 {k : Nat} (r : RQ G mX12_quota d 123 [some (.ref k), x1, x2, x3, x4, x5] (.ref k :: S) (h) P) : RQ G mX12_quota d 122 [some (.ref k), x1, x2, x3, x4, x5] (S) h P := q_aload_n (M := mX12_quota) (pc := 122) (r0 := some k) dX12_quota_122 rfl rfl r
theorem tX12_quota_123 {b d2 : Nat} {vs : List Value}  {Q : Int32 → AH → Prop} (hd : d2 + 1 ≤ d) (ha : At h b (.inr (10, vs))) (call : RQ G mX12_firstOf d2 0 [some (.ref b), none, none] [] h (Ri Q)) (k : ∀ x h1, Q x h1 → RQ G mX12_quota d 126 [x0, x1, x2, x3, x4, x5] (.int x :: S) h1 P) (hst : (S.map fun v => v.category).sum ≤ 8 := by exact Nat.le_of_ble_eq_true rfl)  : RQ G mX12_quota d 123 [x0, x1, x2, x3, x4, x5] (.ref b :: S) h P := q_callV (M := mX12_quota) (pc := 123) (M2 := mX12_firstOf) (As := []) (n := 0) dX12_quota_123 rfl ⟨by decide, by decide, by decide, rfl⟩ rfl w1764 w1766 w83 w120 w1767 (show CL[10]? = some (RX12, TX12, 25) from rfl) hd (by decide) (Nat.le_of_ble_eq_true rfl) rfl ha hst call (callk_i k)
theorem tX12_quota_126 {v : Int32} (ho : ok1 x4 = true := by rfl) (r : RQ G mX12_quota d 128 [x0, x1, x2, x3, x4, some (.int v)] (S) (h) P) : RQ G mX12_quota d 126 [x0, x1, x2, x3, x4, x5] (.int v :: S) h P := q_istore (M := mX12_quota) (pc := 126) dX12_quota_126 (Nat.le_of_ble_eq_true rfl) ho r
theorem tX12_quota_128 (r : RQ G mX12_quota d 89 [x0, x1, x2, x3, x4, x5] S h P) : RQ G mX12_quota d 128 [x0, x1, x2, x3, x4, x5] (S) h P := q_goto (M := mX12_quota) (pc := 128) dX12_quota_128 (by decide) r
theorem tX12_quota_131 {v : Int32} (r : RQ G mX12_quota d 133 [x0, x1, x2, x3, some (.int v), x5] (.int v :: S) (h) P) : RQ G mX12_quota d 131 [x0, x1, x2, x3, some (.int v), x5] (S) h P := q_iload (M := mX12_quota) (pc := 131) dX12_quota_131 rfl r
theorem tX12_quota_133 {x : Int32} (hP : P (.inl (some (.int x))) h) : RQ G mX12_quota d 133 [x0, x1, x2, x3, x4, x5] ([.int x]) h P := q_ireturn (M := mX12_quota) (pc := 133) (ty := .int) dX12_quota_133 rfl rfl hP
end T
theorem dX12_seatsInAllOf_0 : decode cX12_seatsInAllOf 0 = .ok (.aload_n 0, 1) := by decide +kernel
theorem dX12_seatsInAllOf_1 : decode cX12_seatsInAllOf 1 = .ok (.iload_n 1, 1) := by decide +kernel
theorem dX12_seatsInAllOf_2 : decode cX12_seatsInAllOf 2 = .ok (.invokevirtual 318, 3) := by decide +kernel
theorem dX12_seatsInAllOf_5 : decode cX12_seatsInAllOf 5 = .ok (.istore_n 2, 1) := by decide +kernel
theorem dX12_seatsInAllOf_6 : decode cX12_seatsInAllOf 6 = .ok (.iconst 0, 1) := by decide +kernel
theorem dX12_seatsInAllOf_7 : decode cX12_seatsInAllOf 7 = .ok (.istore_n 3, 1) := by decide +kernel
theorem dX12_seatsInAllOf_8 : decode cX12_seatsInAllOf 8 = .ok (.iconst 0, 1) := by decide +kernel
theorem dX12_seatsInAllOf_9 : decode cX12_seatsInAllOf 9 = .ok (.istore 4, 2) := by decide +kernel
theorem dX12_seatsInAllOf_11 : decode cX12_seatsInAllOf 11 = .ok (.iload 4, 2) := by decide +kernel
theorem dX12_seatsInAllOf_13 : decode cX12_seatsInAllOf 13 = .ok (.aload_n 0, 1) := by decide +kernel
theorem dX12_seatsInAllOf_14 : decode cX12_seatsInAllOf 14 = .ok (.getfield 41, 3) := by decide +kernel
theorem dX12_seatsInAllOf_17 : decode cX12_seatsInAllOf 17 = .ok (.getfield 259, 3) := by decide +kernel
theorem dX12_seatsInAllOf_20 : decode cX12_seatsInAllOf 20 = .ok (.if_icmp .ge 25, 3) := by decide +kernel
theorem dX12_seatsInAllOf_23 : decode cX12_seatsInAllOf 23 = .ok (.aload_n 0, 1) := by decide +kernel
theorem dX12_seatsInAllOf_24 : decode cX12_seatsInAllOf 24 = .ok (.iload 4, 2) := by decide +kernel
theorem dX12_seatsInAllOf_26 : decode cX12_seatsInAllOf 26 = .ok (.invokevirtual 342, 3) := by decide +kernel
theorem dX12_seatsInAllOf_29 : decode cX12_seatsInAllOf 29 = .ok (.pop, 1) := by decide +kernel
theorem dX12_seatsInAllOf_30 : decode cX12_seatsInAllOf 30 = .ok (.iload_n 3, 1) := by decide +kernel
theorem dX12_seatsInAllOf_31 : decode cX12_seatsInAllOf 31 = .ok (.aload_n 0, 1) := by decide +kernel
theorem dX12_seatsInAllOf_32 : decode cX12_seatsInAllOf 32 = .ok (.getfield 60, 3) := by decide +kernel
theorem dX12_seatsInAllOf_35 : decode cX12_seatsInAllOf 35 = .ok (.iload_n 2, 1) := by decide +kernel
theorem dX12_seatsInAllOf_36 : decode cX12_seatsInAllOf 36 = .ok (.iaload, 1) := by decide +kernel
theorem dX12_seatsInAllOf_37 : decode cX12_seatsInAllOf 37 = .ok (.iadd, 1) := by decide +kernel
theorem dX12_seatsInAllOf_38 : decode cX12_seatsInAllOf 38 = .ok (.istore_n 3, 1) := by decide +kernel
theorem dX12_seatsInAllOf_39 : decode cX12_seatsInAllOf 39 = .ok (.iinc 4 1, 3) := by decide +kernel
theorem dX12_seatsInAllOf_42 : decode cX12_seatsInAllOf 42 = .ok (.goto (-31), 3) := by decide +kernel
theorem dX12_seatsInAllOf_45 : decode cX12_seatsInAllOf 45 = .ok (.iload_n 3, 1) := by decide +kernel
theorem dX12_seatsInAllOf_46 : decode cX12_seatsInAllOf 46 = .ok (.ireturn, 1) := by decide +kernel
section T
variable {G : GT} {d : Nat} {S : List Value} {h : AH} {P : OC → AH → Prop} {x0 x1 x2 x3 x4 x5 x6 x7 x8 x9 x10 x11 x12 x13 x14 x15 : Option Value}
theorem tX12_seatsInAllOf_0 {k : Nat} (r : RQ G mX12_seatsInAllOf d 1 [some (.ref k), x1, x2, x3, x4] (.ref k :: S) (h) P) : RQ G mX12_seatsInAllOf d 0 [some (.ref k), x1, x2, x3, x4] (S) h P := q_aload_n (M := mX12_seatsInAllOf) (pc := 0) (r0 := some k) dX12_seatsInAllOf_0 rfl rfl r
theorem tX12_seatsInAllOf_1 {v : Int32} (r : RQ G mX12_seatsInAllOf d 2 [x0, some (.int v), x2, x3, x4] (.int v :: S) (h) P) : RQ G mX12_seatsInAllOf d 1 [x0, some (.int v), x2, x3, x4] (S) h P := q_iload_n (M := mX12_seatsInAllOf) (pc := 1) dX12_seatsInAllOf_1 rfl rfl r
theorem tX12_seatsInAllOf_2 {b d2 : Nat} {vs : List Value} {a0 : Int32} {Q : Int32 → AH → Prop} (hd : d2 + 1 ≤ d) (ha : At h b (.inr (10, vs))) (call : RQ G mX12_leader d2 0 [some (.ref b), some (.int a0), none] [] h (Ri Q)) (k : ∀ x h1, Q x h1 → RQ G mX12_seatsInAllOf d 5 [x0, x1, x2, x3, x4] (.int x :: S) h1 P) (hst : (S.map fun v => v.category).sum ≤ 8 := by exact Nat.le_of_ble_eq_true rfl)  : RQ G mX12_seatsInAllOf d 2 [x0, x1, x2, x3, x4] (.int a0 :: .ref b :: S) h P := q_callV (M := mX12_seatsInAllOf) (pc := 2) (M2 := mX12_leader) (As := [.int a0]) (n := 1) dX12_seatsInAllOf_2 rfl ⟨by decide, by decide, by decide, rfl⟩ rfl w1744 w1746 w80 w120 w1747 (show CL[10]? = some (RX12, TX12, 25) from rfl) hd (by decide) (Nat.le_of_ble_eq_true rfl) rfl ha hst call (callk_i k)
theorem tX12_seatsInAllOf_5 {v : Int32} (ho : ok1 x1 = true := by rfl) (r : RQ G mX12_seatsInAllOf d 6 [x0, x1, some (.int v), x3, x4] (S) (h) P) : RQ G mX12_seatsInAllOf d 5 [x0, x1, x2, x3, x4] (.int v :: S) h P := q_istore_n (M := mX12_seatsInAllOf) (pc := 5) dX12_seatsInAllOf_5 rfl (Nat.le_of_ble_eq_true rfl) ho r
theorem tX12_seatsInAllOf_6 (r : RQ G mX12_seatsInAllOf d 7 [x0, x1, x2, x3, x4] (.int (nI 0) :: S) (h) P) : RQ G mX12_seatsInAllOf d 6 [x0, x1, x2, x3, x4] (S) h P := q_iconst (M := mX12_seatsInAllOf) (pc := 6) dX12_seatsInAllOf_6 (by decide) r
theorem tX12_seatsInAllOf_7 {v : Int32} (ho : ok1 x2 = true := by rfl) (r : RQ G mX12_seatsInAllOf d 8 [x0, x1, x2, some (.int v), x4] (S) (h) P) : RQ G mX12_seatsInAllOf d 7 [x0, x1, x2, x3, x4] (.int v :: S) h P := q_istore_n (M := mX12_seatsInAllOf) (pc := 7) dX12_seatsInAllOf_7 rfl (Nat.le_of_ble_eq_true rfl) ho r
theorem tX12_seatsInAllOf_8 (r : RQ G mX12_seatsInAllOf d 9 [x0, x1, x2, x3, x4] (.int (nI 0) :: S) (h) P) : RQ G mX12_seatsInAllOf d 8 [x0, x1, x2, x3, x4] (S) h P := q_iconst (M := mX12_seatsInAllOf) (pc := 8) dX12_seatsInAllOf_8 (by decide) r
theorem tX12_seatsInAllOf_9 {v : Int32} (ho : ok1 x3 = true := by rfl) (r : RQ G mX12_seatsInAllOf d 11 [x0, x1, x2, x3, some (.int v)] (S) (h) P) : RQ G mX12_seatsInAllOf d 9 [x0, x1, x2, x3, x4] (.int v :: S) h P := q_istore (M := mX12_seatsInAllOf) (pc := 9) dX12_seatsInAllOf_9 (Nat.le_of_ble_eq_true rfl) ho r
theorem tX12_seatsInAllOf_11 {v : Int32} (r : RQ G mX12_seatsInAllOf d 13 [x0, x1, x2, x3, some (.int v)] (.int v :: S) (h) P) : RQ G mX12_seatsInAllOf d 11 [x0, x1, x2, x3, some (.int v)] (S) h P := q_iload (M := mX12_seatsInAllOf) (pc := 11) dX12_seatsInAllOf_11 rfl r
theorem tX12_seatsInAllOf_13 {k : Nat} (r : RQ G mX12_seatsInAllOf d 14 [some (.ref k), x1, x2, x3, x4] (.ref k :: S) (h) P) : RQ G mX12_seatsInAllOf d 13 [some (.ref k), x1, x2, x3, x4] (S) h P := q_aload_n (M := mX12_seatsInAllOf) (pc := 13) (r0 := some k) dX12_seatsInAllOf_13 rfl rfl r
theorem tX12_seatsInAllOf_14 {i : Nat} {vs : List Value} {v : Value} (ha : At h i (.inr (10, vs))) (hv : vs[17]? = some v) (r : RQ G mX12_seatsInAllOf d 17 [x0, x1, x2, x3, x4] (v :: S) (h) P) : RQ G mX12_seatsInAllOf d 14 [x0, x1, x2, x3, x4] (.ref i :: S) h P := q_get (M := mX12_seatsInAllOf) (pc := 14) (kf := 17) dX12_seatsInAllOf_14 (show CL[10]? = some (RX12, TX12, 25) from rfl) inA12 (by decide) rfl w1440 ha hv r
theorem tX12_seatsInAllOf_17 {i : Nat} {vs : List Value} {v : Value} (ha : At h i (.inr (9, vs))) (hv : vs[1]? = some v) (r : RQ G mX12_seatsInAllOf d 20 [x0, x1, x2, x3, x4] (v :: S) (h) P) : RQ G mX12_seatsInAllOf d 17 [x0, x1, x2, x3, x4] (.ref i :: S) h P := q_getN (M := mX12_seatsInAllOf) (pc := 17) (kf := 1) dX12_seatsInAllOf_17 (show CL[9]? = some (RX11, TX11, 24) from rfl) inA11 (by decide) rfl v1322 ha hv r
theorem tX12_seatsInAllOf_20 {x y : Int32} (kt : y ≤ x → RQ G mX12_seatsInAllOf d 45 [x0, x1, x2, x3, x4] S h P) (kf : ¬ y ≤ x → RQ G mX12_seatsInAllOf d 23 [x0, x1, x2, x3, x4] S h P) : RQ G mX12_seatsInAllOf d 20 [x0, x1, x2, x3, x4] (.int y :: .int x :: S) h P := q_icmp_ge (M := mX12_seatsInAllOf) (pc := 20) dX12_seatsInAllOf_20 (by decide) kt kf
theorem tX12_seatsInAllOf_23 {k : Nat} (r : RQ G mX12_seatsInAllOf d 24 [some (.ref k), x1, x2, x3, x4] (.ref k :: S) (h) P) : RQ G mX12_seatsInAllOf d 23 [some (.ref k), x1, x2, x3, x4] (S) h P := q_aload_n (M := mX12_seatsInAllOf) (pc := 23) (r0 := some k) dX12_seatsInAllOf_23 rfl rfl r
theorem tX12_seatsInAllOf_24 {v : Int32} (r : RQ G mX12_seatsInAllOf d 26 [x0, x1, x2, x3, some (.int v)] (.int v :: S) (h) P) : RQ G mX12_seatsInAllOf d 24 [x0, x1, x2, x3, some (.int v)] (S) h P := q_iload (M := mX12_seatsInAllOf) (pc := 24) dX12_seatsInAllOf_24 rfl r
theorem tX12_seatsInAllOf_26 {b d2 : Nat} {vs : List Value} {a0 : Int32} {Q : Int32 → AH → Prop} (hd : d2 + 1 ≤ d) (ha : At h b (.inr (10, vs))) (call : RQ G mX12_count d2 0 [some (.ref b), some (.int a0), none, none, none] [] h (Ri Q)) (k : ∀ x h1, Q x h1 → RQ G mX12_seatsInAllOf d 29 [x0, x1, x2, x3, x4] (.int x :: S) h1 P) (hst : (S.map fun v => v.category).sum ≤ 8 := by exact Nat.le_of_ble_eq_true rfl)  : RQ G mX12_seatsInAllOf d 26 [x0, x1, x2, x3, x4] (.int a0 :: .ref b :: S) h P := q_callV (M := mX12_seatsInAllOf) (pc := 26) (M2 := mX12_count) (As := [.int a0]) (n := 1) dX12_seatsInAllOf_26 rfl ⟨by decide, by decide, by decide, rfl⟩ rfl w1789 w1791 w86 w120 w1792 (show CL[10]? = some (RX12, TX12, 25) from rfl) hd (by decide) (Nat.le_of_ble_eq_true rfl) rfl ha hst call (callk_i k)
theorem tX12_seatsInAllOf_29 {v : Value} (hv : ok1 (some v) = true := by rfl) (r : RQ G mX12_seatsInAllOf d 30 [x0, x1, x2, x3, x4] (S) (h) P) : RQ G mX12_seatsInAllOf d 29 [x0, x1, x2, x3, x4] (v :: S) h P := q_pop (M := mX12_seatsInAllOf) (pc := 29) dX12_seatsInAllOf_29 hv r
theorem tX12_seatsInAllOf_30 {v : Int32} (r : RQ G mX12_seatsInAllOf d 31 [x0, x1, x2, some (.int v), x4] (.int v :: S) (h) P) : RQ G mX12_seatsInAllOf d 30 [x0, x1, x2, some (.int v), x4] (S) h P := q_iload_n (M := mX12_seatsInAllOf) (pc := 30) dX12_seatsInAllOf_30 rfl rfl r
theorem tX12_seatsInAllOf_31 {k : Nat} (r : RQ G mX12_seatsInAllOf d 32 [some (.ref k), x1, x2, x3, x4] (.ref k :: S) (h) P) : RQ G mX12_seatsInAllOf d 31 [some (.ref k), x1, x2, x3, x4] (S) h P := q_aload_n (M := mX12_seatsInAllOf) (pc := 31) (r0 := some k) dX12_seatsInAllOf_31 rfl rfl r
theorem tX12_seatsInAllOf_32 {i : Nat} {vs : List Value} {v : Value} (ha : At h i (.inr (10, vs))) (hv : vs[23]? = some v) (r : RQ G mX12_seatsInAllOf d 35 [x0, x1, x2, x3, x4] (v :: S) (h) P) : RQ G mX12_seatsInAllOf d 32 [x0, x1, x2, x3, x4] (.ref i :: S) h P := q_get (M := mX12_seatsInAllOf) (pc := 32) (kf := 23) dX12_seatsInAllOf_32 (show CL[10]? = some (RX12, TX12, 25) from rfl) inA12 (by decide) rfl w1446 ha hv r
theorem tX12_seatsInAllOf_35 {v : Int32} (r : RQ G mX12_seatsInAllOf d 36 [x0, x1, some (.int v), x3, x4] (.int v :: S) (h) P) : RQ G mX12_seatsInAllOf d 35 [x0, x1, some (.int v), x3, x4] (S) h P := q_iload_n (M := mX12_seatsInAllOf) (pc := 35) dX12_seatsInAllOf_35 rfl rfl r
theorem tX12_seatsInAllOf_36 {a n j : Nat} {x : Int32} {f : Nat → Int32} (ha : At h a (.inl (0, n, .inl f))) (hx : x = nI j) (hj : j < n) (hn : n < 2147483648) (r : RQ G mX12_seatsInAllOf d 37 [x0, x1, x2, x3, x4] (.int (f j) :: S) (h) P) : RQ G mX12_seatsInAllOf d 36 [x0, x1, x2, x3, x4] (.int x :: .ref a :: S) h P := q_iald (M := mX12_seatsInAllOf) (pc := 36) dX12_seatsInAllOf_36 ha hx hj hn r
theorem tX12_seatsInAllOf_37 {x y : Int32} (r : RQ G mX12_seatsInAllOf d 38 [x0, x1, x2, x3, x4] (.int (x + y) :: S) (h) P) : RQ G mX12_seatsInAllOf d 37 [x0, x1, x2, x3, x4] (.int y :: .int x :: S) h P := q_iadd (M := mX12_seatsInAllOf) (pc := 37) dX12_seatsInAllOf_37 r
theorem tX12_seatsInAllOf_38 {v : Int32} (ho : ok1 x2 = true := by rfl) (r : RQ G mX12_seatsInAllOf d 39 [x0, x1, x2, some (.int v), x4] (S) (h) P) : RQ G mX12_seatsInAllOf d 38 [x0, x1, x2, x3, x4] (.int v :: S) h P := q_istore_n (M := mX12_seatsInAllOf) (pc := 38) dX12_seatsInAllOf_38 rfl (Nat.le_of_ble_eq_true rfl) ho r
theorem tX12_seatsInAllOf_39 {v : Int32} (ho : ok1 x3 = true := by rfl) (r : RQ G mX12_seatsInAllOf d 42 [x0, x1, x2, x3, some (.int (v + (nI 1)))] (S) (h) P) : RQ G mX12_seatsInAllOf d 39 [x0, x1, x2, x3, some (.int v)] (S) h P := q_iinc (M := mX12_seatsInAllOf) (pc := 39) dX12_seatsInAllOf_39 rfl (congrArg (v + ·) (show Int32.ofInt (1) = (nI 1) by decide)) (Nat.le_of_ble_eq_true rfl) ho r
theorem tX12_seatsInAllOf_42 (r : RQ G mX12_seatsInAllOf d 11 [x0, x1, x2, x3, x4] S h P) : RQ G mX12_seatsInAllOf d 42 [x0, x1, x2, x3, x4] (S) h P := q_goto (M := mX12_seatsInAllOf) (pc := 42) dX12_seatsInAllOf_42 (by decide) r
theorem tX12_seatsInAllOf_45 {v : Int32} (r : RQ G mX12_seatsInAllOf d 46 [x0, x1, x2, some (.int v), x4] (.int v :: S) (h) P) : RQ G mX12_seatsInAllOf d 45 [x0, x1, x2, some (.int v), x4] (S) h P := q_iload_n (M := mX12_seatsInAllOf) (pc := 45) dX12_seatsInAllOf_45 rfl rfl r
theorem tX12_seatsInAllOf_46 {x : Int32} (hP : P (.inl (some (.int x))) h) : RQ G mX12_seatsInAllOf d 46 [x0, x1, x2, x3, x4] ([.int x]) h P := q_ireturn (M := mX12_seatsInAllOf) (pc := 46) (ty := .int) dX12_seatsInAllOf_46 rfl rfl hP
end T
theorem dX12_allSeats_0 : decode cX12_allSeats 0 = .ok (.iconst 0, 1) := by decide +kernel
theorem dX12_allSeats_1 : decode cX12_allSeats 1 = .ok (.istore_n 1, 1) := by decide +kernel
theorem dX12_allSeats_2 : decode cX12_allSeats 2 = .ok (.iconst 0, 1) := by decide +kernel
theorem dX12_allSeats_3 : decode cX12_allSeats 3 = .ok (.istore_n 2, 1) := by decide +kernel
theorem dX12_allSeats_4 : decode cX12_allSeats 4 = .ok (.iload_n 2, 1) := by decide +kernel
theorem dX12_allSeats_5 : decode cX12_allSeats 5 = .ok (.aload_n 0, 1) := by decide +kernel
theorem dX12_allSeats_6 : decode cX12_allSeats 6 = .ok (.getfield 41, 3) := by decide +kernel
theorem dX12_allSeats_9 : decode cX12_allSeats 9 = .ok (.getfield 259, 3) := by decide +kernel
theorem dX12_allSeats_12 : decode cX12_allSeats 12 = .ok (.if_icmp .ge 21, 3) := by decide +kernel
theorem dX12_allSeats_15 : decode cX12_allSeats 15 = .ok (.iload_n 1, 1) := by decide +kernel
theorem dX12_allSeats_16 : decode cX12_allSeats 16 = .ok (.aload_n 0, 1) := by decide +kernel
theorem dX12_allSeats_17 : decode cX12_allSeats 17 = .ok (.getfield 41, 3) := by decide +kernel
theorem dX12_allSeats_20 : decode cX12_allSeats 20 = .ok (.getfield 265, 3) := by decide +kernel
theorem dX12_allSeats_23 : decode cX12_allSeats 23 = .ok (.iload_n 2, 1) := by decide +kernel
theorem dX12_allSeats_24 : decode cX12_allSeats 24 = .ok (.iaload, 1) := by decide +kernel
theorem dX12_allSeats_25 : decode cX12_allSeats 25 = .ok (.iadd, 1) := by decide +kernel
theorem dX12_allSeats_26 : decode cX12_allSeats 26 = .ok (.istore_n 1, 1) := by decide +kernel
theorem dX12_allSeats_27 : decode cX12_allSeats 27 = .ok (.iinc 2 1, 3) := by decide +kernel
theorem dX12_allSeats_30 : decode cX12_allSeats 30 = .ok (.goto (-26), 3) := by decide +kernel
theorem dX12_allSeats_33 : decode cX12_allSeats 33 = .ok (.iload_n 1, 1) := by decide +kernel
theorem dX12_allSeats_34 : decode cX12_allSeats 34 = .ok (.ireturn, 1) := by decide +kernel
section T
variable {G : GT} {d : Nat} {S : List Value} {h : AH} {P : OC → AH → Prop} {x0 x1 x2 x3 x4 x5 x6 x7 x8 x9 x10 x11 x12 x13 x14 x15 : Option Value}
theorem tX12_allSeats_0 (r : RQ G mX12_allSeats d 1 [x0, x1, x2] (.int (nI 0) :: S) (h) P) : RQ G mX12_allSeats d 0 [x0, x1, x2] (S) h P := q_iconst (M := mX12_allSeats) (pc := 0) dX12_allSeats_0 (by decide) r
theorem tX12_allSeats_1 {v : Int32} (ho : ok1 x0 = true := by rfl) (r : RQ G mX12_allSeats d 2 [x0, some (.int v), x2] (S) (h) P) : RQ G mX12_allSeats d 1 [x0, x1, x2] (.int v :: S) h P := q_istore_n (M := mX12_allSeats) (pc := 1) dX12_allSeats_1 rfl (Nat.le_of_ble_eq_true rfl) ho r
theorem tX12_allSeats_2 (r : RQ G mX12_allSeats d 3 [x0, x1, x2] (.int (nI 0) :: S) (h) P) : RQ G mX12_allSeats d 2 [x0, x1, x2] (S) h P := q_iconst (M := mX12_allSeats) (pc := 2) dX12_allSeats_2 (by decide) r
theorem tX12_allSeats_3 {v : Int32} (ho : ok1 x1 = true := by rfl) (r : RQ G mX12_allSeats d 4 [x0, x1, some (.int v)] (S) (h) P) : RQ G mX12_allSeats d 3 [x0, x1, x2] (.int v :: S) h P := q_istore_n (M := mX12_allSeats) (pc := 3) dX12_allSeats_3 rfl (Nat.le_of_ble_eq_true rfl) ho r
theorem tX12_allSeats_4 {v : Int32} (r : RQ G mX12_allSeats d 5 [x0, x1, some (.int v)] (.int v :: S) (h) P) : RQ G mX12_allSeats d 4 [x0, x1, some (.int v)] (S) h P := q_iload_n (M := mX12_allSeats) (pc := 4) dX12_allSeats_4 rfl rfl r
theorem tX12_allSeats_5 {k : Nat} (r : RQ G mX12_allSeats d 6 [some (.ref k), x1, x2] (.ref k :: S) (h) P) : RQ G mX12_allSeats d 5 [some (.ref k), x1, x2] (S) h P := q_aload_n (M := mX12_allSeats) (pc := 5) (r0 := some k) dX12_allSeats_5 rfl rfl r
theorem tX12_allSeats_6 {i : Nat} {vs : List Value} {v : Value} (ha : At h i (.inr (10, vs))) (hv : vs[17]? = some v) (r : RQ G mX12_allSeats d 9 [x0, x1, x2] (v :: S) (h) P) : RQ G mX12_allSeats d 6 [x0, x1, x2] (.ref i :: S) h P := q_get (M := mX12_allSeats) (pc := 6) (kf := 17) dX12_allSeats_6 (show CL[10]? = some (RX12, TX12, 25) from rfl) inA12 (by decide) rfl w1440 ha hv r
theorem tX12_allSeats_9 {i : Nat} {vs : List Value} {v : Value} (ha : At h i (.inr (9, vs))) (hv : vs[1]? = some v) (r : RQ G mX12_allSeats d 12 [x0, x1, x2] (v :: S) (h) P) : RQ G mX12_allSeats d 9 [x0, x1, x2] (.ref i :: S) h P := q_getN (M := mX12_allSeats) (pc := 9) (kf := 1) dX12_allSeats_9 (show CL[9]? = some (RX11, TX11, 24) from rfl) inA11 (by decide) rfl v1322 ha hv r
theorem tX12_allSeats_12 {x y : Int32} (kt : y ≤ x → RQ G mX12_allSeats d 33 [x0, x1, x2] S h P) (kf : ¬ y ≤ x → RQ G mX12_allSeats d 15 [x0, x1, x2] S h P) : RQ G mX12_allSeats d 12 [x0, x1, x2] (.int y :: .int x :: S) h P := q_icmp_ge (M := mX12_allSeats) (pc := 12) dX12_allSeats_12 (by decide) kt kf
theorem tX12_allSeats_15 {v : Int32} (r : RQ G mX12_allSeats d 16 [x0, some (.int v), x2] (.int v :: S) (h) P) : RQ G mX12_allSeats d 15 [x0, some (.int v), x2] (S) h P := q_iload_n (M := mX12_allSeats) (pc := 15) dX12_allSeats_15 rfl rfl r
theorem tX12_allSeats_16 {k : Nat} (r : RQ G mX12_allSeats d 17 [some (.ref k), x1, x2] (.ref k :: S) (h) P) : RQ G mX12_allSeats d 16 [some (.ref k), x1, x2] (S) h P := q_aload_n (M := mX12_allSeats) (pc := 16) (r0 := some k) dX12_allSeats_16 rfl rfl r
theorem tX12_allSeats_17 {i : Nat} {vs : List Value} {v : Value} (ha : At h i (.inr (10, vs))) (hv : vs[17]? = some v) (r : RQ G mX12_allSeats d 20 [x0, x1, x2] (v :: S) (h) P) : RQ G mX12_allSeats d 17 [x0, x1, x2] (.ref i :: S) h P := q_get (M := mX12_allSeats) (pc := 17) (kf := 17) dX12_allSeats_17 (show CL[10]? = some (RX12, TX12, 25) from rfl) inA12 (by decide) rfl w1440 ha hv r
theorem tX12_allSeats_20 {i : Nat} {vs : List Value} {v : Value} (ha : At h i (.inr (9, vs))) (hv : vs[2]? = some v) (r : RQ G mX12_allSeats d 23 [x0, x1, x2] (v :: S) (h) P) : RQ G mX12_allSeats d 20 [x0, x1, x2] (.ref i :: S) h P := q_getN (M := mX12_allSeats) (pc := 20) (kf := 2) dX12_allSeats_20 (show CL[9]? = some (RX11, TX11, 24) from rfl) inA11 (by decide) rfl v1324 ha hv r
theorem tX12_allSeats_23 {v : Int32} (r : RQ G mX12_allSeats d 24 [x0, x1, some (.int v)] (.int v :: S) (h) P) : RQ G mX12_allSeats d 23 [x0, x1, some (.int v)] (S) h P := q_iload_n (M := mX12_allSeats) (pc := 23) dX12_allSeats_23 rfl rfl r
theorem tX12_allSeats_24 {a n j : Nat} {x : Int32} {f : Nat → Int32} (ha : At h a (.inl (0, n, .inl f))) (hx : x = nI j) (hj : j < n) (hn : n < 2147483648) (r : RQ G mX12_allSeats d 25 [x0, x1, x2] (.int (f j) :: S) (h) P) : RQ G mX12_allSeats d 24 [x0, x1, x2] (.int x :: .ref a :: S) h P := q_iald (M := mX12_allSeats) (pc := 24) dX12_allSeats_24 ha hx hj hn r
theorem tX12_allSeats_25 {x y : Int32} (r : RQ G mX12_allSeats d 26 [x0, x1, x2] (.int (x + y) :: S) (h) P) : RQ G mX12_allSeats d 25 [x0, x1, x2] (.int y :: .int x :: S) h P := q_iadd (M := mX12_allSeats) (pc := 25) dX12_allSeats_25 r
theorem tX12_allSeats_26 {v : Int32} (ho : ok1 x0 = true := by rfl) (r : RQ G mX12_allSeats d 27 [x0, some (.int v), x2] (S) (h) P) : RQ G mX12_allSeats d 26 [x0, x1, x2] (.int v :: S) h P := q_istore_n (M := mX12_allSeats) (pc := 26) dX12_allSeats_26 rfl (Nat.le_of_ble_eq_true rfl) ho r
theorem tX12_allSeats_27 {v : Int32} (ho : ok1 x1 = true := by rfl) (r : RQ G mX12_allSeats d 30 [x0, x1, some (.int (v + (nI 1)))] (S) (h) P) : RQ G mX12_allSeats d 27 [x0, x1, some (.int v)] (S) h P := q_iinc (M := mX12_allSeats) (pc := 27) dX12_allSeats_27 rfl (congrArg (v + ·) (show Int32.ofInt (1) = (nI 1) by decide)) (Nat.le_of_ble_eq_true rfl) ho r
theorem tX12_allSeats_30 (r : RQ G mX12_allSeats d 4 [x0, x1, x2] S h P) : RQ G mX12_allSeats d 30 [x0, x1, x2] (S) h P := q_goto (M := mX12_allSeats) (pc := 30) dX12_allSeats_30 (by decide) r
theorem tX12_allSeats_33 {v : Int32} (r : RQ G mX12_allSeats d 34 [x0, some (.int v), x2] (.int v :: S) (h) P) : RQ G mX12_allSeats d 33 [x0, some (.int v), x2] (S) h P := q_iload_n (M := mX12_allSeats) (pc := 33) dX12_allSeats_33 rfl rfl r
theorem tX12_allSeats_34 {x : Int32} (hP : P (.inl (some (.int x))) h) : RQ G mX12_allSeats d 34 [x0, x1, x2] ([.int x]) h P := q_ireturn (M := mX12_allSeats) (pc := 34) (ty := .int) dX12_allSeats_34 rfl rfl hP
end T
theorem dX12_isMajority_0 : decode cX12_isMajority 0 = .ok (.iconst 2, 1) := by decide +kernel
theorem dX12_isMajority_1 : decode cX12_isMajority 1 = .ok (.aload_n 0, 1) := by decide +kernel
theorem dX12_isMajority_2 : decode cX12_isMajority 2 = .ok (.iload_n 1, 1) := by decide +kernel
theorem dX12_isMajority_3 : decode cX12_isMajority 3 = .ok (.invokevirtual 345, 3) := by decide +kernel
theorem dX12_isMajority_6 : decode cX12_isMajority 6 = .ok (.imul, 1) := by decide +kernel
theorem dX12_isMajority_7 : decode cX12_isMajority 7 = .ok (.aload_n 0, 1) := by decide +kernel
theorem dX12_isMajority_8 : decode cX12_isMajority 8 = .ok (.invokevirtual 348, 3) := by decide +kernel
theorem dX12_isMajority_11 : decode cX12_isMajority 11 = .ok (.if_icmp .le 7, 3) := by decide +kernel
theorem dX12_isMajority_14 : decode cX12_isMajority 14 = .ok (.iconst 1, 1) := by decide +kernel
theorem dX12_isMajority_15 : decode cX12_isMajority 15 = .ok (.goto 4, 3) := by decide +kernel
theorem dX12_isMajority_18 : decode cX12_isMajority 18 = .ok (.iconst 0, 1) := by decide +kernel
theorem dX12_isMajority_19 : decode cX12_isMajority 19 = .ok (.ireturn, 1) := by decide +kernel
section T
variable {G : GT} {d : Nat} {S : List Value} {h : AH} {P : OC → AH → Prop} {x0 x1 x2 x3 x4 x5 x6 x7 x8 x9 x10 x11 x12 x13 x14 x15 : Option Value}
theorem tX12_isMajority_0 (r : RQ G mX12_isMajority d 1 [x0, x1] (.int (nI 2) :: S) (h) P) : RQ G mX12_isMajority d 0 [x0, x1] (S) h P := q_iconst (M := mX12_isMajority) (pc := 0) dX12_isMajority_0 (by decide) r
theorem tX12_isMajority_1 {k : Nat} (r : RQ G mX12_isMajority d 2 [some (.ref k), x1] (.ref k :: S) (h) P) : RQ G mX12_isMajority d 1 [some (.ref k), x1] (S) h P := q_aload_n (M := mX12_isMajority) (pc := 1) (r0 := some k) dX12_isMajority_1 rfl rfl r
theorem tX12_isMajority_2 {v : Int32} (r : RQ G mX12_isMajority d 3 [x0, some (.int v)] (.int v :: S) (h) P) : RQ G mX12_isMajority d 2 [x0, some (.int v)] (S) h P := q_iload_n (M := mX12_isMajority) (pc := 2) dX12_isMajority_2 rfl rfl r
theorem tX12_isMajority_3 {b d2 : Nat} {vs : List Value} {a0 : Int32} {Q : Int32 → AH → Prop} (hd : d2 + 1 ≤ d) (ha : At h b (.inr (10, vs))) (call : RQ G mX12_seatsInAllOf d2 0 [some (.ref b), some (.int a0), none, none, none] [] h (Ri Q)) (k : ∀ x h1, Q x h1 → RQ G mX12_isMajority d 6 [x0, x1] (.int x :: S) h1 P) (hst : (S.map fun v => v.category).sum ≤ 8 := by exact Nat.le_of_ble_eq_true rfl)  : RQ G mX12_isMajority d 3 [x0, x1] (.int a0 :: .ref b :: S) h P := q_callV (M := mX12_isMajority) (pc := 3) (M2 := mX12_seatsInAllOf) (As := [.int a0]) (n := 1) dX12_isMajority_3 rfl ⟨by decide, by decide, by decide, rfl⟩ rfl w1809 w1811 w89 w120 w1812 (show CL[10]? = some (RX12, TX12, 25) from rfl) hd (by decide) (Nat.le_of_ble_eq_true rfl) rfl ha hst call (callk_i k)
theorem tX12_isMajority_6 {x y : Int32} (r : RQ G mX12_isMajority d 7 [x0, x1] (.int (x * y) :: S) (h) P) : RQ G mX12_isMajority d 6 [x0, x1] (.int y :: .int x :: S) h P := q_imul (M := mX12_isMajority) (pc := 6) dX12_isMajority_6 r
theorem tX12_isMajority_7 {k : Nat} (r : RQ G mX12_isMajority d 8 [some (.ref k), x1] (.ref k :: S) (h) P) : RQ G mX12_isMajority d 7 [some (.ref k), x1] (S) h P := q_aload_n (M := mX12_isMajority) (pc := 7) (r0 := some k) dX12_isMajority_7 rfl rfl r
theorem tX12_isMajority_8 {b d2 : Nat} {vs : List Value}  {Q : Int32 → AH → Prop} (hd : d2 + 1 ≤ d) (ha : At h b (.inr (10, vs))) (call : RQ G mX12_allSeats d2 0 [some (.ref b), none, none] [] h (Ri Q)) (k : ∀ x h1, Q x h1 → RQ G mX12_isMajority d 11 [x0, x1] (.int x :: S) h1 P) (hst : (S.map fun v => v.category).sum ≤ 8 := by exact Nat.le_of_ble_eq_true rfl)  : RQ G mX12_isMajority d 8 [x0, x1] (.ref b :: S) h P := q_callV (M := mX12_isMajority) (pc := 8) (M2 := mX12_allSeats) (As := []) (n := 0) dX12_isMajority_8 rfl ⟨by decide, by decide, by decide, rfl⟩ rfl w1829 w1831 w92 w120 w1832 (show CL[10]? = some (RX12, TX12, 25) from rfl) hd (by decide) (Nat.le_of_ble_eq_true rfl) rfl ha hst call (callk_i k)
theorem tX12_isMajority_11 {x y : Int32} (kt : x ≤ y → RQ G mX12_isMajority d 18 [x0, x1] S h P) (kf : ¬ x ≤ y → RQ G mX12_isMajority d 14 [x0, x1] S h P) : RQ G mX12_isMajority d 11 [x0, x1] (.int y :: .int x :: S) h P := q_icmp_le (M := mX12_isMajority) (pc := 11) dX12_isMajority_11 (by decide) kt kf
theorem tX12_isMajority_14 (r : RQ G mX12_isMajority d 15 [x0, x1] (.int (nI 1) :: S) (h) P) : RQ G mX12_isMajority d 14 [x0, x1] (S) h P := q_iconst (M := mX12_isMajority) (pc := 14) dX12_isMajority_14 (by decide) r
theorem tX12_isMajority_15 (r : RQ G mX12_isMajority d 19 [x0, x1] S h P) : RQ G mX12_isMajority d 15 [x0, x1] (S) h P := q_goto (M := mX12_isMajority) (pc := 15) dX12_isMajority_15 (by decide) r
theorem tX12_isMajority_18 (r : RQ G mX12_isMajority d 19 [x0, x1] (.int (nI 0) :: S) (h) P) : RQ G mX12_isMajority d 18 [x0, x1] (S) h P := q_iconst (M := mX12_isMajority) (pc := 18) dX12_isMajority_18 (by decide) r
theorem tX12_isMajority_19 {x : Int32} (hb : x = nI 0 ∨ x = nI 1) (hP : P (.inl (some (.int x))) h) : RQ G mX12_isMajority d 19 [x0, x1] ([.int x]) h P := q_ireturn (M := mX12_isMajority) (pc := 19) (ty := .boolean) dX12_isMajority_19 rfl (nar_bool hb) hP
end T
